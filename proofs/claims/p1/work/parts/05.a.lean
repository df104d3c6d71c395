/-- what a first call answers, by the document -/
def sp_end (n : Int32) : Int32 := if n = 0 then 1 else 0
theorem sp_end_t {n : Int32} (h : n.toInt = 0) : sp_end n = 1 := if_pos ((zc_eq rfl (by decide)).mpr h)
theorem sp_end_f {n : Int32} (h : ¬ n.toInt = 0) : sp_end n = 0 := if_neg (fun q => h ((zc_eq rfl (by decide)).mp q))
def sp_seed (n : Int32) : Int32 := if n < 0 then 0 else 1
theorem sp_seed_t {n : Int32} (h : n.toInt < 0) : sp_seed n = 0 := if_pos ((zc_lt rfl (by decide)).mpr h)
theorem sp_seed_f {n : Int32} (h : ¬ n.toInt < 0) : sp_seed n = 1 := if_neg (fun q => h ((zc_lt rfl (by decide)).mp q))
def sp_fault (n : Int32) : Int32 := if n = 0 then 0 else -1
theorem sp_fault_t {n : Int32} (h : n.toInt = 0) : sp_fault n = 0 := if_pos ((zc_eq rfl (by decide)).mpr h)
theorem sp_fault_f {n : Int32} (h : ¬ n.toInt = 0) : sp_fault n = -1 := if_neg (fun q => h ((zc_eq rfl (by decide)).mp q))
def sp_has (n : Int32) : Int32 := if n = 7 then 1 else if n < 0 then -1 else if n ≤ 6 then 0 else -1
theorem sp_has_a {n : Int32} (h : n.toInt = 7) : sp_has n = 1 := if_pos ((zc_eq rfl (by decide)).mpr h)
theorem sp_has_b {n : Int32} (h : n.toInt < 0) : sp_has n = -1 := by
  rw [sp_has, if_neg (fun q => by have := (zc_eq (X := n.toInt) (Y := 7) rfl (by decide)).mp q; omega), if_pos ((zc_lt rfl (by decide)).mpr h)]
theorem sp_has_c {n : Int32} (h : ¬ n.toInt < 0) (h2 : n.toInt ≤ 6) : sp_has n = 0 := by
  rw [sp_has, if_neg (fun q => by have := (zc_eq (X := n.toInt) (Y := 7) rfl (by decide)).mp q; omega), if_neg (fun q => h ((zc_lt rfl (by decide)).mp q)), if_pos ((zc_le rfl (by decide)).mpr h2)]
theorem sp_has_d {n : Int32} (h : 7 < n.toInt) : sp_has n = -1 := by
  rw [sp_has, if_neg (fun q => by have := (zc_eq (X := n.toInt) (Y := 7) rfl (by decide)).mp q; omega), if_neg (fun q => by have := (zc_lt (X := n.toInt) (Y := 0) rfl (by decide)).mp q; omega), if_neg (fun q => by have := (zc_le (X := n.toInt) (Y := 6) rfl (by decide)).mp q; omega)]
def sp_status (n : Int32) : Int32 := if n < 0 then -1 else if n ≤ 5 then 0 else -1
theorem sp_status_a {n : Int32} (h : n.toInt < 0) : sp_status n = -1 := if_pos ((zc_lt rfl (by decide)).mpr h)
theorem sp_status_b {n : Int32} (h : ¬ n.toInt < 0) (h2 : n.toInt ≤ 5) : sp_status n = 0 := by
  rw [sp_status, if_neg (fun q => h ((zc_lt rfl (by decide)).mp q)), if_pos ((zc_le rfl (by decide)).mpr h2)]
theorem sp_status_c {n : Int32} (h : 5 < n.toInt) : sp_status n = -1 := by
  rw [sp_status, if_neg (fun q => by have := (zc_lt (X := n.toInt) (Y := 0) rfl (by decide)).mp q; omega), if_neg (fun q => by have := (zc_le (X := n.toInt) (Y := 5) rfl (by decide)).mp q; omega)]
theorem dX4_isThere_0 : decode cX4_isThere 0 = .ok (.aload_n 0, 1) := by decide +kernel
theorem dX4_isThere_1 : decode cX4_isThere 1 = .ok (.getfield 42, 3) := by decide +kernel
theorem dX4_isThere_4 : decode cX4_isThere 4 = .ok (.ifCond .le 7, 3) := by decide +kernel
theorem dX4_isThere_11 : decode cX4_isThere 11 = .ok (.iconst 0, 1) := by decide +kernel
theorem dX4_isThere_12 : decode cX4_isThere 12 = .ok (.ireturn, 1) := by decide +kernel
set_option maxHeartbeats 4000000 in
set_option maxRecDepth 100000 in
theorem kX4_isThere (l : Launch) (g : zL) (pa : Nat) (p_toolWidth : Nat) (p_told : Nat) (p_name : Nat) (p_parent : Nat) (p_side : Nat) (p_from : Nat) (p_width : Nat) (p_height : Nat) (p_radius : Nat) (p_toolSet : Nat) : zCi l g yX4_isThere cX4_isThere 1 (some .boolean) { frames := 0, cells := 0, slots := 0, locals := 0 } [.ref pa] [(pa, .inr (4, [.int 0, .int 0, .int 0, .int 0, .int 0, .int 0, .ref p_toolWidth, .ref p_told, .ref p_name, .ref p_parent, .ref p_side, .ref p_from, .ref p_width, .ref p_height, .ref p_radius, .ref p_toolSet]))] (fun (r : Int32) (u : Unit) => r = 0) (fun (u : Unit) => [(pa, .inr (4, [.int 0, .int 0, .int 0, .int 0, .int 0, .int 0, .ref p_toolWidth, .ref p_told, .ref p_name, .ref p_parent, .ref p_side, .ref p_from, .ref p_width, .ref p_height, .ref p_radius, .ref p_toolSet]))]) := by
  refine zCi.mk (by decide) (Nat.le_of_ble_eq_true rfl) ?_
  intro p e s m below meth c A hE hP hD hS ls hl
  obtain ⟨hx, hb, hr, hml, hown, hG, hlocks, hnm, hX, hA⟩ := hE
  have hown : s.vm.findClass RX4 = some m.cls := hown
  have hl : lv_has ls 1 [(0, .ref pa)] := hl
  refine lv_aload_n hx hb dX4_isThere_0 rfl (lv_at hl 0 rfl) ?_
  refine va_get (D := g.1) (ci := 4) (v := .int 0) (C := RX4) (T := TX4) (N := 16) hx hb hG iX4 hown hX.1 hP 0 rfl rfl 0 (by decide) (hG _ g409) (fun _ h9 => h9) rfl dX4_isThere_1 ?_
  refine lv_if_le (tgt := 11) hx hb dX4_isThere_4 (by decide) (fun c4 => ?_) (fun c4 => (c4 (by decide)).elim)
  refine lv_iconst (v := 0) hx hb dX4_isThere_11 (by decide) ?_
  exact zrz (rm := { frames := 0, cells := 0, slots := 0, locals := 0 }) (v := 0) () hx hb hr hlocks (rfl) (Nat.le_of_ble_eq_true rfl) (Nat.le_of_ble_eq_true rfl) (rfl) hP hD hS dX4_isThere_12
theorem dX4_isFlange_0 : decode cX4_isFlange 0 = .ok (.iload_n 1, 1) := by decide +kernel
theorem dX4_isFlange_1 : decode cX4_isFlange 1 = .ok (.ifCond .lt 15, 3) := by decide +kernel
theorem dX4_isFlange_16 : decode cX4_isFlange 16 = .ok (.iconst 0, 1) := by decide +kernel
theorem dX4_isFlange_17 : decode cX4_isFlange 17 = .ok (.ireturn, 1) := by decide +kernel
theorem dX4_isFlange_4 : decode cX4_isFlange 4 = .ok (.iload_n 1, 1) := by decide +kernel
theorem dX4_isFlange_5 : decode cX4_isFlange 5 = .ok (.aload_n 0, 1) := by decide +kernel
theorem dX4_isFlange_6 : decode cX4_isFlange 6 = .ok (.getfield 42, 3) := by decide +kernel
theorem dX4_isFlange_9 : decode cX4_isFlange 9 = .ok (.if_icmp .ge 7, 3) := by decide +kernel
set_option maxHeartbeats 4000000 in
set_option maxRecDepth 100000 in
theorem kX4_isFlange (l : Launch) (g : zL) (pa : Nat) (x : Int32) (p_toolWidth : Nat) (p_told : Nat) (p_name : Nat) (p_parent : Nat) (p_side : Nat) (p_from : Nat) (p_width : Nat) (p_height : Nat) (p_radius : Nat) (p_toolSet : Nat) : zCi l g yX4_isFlange cX4_isFlange 2 (some .boolean) { frames := 0, cells := 0, slots := 0, locals := 0 } [.ref pa, .int x] [(pa, .inr (4, [.int 0, .int 0, .int 0, .int 0, .int 0, .int 0, .ref p_toolWidth, .ref p_told, .ref p_name, .ref p_parent, .ref p_side, .ref p_from, .ref p_width, .ref p_height, .ref p_radius, .ref p_toolSet]))] (fun (r : Int32) (u : Unit) => r = 0) (fun (u : Unit) => [(pa, .inr (4, [.int 0, .int 0, .int 0, .int 0, .int 0, .int 0, .ref p_toolWidth, .ref p_told, .ref p_name, .ref p_parent, .ref p_side, .ref p_from, .ref p_width, .ref p_height, .ref p_radius, .ref p_toolSet]))]) := by
  refine zCi.mk (by decide) (Nat.le_of_ble_eq_true rfl) ?_
  intro p e s m below meth c A hE hP hD hS ls hl
  obtain ⟨hx, hb, hr, hml, hown, hG, hlocks, hnm, hX, hA⟩ := hE
  have hown : s.vm.findClass RX4 = some m.cls := hown
  have hl : lv_has ls 2 [(0, .ref pa), (1, .int x)] := hl
  refine lv_iload_n hx hb dX4_isFlange_0 rfl (lv_at hl 1 rfl) ?_
  refine lv_if_lt (tgt := 16) hx hb dX4_isFlange_1 (by decide) (fun c1 => ?_) (fun c1 => ?_)
  · skip
    have c1i : x.toInt < 0 := (zc_lt (rfl : x.toInt = _) (show (0 : Int32).toInt = 0 from by decide)).mp c1
    refine lv_iconst (v := 0) hx hb dX4_isFlange_16 (by decide) ?_
    exact zrz (rm := { frames := 0, cells := 0, slots := 0, locals := 0 }) (v := 0) () hx hb hr hlocks (rfl) (Nat.le_of_ble_eq_true rfl) (Nat.le_of_ble_eq_true rfl) (rfl) hP hD hS dX4_isFlange_17
  · skip
    have c1i : ¬ x.toInt < 0 := fun q => c1 ((zc_lt (rfl : x.toInt = _) (show (0 : Int32).toInt = 0 from by decide)).mpr q)
    refine lv_iload_n hx hb dX4_isFlange_4 rfl (lv_at hl 1 rfl) ?_
    refine lv_aload_n hx hb dX4_isFlange_5 rfl (lv_at hl 0 rfl) ?_
    refine va_get (D := g.1) (ci := 4) (v := .int 0) (C := RX4) (T := TX4) (N := 16) hx hb hG iX4 hown hX.1 hP 0 rfl rfl 0 (by decide) (hG _ g409) (fun _ h9 => h9) rfl dX4_isFlange_6 ?_
    refine lv_icmp_ge (tgt := 16) hx hb dX4_isFlange_9 (by decide) (fun c9 => ?_) (fun c9 => (c9 (by rw [zc_le (show (0 : Int32).toInt = 0 from by decide) (rfl : x.toInt = _)]; omega)).elim)
    refine lv_iconst (v := 0) hx hb dX4_isFlange_16 (by decide) ?_
    exact zrz (rm := { frames := 0, cells := 0, slots := 0, locals := 0 }) (v := 0) () hx hb hr hlocks (rfl) (Nat.le_of_ble_eq_true rfl) (Nat.le_of_ble_eq_true rfl) (rfl) hP hD hS dX4_isFlange_17
theorem dX4_isBend_0 : decode cX4_isBend 0 = .ok (.iload_n 1, 1) := by decide +kernel
theorem dX4_isBend_1 : decode cX4_isBend 1 = .ok (.iconst 1, 1) := by decide +kernel
theorem dX4_isBend_2 : decode cX4_isBend 2 = .ok (.if_icmp .lt 15, 3) := by decide +kernel
theorem dX4_isBend_17 : decode cX4_isBend 17 = .ok (.iconst 0, 1) := by decide +kernel
theorem dX4_isBend_18 : decode cX4_isBend 18 = .ok (.ireturn, 1) := by decide +kernel
theorem dX4_isBend_5 : decode cX4_isBend 5 = .ok (.iload_n 1, 1) := by decide +kernel
theorem dX4_isBend_6 : decode cX4_isBend 6 = .ok (.aload_n 0, 1) := by decide +kernel
theorem dX4_isBend_7 : decode cX4_isBend 7 = .ok (.getfield 42, 3) := by decide +kernel
theorem dX4_isBend_10 : decode cX4_isBend 10 = .ok (.if_icmp .ge 7, 3) := by decide +kernel
set_option maxHeartbeats 4000000 in
set_option maxRecDepth 100000 in
theorem kX4_isBend (l : Launch) (g : zL) (pa : Nat) (x : Int32) (p_toolWidth : Nat) (p_told : Nat) (p_name : Nat) (p_parent : Nat) (p_side : Nat) (p_from : Nat) (p_width : Nat) (p_height : Nat) (p_radius : Nat) (p_toolSet : Nat) : zCi l g yX4_isBend cX4_isBend 2 (some .boolean) { frames := 0, cells := 0, slots := 0, locals := 0 } [.ref pa, .int x] [(pa, .inr (4, [.int 0, .int 0, .int 0, .int 0, .int 0, .int 0, .ref p_toolWidth, .ref p_told, .ref p_name, .ref p_parent, .ref p_side, .ref p_from, .ref p_width, .ref p_height, .ref p_radius, .ref p_toolSet]))] (fun (r : Int32) (u : Unit) => r = 0) (fun (u : Unit) => [(pa, .inr (4, [.int 0, .int 0, .int 0, .int 0, .int 0, .int 0, .ref p_toolWidth, .ref p_told, .ref p_name, .ref p_parent, .ref p_side, .ref p_from, .ref p_width, .ref p_height, .ref p_radius, .ref p_toolSet]))]) := by
  refine zCi.mk (by decide) (Nat.le_of_ble_eq_true rfl) ?_
  intro p e s m below meth c A hE hP hD hS ls hl
  obtain ⟨hx, hb, hr, hml, hown, hG, hlocks, hnm, hX, hA⟩ := hE
  have hown : s.vm.findClass RX4 = some m.cls := hown
  have hl : lv_has ls 2 [(0, .ref pa), (1, .int x)] := hl
  refine lv_iload_n hx hb dX4_isBend_0 rfl (lv_at hl 1 rfl) ?_
  refine lv_iconst (v := 1) hx hb dX4_isBend_1 (by decide) ?_
  refine lv_icmp_lt (tgt := 17) hx hb dX4_isBend_2 (by decide) (fun c2 => ?_) (fun c2 => ?_)
  · skip
    have c2i : x.toInt < 1 := (zc_lt (rfl : x.toInt = _) (show (1 : Int32).toInt = 1 from by decide)).mp c2
    refine lv_iconst (v := 0) hx hb dX4_isBend_17 (by decide) ?_
    exact zrz (rm := { frames := 0, cells := 0, slots := 0, locals := 0 }) (v := 0) () hx hb hr hlocks (rfl) (Nat.le_of_ble_eq_true rfl) (Nat.le_of_ble_eq_true rfl) (rfl) hP hD hS dX4_isBend_18
  · skip
    have c2i : ¬ x.toInt < 1 := fun q => c2 ((zc_lt (rfl : x.toInt = _) (show (1 : Int32).toInt = 1 from by decide)).mpr q)
    refine lv_iload_n hx hb dX4_isBend_5 rfl (lv_at hl 1 rfl) ?_
    refine lv_aload_n hx hb dX4_isBend_6 rfl (lv_at hl 0 rfl) ?_
    refine va_get (D := g.1) (ci := 4) (v := .int 0) (C := RX4) (T := TX4) (N := 16) hx hb hG iX4 hown hX.1 hP 0 rfl rfl 0 (by decide) (hG _ g409) (fun _ h9 => h9) rfl dX4_isBend_7 ?_
    refine lv_icmp_ge (tgt := 17) hx hb dX4_isBend_10 (by decide) (fun c10 => ?_) (fun c10 => (c10 (by rw [zc_le (show (0 : Int32).toInt = 0 from by decide) (rfl : x.toInt = _)]; omega)).elim)
    refine lv_iconst (v := 0) hx hb dX4_isBend_17 (by decide) ?_
    exact zrz (rm := { frames := 0, cells := 0, slots := 0, locals := 0 }) (v := 0) () hx hb hr hlocks (rfl) (Nat.le_of_ble_eq_true rfl) (Nat.le_of_ble_eq_true rfl) (rfl) hP hD hS dX4_isBend_18
theorem dX4_isPiece_0 : decode cX4_isPiece 0 = .ok (.aload_n 0, 1) := by decide +kernel
theorem dX4_isPiece_1 : decode cX4_isPiece 1 = .ok (.iload_n 1, 1) := by decide +kernel
theorem dX4_isPiece_2 : decode cX4_isPiece 2 = .ok (.invokevirtual 64, 3) := by decide +kernel
theorem dX4_isPiece_5 : decode cX4_isPiece 5 = .ok (.ifCond .ne 14, 3) := by decide +kernel
theorem dX4_isPiece_8 : decode cX4_isPiece 8 = .ok (.aload_n 0, 1) := by decide +kernel
theorem dX4_isPiece_9 : decode cX4_isPiece 9 = .ok (.iload_n 1, 1) := by decide +kernel
theorem dX4_isPiece_10 : decode cX4_isPiece 10 = .ok (.bipush 8, 2) := by decide +kernel
theorem dX4_isPiece_12 : decode cX4_isPiece 12 = .ok (.isub, 1) := by decide +kernel
theorem dX4_isPiece_13 : decode cX4_isPiece 13 = .ok (.invokevirtual 68, 3) := by decide +kernel
theorem dX4_isPiece_16 : decode cX4_isPiece 16 = .ok (.ifCond .eq 7, 3) := by decide +kernel
theorem dX4_isPiece_23 : decode cX4_isPiece 23 = .ok (.iconst 0, 1) := by decide +kernel
theorem dX4_isPiece_24 : decode cX4_isPiece 24 = .ok (.ireturn, 1) := by decide +kernel
set_option maxHeartbeats 4000000 in
set_option maxRecDepth 100000 in
theorem kX4_isPiece (l : Launch) (g : zL) (pa : Nat) (x : Int32) (p_toolWidth : Nat) (p_told : Nat) (p_name : Nat) (p_parent : Nat) (p_side : Nat) (p_from : Nat) (p_width : Nat) (p_height : Nat) (p_radius : Nat) (p_toolSet : Nat) : zCi l g yX4_isPiece cX4_isPiece 2 (some .boolean) { frames := 1, cells := 0, slots := 0, locals := 21 } [.ref pa, .int x] [(pa, .inr (4, [.int 0, .int 0, .int 0, .int 0, .int 0, .int 0, .ref p_toolWidth, .ref p_told, .ref p_name, .ref p_parent, .ref p_side, .ref p_from, .ref p_width, .ref p_height, .ref p_radius, .ref p_toolSet]))] (fun (r : Int32) (u : Unit) => r = 0) (fun (u : Unit) => [(pa, .inr (4, [.int 0, .int 0, .int 0, .int 0, .int 0, .int 0, .ref p_toolWidth, .ref p_told, .ref p_name, .ref p_parent, .ref p_side, .ref p_from, .ref p_width, .ref p_height, .ref p_radius, .ref p_toolSet]))]) := by
  refine zCi.mk (by decide) (Nat.le_of_ble_eq_true rfl) ?_
  intro p e s m below meth c A hE hP hD hS ls hl
  obtain ⟨hx, hb, hr, hml, hown, hG, hlocks, hnm, hX, hA⟩ := hE
  have hown : s.vm.findClass RX4 = some m.cls := hown
  have hl : lv_has ls 2 [(0, .ref pa), (1, .int x)] := hl
  refine lv_aload_n hx hb dX4_isPiece_0 rfl (lv_at hl 0 rfl) ?_
  refine lv_iload_n hx hb dX4_isPiece_1 rfl (lv_at hl 1 rfl) ?_
  refine zfi (wr := []) (va_runV (As := [.int x]) (rest := []) ⟨hx, hb, hml, hown, hG⟩ (kX4_isFlange l g pa x p_toolWidth p_told p_name p_parent p_side p_from p_width p_height p_radius p_toolSet _) ⟨callB_of 1 hG (zGood g813) rfl rfl rfl (hG _ g210) (hG _ g874) hX4_isFlange ⟨Nat.le_of_ble_eq_true rfl, Nat.le_of_ble_eq_true rfl⟩, hG _ g812, hG _ g37⟩ (zpreV (va_recv hX.1 hP (ci := 4) (q0 := 0) rfl rfl) hX hP hD hS hA [0] rfl (by decide)) rfl rfl hl.1 rfl (lv_room (Nat.le_of_ble_eq_true rfl)) dX4_isPiece_2 ⟨Nat.le_of_ble_eq_true rfl, Nat.le_of_ble_eq_true rfl⟩) hP hD hS hA [0] [] rfl rfl (by decide) (by decide) (fun r1 _ H locs hp hP hD hS => ?_)
  refine W.cs (cells' := 0) (slots' := 0) rfl rfl ?_
  have hq2 : r1 = 0 := hp
  subst hq2
  have hP : va_P g.1 vwCl [(pa, .inr (4, [.int 0, .int 0, .int 0, .int 0, .int 0, .int 0, .ref p_toolWidth, .ref p_told, .ref p_name, .ref p_parent, .ref p_side, .ref p_from, .ref p_width, .ref p_height, .ref p_radius, .ref p_toolSet]))] H := hP
  have hD : va_D A [(pa, .inr (4, [.int 0, .int 0, .int 0, .int 0, .int 0, .int 0, .ref p_toolWidth, .ref p_told, .ref p_name, .ref p_parent, .ref p_side, .ref p_from, .ref p_width, .ref p_height, .ref p_radius, .ref p_toolSet]))] := hD
  refine lv_if_ne (tgt := 19) hx hb dX4_isPiece_5 (by decide) (fun c5 => (c5 (by decide)).elim) (fun c5 => ?_)
  refine lv_aload_n hx hb dX4_isPiece_8 rfl (lv_at hl 0 rfl) ?_
  refine lv_iload_n hx hb dX4_isPiece_9 rfl (lv_at hl 1 rfl) ?_
  refine lv_bipush (v := 8) hx hb dX4_isPiece_10 (by decide) ?_
  refine lv_isub hx hb dX4_isPiece_12 ?_
  refine zfi (wr := []) (va_runV (As := [.int (x - 8)]) (rest := []) ⟨hx, hb, hml, hown, hG⟩ (kX4_isBend l g pa (x - 8) p_toolWidth p_told p_name p_parent p_side p_from p_width p_height p_radius p_toolSet _) ⟨callB_of 1 hG (zGood g821) rfl rfl rfl (hG _ g210) (hG _ g875) hX4_isBend ⟨Nat.le_of_ble_eq_true rfl, Nat.le_of_ble_eq_true rfl⟩, hG _ g820, hG _ g38⟩ (zpreV (va_recv hX.1 hP (ci := 4) (q0 := 0) rfl rfl) hX hP hD hS hA [0] rfl (by decide)) rfl rfl hl.1 rfl (lv_room (Nat.le_of_ble_eq_true rfl)) dX4_isPiece_13 ⟨Nat.le_of_ble_eq_true rfl, Nat.le_of_ble_eq_true rfl⟩) hP hD hS hA [0] [] rfl rfl (by decide) (by decide) (fun r3 _ H locs hp hP hD hS => ?_)
  refine W.cs (cells' := 0) (slots' := 0) rfl rfl ?_
  have hq4 : r3 = 0 := hp
  subst hq4
  have hP : va_P g.1 vwCl [(pa, .inr (4, [.int 0, .int 0, .int 0, .int 0, .int 0, .int 0, .ref p_toolWidth, .ref p_told, .ref p_name, .ref p_parent, .ref p_side, .ref p_from, .ref p_width, .ref p_height, .ref p_radius, .ref p_toolSet]))] H := hP
  have hD : va_D A [(pa, .inr (4, [.int 0, .int 0, .int 0, .int 0, .int 0, .int 0, .ref p_toolWidth, .ref p_told, .ref p_name, .ref p_parent, .ref p_side, .ref p_from, .ref p_width, .ref p_height, .ref p_radius, .ref p_toolSet]))] := hD
  refine lv_if_eq (tgt := 23) hx hb dX4_isPiece_16 (by decide) (fun c16 => ?_) (fun c16 => (c16 (by decide)).elim)
  refine lv_iconst (v := 0) hx hb dX4_isPiece_23 (by decide) ?_
  exact zrz (rm := { frames := 1, cells := 0, slots := 0, locals := 21 }) (v := 0) () hx hb hr hlocks (rfl) (Nat.le_of_ble_eq_true rfl) (Nat.le_of_ble_eq_true rfl) (rfl) hP hD hS dX4_isPiece_24
theorem dX4_isState_0 : decode cX4_isState 0 = .ok (.aload_n 0, 1) := by decide +kernel
theorem dX4_isState_1 : decode cX4_isState 1 = .ok (.invokevirtual 71, 3) := by decide +kernel
theorem dX4_isState_4 : decode cX4_isState 4 = .ok (.ifCond .eq 19, 3) := by decide +kernel
theorem dX4_isState_23 : decode cX4_isState 23 = .ok (.iconst 0, 1) := by decide +kernel
theorem dX4_isState_24 : decode cX4_isState 24 = .ok (.ireturn, 1) := by decide +kernel
set_option maxHeartbeats 4000000 in
set_option maxRecDepth 100000 in
theorem kX4_isState (l : Launch) (g : zL) (pa : Nat) (x : Int32) (p_toolWidth : Nat) (p_told : Nat) (p_name : Nat) (p_parent : Nat) (p_side : Nat) (p_from : Nat) (p_width : Nat) (p_height : Nat) (p_radius : Nat) (p_toolSet : Nat) : zCi l g yX4_isState cX4_isState 2 (some .boolean) { frames := 1, cells := 0, slots := 0, locals := 20 } [.ref pa, .int x] [(pa, .inr (4, [.int 0, .int 0, .int 0, .int 0, .int 0, .int 0, .ref p_toolWidth, .ref p_told, .ref p_name, .ref p_parent, .ref p_side, .ref p_from, .ref p_width, .ref p_height, .ref p_radius, .ref p_toolSet]))] (fun (r : Int32) (u : Unit) => r = 0) (fun (u : Unit) => [(pa, .inr (4, [.int 0, .int 0, .int 0, .int 0, .int 0, .int 0, .ref p_toolWidth, .ref p_told, .ref p_name, .ref p_parent, .ref p_side, .ref p_from, .ref p_width, .ref p_height, .ref p_radius, .ref p_toolSet]))]) := by
  refine zCi.mk (by decide) (Nat.le_of_ble_eq_true rfl) ?_
  intro p e s m below meth c A hE hP hD hS ls hl
  obtain ⟨hx, hb, hr, hml, hown, hG, hlocks, hnm, hX, hA⟩ := hE
  have hown : s.vm.findClass RX4 = some m.cls := hown
  have hl : lv_has ls 2 [(0, .ref pa), (1, .int x)] := hl
  refine lv_aload_n hx hb dX4_isState_0 rfl (lv_at hl 0 rfl) ?_
  refine zfi (wr := []) (va_runV (As := []) (rest := []) ⟨hx, hb, hml, hown, hG⟩ (kX4_isThere l g pa p_toolWidth p_told p_name p_parent p_side p_from p_width p_height p_radius p_toolSet _) ⟨callB_of 0 hG (zGood g861) rfl rfl rfl (hG _ g210) (hG _ g1012) hX4_isThere ⟨Nat.le_of_ble_eq_true rfl, Nat.le_of_ble_eq_true rfl⟩, hG _ g860, hG _ g45⟩ (zpreV (va_recv hX.1 hP (ci := 4) (q0 := 0) rfl rfl) hX hP hD hS hA [0] rfl (by decide)) rfl rfl hl.1 rfl (lv_room (Nat.le_of_ble_eq_true rfl)) dX4_isState_1 ⟨Nat.le_of_ble_eq_true rfl, Nat.le_of_ble_eq_true rfl⟩) hP hD hS hA [0] [] rfl rfl (by decide) (by decide) (fun r1 _ H locs hp hP hD hS => ?_)
  refine W.cs (cells' := 0) (slots' := 0) rfl rfl ?_
  have hq2 : r1 = 0 := hp
  subst hq2
  have hP : va_P g.1 vwCl [(pa, .inr (4, [.int 0, .int 0, .int 0, .int 0, .int 0, .int 0, .ref p_toolWidth, .ref p_told, .ref p_name, .ref p_parent, .ref p_side, .ref p_from, .ref p_width, .ref p_height, .ref p_radius, .ref p_toolSet]))] H := hP
  have hD : va_D A [(pa, .inr (4, [.int 0, .int 0, .int 0, .int 0, .int 0, .int 0, .ref p_toolWidth, .ref p_told, .ref p_name, .ref p_parent, .ref p_side, .ref p_from, .ref p_width, .ref p_height, .ref p_radius, .ref p_toolSet]))] := hD
  refine lv_if_eq (tgt := 23) hx hb dX4_isState_4 (by decide) (fun c4 => ?_) (fun c4 => (c4 (by decide)).elim)
  refine lv_iconst (v := 0) hx hb dX4_isState_23 (by decide) ?_
  exact zrz (rm := { frames := 1, cells := 0, slots := 0, locals := 20 }) (v := 0) () hx hb hr hlocks (rfl) (Nat.le_of_ble_eq_true rfl) (Nat.le_of_ble_eq_true rfl) (rfl) hP hD hS dX4_isState_24
theorem dX8_refuse_0 : decode cX8_refuse 0 = .ok (.iload_n 1, 1) := by decide +kernel
theorem dX8_refuse_1 : decode cX8_refuse 1 = .ok (.ifCond .lt 19, 3) := by decide +kernel
theorem dX8_refuse_4 : decode cX8_refuse 4 = .ok (.iload_n 1, 1) := by decide +kernel
theorem dX8_refuse_5 : decode cX8_refuse 5 = .ok (.bipush 6, 2) := by decide +kernel
theorem dX8_refuse_7 : decode cX8_refuse 7 = .ok (.if_icmp .ge 13, 3) := by decide +kernel
theorem dX8_refuse_10 : decode cX8_refuse 10 = .ok (.aload_n 0, 1) := by decide +kernel
theorem dX8_refuse_11 : decode cX8_refuse 11 = .ok (.getfield 60, 3) := by decide +kernel
theorem dX8_refuse_14 : decode cX8_refuse 14 = .ok (.iload_n 1, 1) := by decide +kernel
theorem dX8_refuse_15 : decode cX8_refuse 15 = .ok (.dup2, 1) := by decide +kernel
theorem dX8_refuse_16 : decode cX8_refuse 16 = .ok (.iaload, 1) := by decide +kernel
theorem dX8_refuse_17 : decode cX8_refuse 17 = .ok (.iconst 1, 1) := by decide +kernel
theorem dX8_refuse_18 : decode cX8_refuse 18 = .ok (.iadd, 1) := by decide +kernel
theorem dX8_refuse_19 : decode cX8_refuse 19 = .ok (.iastore, 1) := by decide +kernel
theorem dX8_refuse_20 : decode cX8_refuse 20 = .ok (.iconst (-1), 1) := by decide +kernel
theorem dX8_refuse_21 : decode cX8_refuse 21 = .ok (.ireturn, 1) := by decide +kernel
set_option maxHeartbeats 4000000 in
set_option maxRecDepth 100000 in
theorem kX8_refuse0 (l : Launch) (g : zL) (h0 : Nat) (xt : Nat) (xr : Nat) (xp : Nat) (xs : Nat) (xm : Nat) (xh : Nat) (xe : Nat) (xf : Nat) (pa : Nat) (dr : Nat) (f : Nat → Int32) : zCi l g yX8_refuse cX8_refuse 2 (some .int) { frames := 0, cells := 0, slots := 0, locals := 0 } [.ref h0, .int 0] [(h0, .inr (8, [.ref xt, .ref xr, .ref xp, .ref xs, .ref xm, .ref xh, .ref xe, .ref xf, .ref pa, .ref dr, .int 0, .int 1, .int 0, .int 0])), (xf, .inl (g.2.1.1, 6, .inl f))] (fun (r : Int32) (u : (Nat → Int32)) => r = (-1)) (fun (u : (Nat → Int32)) => [(h0, .inr (8, [.ref xt, .ref xr, .ref xp, .ref xs, .ref xm, .ref xh, .ref xe, .ref xf, .ref pa, .ref dr, .int 0, .int 1, .int 0, .int 0])), (xf, .inl (g.2.1.1, 6, .inl u))]) := by
  refine zCi.mk (by decide) (Nat.le_of_ble_eq_true rfl) ?_
  intro p e s m below meth c A hE hP hD hS ls hl
  obtain ⟨hx, hb, hr, hml, hown, hG, hlocks, hnm, hX, hA⟩ := hE
  have hown : s.vm.findClass RX8 = some m.cls := hown
  have hl : lv_has ls 2 [(0, .ref h0), (1, .int 0)] := hl
  refine lv_iload_n hx hb dX8_refuse_0 rfl (lv_at hl 1 rfl) ?_
  refine lv_if_lt (tgt := 20) hx hb dX8_refuse_1 (by decide) (fun c1 => absurd c1 (by decide)) (fun c1 => ?_)
  refine lv_iload_n hx hb dX8_refuse_4 rfl (lv_at hl 1 rfl) ?_
  refine lv_bipush (v := 6) hx hb dX8_refuse_5 (by decide) ?_
  refine lv_icmp_ge (tgt := 20) hx hb dX8_refuse_7 (by decide) (fun c7 => absurd c7 (by decide)) (fun c7 => ?_)
  refine lv_aload_n hx hb dX8_refuse_10 rfl (lv_at hl 0 rfl) ?_
  refine va_get (D := g.1) (ci := 8) (v := .ref xf) (C := RX8) (T := TX8) (N := 14) hx hb hG iX8 hown hX.1 hP 0 rfl rfl 7 (by decide) (hG _ g514) (fun _ h9 => h9) rfl dX8_refuse_11 ?_
  refine lv_iload_n hx hb dX8_refuse_14 rfl (lv_at hl 1 rfl) ?_
  refine lv_dup2_11 hx hb dX8_refuse_15 rfl rfl ?_
  refine va_iald hx hb hX.1 hP 1 0 rfl rfl (vp_in_iff.mpr (by decide)) dX8_refuse_16 ?_
  refine lv_iconst (v := 1) hx hb dX8_refuse_17 (by decide) ?_
  refine lv_iadd hx hb dX8_refuse_18 ?_
  refine va_iast hx hb hX.1 hP hD hS 1 0 rfl rfl (vp_in_iff.mpr (by decide)) dX8_refuse_19 (fun H locs hP hD hS => ?_)
  have hP : va_P g.1 vwCl [(h0, .inr (8, [.ref xt, .ref xr, .ref xp, .ref xs, .ref xm, .ref xh, .ref xe, .ref xf, .ref pa, .ref dr, .int 0, .int 1, .int 0, .int 0])), (xf, .inl (g.2.1.1, 6, .inl (upd f (0 : Int32).toNatClampNeg ((f (0 : Int32).toNatClampNeg) + 1))))] H := hP
  have hD : va_D A [(h0, .inr (8, [.ref xt, .ref xr, .ref xp, .ref xs, .ref xm, .ref xh, .ref xe, .ref xf, .ref pa, .ref dr, .int 0, .int 1, .int 0, .int 0])), (xf, .inl (g.2.1.1, 6, .inl (upd f (0 : Int32).toNatClampNeg ((f (0 : Int32).toNatClampNeg) + 1))))] := hD
  refine lv_iconst (v := (-1)) hx hb dX8_refuse_20 (by decide) ?_
  exact zri (rm := { frames := 0, cells := 0, slots := 0, locals := 0 }) (v := (-1)) (upd f (0 : Int32).toNatClampNeg ((f (0 : Int32).toNatClampNeg) + 1)) hx hb hr hlocks (Nat.le_of_ble_eq_true rfl) (Nat.le_of_ble_eq_true rfl) (rfl) hP hD hS dX8_refuse_21
theorem dX8_deny_0 : decode cX8_deny 0 = .ok (.aload_n 0, 1) := by decide +kernel
theorem dX8_deny_1 : decode cX8_deny 1 = .ok (.iload_n 1, 1) := by decide +kernel
theorem dX8_deny_2 : decode cX8_deny 2 = .ok (.invokevirtual 82, 3) := by decide +kernel
theorem dX8_deny_5 : decode cX8_deny 5 = .ok (.pop, 1) := by decide +kernel
theorem dX8_deny_6 : decode cX8_deny 6 = .ok (.iconst 0, 1) := by decide +kernel
theorem dX8_deny_7 : decode cX8_deny 7 = .ok (.ireturn, 1) := by decide +kernel
set_option maxHeartbeats 4000000 in
set_option maxRecDepth 100000 in
theorem kX8_deny0 (l : Launch) (g : zL) (h0 : Nat) (xt : Nat) (xr : Nat) (xp : Nat) (xs : Nat) (xm : Nat) (xh : Nat) (xe : Nat) (xf : Nat) (pa : Nat) (dr : Nat) (f : Nat → Int32) : zCi l g yX8_deny cX8_deny 2 (some .boolean) { frames := 1, cells := 0, slots := 0, locals := 21 } [.ref h0, .int 0] [(h0, .inr (8, [.ref xt, .ref xr, .ref xp, .ref xs, .ref xm, .ref xh, .ref xe, .ref xf, .ref pa, .ref dr, .int 0, .int 1, .int 0, .int 0])), (xf, .inl (g.2.1.1, 6, .inl f))] (fun (r : Int32) (u : (Nat → Int32)) => r = 0) (fun (u : (Nat → Int32)) => [(h0, .inr (8, [.ref xt, .ref xr, .ref xp, .ref xs, .ref xm, .ref xh, .ref xe, .ref xf, .ref pa, .ref dr, .int 0, .int 1, .int 0, .int 0])), (xf, .inl (g.2.1.1, 6, .inl u))]) := by
  refine zCi.mk (by decide) (Nat.le_of_ble_eq_true rfl) ?_
  intro p e s m below meth c A hE hP hD hS ls hl
  obtain ⟨hx, hb, hr, hml, hown, hG, hlocks, hnm, hX, hA⟩ := hE
  have hown : s.vm.findClass RX8 = some m.cls := hown
  have hl : lv_has ls 2 [(0, .ref h0), (1, .int 0)] := hl
  refine lv_aload_n hx hb dX8_deny_0 rfl (lv_at hl 0 rfl) ?_
  refine lv_iload_n hx hb dX8_deny_1 rfl (lv_at hl 1 rfl) ?_
  refine zfi (wr := []) (va_runV (As := [.int 0]) (rest := []) ⟨hx, hb, hml, hown, hG⟩ (kX8_refuse0 l g h0 xt xr xp xs xm xh xe xf pa dr f _) ⟨callB_of 1 hG (zGood g561) rfl rfl rfl (hG _ g202) (hG _ g558) hX8_refuse ⟨Nat.le_of_ble_eq_true rfl, Nat.le_of_ble_eq_true rfl⟩, hG _ g560, hG _ g1⟩ (zpreV (va_recv hX.1 hP (ci := 8) (q0 := 0) rfl rfl) hX hP hD hS hA [0, 1] rfl (by decide)) rfl rfl hl.1 rfl (lv_room (Nat.le_of_ble_eq_true rfl)) dX8_deny_2 ⟨Nat.le_of_ble_eq_true rfl, Nat.le_of_ble_eq_true rfl⟩) hP hD hS hA [0, 1] [] rfl rfl (by decide) (by decide) (fun r1 u2 H locs hp hP hD hS => ?_)
  refine W.cs (cells' := 0) (slots' := 0) rfl rfl ?_
  have hq3 : r1 = (-1) := hp
  subst hq3
  have hP : va_P g.1 vwCl [(h0, .inr (8, [.ref xt, .ref xr, .ref xp, .ref xs, .ref xm, .ref xh, .ref xe, .ref xf, .ref pa, .ref dr, .int 0, .int 1, .int 0, .int 0])), (xf, .inl (g.2.1.1, 6, .inl u2))] H := hP
  have hD : va_D A [(h0, .inr (8, [.ref xt, .ref xr, .ref xp, .ref xs, .ref xm, .ref xh, .ref xe, .ref xf, .ref pa, .ref dr, .int 0, .int 1, .int 0, .int 0])), (xf, .inl (g.2.1.1, 6, .inl u2))] := hD
  refine lv_pop hx hb dX8_deny_5 rfl ?_
  refine lv_iconst (v := 0) hx hb dX8_deny_6 (by decide) ?_
  exact zrz (rm := { frames := 1, cells := 0, slots := 0, locals := 21 }) (v := 0) u2 hx hb hr hlocks (rfl) (Nat.le_of_ble_eq_true rfl) (Nat.le_of_ble_eq_true rfl) (rfl) hP hD hS dX8_deny_7
set_option maxHeartbeats 4000000 in
set_option maxRecDepth 100000 in
theorem kX8_refuse1 (l : Launch) (g : zL) (h0 : Nat) (xt : Nat) (xr : Nat) (xp : Nat) (xs : Nat) (xm : Nat) (xh : Nat) (xe : Nat) (xf : Nat) (pa : Nat) (dr : Nat) (f : Nat → Int32) : zCi l g yX8_refuse cX8_refuse 2 (some .int) { frames := 0, cells := 0, slots := 0, locals := 0 } [.ref h0, .int 1] [(h0, .inr (8, [.ref xt, .ref xr, .ref xp, .ref xs, .ref xm, .ref xh, .ref xe, .ref xf, .ref pa, .ref dr, .int 0, .int 1, .int 0, .int 0])), (xf, .inl (g.2.1.1, 6, .inl f))] (fun (r : Int32) (u : (Nat → Int32)) => r = (-1)) (fun (u : (Nat → Int32)) => [(h0, .inr (8, [.ref xt, .ref xr, .ref xp, .ref xs, .ref xm, .ref xh, .ref xe, .ref xf, .ref pa, .ref dr, .int 0, .int 1, .int 0, .int 0])), (xf, .inl (g.2.1.1, 6, .inl u))]) := by
  refine zCi.mk (by decide) (Nat.le_of_ble_eq_true rfl) ?_
  intro p e s m below meth c A hE hP hD hS ls hl
  obtain ⟨hx, hb, hr, hml, hown, hG, hlocks, hnm, hX, hA⟩ := hE
  have hown : s.vm.findClass RX8 = some m.cls := hown
  have hl : lv_has ls 2 [(0, .ref h0), (1, .int 1)] := hl
  refine lv_iload_n hx hb dX8_refuse_0 rfl (lv_at hl 1 rfl) ?_
  refine lv_if_lt (tgt := 20) hx hb dX8_refuse_1 (by decide) (fun c1 => absurd c1 (by decide)) (fun c1 => ?_)
  refine lv_iload_n hx hb dX8_refuse_4 rfl (lv_at hl 1 rfl) ?_
  refine lv_bipush (v := 6) hx hb dX8_refuse_5 (by decide) ?_
  refine lv_icmp_ge (tgt := 20) hx hb dX8_refuse_7 (by decide) (fun c7 => absurd c7 (by decide)) (fun c7 => ?_)
  refine lv_aload_n hx hb dX8_refuse_10 rfl (lv_at hl 0 rfl) ?_
  refine va_get (D := g.1) (ci := 8) (v := .ref xf) (C := RX8) (T := TX8) (N := 14) hx hb hG iX8 hown hX.1 hP 0 rfl rfl 7 (by decide) (hG _ g514) (fun _ h9 => h9) rfl dX8_refuse_11 ?_
  refine lv_iload_n hx hb dX8_refuse_14 rfl (lv_at hl 1 rfl) ?_
  refine lv_dup2_11 hx hb dX8_refuse_15 rfl rfl ?_
  refine va_iald hx hb hX.1 hP 1 0 rfl rfl (vp_in_iff.mpr (by decide)) dX8_refuse_16 ?_
  refine lv_iconst (v := 1) hx hb dX8_refuse_17 (by decide) ?_
  refine lv_iadd hx hb dX8_refuse_18 ?_
  refine va_iast hx hb hX.1 hP hD hS 1 0 rfl rfl (vp_in_iff.mpr (by decide)) dX8_refuse_19 (fun H locs hP hD hS => ?_)
  have hP : va_P g.1 vwCl [(h0, .inr (8, [.ref xt, .ref xr, .ref xp, .ref xs, .ref xm, .ref xh, .ref xe, .ref xf, .ref pa, .ref dr, .int 0, .int 1, .int 0, .int 0])), (xf, .inl (g.2.1.1, 6, .inl (upd f (1 : Int32).toNatClampNeg ((f (1 : Int32).toNatClampNeg) + 1))))] H := hP
  have hD : va_D A [(h0, .inr (8, [.ref xt, .ref xr, .ref xp, .ref xs, .ref xm, .ref xh, .ref xe, .ref xf, .ref pa, .ref dr, .int 0, .int 1, .int 0, .int 0])), (xf, .inl (g.2.1.1, 6, .inl (upd f (1 : Int32).toNatClampNeg ((f (1 : Int32).toNatClampNeg) + 1))))] := hD
  refine lv_iconst (v := (-1)) hx hb dX8_refuse_20 (by decide) ?_
  exact zri (rm := { frames := 0, cells := 0, slots := 0, locals := 0 }) (v := (-1)) (upd f (1 : Int32).toNatClampNeg ((f (1 : Int32).toNatClampNeg) + 1)) hx hb hr hlocks (Nat.le_of_ble_eq_true rfl) (Nat.le_of_ble_eq_true rfl) (rfl) hP hD hS dX8_refuse_21
set_option maxHeartbeats 4000000 in
set_option maxRecDepth 100000 in
theorem kX8_deny1 (l : Launch) (g : zL) (h0 : Nat) (xt : Nat) (xr : Nat) (xp : Nat) (xs : Nat) (xm : Nat) (xh : Nat) (xe : Nat) (xf : Nat) (pa : Nat) (dr : Nat) (f : Nat → Int32) : zCi l g yX8_deny cX8_deny 2 (some .boolean) { frames := 1, cells := 0, slots := 0, locals := 21 } [.ref h0, .int 1] [(h0, .inr (8, [.ref xt, .ref xr, .ref xp, .ref xs, .ref xm, .ref xh, .ref xe, .ref xf, .ref pa, .ref dr, .int 0, .int 1, .int 0, .int 0])), (xf, .inl (g.2.1.1, 6, .inl f))] (fun (r : Int32) (u : (Nat → Int32)) => r = 0) (fun (u : (Nat → Int32)) => [(h0, .inr (8, [.ref xt, .ref xr, .ref xp, .ref xs, .ref xm, .ref xh, .ref xe, .ref xf, .ref pa, .ref dr, .int 0, .int 1, .int 0, .int 0])), (xf, .inl (g.2.1.1, 6, .inl u))]) := by
  refine zCi.mk (by decide) (Nat.le_of_ble_eq_true rfl) ?_
  intro p e s m below meth c A hE hP hD hS ls hl
  obtain ⟨hx, hb, hr, hml, hown, hG, hlocks, hnm, hX, hA⟩ := hE
  have hown : s.vm.findClass RX8 = some m.cls := hown
  have hl : lv_has ls 2 [(0, .ref h0), (1, .int 1)] := hl
  refine lv_aload_n hx hb dX8_deny_0 rfl (lv_at hl 0 rfl) ?_
  refine lv_iload_n hx hb dX8_deny_1 rfl (lv_at hl 1 rfl) ?_
  refine zfi (wr := []) (va_runV (As := [.int 1]) (rest := []) ⟨hx, hb, hml, hown, hG⟩ (kX8_refuse1 l g h0 xt xr xp xs xm xh xe xf pa dr f _) ⟨callB_of 1 hG (zGood g561) rfl rfl rfl (hG _ g202) (hG _ g558) hX8_refuse ⟨Nat.le_of_ble_eq_true rfl, Nat.le_of_ble_eq_true rfl⟩, hG _ g560, hG _ g1⟩ (zpreV (va_recv hX.1 hP (ci := 8) (q0 := 0) rfl rfl) hX hP hD hS hA [0, 1] rfl (by decide)) rfl rfl hl.1 rfl (lv_room (Nat.le_of_ble_eq_true rfl)) dX8_deny_2 ⟨Nat.le_of_ble_eq_true rfl, Nat.le_of_ble_eq_true rfl⟩) hP hD hS hA [0, 1] [] rfl rfl (by decide) (by decide) (fun r1 u2 H locs hp hP hD hS => ?_)
  refine W.cs (cells' := 0) (slots' := 0) rfl rfl ?_
  have hq3 : r1 = (-1) := hp
  subst hq3
  have hP : va_P g.1 vwCl [(h0, .inr (8, [.ref xt, .ref xr, .ref xp, .ref xs, .ref xm, .ref xh, .ref xe, .ref xf, .ref pa, .ref dr, .int 0, .int 1, .int 0, .int 0])), (xf, .inl (g.2.1.1, 6, .inl u2))] H := hP
  have hD : va_D A [(h0, .inr (8, [.ref xt, .ref xr, .ref xp, .ref xs, .ref xm, .ref xh, .ref xe, .ref xf, .ref pa, .ref dr, .int 0, .int 1, .int 0, .int 0])), (xf, .inl (g.2.1.1, 6, .inl u2))] := hD
  refine lv_pop hx hb dX8_deny_5 rfl ?_
  refine lv_iconst (v := 0) hx hb dX8_deny_6 (by decide) ?_
  exact zrz (rm := { frames := 1, cells := 0, slots := 0, locals := 21 }) (v := 0) u2 hx hb hr hlocks (rfl) (Nat.le_of_ble_eq_true rfl) (Nat.le_of_ble_eq_true rfl) (rfl) hP hD hS dX8_deny_7
set_option maxHeartbeats 4000000 in
set_option maxRecDepth 100000 in
theorem kX8_refuse2 (l : Launch) (g : zL) (h0 : Nat) (xt : Nat) (xr : Nat) (xp : Nat) (xs : Nat) (xm : Nat) (xh : Nat) (xe : Nat) (xf : Nat) (pa : Nat) (dr : Nat) (f : Nat → Int32) : zCi l g yX8_refuse cX8_refuse 2 (some .int) { frames := 0, cells := 0, slots := 0, locals := 0 } [.ref h0, .int 2] [(h0, .inr (8, [.ref xt, .ref xr, .ref xp, .ref xs, .ref xm, .ref xh, .ref xe, .ref xf, .ref pa, .ref dr, .int 0, .int 1, .int 0, .int 0])), (xf, .inl (g.2.1.1, 6, .inl f))] (fun (r : Int32) (u : (Nat → Int32)) => r = (-1)) (fun (u : (Nat → Int32)) => [(h0, .inr (8, [.ref xt, .ref xr, .ref xp, .ref xs, .ref xm, .ref xh, .ref xe, .ref xf, .ref pa, .ref dr, .int 0, .int 1, .int 0, .int 0])), (xf, .inl (g.2.1.1, 6, .inl u))]) := by
  refine zCi.mk (by decide) (Nat.le_of_ble_eq_true rfl) ?_
  intro p e s m below meth c A hE hP hD hS ls hl
  obtain ⟨hx, hb, hr, hml, hown, hG, hlocks, hnm, hX, hA⟩ := hE
  have hown : s.vm.findClass RX8 = some m.cls := hown
  have hl : lv_has ls 2 [(0, .ref h0), (1, .int 2)] := hl
  refine lv_iload_n hx hb dX8_refuse_0 rfl (lv_at hl 1 rfl) ?_
  refine lv_if_lt (tgt := 20) hx hb dX8_refuse_1 (by decide) (fun c1 => absurd c1 (by decide)) (fun c1 => ?_)
  refine lv_iload_n hx hb dX8_refuse_4 rfl (lv_at hl 1 rfl) ?_
  refine lv_bipush (v := 6) hx hb dX8_refuse_5 (by decide) ?_
  refine lv_icmp_ge (tgt := 20) hx hb dX8_refuse_7 (by decide) (fun c7 => absurd c7 (by decide)) (fun c7 => ?_)
  refine lv_aload_n hx hb dX8_refuse_10 rfl (lv_at hl 0 rfl) ?_
  refine va_get (D := g.1) (ci := 8) (v := .ref xf) (C := RX8) (T := TX8) (N := 14) hx hb hG iX8 hown hX.1 hP 0 rfl rfl 7 (by decide) (hG _ g514) (fun _ h9 => h9) rfl dX8_refuse_11 ?_
  refine lv_iload_n hx hb dX8_refuse_14 rfl (lv_at hl 1 rfl) ?_
  refine lv_dup2_11 hx hb dX8_refuse_15 rfl rfl ?_
  refine va_iald hx hb hX.1 hP 1 0 rfl rfl (vp_in_iff.mpr (by decide)) dX8_refuse_16 ?_
  refine lv_iconst (v := 1) hx hb dX8_refuse_17 (by decide) ?_
  refine lv_iadd hx hb dX8_refuse_18 ?_
  refine va_iast hx hb hX.1 hP hD hS 1 0 rfl rfl (vp_in_iff.mpr (by decide)) dX8_refuse_19 (fun H locs hP hD hS => ?_)
  have hP : va_P g.1 vwCl [(h0, .inr (8, [.ref xt, .ref xr, .ref xp, .ref xs, .ref xm, .ref xh, .ref xe, .ref xf, .ref pa, .ref dr, .int 0, .int 1, .int 0, .int 0])), (xf, .inl (g.2.1.1, 6, .inl (upd f (2 : Int32).toNatClampNeg ((f (2 : Int32).toNatClampNeg) + 1))))] H := hP
  have hD : va_D A [(h0, .inr (8, [.ref xt, .ref xr, .ref xp, .ref xs, .ref xm, .ref xh, .ref xe, .ref xf, .ref pa, .ref dr, .int 0, .int 1, .int 0, .int 0])), (xf, .inl (g.2.1.1, 6, .inl (upd f (2 : Int32).toNatClampNeg ((f (2 : Int32).toNatClampNeg) + 1))))] := hD
  refine lv_iconst (v := (-1)) hx hb dX8_refuse_20 (by decide) ?_
  exact zri (rm := { frames := 0, cells := 0, slots := 0, locals := 0 }) (v := (-1)) (upd f (2 : Int32).toNatClampNeg ((f (2 : Int32).toNatClampNeg) + 1)) hx hb hr hlocks (Nat.le_of_ble_eq_true rfl) (Nat.le_of_ble_eq_true rfl) (rfl) hP hD hS dX8_refuse_21
set_option maxHeartbeats 4000000 in
set_option maxRecDepth 100000 in
theorem kX8_deny2 (l : Launch) (g : zL) (h0 : Nat) (xt : Nat) (xr : Nat) (xp : Nat) (xs : Nat) (xm : Nat) (xh : Nat) (xe : Nat) (xf : Nat) (pa : Nat) (dr : Nat) (f : Nat → Int32) : zCi l g yX8_deny cX8_deny 2 (some .boolean) { frames := 1, cells := 0, slots := 0, locals := 21 } [.ref h0, .int 2] [(h0, .inr (8, [.ref xt, .ref xr, .ref xp, .ref xs, .ref xm, .ref xh, .ref xe, .ref xf, .ref pa, .ref dr, .int 0, .int 1, .int 0, .int 0])), (xf, .inl (g.2.1.1, 6, .inl f))] (fun (r : Int32) (u : (Nat → Int32)) => r = 0) (fun (u : (Nat → Int32)) => [(h0, .inr (8, [.ref xt, .ref xr, .ref xp, .ref xs, .ref xm, .ref xh, .ref xe, .ref xf, .ref pa, .ref dr, .int 0, .int 1, .int 0, .int 0])), (xf, .inl (g.2.1.1, 6, .inl u))]) := by
  refine zCi.mk (by decide) (Nat.le_of_ble_eq_true rfl) ?_
  intro p e s m below meth c A hE hP hD hS ls hl
  obtain ⟨hx, hb, hr, hml, hown, hG, hlocks, hnm, hX, hA⟩ := hE
  have hown : s.vm.findClass RX8 = some m.cls := hown
  have hl : lv_has ls 2 [(0, .ref h0), (1, .int 2)] := hl
  refine lv_aload_n hx hb dX8_deny_0 rfl (lv_at hl 0 rfl) ?_
  refine lv_iload_n hx hb dX8_deny_1 rfl (lv_at hl 1 rfl) ?_
  refine zfi (wr := []) (va_runV (As := [.int 2]) (rest := []) ⟨hx, hb, hml, hown, hG⟩ (kX8_refuse2 l g h0 xt xr xp xs xm xh xe xf pa dr f _) ⟨callB_of 1 hG (zGood g561) rfl rfl rfl (hG _ g202) (hG _ g558) hX8_refuse ⟨Nat.le_of_ble_eq_true rfl, Nat.le_of_ble_eq_true rfl⟩, hG _ g560, hG _ g1⟩ (zpreV (va_recv hX.1 hP (ci := 8) (q0 := 0) rfl rfl) hX hP hD hS hA [0, 1] rfl (by decide)) rfl rfl hl.1 rfl (lv_room (Nat.le_of_ble_eq_true rfl)) dX8_deny_2 ⟨Nat.le_of_ble_eq_true rfl, Nat.le_of_ble_eq_true rfl⟩) hP hD hS hA [0, 1] [] rfl rfl (by decide) (by decide) (fun r1 u2 H locs hp hP hD hS => ?_)
  refine W.cs (cells' := 0) (slots' := 0) rfl rfl ?_
  have hq3 : r1 = (-1) := hp
  subst hq3
  have hP : va_P g.1 vwCl [(h0, .inr (8, [.ref xt, .ref xr, .ref xp, .ref xs, .ref xm, .ref xh, .ref xe, .ref xf, .ref pa, .ref dr, .int 0, .int 1, .int 0, .int 0])), (xf, .inl (g.2.1.1, 6, .inl u2))] H := hP
  have hD : va_D A [(h0, .inr (8, [.ref xt, .ref xr, .ref xp, .ref xs, .ref xm, .ref xh, .ref xe, .ref xf, .ref pa, .ref dr, .int 0, .int 1, .int 0, .int 0])), (xf, .inl (g.2.1.1, 6, .inl u2))] := hD
  refine lv_pop hx hb dX8_deny_5 rfl ?_
  refine lv_iconst (v := 0) hx hb dX8_deny_6 (by decide) ?_
  exact zrz (rm := { frames := 1, cells := 0, slots := 0, locals := 21 }) (v := 0) u2 hx hb hr hlocks (rfl) (Nat.le_of_ble_eq_true rfl) (Nat.le_of_ble_eq_true rfl) (rfl) hP hD hS dX8_deny_7
set_option maxHeartbeats 4000000 in
set_option maxRecDepth 100000 in
theorem kX8_refuse3 (l : Launch) (g : zL) (h0 : Nat) (xt : Nat) (xr : Nat) (xp : Nat) (xs : Nat) (xm : Nat) (xh : Nat) (xe : Nat) (xf : Nat) (pa : Nat) (dr : Nat) (f : Nat → Int32) : zCi l g yX8_refuse cX8_refuse 2 (some .int) { frames := 0, cells := 0, slots := 0, locals := 0 } [.ref h0, .int 3] [(h0, .inr (8, [.ref xt, .ref xr, .ref xp, .ref xs, .ref xm, .ref xh, .ref xe, .ref xf, .ref pa, .ref dr, .int 0, .int 1, .int 0, .int 0])), (xf, .inl (g.2.1.1, 6, .inl f))] (fun (r : Int32) (u : (Nat → Int32)) => r = (-1)) (fun (u : (Nat → Int32)) => [(h0, .inr (8, [.ref xt, .ref xr, .ref xp, .ref xs, .ref xm, .ref xh, .ref xe, .ref xf, .ref pa, .ref dr, .int 0, .int 1, .int 0, .int 0])), (xf, .inl (g.2.1.1, 6, .inl u))]) := by
  refine zCi.mk (by decide) (Nat.le_of_ble_eq_true rfl) ?_
  intro p e s m below meth c A hE hP hD hS ls hl
  obtain ⟨hx, hb, hr, hml, hown, hG, hlocks, hnm, hX, hA⟩ := hE
  have hown : s.vm.findClass RX8 = some m.cls := hown
  have hl : lv_has ls 2 [(0, .ref h0), (1, .int 3)] := hl
  refine lv_iload_n hx hb dX8_refuse_0 rfl (lv_at hl 1 rfl) ?_
  refine lv_if_lt (tgt := 20) hx hb dX8_refuse_1 (by decide) (fun c1 => absurd c1 (by decide)) (fun c1 => ?_)
  refine lv_iload_n hx hb dX8_refuse_4 rfl (lv_at hl 1 rfl) ?_
  refine lv_bipush (v := 6) hx hb dX8_refuse_5 (by decide) ?_
  refine lv_icmp_ge (tgt := 20) hx hb dX8_refuse_7 (by decide) (fun c7 => absurd c7 (by decide)) (fun c7 => ?_)
  refine lv_aload_n hx hb dX8_refuse_10 rfl (lv_at hl 0 rfl) ?_
  refine va_get (D := g.1) (ci := 8) (v := .ref xf) (C := RX8) (T := TX8) (N := 14) hx hb hG iX8 hown hX.1 hP 0 rfl rfl 7 (by decide) (hG _ g514) (fun _ h9 => h9) rfl dX8_refuse_11 ?_
  refine lv_iload_n hx hb dX8_refuse_14 rfl (lv_at hl 1 rfl) ?_
  refine lv_dup2_11 hx hb dX8_refuse_15 rfl rfl ?_
  refine va_iald hx hb hX.1 hP 1 0 rfl rfl (vp_in_iff.mpr (by decide)) dX8_refuse_16 ?_
  refine lv_iconst (v := 1) hx hb dX8_refuse_17 (by decide) ?_
  refine lv_iadd hx hb dX8_refuse_18 ?_
  refine va_iast hx hb hX.1 hP hD hS 1 0 rfl rfl (vp_in_iff.mpr (by decide)) dX8_refuse_19 (fun H locs hP hD hS => ?_)
  have hP : va_P g.1 vwCl [(h0, .inr (8, [.ref xt, .ref xr, .ref xp, .ref xs, .ref xm, .ref xh, .ref xe, .ref xf, .ref pa, .ref dr, .int 0, .int 1, .int 0, .int 0])), (xf, .inl (g.2.1.1, 6, .inl (upd f (3 : Int32).toNatClampNeg ((f (3 : Int32).toNatClampNeg) + 1))))] H := hP
  have hD : va_D A [(h0, .inr (8, [.ref xt, .ref xr, .ref xp, .ref xs, .ref xm, .ref xh, .ref xe, .ref xf, .ref pa, .ref dr, .int 0, .int 1, .int 0, .int 0])), (xf, .inl (g.2.1.1, 6, .inl (upd f (3 : Int32).toNatClampNeg ((f (3 : Int32).toNatClampNeg) + 1))))] := hD
  refine lv_iconst (v := (-1)) hx hb dX8_refuse_20 (by decide) ?_
  exact zri (rm := { frames := 0, cells := 0, slots := 0, locals := 0 }) (v := (-1)) (upd f (3 : Int32).toNatClampNeg ((f (3 : Int32).toNatClampNeg) + 1)) hx hb hr hlocks (Nat.le_of_ble_eq_true rfl) (Nat.le_of_ble_eq_true rfl) (rfl) hP hD hS dX8_refuse_21
set_option maxHeartbeats 4000000 in
set_option maxRecDepth 100000 in
theorem kX8_deny3 (l : Launch) (g : zL) (h0 : Nat) (xt : Nat) (xr : Nat) (xp : Nat) (xs : Nat) (xm : Nat) (xh : Nat) (xe : Nat) (xf : Nat) (pa : Nat) (dr : Nat) (f : Nat → Int32) : zCi l g yX8_deny cX8_deny 2 (some .boolean) { frames := 1, cells := 0, slots := 0, locals := 21 } [.ref h0, .int 3] [(h0, .inr (8, [.ref xt, .ref xr, .ref xp, .ref xs, .ref xm, .ref xh, .ref xe, .ref xf, .ref pa, .ref dr, .int 0, .int 1, .int 0, .int 0])), (xf, .inl (g.2.1.1, 6, .inl f))] (fun (r : Int32) (u : (Nat → Int32)) => r = 0) (fun (u : (Nat → Int32)) => [(h0, .inr (8, [.ref xt, .ref xr, .ref xp, .ref xs, .ref xm, .ref xh, .ref xe, .ref xf, .ref pa, .ref dr, .int 0, .int 1, .int 0, .int 0])), (xf, .inl (g.2.1.1, 6, .inl u))]) := by
  refine zCi.mk (by decide) (Nat.le_of_ble_eq_true rfl) ?_
  intro p e s m below meth c A hE hP hD hS ls hl
  obtain ⟨hx, hb, hr, hml, hown, hG, hlocks, hnm, hX, hA⟩ := hE
  have hown : s.vm.findClass RX8 = some m.cls := hown
  have hl : lv_has ls 2 [(0, .ref h0), (1, .int 3)] := hl
  refine lv_aload_n hx hb dX8_deny_0 rfl (lv_at hl 0 rfl) ?_
  refine lv_iload_n hx hb dX8_deny_1 rfl (lv_at hl 1 rfl) ?_
  refine zfi (wr := []) (va_runV (As := [.int 3]) (rest := []) ⟨hx, hb, hml, hown, hG⟩ (kX8_refuse3 l g h0 xt xr xp xs xm xh xe xf pa dr f _) ⟨callB_of 1 hG (zGood g561) rfl rfl rfl (hG _ g202) (hG _ g558) hX8_refuse ⟨Nat.le_of_ble_eq_true rfl, Nat.le_of_ble_eq_true rfl⟩, hG _ g560, hG _ g1⟩ (zpreV (va_recv hX.1 hP (ci := 8) (q0 := 0) rfl rfl) hX hP hD hS hA [0, 1] rfl (by decide)) rfl rfl hl.1 rfl (lv_room (Nat.le_of_ble_eq_true rfl)) dX8_deny_2 ⟨Nat.le_of_ble_eq_true rfl, Nat.le_of_ble_eq_true rfl⟩) hP hD hS hA [0, 1] [] rfl rfl (by decide) (by decide) (fun r1 u2 H locs hp hP hD hS => ?_)
  refine W.cs (cells' := 0) (slots' := 0) rfl rfl ?_
  have hq3 : r1 = (-1) := hp
  subst hq3
  have hP : va_P g.1 vwCl [(h0, .inr (8, [.ref xt, .ref xr, .ref xp, .ref xs, .ref xm, .ref xh, .ref xe, .ref xf, .ref pa, .ref dr, .int 0, .int 1, .int 0, .int 0])), (xf, .inl (g.2.1.1, 6, .inl u2))] H := hP
  have hD : va_D A [(h0, .inr (8, [.ref xt, .ref xr, .ref xp, .ref xs, .ref xm, .ref xh, .ref xe, .ref xf, .ref pa, .ref dr, .int 0, .int 1, .int 0, .int 0])), (xf, .inl (g.2.1.1, 6, .inl u2))] := hD
  refine lv_pop hx hb dX8_deny_5 rfl ?_
  refine lv_iconst (v := 0) hx hb dX8_deny_6 (by decide) ?_
  exact zrz (rm := { frames := 1, cells := 0, slots := 0, locals := 21 }) (v := 0) u2 hx hb hr hlocks (rfl) (Nat.le_of_ble_eq_true rfl) (Nat.le_of_ble_eq_true rfl) (rfl) hP hD hS dX8_deny_7
set_option maxHeartbeats 4000000 in
set_option maxRecDepth 100000 in
theorem kX8_refuse4 (l : Launch) (g : zL) (h0 : Nat) (xt : Nat) (xr : Nat) (xp : Nat) (xs : Nat) (xm : Nat) (xh : Nat) (xe : Nat) (xf : Nat) (pa : Nat) (dr : Nat) (f : Nat → Int32) : zCi l g yX8_refuse cX8_refuse 2 (some .int) { frames := 0, cells := 0, slots := 0, locals := 0 } [.ref h0, .int 4] [(h0, .inr (8, [.ref xt, .ref xr, .ref xp, .ref xs, .ref xm, .ref xh, .ref xe, .ref xf, .ref pa, .ref dr, .int 0, .int 1, .int 0, .int 0])), (xf, .inl (g.2.1.1, 6, .inl f))] (fun (r : Int32) (u : (Nat → Int32)) => r = (-1)) (fun (u : (Nat → Int32)) => [(h0, .inr (8, [.ref xt, .ref xr, .ref xp, .ref xs, .ref xm, .ref xh, .ref xe, .ref xf, .ref pa, .ref dr, .int 0, .int 1, .int 0, .int 0])), (xf, .inl (g.2.1.1, 6, .inl u))]) := by
  refine zCi.mk (by decide) (Nat.le_of_ble_eq_true rfl) ?_
  intro p e s m below meth c A hE hP hD hS ls hl
  obtain ⟨hx, hb, hr, hml, hown, hG, hlocks, hnm, hX, hA⟩ := hE
  have hown : s.vm.findClass RX8 = some m.cls := hown
  have hl : lv_has ls 2 [(0, .ref h0), (1, .int 4)] := hl
  refine lv_iload_n hx hb dX8_refuse_0 rfl (lv_at hl 1 rfl) ?_
  refine lv_if_lt (tgt := 20) hx hb dX8_refuse_1 (by decide) (fun c1 => absurd c1 (by decide)) (fun c1 => ?_)
  refine lv_iload_n hx hb dX8_refuse_4 rfl (lv_at hl 1 rfl) ?_
  refine lv_bipush (v := 6) hx hb dX8_refuse_5 (by decide) ?_
  refine lv_icmp_ge (tgt := 20) hx hb dX8_refuse_7 (by decide) (fun c7 => absurd c7 (by decide)) (fun c7 => ?_)
  refine lv_aload_n hx hb dX8_refuse_10 rfl (lv_at hl 0 rfl) ?_
  refine va_get (D := g.1) (ci := 8) (v := .ref xf) (C := RX8) (T := TX8) (N := 14) hx hb hG iX8 hown hX.1 hP 0 rfl rfl 7 (by decide) (hG _ g514) (fun _ h9 => h9) rfl dX8_refuse_11 ?_
  refine lv_iload_n hx hb dX8_refuse_14 rfl (lv_at hl 1 rfl) ?_
  refine lv_dup2_11 hx hb dX8_refuse_15 rfl rfl ?_
  refine va_iald hx hb hX.1 hP 1 0 rfl rfl (vp_in_iff.mpr (by decide)) dX8_refuse_16 ?_
  refine lv_iconst (v := 1) hx hb dX8_refuse_17 (by decide) ?_
  refine lv_iadd hx hb dX8_refuse_18 ?_
  refine va_iast hx hb hX.1 hP hD hS 1 0 rfl rfl (vp_in_iff.mpr (by decide)) dX8_refuse_19 (fun H locs hP hD hS => ?_)
  have hP : va_P g.1 vwCl [(h0, .inr (8, [.ref xt, .ref xr, .ref xp, .ref xs, .ref xm, .ref xh, .ref xe, .ref xf, .ref pa, .ref dr, .int 0, .int 1, .int 0, .int 0])), (xf, .inl (g.2.1.1, 6, .inl (upd f (4 : Int32).toNatClampNeg ((f (4 : Int32).toNatClampNeg) + 1))))] H := hP
  have hD : va_D A [(h0, .inr (8, [.ref xt, .ref xr, .ref xp, .ref xs, .ref xm, .ref xh, .ref xe, .ref xf, .ref pa, .ref dr, .int 0, .int 1, .int 0, .int 0])), (xf, .inl (g.2.1.1, 6, .inl (upd f (4 : Int32).toNatClampNeg ((f (4 : Int32).toNatClampNeg) + 1))))] := hD
  refine lv_iconst (v := (-1)) hx hb dX8_refuse_20 (by decide) ?_
  exact zri (rm := { frames := 0, cells := 0, slots := 0, locals := 0 }) (v := (-1)) (upd f (4 : Int32).toNatClampNeg ((f (4 : Int32).toNatClampNeg) + 1)) hx hb hr hlocks (Nat.le_of_ble_eq_true rfl) (Nat.le_of_ble_eq_true rfl) (rfl) hP hD hS dX8_refuse_21
set_option maxHeartbeats 4000000 in
set_option maxRecDepth 100000 in
theorem kX8_deny4 (l : Launch) (g : zL) (h0 : Nat) (xt : Nat) (xr : Nat) (xp : Nat) (xs : Nat) (xm : Nat) (xh : Nat) (xe : Nat) (xf : Nat) (pa : Nat) (dr : Nat) (f : Nat → Int32) : zCi l g yX8_deny cX8_deny 2 (some .boolean) { frames := 1, cells := 0, slots := 0, locals := 21 } [.ref h0, .int 4] [(h0, .inr (8, [.ref xt, .ref xr, .ref xp, .ref xs, .ref xm, .ref xh, .ref xe, .ref xf, .ref pa, .ref dr, .int 0, .int 1, .int 0, .int 0])), (xf, .inl (g.2.1.1, 6, .inl f))] (fun (r : Int32) (u : (Nat → Int32)) => r = 0) (fun (u : (Nat → Int32)) => [(h0, .inr (8, [.ref xt, .ref xr, .ref xp, .ref xs, .ref xm, .ref xh, .ref xe, .ref xf, .ref pa, .ref dr, .int 0, .int 1, .int 0, .int 0])), (xf, .inl (g.2.1.1, 6, .inl u))]) := by
  refine zCi.mk (by decide) (Nat.le_of_ble_eq_true rfl) ?_
  intro p e s m below meth c A hE hP hD hS ls hl
  obtain ⟨hx, hb, hr, hml, hown, hG, hlocks, hnm, hX, hA⟩ := hE
  have hown : s.vm.findClass RX8 = some m.cls := hown
  have hl : lv_has ls 2 [(0, .ref h0), (1, .int 4)] := hl
  refine lv_aload_n hx hb dX8_deny_0 rfl (lv_at hl 0 rfl) ?_
  refine lv_iload_n hx hb dX8_deny_1 rfl (lv_at hl 1 rfl) ?_
  refine zfi (wr := []) (va_runV (As := [.int 4]) (rest := []) ⟨hx, hb, hml, hown, hG⟩ (kX8_refuse4 l g h0 xt xr xp xs xm xh xe xf pa dr f _) ⟨callB_of 1 hG (zGood g561) rfl rfl rfl (hG _ g202) (hG _ g558) hX8_refuse ⟨Nat.le_of_ble_eq_true rfl, Nat.le_of_ble_eq_true rfl⟩, hG _ g560, hG _ g1⟩ (zpreV (va_recv hX.1 hP (ci := 8) (q0 := 0) rfl rfl) hX hP hD hS hA [0, 1] rfl (by decide)) rfl rfl hl.1 rfl (lv_room (Nat.le_of_ble_eq_true rfl)) dX8_deny_2 ⟨Nat.le_of_ble_eq_true rfl, Nat.le_of_ble_eq_true rfl⟩) hP hD hS hA [0, 1] [] rfl rfl (by decide) (by decide) (fun r1 u2 H locs hp hP hD hS => ?_)
  refine W.cs (cells' := 0) (slots' := 0) rfl rfl ?_
  have hq3 : r1 = (-1) := hp
  subst hq3
  have hP : va_P g.1 vwCl [(h0, .inr (8, [.ref xt, .ref xr, .ref xp, .ref xs, .ref xm, .ref xh, .ref xe, .ref xf, .ref pa, .ref dr, .int 0, .int 1, .int 0, .int 0])), (xf, .inl (g.2.1.1, 6, .inl u2))] H := hP
  have hD : va_D A [(h0, .inr (8, [.ref xt, .ref xr, .ref xp, .ref xs, .ref xm, .ref xh, .ref xe, .ref xf, .ref pa, .ref dr, .int 0, .int 1, .int 0, .int 0])), (xf, .inl (g.2.1.1, 6, .inl u2))] := hD
  refine lv_pop hx hb dX8_deny_5 rfl ?_
  refine lv_iconst (v := 0) hx hb dX8_deny_6 (by decide) ?_
  exact zrz (rm := { frames := 1, cells := 0, slots := 0, locals := 21 }) (v := 0) u2 hx hb hr hlocks (rfl) (Nat.le_of_ble_eq_true rfl) (Nat.le_of_ble_eq_true rfl) (rfl) hP hD hS dX8_deny_7
set_option maxHeartbeats 4000000 in
set_option maxRecDepth 100000 in
theorem kX8_refuse5 (l : Launch) (g : zL) (h0 : Nat) (xt : Nat) (xr : Nat) (xp : Nat) (xs : Nat) (xm : Nat) (xh : Nat) (xe : Nat) (xf : Nat) (pa : Nat) (dr : Nat) (f : Nat → Int32) : zCi l g yX8_refuse cX8_refuse 2 (some .int) { frames := 0, cells := 0, slots := 0, locals := 0 } [.ref h0, .int 5] [(h0, .inr (8, [.ref xt, .ref xr, .ref xp, .ref xs, .ref xm, .ref xh, .ref xe, .ref xf, .ref pa, .ref dr, .int 0, .int 1, .int 0, .int 0])), (xf, .inl (g.2.1.1, 6, .inl f))] (fun (r : Int32) (u : (Nat → Int32)) => r = (-1)) (fun (u : (Nat → Int32)) => [(h0, .inr (8, [.ref xt, .ref xr, .ref xp, .ref xs, .ref xm, .ref xh, .ref xe, .ref xf, .ref pa, .ref dr, .int 0, .int 1, .int 0, .int 0])), (xf, .inl (g.2.1.1, 6, .inl u))]) := by
  refine zCi.mk (by decide) (Nat.le_of_ble_eq_true rfl) ?_
  intro p e s m below meth c A hE hP hD hS ls hl
  obtain ⟨hx, hb, hr, hml, hown, hG, hlocks, hnm, hX, hA⟩ := hE
  have hown : s.vm.findClass RX8 = some m.cls := hown
  have hl : lv_has ls 2 [(0, .ref h0), (1, .int 5)] := hl
  refine lv_iload_n hx hb dX8_refuse_0 rfl (lv_at hl 1 rfl) ?_
  refine lv_if_lt (tgt := 20) hx hb dX8_refuse_1 (by decide) (fun c1 => absurd c1 (by decide)) (fun c1 => ?_)
  refine lv_iload_n hx hb dX8_refuse_4 rfl (lv_at hl 1 rfl) ?_
  refine lv_bipush (v := 6) hx hb dX8_refuse_5 (by decide) ?_
  refine lv_icmp_ge (tgt := 20) hx hb dX8_refuse_7 (by decide) (fun c7 => absurd c7 (by decide)) (fun c7 => ?_)
  refine lv_aload_n hx hb dX8_refuse_10 rfl (lv_at hl 0 rfl) ?_
  refine va_get (D := g.1) (ci := 8) (v := .ref xf) (C := RX8) (T := TX8) (N := 14) hx hb hG iX8 hown hX.1 hP 0 rfl rfl 7 (by decide) (hG _ g514) (fun _ h9 => h9) rfl dX8_refuse_11 ?_
  refine lv_iload_n hx hb dX8_refuse_14 rfl (lv_at hl 1 rfl) ?_
  refine lv_dup2_11 hx hb dX8_refuse_15 rfl rfl ?_
  refine va_iald hx hb hX.1 hP 1 0 rfl rfl (vp_in_iff.mpr (by decide)) dX8_refuse_16 ?_
  refine lv_iconst (v := 1) hx hb dX8_refuse_17 (by decide) ?_
  refine lv_iadd hx hb dX8_refuse_18 ?_
  refine va_iast hx hb hX.1 hP hD hS 1 0 rfl rfl (vp_in_iff.mpr (by decide)) dX8_refuse_19 (fun H locs hP hD hS => ?_)
  have hP : va_P g.1 vwCl [(h0, .inr (8, [.ref xt, .ref xr, .ref xp, .ref xs, .ref xm, .ref xh, .ref xe, .ref xf, .ref pa, .ref dr, .int 0, .int 1, .int 0, .int 0])), (xf, .inl (g.2.1.1, 6, .inl (upd f (5 : Int32).toNatClampNeg ((f (5 : Int32).toNatClampNeg) + 1))))] H := hP
  have hD : va_D A [(h0, .inr (8, [.ref xt, .ref xr, .ref xp, .ref xs, .ref xm, .ref xh, .ref xe, .ref xf, .ref pa, .ref dr, .int 0, .int 1, .int 0, .int 0])), (xf, .inl (g.2.1.1, 6, .inl (upd f (5 : Int32).toNatClampNeg ((f (5 : Int32).toNatClampNeg) + 1))))] := hD
  refine lv_iconst (v := (-1)) hx hb dX8_refuse_20 (by decide) ?_
  exact zri (rm := { frames := 0, cells := 0, slots := 0, locals := 0 }) (v := (-1)) (upd f (5 : Int32).toNatClampNeg ((f (5 : Int32).toNatClampNeg) + 1)) hx hb hr hlocks (Nat.le_of_ble_eq_true rfl) (Nat.le_of_ble_eq_true rfl) (rfl) hP hD hS dX8_refuse_21
set_option maxHeartbeats 4000000 in
set_option maxRecDepth 100000 in
theorem kX8_deny5 (l : Launch) (g : zL) (h0 : Nat) (xt : Nat) (xr : Nat) (xp : Nat) (xs : Nat) (xm : Nat) (xh : Nat) (xe : Nat) (xf : Nat) (pa : Nat) (dr : Nat) (f : Nat → Int32) : zCi l g yX8_deny cX8_deny 2 (some .boolean) { frames := 1, cells := 0, slots := 0, locals := 21 } [.ref h0, .int 5] [(h0, .inr (8, [.ref xt, .ref xr, .ref xp, .ref xs, .ref xm, .ref xh, .ref xe, .ref xf, .ref pa, .ref dr, .int 0, .int 1, .int 0, .int 0])), (xf, .inl (g.2.1.1, 6, .inl f))] (fun (r : Int32) (u : (Nat → Int32)) => r = 0) (fun (u : (Nat → Int32)) => [(h0, .inr (8, [.ref xt, .ref xr, .ref xp, .ref xs, .ref xm, .ref xh, .ref xe, .ref xf, .ref pa, .ref dr, .int 0, .int 1, .int 0, .int 0])), (xf, .inl (g.2.1.1, 6, .inl u))]) := by
  refine zCi.mk (by decide) (Nat.le_of_ble_eq_true rfl) ?_
  intro p e s m below meth c A hE hP hD hS ls hl
  obtain ⟨hx, hb, hr, hml, hown, hG, hlocks, hnm, hX, hA⟩ := hE
  have hown : s.vm.findClass RX8 = some m.cls := hown
  have hl : lv_has ls 2 [(0, .ref h0), (1, .int 5)] := hl
  refine lv_aload_n hx hb dX8_deny_0 rfl (lv_at hl 0 rfl) ?_
  refine lv_iload_n hx hb dX8_deny_1 rfl (lv_at hl 1 rfl) ?_
  refine zfi (wr := []) (va_runV (As := [.int 5]) (rest := []) ⟨hx, hb, hml, hown, hG⟩ (kX8_refuse5 l g h0 xt xr xp xs xm xh xe xf pa dr f _) ⟨callB_of 1 hG (zGood g561) rfl rfl rfl (hG _ g202) (hG _ g558) hX8_refuse ⟨Nat.le_of_ble_eq_true rfl, Nat.le_of_ble_eq_true rfl⟩, hG _ g560, hG _ g1⟩ (zpreV (va_recv hX.1 hP (ci := 8) (q0 := 0) rfl rfl) hX hP hD hS hA [0, 1] rfl (by decide)) rfl rfl hl.1 rfl (lv_room (Nat.le_of_ble_eq_true rfl)) dX8_deny_2 ⟨Nat.le_of_ble_eq_true rfl, Nat.le_of_ble_eq_true rfl⟩) hP hD hS hA [0, 1] [] rfl rfl (by decide) (by decide) (fun r1 u2 H locs hp hP hD hS => ?_)
  refine W.cs (cells' := 0) (slots' := 0) rfl rfl ?_
  have hq3 : r1 = (-1) := hp
  subst hq3
  have hP : va_P g.1 vwCl [(h0, .inr (8, [.ref xt, .ref xr, .ref xp, .ref xs, .ref xm, .ref xh, .ref xe, .ref xf, .ref pa, .ref dr, .int 0, .int 1, .int 0, .int 0])), (xf, .inl (g.2.1.1, 6, .inl u2))] H := hP
  have hD : va_D A [(h0, .inr (8, [.ref xt, .ref xr, .ref xp, .ref xs, .ref xm, .ref xh, .ref xe, .ref xf, .ref pa, .ref dr, .int 0, .int 1, .int 0, .int 0])), (xf, .inl (g.2.1.1, 6, .inl u2))] := hD
  refine lv_pop hx hb dX8_deny_5 rfl ?_
  refine lv_iconst (v := 0) hx hb dX8_deny_6 (by decide) ?_
  exact zrz (rm := { frames := 1, cells := 0, slots := 0, locals := 21 }) (v := 0) u2 hx hb hr hlocks (rfl) (Nat.le_of_ble_eq_true rfl) (Nat.le_of_ble_eq_true rfl) (rfl) hP hD hS dX8_deny_7
theorem dX8_isUnmade_0 : decode cX8_isUnmade 0 = .ok (.aload_n 0, 1) := by decide +kernel
theorem dX8_isUnmade_1 : decode cX8_isUnmade 1 = .ok (.getfield 67, 3) := by decide +kernel
theorem dX8_isUnmade_4 : decode cX8_isUnmade 4 = .ok (.iload_n 1, 1) := by decide +kernel
theorem dX8_isUnmade_5 : decode cX8_isUnmade 5 = .ok (.invokevirtual 143, 3) := by decide +kernel
theorem dX8_isUnmade_8 : decode cX8_isUnmade 8 = .ok (.ifCond .eq 18, 3) := by decide +kernel
theorem dX8_isUnmade_26 : decode cX8_isUnmade 26 = .ok (.iconst 0, 1) := by decide +kernel
theorem dX8_isUnmade_27 : decode cX8_isUnmade 27 = .ok (.ireturn, 1) := by decide +kernel
set_option maxHeartbeats 4000000 in
set_option maxRecDepth 100000 in
theorem kX8_isUnmade (l : Launch) (g : zL) (h0 : Nat) (x : Int32) (xt : Nat) (xr : Nat) (xp : Nat) (xs : Nat) (xm : Nat) (xh : Nat) (xe : Nat) (xf : Nat) (pa : Nat) (dr : Nat) (p_toolWidth : Nat) (p_told : Nat) (p_name : Nat) (p_parent : Nat) (p_side : Nat) (p_from : Nat) (p_width : Nat) (p_height : Nat) (p_radius : Nat) (p_toolSet : Nat) : zCi l g yX8_isUnmade cX8_isUnmade 2 (some .boolean) { frames := 1, cells := 0, slots := 0, locals := 21 } [.ref h0, .int x] [(h0, .inr (8, [.ref xt, .ref xr, .ref xp, .ref xs, .ref xm, .ref xh, .ref xe, .ref xf, .ref pa, .ref dr, .int 0, .int 1, .int 0, .int 0])), (pa, .inr (4, [.int 0, .int 0, .int 0, .int 0, .int 0, .int 0, .ref p_toolWidth, .ref p_told, .ref p_name, .ref p_parent, .ref p_side, .ref p_from, .ref p_width, .ref p_height, .ref p_radius, .ref p_toolSet]))] (fun (r : Int32) (u : Unit) => r = 0) (fun (u : Unit) => [(h0, .inr (8, [.ref xt, .ref xr, .ref xp, .ref xs, .ref xm, .ref xh, .ref xe, .ref xf, .ref pa, .ref dr, .int 0, .int 1, .int 0, .int 0])), (pa, .inr (4, [.int 0, .int 0, .int 0, .int 0, .int 0, .int 0, .ref p_toolWidth, .ref p_told, .ref p_name, .ref p_parent, .ref p_side, .ref p_from, .ref p_width, .ref p_height, .ref p_radius, .ref p_toolSet]))]) := by
  refine zCi.mk (by decide) (Nat.le_of_ble_eq_true rfl) ?_
  intro p e s m below meth c A hE hP hD hS ls hl
  obtain ⟨hx, hb, hr, hml, hown, hG, hlocks, hnm, hX, hA⟩ := hE
  have hown : s.vm.findClass RX8 = some m.cls := hown
  have hl : lv_has ls 2 [(0, .ref h0), (1, .int x)] := hl
  refine lv_aload_n hx hb dX8_isUnmade_0 rfl (lv_at hl 0 rfl) ?_
  refine va_get (D := g.1) (ci := 8) (v := .ref pa) (C := RX8) (T := TX8) (N := 14) hx hb hG iX8 hown hX.1 hP 0 rfl rfl 8 (by decide) (hG _ g515) (fun _ h9 => h9) rfl dX8_isUnmade_1 ?_
  refine lv_iload_n hx hb dX8_isUnmade_4 rfl (lv_at hl 1 rfl) ?_
  refine zfi (wr := [(h0, .inr (8, [.ref xt, .ref xr, .ref xp, .ref xs, .ref xm, .ref xh, .ref xe, .ref xf, .ref pa, .ref dr, .int 0, .int 1, .int 0, .int 0]))]) (va_runVN (As := [.int x]) (rest := []) ⟨hx, hb, hml, hown, hG⟩ (kX4_isBend l g pa x p_toolWidth p_told p_name p_parent p_side p_from p_width p_height p_radius p_toolSet _) ⟨va_cnB 1 hG (zGood g821) rfl rfl rfl (hX.2.1.ml g818) (hG _ g210) hX4_isBend ⟨Nat.le_of_ble_eq_true rfl, Nat.le_of_ble_eq_true rfl⟩, hG _ g820, hG _ g38⟩ (zpreV (va_recv hX.1 hP (ci := 4) (q0 := 1) rfl rfl) hX hP hD hS hA [1] rfl (by decide)) rfl rfl hl.1 rfl (lv_room (Nat.le_of_ble_eq_true rfl)) dX8_isUnmade_5 ⟨Nat.le_of_ble_eq_true rfl, Nat.le_of_ble_eq_true rfl⟩) hP hD hS hA [1] [0] rfl rfl (by decide) (by decide) (fun r1 _ H locs hp hP hD hS => ?_)
  refine W.cs (cells' := 0) (slots' := 0) rfl rfl ?_
  have hq2 : r1 = 0 := hp
  subst hq2
  have hP : va_P g.1 vwCl [(h0, .inr (8, [.ref xt, .ref xr, .ref xp, .ref xs, .ref xm, .ref xh, .ref xe, .ref xf, .ref pa, .ref dr, .int 0, .int 1, .int 0, .int 0])), (pa, .inr (4, [.int 0, .int 0, .int 0, .int 0, .int 0, .int 0, .ref p_toolWidth, .ref p_told, .ref p_name, .ref p_parent, .ref p_side, .ref p_from, .ref p_width, .ref p_height, .ref p_radius, .ref p_toolSet]))] H := hP
  have hD : va_D A [(h0, .inr (8, [.ref xt, .ref xr, .ref xp, .ref xs, .ref xm, .ref xh, .ref xe, .ref xf, .ref pa, .ref dr, .int 0, .int 1, .int 0, .int 0])), (pa, .inr (4, [.int 0, .int 0, .int 0, .int 0, .int 0, .int 0, .ref p_toolWidth, .ref p_told, .ref p_name, .ref p_parent, .ref p_side, .ref p_from, .ref p_width, .ref p_height, .ref p_radius, .ref p_toolSet]))] := hD
  refine lv_if_eq (tgt := 26) hx hb dX8_isUnmade_8 (by decide) (fun c8 => ?_) (fun c8 => (c8 (by decide)).elim)
  refine lv_iconst (v := 0) hx hb dX8_isUnmade_26 (by decide) ?_
  exact zrz (rm := { frames := 1, cells := 0, slots := 0, locals := 21 }) (v := 0) () hx hb hr hlocks (rfl) (Nat.le_of_ble_eq_true rfl) (Nat.le_of_ble_eq_true rfl) (rfl) hP hD hS dX8_isUnmade_27
theorem dX8_searchOrders_0 : decode cX8_searchOrders 0 = .ok (.aload_n 0, 1) := by decide +kernel
theorem dX8_searchOrders_1 : decode cX8_searchOrders 1 = .ok (.getfield 67, 3) := by decide +kernel
theorem dX8_searchOrders_4 : decode cX8_searchOrders 4 = .ok (.invokevirtual 183, 3) := by decide +kernel
theorem dX8_searchOrders_7 : decode cX8_searchOrders 7 = .ok (.ifCond .ne 5, 3) := by decide +kernel
theorem dX8_searchOrders_10 : decode cX8_searchOrders 10 = .ok (.iconst 0, 1) := by decide +kernel
theorem dX8_searchOrders_11 : decode cX8_searchOrders 11 = .ok (.ireturn, 1) := by decide +kernel
set_option maxHeartbeats 4000000 in
set_option maxRecDepth 100000 in
theorem kX8_searchOrders (l : Launch) (g : zL) (h0 : Nat) (xt : Nat) (xr : Nat) (xp : Nat) (xs : Nat) (xm : Nat) (xh : Nat) (xe : Nat) (xf : Nat) (pa : Nat) (dr : Nat) (p_toolWidth : Nat) (p_told : Nat) (p_name : Nat) (p_parent : Nat) (p_side : Nat) (p_from : Nat) (p_width : Nat) (p_height : Nat) (p_radius : Nat) (p_toolSet : Nat) : zCi l g yX8_searchOrders cX8_searchOrders 1 (some .boolean) { frames := 1, cells := 0, slots := 0, locals := 20 } [.ref h0] [(h0, .inr (8, [.ref xt, .ref xr, .ref xp, .ref xs, .ref xm, .ref xh, .ref xe, .ref xf, .ref pa, .ref dr, .int 0, .int 1, .int 0, .int 0])), (pa, .inr (4, [.int 0, .int 0, .int 0, .int 0, .int 0, .int 0, .ref p_toolWidth, .ref p_told, .ref p_name, .ref p_parent, .ref p_side, .ref p_from, .ref p_width, .ref p_height, .ref p_radius, .ref p_toolSet]))] (fun (r : Int32) (u : Unit) => r = 0) (fun (u : Unit) => [(h0, .inr (8, [.ref xt, .ref xr, .ref xp, .ref xs, .ref xm, .ref xh, .ref xe, .ref xf, .ref pa, .ref dr, .int 0, .int 1, .int 0, .int 0])), (pa, .inr (4, [.int 0, .int 0, .int 0, .int 0, .int 0, .int 0, .ref p_toolWidth, .ref p_told, .ref p_name, .ref p_parent, .ref p_side, .ref p_from, .ref p_width, .ref p_height, .ref p_radius, .ref p_toolSet]))]) := by
  refine zCi.mk (by decide) (Nat.le_of_ble_eq_true rfl) ?_
  intro p e s m below meth c A hE hP hD hS ls hl
  obtain ⟨hx, hb, hr, hml, hown, hG, hlocks, hnm, hX, hA⟩ := hE
  have hown : s.vm.findClass RX8 = some m.cls := hown
  have hl : lv_has ls 1 [(0, .ref h0)] := hl
  refine lv_aload_n hx hb dX8_searchOrders_0 rfl (lv_at hl 0 rfl) ?_
  refine va_get (D := g.1) (ci := 8) (v := .ref pa) (C := RX8) (T := TX8) (N := 14) hx hb hG iX8 hown hX.1 hP 0 rfl rfl 8 (by decide) (hG _ g515) (fun _ h9 => h9) rfl dX8_searchOrders_1 ?_
  refine zfi (wr := [(h0, .inr (8, [.ref xt, .ref xr, .ref xp, .ref xs, .ref xm, .ref xh, .ref xe, .ref xf, .ref pa, .ref dr, .int 0, .int 1, .int 0, .int 0]))]) (va_runVN (As := []) (rest := []) ⟨hx, hb, hml, hown, hG⟩ (kX4_isThere l g pa p_toolWidth p_told p_name p_parent p_side p_from p_width p_height p_radius p_toolSet _) ⟨va_cnB 0 hG (zGood g861) rfl rfl rfl (hX.2.1.ml g858) (hG _ g210) hX4_isThere ⟨Nat.le_of_ble_eq_true rfl, Nat.le_of_ble_eq_true rfl⟩, hG _ g860, hG _ g45⟩ (zpreV (va_recv hX.1 hP (ci := 4) (q0 := 1) rfl rfl) hX hP hD hS hA [1] rfl (by decide)) rfl rfl hl.1 rfl (lv_room (Nat.le_of_ble_eq_true rfl)) dX8_searchOrders_4 ⟨Nat.le_of_ble_eq_true rfl, Nat.le_of_ble_eq_true rfl⟩) hP hD hS hA [1] [0] rfl rfl (by decide) (by decide) (fun r1 _ H locs hp hP hD hS => ?_)
  refine W.cs (cells' := 0) (slots' := 0) rfl rfl ?_
  have hq2 : r1 = 0 := hp
  subst hq2
  have hP : va_P g.1 vwCl [(h0, .inr (8, [.ref xt, .ref xr, .ref xp, .ref xs, .ref xm, .ref xh, .ref xe, .ref xf, .ref pa, .ref dr, .int 0, .int 1, .int 0, .int 0])), (pa, .inr (4, [.int 0, .int 0, .int 0, .int 0, .int 0, .int 0, .ref p_toolWidth, .ref p_told, .ref p_name, .ref p_parent, .ref p_side, .ref p_from, .ref p_width, .ref p_height, .ref p_radius, .ref p_toolSet]))] H := hP
  have hD : va_D A [(h0, .inr (8, [.ref xt, .ref xr, .ref xp, .ref xs, .ref xm, .ref xh, .ref xe, .ref xf, .ref pa, .ref dr, .int 0, .int 1, .int 0, .int 0])), (pa, .inr (4, [.int 0, .int 0, .int 0, .int 0, .int 0, .int 0, .ref p_toolWidth, .ref p_told, .ref p_name, .ref p_parent, .ref p_side, .ref p_from, .ref p_width, .ref p_height, .ref p_radius, .ref p_toolSet]))] := hD
  refine lv_if_ne (tgt := 12) hx hb dX8_searchOrders_7 (by decide) (fun c7 => (c7 (by decide)).elim) (fun c7 => ?_)
  refine lv_iconst (v := 0) hx hb dX8_searchOrders_10 (by decide) ?_
  exact zrz (rm := { frames := 1, cells := 0, slots := 0, locals := 20 }) (v := 0) () hx hb hr hlocks (rfl) (Nat.le_of_ble_eq_true rfl) (Nat.le_of_ble_eq_true rfl) (rfl) hP hD hS dX8_searchOrders_11
theorem dX7_hasRoom_0 : decode cX7_hasRoom 0 = .ok (.aload_n 0, 1) := by decide +kernel
theorem dX7_hasRoom_1 : decode cX7_hasRoom 1 = .ok (.getfield 15, 3) := by decide +kernel
theorem dX7_hasRoom_4 : decode cX7_hasRoom 4 = .ok (.sipush 1180, 3) := by decide +kernel
theorem dX7_hasRoom_7 : decode cX7_hasRoom 7 = .ok (.if_icmp .gt 7, 3) := by decide +kernel
theorem dX7_hasRoom_10 : decode cX7_hasRoom 10 = .ok (.iconst 1, 1) := by decide +kernel
theorem dX7_hasRoom_11 : decode cX7_hasRoom 11 = .ok (.goto 4, 3) := by decide +kernel
theorem dX7_hasRoom_15 : decode cX7_hasRoom 15 = .ok (.ireturn, 1) := by decide +kernel
set_option maxHeartbeats 4000000 in
set_option maxRecDepth 100000 in
theorem kX7_hasRoom (l : Launch) (g : zL) (xt : Nat) (xb : Nat) : zCi l g yX7_hasRoom cX7_hasRoom 1 (some .boolean) { frames := 0, cells := 0, slots := 0, locals := 0 } [.ref xt] [(xt, .inr (7, [.ref xb, .int 0]))] (fun (r : Int32) (u : Unit) => r = 1) (fun (u : Unit) => [(xt, .inr (7, [.ref xb, .int 0]))]) := by
  refine zCi.mk (by decide) (Nat.le_of_ble_eq_true rfl) ?_
  intro p e s m below meth c A hE hP hD hS ls hl
  obtain ⟨hx, hb, hr, hml, hown, hG, hlocks, hnm, hX, hA⟩ := hE
  have hown : s.vm.findClass RX7 = some m.cls := hown
  have hl : lv_has ls 1 [(0, .ref xt)] := hl
  refine lv_aload_n hx hb dX7_hasRoom_0 rfl (lv_at hl 0 rfl) ?_
  refine va_get (D := g.1) (ci := 7) (v := .int 0) (C := RX7) (T := TX7) (N := 2) hx hb hG iX7 hown hX.1 hP 0 rfl rfl 1 (by decide) (hG _ g235) (fun _ h9 => h9) rfl dX7_hasRoom_1 ?_
  refine lv_sipush (v := 1180) hx hb dX7_hasRoom_4 (by decide) ?_
  refine lv_icmp_gt (tgt := 14) hx hb dX7_hasRoom_7 (by decide) (fun c7 => absurd c7 (by decide)) (fun c7 => ?_)
  refine lv_iconst (v := 1) hx hb dX7_hasRoom_10 (by decide) ?_
  refine lv_goto (tgt := 15) hx hb dX7_hasRoom_11 (by decide) ?_
  exact zrz (rm := { frames := 0, cells := 0, slots := 0, locals := 0 }) (v := 1) () hx hb hr hlocks (rfl) (Nat.le_of_ble_eq_true rfl) (Nat.le_of_ble_eq_true rfl) (rfl) hP hD hS dX7_hasRoom_15
theorem dX7_put_0 : decode cX7_put 0 = .ok (.bipush 24, 2) := by decide +kernel
theorem dX7_put_2 : decode cX7_put 2 = .ok (.istore_n 2, 1) := by decide +kernel
theorem dX7_put_3 : decode cX7_put 3 = .ok (.iload_n 2, 1) := by decide +kernel
theorem dX7_put_4 : decode cX7_put 4 = .ok (.ifCond .lt 42, 3) := by decide +kernel
theorem dX7_put_7 : decode cX7_put 7 = .ok (.aload_n 0, 1) := by decide +kernel
theorem dX7_put_8 : decode cX7_put 8 = .ok (.getfield 15, 3) := by decide +kernel
theorem dX7_put_11 : decode cX7_put 11 = .ok (.sipush 1200, 3) := by decide +kernel
theorem dX7_put_14 : decode cX7_put 14 = .ok (.if_icmp .ge 32, 3) := by decide +kernel
theorem dX7_put_17 : decode cX7_put 17 = .ok (.aload_n 0, 1) := by decide +kernel
theorem dX7_put_18 : decode cX7_put 18 = .ok (.getfield 9, 3) := by decide +kernel
theorem dX7_put_21 : decode cX7_put 21 = .ok (.aload_n 0, 1) := by decide +kernel
theorem dX7_put_22 : decode cX7_put 22 = .ok (.getfield 15, 3) := by decide +kernel
theorem dX7_put_25 : decode cX7_put 25 = .ok (.iload_n 1, 1) := by decide +kernel
theorem dX7_put_26 : decode cX7_put 26 = .ok (.iload_n 2, 1) := by decide +kernel
theorem dX7_put_27 : decode cX7_put 27 = .ok (.ishr, 1) := by decide +kernel
theorem dX7_put_28 : decode cX7_put 28 = .ok (.i2b, 1) := by decide +kernel
theorem dX7_put_29 : decode cX7_put 29 = .ok (.bastore, 1) := by decide +kernel
theorem dX7_put_30 : decode cX7_put 30 = .ok (.aload_n 0, 1) := by decide +kernel
theorem dX7_put_31 : decode cX7_put 31 = .ok (.dup, 1) := by decide +kernel
theorem dX7_put_32 : decode cX7_put 32 = .ok (.getfield 15, 3) := by decide +kernel
theorem dX7_put_35 : decode cX7_put 35 = .ok (.iconst 1, 1) := by decide +kernel
theorem dX7_put_36 : decode cX7_put 36 = .ok (.iadd, 1) := by decide +kernel
theorem dX7_put_37 : decode cX7_put 37 = .ok (.putfield 15, 3) := by decide +kernel
theorem dX7_put_40 : decode cX7_put 40 = .ok (.iinc 2 (-8), 3) := by decide +kernel
theorem dX7_put_43 : decode cX7_put 43 = .ok (.goto (-40), 3) := by decide +kernel
theorem dX7_put_46 : decode cX7_put 46 = .ok (.return_, 1) := by decide +kernel
set_option maxHeartbeats 4000000 in
set_option maxRecDepth 100000 in
theorem kX7_put0 (l : Launch) (g : zL) (xt : Nat) (x : Int32) (xb : Nat) (f : Nat → Int32) : zCv l g yX7_put cX7_put 3 none { frames := 0, cells := 0, slots := 0, locals := 0 } [.ref xt, .int x] [(xt, .inr (7, [.ref xb, .int 0])), (xb, .inl (g.2.1.2.1, 1200, .inl f))] (fun (u : (Nat → Int32)) => True) (fun (u : (Nat → Int32)) => [(xt, .inr (7, [.ref xb, .int 4])), (xb, .inl (g.2.1.2.1, 1200, .inl u))]) := by
  refine zCv.mk (by decide) (Nat.le_of_ble_eq_true rfl) ?_
  intro p e s m below meth c A hE hP hD hS ls hl
  obtain ⟨hx, hb, hr, hml, hown, hG, hlocks, hnm, hX, hA⟩ := hE
  have hown : s.vm.findClass RX7 = some m.cls := hown
  have hl : lv_has ls 3 [(0, .ref xt), (1, .int x)] := hl
  refine lv_bipush (v := 24) hx hb dX7_put_0 (by decide) ?_
  refine lv_istore_n (lv' := [(2, .int 24), (0, .ref xt), (1, .int x)]) hx hb dX7_put_2 rfl hl (by decide) rfl (fun ls hl => ?_)
  refine lv_iload_n hx hb dX7_put_3 rfl (lv_at hl 0 rfl) ?_
  refine lv_if_lt (tgt := 46) hx hb dX7_put_4 (by decide) (fun c4 => absurd c4 (by decide)) (fun c4 => ?_)
  refine lv_aload_n hx hb dX7_put_7 rfl (lv_at hl 1 rfl) ?_
  refine va_get (D := g.1) (ci := 7) (v := .int 0) (C := RX7) (T := TX7) (N := 2) hx hb hG iX7 hown hX.1 hP 0 rfl rfl 1 (by decide) (hG _ g235) (fun _ h9 => h9) rfl dX7_put_8 ?_
  refine lv_sipush (v := 1200) hx hb dX7_put_11 (by decide) ?_
  refine lv_icmp_ge (tgt := 46) hx hb dX7_put_14 (by decide) (fun c14 => absurd c14 (by decide)) (fun c14 => ?_)
  refine lv_aload_n hx hb dX7_put_17 rfl (lv_at hl 1 rfl) ?_
  refine va_get (D := g.1) (ci := 7) (v := .ref xb) (C := RX7) (T := TX7) (N := 2) hx hb hG iX7 hown hX.1 hP 0 rfl rfl 0 (by decide) (hG _ g234) (fun _ h9 => h9) rfl dX7_put_18 ?_
  refine lv_aload_n hx hb dX7_put_21 rfl (lv_at hl 1 rfl) ?_
  refine va_get (D := g.1) (ci := 7) (v := .int 0) (C := RX7) (T := TX7) (N := 2) hx hb hG iX7 hown hX.1 hP 0 rfl rfl 1 (by decide) (hG _ g235) (fun _ h9 => h9) rfl dX7_put_22 ?_
  refine lv_iload_n hx hb dX7_put_25 rfl (lv_at hl 2 rfl) ?_
  refine lv_iload_n hx hb dX7_put_26 rfl (lv_at hl 0 rfl) ?_
  refine lv_ishr hx hb dX7_put_27 ?_
  refine lv_i2b (v := (x >>> (24 &&& 31)).toInt8.toInt32) hx hb dX7_put_28 rfl ?_
  refine va_bast hx hb hX.1 hP hD hS 1 1 rfl rfl (vp_in_iff.mpr (by decide)) dX7_put_29 (fun H locs hP hD hS => ?_)
  obtain ⟨f1, ef1⟩ : ∃ z : Nat → Int32, z = upd f (0 : Int32).toNatClampNeg (vp_nar .byte ((x >>> (24 &&& 31)).toInt8.toInt32)) := ⟨_, rfl⟩
  rw [← ef1] at hP hD
  have hP : va_P g.1 vwCl [(xt, .inr (7, [.ref xb, .int 0])), (xb, .inl (g.2.1.2.1, 1200, .inl f1))] H := hP
  have hD : va_D A [(xt, .inr (7, [.ref xb, .int 0])), (xb, .inl (g.2.1.2.1, 1200, .inl f1))] := hD
  refine lv_aload_n hx hb dX7_put_30 rfl (lv_at hl 1 rfl) ?_
  refine lv_dup hx hb dX7_put_31 rfl ?_
  refine va_get (D := g.1) (ci := 7) (v := .int 0) (C := RX7) (T := TX7) (N := 2) hx hb hG iX7 hown hX.1 hP 0 rfl rfl 1 (by decide) (hG _ g235) (fun _ h9 => h9) rfl dX7_put_32 ?_
  refine lv_iconst (v := 1) hx hb dX7_put_35 (by decide) ?_
  refine lv_iadd hx hb dX7_put_36 ?_
  refine zt (z := 1) (by decide) ?_
  refine va_put (D := g.1) (ci := 7) (v := .int 1) (ty := .int) (C := RX7) (T := TX7) (N := 2) hx hb hG iX7 tyX7 tyX7_ok nmX7 hown hX.1 hP hD hS 0 rfl rfl 1 (by decide) (hG _ g235) (fun _ h9 => h9) rfl (by decide +kernel) rfl rfl (Nat.le_of_ble_eq_true rfl) dX7_put_37 (fun H locs hP hD hS => ?_)
  have hP : va_P g.1 vwCl [(xt, .inr (7, [.ref xb, .int 1])), (xb, .inl (g.2.1.2.1, 1200, .inl f1))] H := hP
  have hD : va_D A [(xt, .inr (7, [.ref xb, .int 1])), (xb, .inl (g.2.1.2.1, 1200, .inl f1))] := hD
  refine lv_iinc (v := 16) (lv' := [(2, .int 16), (0, .ref xt), (1, .int x)]) hx hb dX7_put_40 hl (k := 0) rfl (by decide) (by decide) rfl (fun ls hl => ?_)
  refine lv_goto (tgt := 3) hx hb dX7_put_43 (by decide) ?_
  refine lv_iload_n hx hb dX7_put_3 rfl (lv_at hl 0 rfl) ?_
  refine lv_if_lt (tgt := 46) hx hb dX7_put_4 (by decide) (fun c4 => absurd c4 (by decide)) (fun c4 => ?_)
  refine lv_aload_n hx hb dX7_put_7 rfl (lv_at hl 1 rfl) ?_
  refine va_get (D := g.1) (ci := 7) (v := .int 1) (C := RX7) (T := TX7) (N := 2) hx hb hG iX7 hown hX.1 hP 0 rfl rfl 1 (by decide) (hG _ g235) (fun _ h9 => h9) rfl dX7_put_8 ?_
  refine lv_sipush (v := 1200) hx hb dX7_put_11 (by decide) ?_
  refine lv_icmp_ge (tgt := 46) hx hb dX7_put_14 (by decide) (fun c14 => absurd c14 (by decide)) (fun c14 => ?_)
  refine lv_aload_n hx hb dX7_put_17 rfl (lv_at hl 1 rfl) ?_
  refine va_get (D := g.1) (ci := 7) (v := .ref xb) (C := RX7) (T := TX7) (N := 2) hx hb hG iX7 hown hX.1 hP 0 rfl rfl 0 (by decide) (hG _ g234) (fun _ h9 => h9) rfl dX7_put_18 ?_
  refine lv_aload_n hx hb dX7_put_21 rfl (lv_at hl 1 rfl) ?_
  refine va_get (D := g.1) (ci := 7) (v := .int 1) (C := RX7) (T := TX7) (N := 2) hx hb hG iX7 hown hX.1 hP 0 rfl rfl 1 (by decide) (hG _ g235) (fun _ h9 => h9) rfl dX7_put_22 ?_
  refine lv_iload_n hx hb dX7_put_25 rfl (lv_at hl 2 rfl) ?_
  refine lv_iload_n hx hb dX7_put_26 rfl (lv_at hl 0 rfl) ?_
  refine lv_ishr hx hb dX7_put_27 ?_
  refine lv_i2b (v := (x >>> (16 &&& 31)).toInt8.toInt32) hx hb dX7_put_28 rfl ?_
  refine va_bast hx hb hX.1 hP hD hS 1 1 rfl rfl (vp_in_iff.mpr (by decide)) dX7_put_29 (fun H locs hP hD hS => ?_)
  obtain ⟨f2, ef2⟩ : ∃ z : Nat → Int32, z = upd f1 (1 : Int32).toNatClampNeg (vp_nar .byte ((x >>> (16 &&& 31)).toInt8.toInt32)) := ⟨_, rfl⟩
  rw [← ef2] at hP hD
  have hP : va_P g.1 vwCl [(xt, .inr (7, [.ref xb, .int 1])), (xb, .inl (g.2.1.2.1, 1200, .inl f2))] H := hP
  have hD : va_D A [(xt, .inr (7, [.ref xb, .int 1])), (xb, .inl (g.2.1.2.1, 1200, .inl f2))] := hD
  refine lv_aload_n hx hb dX7_put_30 rfl (lv_at hl 1 rfl) ?_
  refine lv_dup hx hb dX7_put_31 rfl ?_
  refine va_get (D := g.1) (ci := 7) (v := .int 1) (C := RX7) (T := TX7) (N := 2) hx hb hG iX7 hown hX.1 hP 0 rfl rfl 1 (by decide) (hG _ g235) (fun _ h9 => h9) rfl dX7_put_32 ?_
  refine lv_iconst (v := 1) hx hb dX7_put_35 (by decide) ?_
  refine lv_iadd hx hb dX7_put_36 ?_
  refine zt (z := 2) (by decide) ?_
  refine va_put (D := g.1) (ci := 7) (v := .int 2) (ty := .int) (C := RX7) (T := TX7) (N := 2) hx hb hG iX7 tyX7 tyX7_ok nmX7 hown hX.1 hP hD hS 0 rfl rfl 1 (by decide) (hG _ g235) (fun _ h9 => h9) rfl (by decide +kernel) rfl rfl (Nat.le_of_ble_eq_true rfl) dX7_put_37 (fun H locs hP hD hS => ?_)
  have hP : va_P g.1 vwCl [(xt, .inr (7, [.ref xb, .int 2])), (xb, .inl (g.2.1.2.1, 1200, .inl f2))] H := hP
  have hD : va_D A [(xt, .inr (7, [.ref xb, .int 2])), (xb, .inl (g.2.1.2.1, 1200, .inl f2))] := hD
  refine lv_iinc (v := 8) (lv' := [(2, .int 8), (0, .ref xt), (1, .int x)]) hx hb dX7_put_40 hl (k := 0) rfl (by decide) (by decide) rfl (fun ls hl => ?_)
  refine lv_goto (tgt := 3) hx hb dX7_put_43 (by decide) ?_
  refine lv_iload_n hx hb dX7_put_3 rfl (lv_at hl 0 rfl) ?_
  refine lv_if_lt (tgt := 46) hx hb dX7_put_4 (by decide) (fun c4 => absurd c4 (by decide)) (fun c4 => ?_)
  refine lv_aload_n hx hb dX7_put_7 rfl (lv_at hl 1 rfl) ?_
  refine va_get (D := g.1) (ci := 7) (v := .int 2) (C := RX7) (T := TX7) (N := 2) hx hb hG iX7 hown hX.1 hP 0 rfl rfl 1 (by decide) (hG _ g235) (fun _ h9 => h9) rfl dX7_put_8 ?_
  refine lv_sipush (v := 1200) hx hb dX7_put_11 (by decide) ?_
  refine lv_icmp_ge (tgt := 46) hx hb dX7_put_14 (by decide) (fun c14 => absurd c14 (by decide)) (fun c14 => ?_)
  refine lv_aload_n hx hb dX7_put_17 rfl (lv_at hl 1 rfl) ?_
  refine va_get (D := g.1) (ci := 7) (v := .ref xb) (C := RX7) (T := TX7) (N := 2) hx hb hG iX7 hown hX.1 hP 0 rfl rfl 0 (by decide) (hG _ g234) (fun _ h9 => h9) rfl dX7_put_18 ?_
  refine lv_aload_n hx hb dX7_put_21 rfl (lv_at hl 1 rfl) ?_
  refine va_get (D := g.1) (ci := 7) (v := .int 2) (C := RX7) (T := TX7) (N := 2) hx hb hG iX7 hown hX.1 hP 0 rfl rfl 1 (by decide) (hG _ g235) (fun _ h9 => h9) rfl dX7_put_22 ?_
  refine lv_iload_n hx hb dX7_put_25 rfl (lv_at hl 2 rfl) ?_
  refine lv_iload_n hx hb dX7_put_26 rfl (lv_at hl 0 rfl) ?_
  refine lv_ishr hx hb dX7_put_27 ?_
  refine lv_i2b (v := (x >>> (8 &&& 31)).toInt8.toInt32) hx hb dX7_put_28 rfl ?_
  refine va_bast hx hb hX.1 hP hD hS 1 1 rfl rfl (vp_in_iff.mpr (by decide)) dX7_put_29 (fun H locs hP hD hS => ?_)
  obtain ⟨f3, ef3⟩ : ∃ z : Nat → Int32, z = upd f2 (2 : Int32).toNatClampNeg (vp_nar .byte ((x >>> (8 &&& 31)).toInt8.toInt32)) := ⟨_, rfl⟩
  rw [← ef3] at hP hD
  have hP : va_P g.1 vwCl [(xt, .inr (7, [.ref xb, .int 2])), (xb, .inl (g.2.1.2.1, 1200, .inl f3))] H := hP
  have hD : va_D A [(xt, .inr (7, [.ref xb, .int 2])), (xb, .inl (g.2.1.2.1, 1200, .inl f3))] := hD
  refine lv_aload_n hx hb dX7_put_30 rfl (lv_at hl 1 rfl) ?_
  refine lv_dup hx hb dX7_put_31 rfl ?_
  refine va_get (D := g.1) (ci := 7) (v := .int 2) (C := RX7) (T := TX7) (N := 2) hx hb hG iX7 hown hX.1 hP 0 rfl rfl 1 (by decide) (hG _ g235) (fun _ h9 => h9) rfl dX7_put_32 ?_
  refine lv_iconst (v := 1) hx hb dX7_put_35 (by decide) ?_
  refine lv_iadd hx hb dX7_put_36 ?_
  refine zt (z := 3) (by decide) ?_
  refine va_put (D := g.1) (ci := 7) (v := .int 3) (ty := .int) (C := RX7) (T := TX7) (N := 2) hx hb hG iX7 tyX7 tyX7_ok nmX7 hown hX.1 hP hD hS 0 rfl rfl 1 (by decide) (hG _ g235) (fun _ h9 => h9) rfl (by decide +kernel) rfl rfl (Nat.le_of_ble_eq_true rfl) dX7_put_37 (fun H locs hP hD hS => ?_)
  have hP : va_P g.1 vwCl [(xt, .inr (7, [.ref xb, .int 3])), (xb, .inl (g.2.1.2.1, 1200, .inl f3))] H := hP
  have hD : va_D A [(xt, .inr (7, [.ref xb, .int 3])), (xb, .inl (g.2.1.2.1, 1200, .inl f3))] := hD
  refine lv_iinc (v := 0) (lv' := [(2, .int 0), (0, .ref xt), (1, .int x)]) hx hb dX7_put_40 hl (k := 0) rfl (by decide) (by decide) rfl (fun ls hl => ?_)
  refine lv_goto (tgt := 3) hx hb dX7_put_43 (by decide) ?_
  refine lv_iload_n hx hb dX7_put_3 rfl (lv_at hl 0 rfl) ?_
  refine lv_if_lt (tgt := 46) hx hb dX7_put_4 (by decide) (fun c4 => absurd c4 (by decide)) (fun c4 => ?_)
  refine lv_aload_n hx hb dX7_put_7 rfl (lv_at hl 1 rfl) ?_
  refine va_get (D := g.1) (ci := 7) (v := .int 3) (C := RX7) (T := TX7) (N := 2) hx hb hG iX7 hown hX.1 hP 0 rfl rfl 1 (by decide) (hG _ g235) (fun _ h9 => h9) rfl dX7_put_8 ?_
  refine lv_sipush (v := 1200) hx hb dX7_put_11 (by decide) ?_
  refine lv_icmp_ge (tgt := 46) hx hb dX7_put_14 (by decide) (fun c14 => absurd c14 (by decide)) (fun c14 => ?_)
  refine lv_aload_n hx hb dX7_put_17 rfl (lv_at hl 1 rfl) ?_
  refine va_get (D := g.1) (ci := 7) (v := .ref xb) (C := RX7) (T := TX7) (N := 2) hx hb hG iX7 hown hX.1 hP 0 rfl rfl 0 (by decide) (hG _ g234) (fun _ h9 => h9) rfl dX7_put_18 ?_
  refine lv_aload_n hx hb dX7_put_21 rfl (lv_at hl 1 rfl) ?_
  refine va_get (D := g.1) (ci := 7) (v := .int 3) (C := RX7) (T := TX7) (N := 2) hx hb hG iX7 hown hX.1 hP 0 rfl rfl 1 (by decide) (hG _ g235) (fun _ h9 => h9) rfl dX7_put_22 ?_
  refine lv_iload_n hx hb dX7_put_25 rfl (lv_at hl 2 rfl) ?_
  refine lv_iload_n hx hb dX7_put_26 rfl (lv_at hl 0 rfl) ?_
  refine lv_ishr hx hb dX7_put_27 ?_
  refine lv_i2b (v := (x >>> (0 &&& 31)).toInt8.toInt32) hx hb dX7_put_28 rfl ?_
  refine va_bast hx hb hX.1 hP hD hS 1 1 rfl rfl (vp_in_iff.mpr (by decide)) dX7_put_29 (fun H locs hP hD hS => ?_)
  obtain ⟨f4, ef4⟩ : ∃ z : Nat → Int32, z = upd f3 (3 : Int32).toNatClampNeg (vp_nar .byte ((x >>> (0 &&& 31)).toInt8.toInt32)) := ⟨_, rfl⟩
  rw [← ef4] at hP hD
  have hP : va_P g.1 vwCl [(xt, .inr (7, [.ref xb, .int 3])), (xb, .inl (g.2.1.2.1, 1200, .inl f4))] H := hP
  have hD : va_D A [(xt, .inr (7, [.ref xb, .int 3])), (xb, .inl (g.2.1.2.1, 1200, .inl f4))] := hD
  refine lv_aload_n hx hb dX7_put_30 rfl (lv_at hl 1 rfl) ?_
  refine lv_dup hx hb dX7_put_31 rfl ?_
  refine va_get (D := g.1) (ci := 7) (v := .int 3) (C := RX7) (T := TX7) (N := 2) hx hb hG iX7 hown hX.1 hP 0 rfl rfl 1 (by decide) (hG _ g235) (fun _ h9 => h9) rfl dX7_put_32 ?_
  refine lv_iconst (v := 1) hx hb dX7_put_35 (by decide) ?_
  refine lv_iadd hx hb dX7_put_36 ?_
  refine zt (z := 4) (by decide) ?_
  refine va_put (D := g.1) (ci := 7) (v := .int 4) (ty := .int) (C := RX7) (T := TX7) (N := 2) hx hb hG iX7 tyX7 tyX7_ok nmX7 hown hX.1 hP hD hS 0 rfl rfl 1 (by decide) (hG _ g235) (fun _ h9 => h9) rfl (by decide +kernel) rfl rfl (Nat.le_of_ble_eq_true rfl) dX7_put_37 (fun H locs hP hD hS => ?_)
  have hP : va_P g.1 vwCl [(xt, .inr (7, [.ref xb, .int 4])), (xb, .inl (g.2.1.2.1, 1200, .inl f4))] H := hP
  have hD : va_D A [(xt, .inr (7, [.ref xb, .int 4])), (xb, .inl (g.2.1.2.1, 1200, .inl f4))] := hD
  refine lv_iinc (v := (-8)) (lv' := [(2, .int (-8)), (0, .ref xt), (1, .int x)]) hx hb dX7_put_40 hl (k := 0) rfl (by decide) (by decide) rfl (fun ls hl => ?_)
  refine lv_goto (tgt := 3) hx hb dX7_put_43 (by decide) ?_
  refine lv_iload_n hx hb dX7_put_3 rfl (lv_at hl 0 rfl) ?_
  refine lv_if_lt (tgt := 46) hx hb dX7_put_4 (by decide) (fun c4 => ?_) (fun c4 => (c4 (by decide)).elim)
  exact zrv (rm := { frames := 0, cells := 0, slots := 0, locals := 0 }) f4 hx hb hr hlocks (Nat.le_of_ble_eq_true rfl) (Nat.le_of_ble_eq_true rfl) (trivial) hP hD hS dX7_put_46
set_option maxHeartbeats 4000000 in
set_option maxRecDepth 100000 in
theorem kX7_put4 (l : Launch) (g : zL) (xt : Nat) (x : Int32) (xb : Nat) (f : Nat → Int32) : zCv l g yX7_put cX7_put 3 none { frames := 0, cells := 0, slots := 0, locals := 0 } [.ref xt, .int x] [(xt, .inr (7, [.ref xb, .int 4])), (xb, .inl (g.2.1.2.1, 1200, .inl f))] (fun (u : (Nat → Int32)) => True) (fun (u : (Nat → Int32)) => [(xt, .inr (7, [.ref xb, .int 8])), (xb, .inl (g.2.1.2.1, 1200, .inl u))]) := by
  refine zCv.mk (by decide) (Nat.le_of_ble_eq_true rfl) ?_
  intro p e s m below meth c A hE hP hD hS ls hl
  obtain ⟨hx, hb, hr, hml, hown, hG, hlocks, hnm, hX, hA⟩ := hE
  have hown : s.vm.findClass RX7 = some m.cls := hown
  have hl : lv_has ls 3 [(0, .ref xt), (1, .int x)] := hl
  refine lv_bipush (v := 24) hx hb dX7_put_0 (by decide) ?_
  refine lv_istore_n (lv' := [(2, .int 24), (0, .ref xt), (1, .int x)]) hx hb dX7_put_2 rfl hl (by decide) rfl (fun ls hl => ?_)
  refine lv_iload_n hx hb dX7_put_3 rfl (lv_at hl 0 rfl) ?_
  refine lv_if_lt (tgt := 46) hx hb dX7_put_4 (by decide) (fun c4 => absurd c4 (by decide)) (fun c4 => ?_)
  refine lv_aload_n hx hb dX7_put_7 rfl (lv_at hl 1 rfl) ?_
  refine va_get (D := g.1) (ci := 7) (v := .int 4) (C := RX7) (T := TX7) (N := 2) hx hb hG iX7 hown hX.1 hP 0 rfl rfl 1 (by decide) (hG _ g235) (fun _ h9 => h9) rfl dX7_put_8 ?_
  refine lv_sipush (v := 1200) hx hb dX7_put_11 (by decide) ?_
  refine lv_icmp_ge (tgt := 46) hx hb dX7_put_14 (by decide) (fun c14 => absurd c14 (by decide)) (fun c14 => ?_)
  refine lv_aload_n hx hb dX7_put_17 rfl (lv_at hl 1 rfl) ?_
  refine va_get (D := g.1) (ci := 7) (v := .ref xb) (C := RX7) (T := TX7) (N := 2) hx hb hG iX7 hown hX.1 hP 0 rfl rfl 0 (by decide) (hG _ g234) (fun _ h9 => h9) rfl dX7_put_18 ?_
  refine lv_aload_n hx hb dX7_put_21 rfl (lv_at hl 1 rfl) ?_
  refine va_get (D := g.1) (ci := 7) (v := .int 4) (C := RX7) (T := TX7) (N := 2) hx hb hG iX7 hown hX.1 hP 0 rfl rfl 1 (by decide) (hG _ g235) (fun _ h9 => h9) rfl dX7_put_22 ?_
  refine lv_iload_n hx hb dX7_put_25 rfl (lv_at hl 2 rfl) ?_
  refine lv_iload_n hx hb dX7_put_26 rfl (lv_at hl 0 rfl) ?_
  refine lv_ishr hx hb dX7_put_27 ?_
  refine lv_i2b (v := (x >>> (24 &&& 31)).toInt8.toInt32) hx hb dX7_put_28 rfl ?_
  refine va_bast hx hb hX.1 hP hD hS 1 1 rfl rfl (vp_in_iff.mpr (by decide)) dX7_put_29 (fun H locs hP hD hS => ?_)
  obtain ⟨f1, ef1⟩ : ∃ z : Nat → Int32, z = upd f (4 : Int32).toNatClampNeg (vp_nar .byte ((x >>> (24 &&& 31)).toInt8.toInt32)) := ⟨_, rfl⟩
  rw [← ef1] at hP hD
  have hP : va_P g.1 vwCl [(xt, .inr (7, [.ref xb, .int 4])), (xb, .inl (g.2.1.2.1, 1200, .inl f1))] H := hP
  have hD : va_D A [(xt, .inr (7, [.ref xb, .int 4])), (xb, .inl (g.2.1.2.1, 1200, .inl f1))] := hD
  refine lv_aload_n hx hb dX7_put_30 rfl (lv_at hl 1 rfl) ?_
  refine lv_dup hx hb dX7_put_31 rfl ?_
  refine va_get (D := g.1) (ci := 7) (v := .int 4) (C := RX7) (T := TX7) (N := 2) hx hb hG iX7 hown hX.1 hP 0 rfl rfl 1 (by decide) (hG _ g235) (fun _ h9 => h9) rfl dX7_put_32 ?_
  refine lv_iconst (v := 1) hx hb dX7_put_35 (by decide) ?_
  refine lv_iadd hx hb dX7_put_36 ?_
  refine zt (z := 5) (by decide) ?_
  refine va_put (D := g.1) (ci := 7) (v := .int 5) (ty := .int) (C := RX7) (T := TX7) (N := 2) hx hb hG iX7 tyX7 tyX7_ok nmX7 hown hX.1 hP hD hS 0 rfl rfl 1 (by decide) (hG _ g235) (fun _ h9 => h9) rfl (by decide +kernel) rfl rfl (Nat.le_of_ble_eq_true rfl) dX7_put_37 (fun H locs hP hD hS => ?_)
  have hP : va_P g.1 vwCl [(xt, .inr (7, [.ref xb, .int 5])), (xb, .inl (g.2.1.2.1, 1200, .inl f1))] H := hP
  have hD : va_D A [(xt, .inr (7, [.ref xb, .int 5])), (xb, .inl (g.2.1.2.1, 1200, .inl f1))] := hD
  refine lv_iinc (v := 16) (lv' := [(2, .int 16), (0, .ref xt), (1, .int x)]) hx hb dX7_put_40 hl (k := 0) rfl (by decide) (by decide) rfl (fun ls hl => ?_)
  refine lv_goto (tgt := 3) hx hb dX7_put_43 (by decide) ?_
  refine lv_iload_n hx hb dX7_put_3 rfl (lv_at hl 0 rfl) ?_
  refine lv_if_lt (tgt := 46) hx hb dX7_put_4 (by decide) (fun c4 => absurd c4 (by decide)) (fun c4 => ?_)
  refine lv_aload_n hx hb dX7_put_7 rfl (lv_at hl 1 rfl) ?_
  refine va_get (D := g.1) (ci := 7) (v := .int 5) (C := RX7) (T := TX7) (N := 2) hx hb hG iX7 hown hX.1 hP 0 rfl rfl 1 (by decide) (hG _ g235) (fun _ h9 => h9) rfl dX7_put_8 ?_
  refine lv_sipush (v := 1200) hx hb dX7_put_11 (by decide) ?_
  refine lv_icmp_ge (tgt := 46) hx hb dX7_put_14 (by decide) (fun c14 => absurd c14 (by decide)) (fun c14 => ?_)
  refine lv_aload_n hx hb dX7_put_17 rfl (lv_at hl 1 rfl) ?_
  refine va_get (D := g.1) (ci := 7) (v := .ref xb) (C := RX7) (T := TX7) (N := 2) hx hb hG iX7 hown hX.1 hP 0 rfl rfl 0 (by decide) (hG _ g234) (fun _ h9 => h9) rfl dX7_put_18 ?_
  refine lv_aload_n hx hb dX7_put_21 rfl (lv_at hl 1 rfl) ?_
  refine va_get (D := g.1) (ci := 7) (v := .int 5) (C := RX7) (T := TX7) (N := 2) hx hb hG iX7 hown hX.1 hP 0 rfl rfl 1 (by decide) (hG _ g235) (fun _ h9 => h9) rfl dX7_put_22 ?_
  refine lv_iload_n hx hb dX7_put_25 rfl (lv_at hl 2 rfl) ?_
  refine lv_iload_n hx hb dX7_put_26 rfl (lv_at hl 0 rfl) ?_
  refine lv_ishr hx hb dX7_put_27 ?_
  refine lv_i2b (v := (x >>> (16 &&& 31)).toInt8.toInt32) hx hb dX7_put_28 rfl ?_
  refine va_bast hx hb hX.1 hP hD hS 1 1 rfl rfl (vp_in_iff.mpr (by decide)) dX7_put_29 (fun H locs hP hD hS => ?_)
  obtain ⟨f2, ef2⟩ : ∃ z : Nat → Int32, z = upd f1 (5 : Int32).toNatClampNeg (vp_nar .byte ((x >>> (16 &&& 31)).toInt8.toInt32)) := ⟨_, rfl⟩
  rw [← ef2] at hP hD
  have hP : va_P g.1 vwCl [(xt, .inr (7, [.ref xb, .int 5])), (xb, .inl (g.2.1.2.1, 1200, .inl f2))] H := hP
  have hD : va_D A [(xt, .inr (7, [.ref xb, .int 5])), (xb, .inl (g.2.1.2.1, 1200, .inl f2))] := hD
  refine lv_aload_n hx hb dX7_put_30 rfl (lv_at hl 1 rfl) ?_
  refine lv_dup hx hb dX7_put_31 rfl ?_
  refine va_get (D := g.1) (ci := 7) (v := .int 5) (C := RX7) (T := TX7) (N := 2) hx hb hG iX7 hown hX.1 hP 0 rfl rfl 1 (by decide) (hG _ g235) (fun _ h9 => h9) rfl dX7_put_32 ?_
  refine lv_iconst (v := 1) hx hb dX7_put_35 (by decide) ?_
  refine lv_iadd hx hb dX7_put_36 ?_
  refine zt (z := 6) (by decide) ?_
  refine va_put (D := g.1) (ci := 7) (v := .int 6) (ty := .int) (C := RX7) (T := TX7) (N := 2) hx hb hG iX7 tyX7 tyX7_ok nmX7 hown hX.1 hP hD hS 0 rfl rfl 1 (by decide) (hG _ g235) (fun _ h9 => h9) rfl (by decide +kernel) rfl rfl (Nat.le_of_ble_eq_true rfl) dX7_put_37 (fun H locs hP hD hS => ?_)
  have hP : va_P g.1 vwCl [(xt, .inr (7, [.ref xb, .int 6])), (xb, .inl (g.2.1.2.1, 1200, .inl f2))] H := hP
  have hD : va_D A [(xt, .inr (7, [.ref xb, .int 6])), (xb, .inl (g.2.1.2.1, 1200, .inl f2))] := hD
  refine lv_iinc (v := 8) (lv' := [(2, .int 8), (0, .ref xt), (1, .int x)]) hx hb dX7_put_40 hl (k := 0) rfl (by decide) (by decide) rfl (fun ls hl => ?_)
  refine lv_goto (tgt := 3) hx hb dX7_put_43 (by decide) ?_
  refine lv_iload_n hx hb dX7_put_3 rfl (lv_at hl 0 rfl) ?_
  refine lv_if_lt (tgt := 46) hx hb dX7_put_4 (by decide) (fun c4 => absurd c4 (by decide)) (fun c4 => ?_)
  refine lv_aload_n hx hb dX7_put_7 rfl (lv_at hl 1 rfl) ?_
  refine va_get (D := g.1) (ci := 7) (v := .int 6) (C := RX7) (T := TX7) (N := 2) hx hb hG iX7 hown hX.1 hP 0 rfl rfl 1 (by decide) (hG _ g235) (fun _ h9 => h9) rfl dX7_put_8 ?_
  refine lv_sipush (v := 1200) hx hb dX7_put_11 (by decide) ?_
  refine lv_icmp_ge (tgt := 46) hx hb dX7_put_14 (by decide) (fun c14 => absurd c14 (by decide)) (fun c14 => ?_)
  refine lv_aload_n hx hb dX7_put_17 rfl (lv_at hl 1 rfl) ?_
  refine va_get (D := g.1) (ci := 7) (v := .ref xb) (C := RX7) (T := TX7) (N := 2) hx hb hG iX7 hown hX.1 hP 0 rfl rfl 0 (by decide) (hG _ g234) (fun _ h9 => h9) rfl dX7_put_18 ?_
  refine lv_aload_n hx hb dX7_put_21 rfl (lv_at hl 1 rfl) ?_
  refine va_get (D := g.1) (ci := 7) (v := .int 6) (C := RX7) (T := TX7) (N := 2) hx hb hG iX7 hown hX.1 hP 0 rfl rfl 1 (by decide) (hG _ g235) (fun _ h9 => h9) rfl dX7_put_22 ?_
  refine lv_iload_n hx hb dX7_put_25 rfl (lv_at hl 2 rfl) ?_
  refine lv_iload_n hx hb dX7_put_26 rfl (lv_at hl 0 rfl) ?_
  refine lv_ishr hx hb dX7_put_27 ?_
  refine lv_i2b (v := (x >>> (8 &&& 31)).toInt8.toInt32) hx hb dX7_put_28 rfl ?_
  refine va_bast hx hb hX.1 hP hD hS 1 1 rfl rfl (vp_in_iff.mpr (by decide)) dX7_put_29 (fun H locs hP hD hS => ?_)
  obtain ⟨f3, ef3⟩ : ∃ z : Nat → Int32, z = upd f2 (6 : Int32).toNatClampNeg (vp_nar .byte ((x >>> (8 &&& 31)).toInt8.toInt32)) := ⟨_, rfl⟩
  rw [← ef3] at hP hD
  have hP : va_P g.1 vwCl [(xt, .inr (7, [.ref xb, .int 6])), (xb, .inl (g.2.1.2.1, 1200, .inl f3))] H := hP
  have hD : va_D A [(xt, .inr (7, [.ref xb, .int 6])), (xb, .inl (g.2.1.2.1, 1200, .inl f3))] := hD
  refine lv_aload_n hx hb dX7_put_30 rfl (lv_at hl 1 rfl) ?_
  refine lv_dup hx hb dX7_put_31 rfl ?_
  refine va_get (D := g.1) (ci := 7) (v := .int 6) (C := RX7) (T := TX7) (N := 2) hx hb hG iX7 hown hX.1 hP 0 rfl rfl 1 (by decide) (hG _ g235) (fun _ h9 => h9) rfl dX7_put_32 ?_
  refine lv_iconst (v := 1) hx hb dX7_put_35 (by decide) ?_
  refine lv_iadd hx hb dX7_put_36 ?_
  refine zt (z := 7) (by decide) ?_
  refine va_put (D := g.1) (ci := 7) (v := .int 7) (ty := .int) (C := RX7) (T := TX7) (N := 2) hx hb hG iX7 tyX7 tyX7_ok nmX7 hown hX.1 hP hD hS 0 rfl rfl 1 (by decide) (hG _ g235) (fun _ h9 => h9) rfl (by decide +kernel) rfl rfl (Nat.le_of_ble_eq_true rfl) dX7_put_37 (fun H locs hP hD hS => ?_)
  have hP : va_P g.1 vwCl [(xt, .inr (7, [.ref xb, .int 7])), (xb, .inl (g.2.1.2.1, 1200, .inl f3))] H := hP
  have hD : va_D A [(xt, .inr (7, [.ref xb, .int 7])), (xb, .inl (g.2.1.2.1, 1200, .inl f3))] := hD
  refine lv_iinc (v := 0) (lv' := [(2, .int 0), (0, .ref xt), (1, .int x)]) hx hb dX7_put_40 hl (k := 0) rfl (by decide) (by decide) rfl (fun ls hl => ?_)
  refine lv_goto (tgt := 3) hx hb dX7_put_43 (by decide) ?_
  refine lv_iload_n hx hb dX7_put_3 rfl (lv_at hl 0 rfl) ?_
  refine lv_if_lt (tgt := 46) hx hb dX7_put_4 (by decide) (fun c4 => absurd c4 (by decide)) (fun c4 => ?_)
  refine lv_aload_n hx hb dX7_put_7 rfl (lv_at hl 1 rfl) ?_
  refine va_get (D := g.1) (ci := 7) (v := .int 7) (C := RX7) (T := TX7) (N := 2) hx hb hG iX7 hown hX.1 hP 0 rfl rfl 1 (by decide) (hG _ g235) (fun _ h9 => h9) rfl dX7_put_8 ?_
  refine lv_sipush (v := 1200) hx hb dX7_put_11 (by decide) ?_
  refine lv_icmp_ge (tgt := 46) hx hb dX7_put_14 (by decide) (fun c14 => absurd c14 (by decide)) (fun c14 => ?_)
  refine lv_aload_n hx hb dX7_put_17 rfl (lv_at hl 1 rfl) ?_
  refine va_get (D := g.1) (ci := 7) (v := .ref xb) (C := RX7) (T := TX7) (N := 2) hx hb hG iX7 hown hX.1 hP 0 rfl rfl 0 (by decide) (hG _ g234) (fun _ h9 => h9) rfl dX7_put_18 ?_
  refine lv_aload_n hx hb dX7_put_21 rfl (lv_at hl 1 rfl) ?_
  refine va_get (D := g.1) (ci := 7) (v := .int 7) (C := RX7) (T := TX7) (N := 2) hx hb hG iX7 hown hX.1 hP 0 rfl rfl 1 (by decide) (hG _ g235) (fun _ h9 => h9) rfl dX7_put_22 ?_
  refine lv_iload_n hx hb dX7_put_25 rfl (lv_at hl 2 rfl) ?_
  refine lv_iload_n hx hb dX7_put_26 rfl (lv_at hl 0 rfl) ?_
  refine lv_ishr hx hb dX7_put_27 ?_
  refine lv_i2b (v := (x >>> (0 &&& 31)).toInt8.toInt32) hx hb dX7_put_28 rfl ?_
  refine va_bast hx hb hX.1 hP hD hS 1 1 rfl rfl (vp_in_iff.mpr (by decide)) dX7_put_29 (fun H locs hP hD hS => ?_)
  obtain ⟨f4, ef4⟩ : ∃ z : Nat → Int32, z = upd f3 (7 : Int32).toNatClampNeg (vp_nar .byte ((x >>> (0 &&& 31)).toInt8.toInt32)) := ⟨_, rfl⟩
  rw [← ef4] at hP hD
  have hP : va_P g.1 vwCl [(xt, .inr (7, [.ref xb, .int 7])), (xb, .inl (g.2.1.2.1, 1200, .inl f4))] H := hP
  have hD : va_D A [(xt, .inr (7, [.ref xb, .int 7])), (xb, .inl (g.2.1.2.1, 1200, .inl f4))] := hD
  refine lv_aload_n hx hb dX7_put_30 rfl (lv_at hl 1 rfl) ?_
  refine lv_dup hx hb dX7_put_31 rfl ?_
  refine va_get (D := g.1) (ci := 7) (v := .int 7) (C := RX7) (T := TX7) (N := 2) hx hb hG iX7 hown hX.1 hP 0 rfl rfl 1 (by decide) (hG _ g235) (fun _ h9 => h9) rfl dX7_put_32 ?_
  refine lv_iconst (v := 1) hx hb dX7_put_35 (by decide) ?_
  refine lv_iadd hx hb dX7_put_36 ?_
  refine zt (z := 8) (by decide) ?_
  refine va_put (D := g.1) (ci := 7) (v := .int 8) (ty := .int) (C := RX7) (T := TX7) (N := 2) hx hb hG iX7 tyX7 tyX7_ok nmX7 hown hX.1 hP hD hS 0 rfl rfl 1 (by decide) (hG _ g235) (fun _ h9 => h9) rfl (by decide +kernel) rfl rfl (Nat.le_of_ble_eq_true rfl) dX7_put_37 (fun H locs hP hD hS => ?_)
  have hP : va_P g.1 vwCl [(xt, .inr (7, [.ref xb, .int 8])), (xb, .inl (g.2.1.2.1, 1200, .inl f4))] H := hP
  have hD : va_D A [(xt, .inr (7, [.ref xb, .int 8])), (xb, .inl (g.2.1.2.1, 1200, .inl f4))] := hD
  refine lv_iinc (v := (-8)) (lv' := [(2, .int (-8)), (0, .ref xt), (1, .int x)]) hx hb dX7_put_40 hl (k := 0) rfl (by decide) (by decide) rfl (fun ls hl => ?_)
  refine lv_goto (tgt := 3) hx hb dX7_put_43 (by decide) ?_
  refine lv_iload_n hx hb dX7_put_3 rfl (lv_at hl 0 rfl) ?_
  refine lv_if_lt (tgt := 46) hx hb dX7_put_4 (by decide) (fun c4 => ?_) (fun c4 => (c4 (by decide)).elim)
  exact zrv (rm := { frames := 0, cells := 0, slots := 0, locals := 0 }) f4 hx hb hr hlocks (Nat.le_of_ble_eq_true rfl) (Nat.le_of_ble_eq_true rfl) (trivial) hP hD hS dX7_put_46
set_option maxHeartbeats 4000000 in
set_option maxRecDepth 100000 in
theorem kX7_put8 (l : Launch) (g : zL) (xt : Nat) (x : Int32) (xb : Nat) (f : Nat → Int32) : zCv l g yX7_put cX7_put 3 none { frames := 0, cells := 0, slots := 0, locals := 0 } [.ref xt, .int x] [(xt, .inr (7, [.ref xb, .int 8])), (xb, .inl (g.2.1.2.1, 1200, .inl f))] (fun (u : (Nat → Int32)) => True) (fun (u : (Nat → Int32)) => [(xt, .inr (7, [.ref xb, .int 12])), (xb, .inl (g.2.1.2.1, 1200, .inl u))]) := by
  refine zCv.mk (by decide) (Nat.le_of_ble_eq_true rfl) ?_
  intro p e s m below meth c A hE hP hD hS ls hl
  obtain ⟨hx, hb, hr, hml, hown, hG, hlocks, hnm, hX, hA⟩ := hE
  have hown : s.vm.findClass RX7 = some m.cls := hown
  have hl : lv_has ls 3 [(0, .ref xt), (1, .int x)] := hl
  refine lv_bipush (v := 24) hx hb dX7_put_0 (by decide) ?_
  refine lv_istore_n (lv' := [(2, .int 24), (0, .ref xt), (1, .int x)]) hx hb dX7_put_2 rfl hl (by decide) rfl (fun ls hl => ?_)
  refine lv_iload_n hx hb dX7_put_3 rfl (lv_at hl 0 rfl) ?_
  refine lv_if_lt (tgt := 46) hx hb dX7_put_4 (by decide) (fun c4 => absurd c4 (by decide)) (fun c4 => ?_)
  refine lv_aload_n hx hb dX7_put_7 rfl (lv_at hl 1 rfl) ?_
  refine va_get (D := g.1) (ci := 7) (v := .int 8) (C := RX7) (T := TX7) (N := 2) hx hb hG iX7 hown hX.1 hP 0 rfl rfl 1 (by decide) (hG _ g235) (fun _ h9 => h9) rfl dX7_put_8 ?_
  refine lv_sipush (v := 1200) hx hb dX7_put_11 (by decide) ?_
  refine lv_icmp_ge (tgt := 46) hx hb dX7_put_14 (by decide) (fun c14 => absurd c14 (by decide)) (fun c14 => ?_)
  refine lv_aload_n hx hb dX7_put_17 rfl (lv_at hl 1 rfl) ?_
  refine va_get (D := g.1) (ci := 7) (v := .ref xb) (C := RX7) (T := TX7) (N := 2) hx hb hG iX7 hown hX.1 hP 0 rfl rfl 0 (by decide) (hG _ g234) (fun _ h9 => h9) rfl dX7_put_18 ?_
  refine lv_aload_n hx hb dX7_put_21 rfl (lv_at hl 1 rfl) ?_
  refine va_get (D := g.1) (ci := 7) (v := .int 8) (C := RX7) (T := TX7) (N := 2) hx hb hG iX7 hown hX.1 hP 0 rfl rfl 1 (by decide) (hG _ g235) (fun _ h9 => h9) rfl dX7_put_22 ?_
  refine lv_iload_n hx hb dX7_put_25 rfl (lv_at hl 2 rfl) ?_
  refine lv_iload_n hx hb dX7_put_26 rfl (lv_at hl 0 rfl) ?_
  refine lv_ishr hx hb dX7_put_27 ?_
  refine lv_i2b (v := (x >>> (24 &&& 31)).toInt8.toInt32) hx hb dX7_put_28 rfl ?_
  refine va_bast hx hb hX.1 hP hD hS 1 1 rfl rfl (vp_in_iff.mpr (by decide)) dX7_put_29 (fun H locs hP hD hS => ?_)
  obtain ⟨f1, ef1⟩ : ∃ z : Nat → Int32, z = upd f (8 : Int32).toNatClampNeg (vp_nar .byte ((x >>> (24 &&& 31)).toInt8.toInt32)) := ⟨_, rfl⟩
  rw [← ef1] at hP hD
  have hP : va_P g.1 vwCl [(xt, .inr (7, [.ref xb, .int 8])), (xb, .inl (g.2.1.2.1, 1200, .inl f1))] H := hP
  have hD : va_D A [(xt, .inr (7, [.ref xb, .int 8])), (xb, .inl (g.2.1.2.1, 1200, .inl f1))] := hD
  refine lv_aload_n hx hb dX7_put_30 rfl (lv_at hl 1 rfl) ?_
  refine lv_dup hx hb dX7_put_31 rfl ?_
  refine va_get (D := g.1) (ci := 7) (v := .int 8) (C := RX7) (T := TX7) (N := 2) hx hb hG iX7 hown hX.1 hP 0 rfl rfl 1 (by decide) (hG _ g235) (fun _ h9 => h9) rfl dX7_put_32 ?_
  refine lv_iconst (v := 1) hx hb dX7_put_35 (by decide) ?_
  refine lv_iadd hx hb dX7_put_36 ?_
  refine zt (z := 9) (by decide) ?_
  refine va_put (D := g.1) (ci := 7) (v := .int 9) (ty := .int) (C := RX7) (T := TX7) (N := 2) hx hb hG iX7 tyX7 tyX7_ok nmX7 hown hX.1 hP hD hS 0 rfl rfl 1 (by decide) (hG _ g235) (fun _ h9 => h9) rfl (by decide +kernel) rfl rfl (Nat.le_of_ble_eq_true rfl) dX7_put_37 (fun H locs hP hD hS => ?_)
  have hP : va_P g.1 vwCl [(xt, .inr (7, [.ref xb, .int 9])), (xb, .inl (g.2.1.2.1, 1200, .inl f1))] H := hP
  have hD : va_D A [(xt, .inr (7, [.ref xb, .int 9])), (xb, .inl (g.2.1.2.1, 1200, .inl f1))] := hD
  refine lv_iinc (v := 16) (lv' := [(2, .int 16), (0, .ref xt), (1, .int x)]) hx hb dX7_put_40 hl (k := 0) rfl (by decide) (by decide) rfl (fun ls hl => ?_)
  refine lv_goto (tgt := 3) hx hb dX7_put_43 (by decide) ?_
  refine lv_iload_n hx hb dX7_put_3 rfl (lv_at hl 0 rfl) ?_
  refine lv_if_lt (tgt := 46) hx hb dX7_put_4 (by decide) (fun c4 => absurd c4 (by decide)) (fun c4 => ?_)
  refine lv_aload_n hx hb dX7_put_7 rfl (lv_at hl 1 rfl) ?_
  refine va_get (D := g.1) (ci := 7) (v := .int 9) (C := RX7) (T := TX7) (N := 2) hx hb hG iX7 hown hX.1 hP 0 rfl rfl 1 (by decide) (hG _ g235) (fun _ h9 => h9) rfl dX7_put_8 ?_
  refine lv_sipush (v := 1200) hx hb dX7_put_11 (by decide) ?_
  refine lv_icmp_ge (tgt := 46) hx hb dX7_put_14 (by decide) (fun c14 => absurd c14 (by decide)) (fun c14 => ?_)
  refine lv_aload_n hx hb dX7_put_17 rfl (lv_at hl 1 rfl) ?_
  refine va_get (D := g.1) (ci := 7) (v := .ref xb) (C := RX7) (T := TX7) (N := 2) hx hb hG iX7 hown hX.1 hP 0 rfl rfl 0 (by decide) (hG _ g234) (fun _ h9 => h9) rfl dX7_put_18 ?_
  refine lv_aload_n hx hb dX7_put_21 rfl (lv_at hl 1 rfl) ?_
  refine va_get (D := g.1) (ci := 7) (v := .int 9) (C := RX7) (T := TX7) (N := 2) hx hb hG iX7 hown hX.1 hP 0 rfl rfl 1 (by decide) (hG _ g235) (fun _ h9 => h9) rfl dX7_put_22 ?_
  refine lv_iload_n hx hb dX7_put_25 rfl (lv_at hl 2 rfl) ?_
  refine lv_iload_n hx hb dX7_put_26 rfl (lv_at hl 0 rfl) ?_
  refine lv_ishr hx hb dX7_put_27 ?_
  refine lv_i2b (v := (x >>> (16 &&& 31)).toInt8.toInt32) hx hb dX7_put_28 rfl ?_
  refine va_bast hx hb hX.1 hP hD hS 1 1 rfl rfl (vp_in_iff.mpr (by decide)) dX7_put_29 (fun H locs hP hD hS => ?_)
  obtain ⟨f2, ef2⟩ : ∃ z : Nat → Int32, z = upd f1 (9 : Int32).toNatClampNeg (vp_nar .byte ((x >>> (16 &&& 31)).toInt8.toInt32)) := ⟨_, rfl⟩
  rw [← ef2] at hP hD
  have hP : va_P g.1 vwCl [(xt, .inr (7, [.ref xb, .int 9])), (xb, .inl (g.2.1.2.1, 1200, .inl f2))] H := hP
  have hD : va_D A [(xt, .inr (7, [.ref xb, .int 9])), (xb, .inl (g.2.1.2.1, 1200, .inl f2))] := hD
  refine lv_aload_n hx hb dX7_put_30 rfl (lv_at hl 1 rfl) ?_
  refine lv_dup hx hb dX7_put_31 rfl ?_
  refine va_get (D := g.1) (ci := 7) (v := .int 9) (C := RX7) (T := TX7) (N := 2) hx hb hG iX7 hown hX.1 hP 0 rfl rfl 1 (by decide) (hG _ g235) (fun _ h9 => h9) rfl dX7_put_32 ?_
  refine lv_iconst (v := 1) hx hb dX7_put_35 (by decide) ?_
  refine lv_iadd hx hb dX7_put_36 ?_
  refine zt (z := 10) (by decide) ?_
  refine va_put (D := g.1) (ci := 7) (v := .int 10) (ty := .int) (C := RX7) (T := TX7) (N := 2) hx hb hG iX7 tyX7 tyX7_ok nmX7 hown hX.1 hP hD hS 0 rfl rfl 1 (by decide) (hG _ g235) (fun _ h9 => h9) rfl (by decide +kernel) rfl rfl (Nat.le_of_ble_eq_true rfl) dX7_put_37 (fun H locs hP hD hS => ?_)
  have hP : va_P g.1 vwCl [(xt, .inr (7, [.ref xb, .int 10])), (xb, .inl (g.2.1.2.1, 1200, .inl f2))] H := hP
  have hD : va_D A [(xt, .inr (7, [.ref xb, .int 10])), (xb, .inl (g.2.1.2.1, 1200, .inl f2))] := hD
  refine lv_iinc (v := 8) (lv' := [(2, .int 8), (0, .ref xt), (1, .int x)]) hx hb dX7_put_40 hl (k := 0) rfl (by decide) (by decide) rfl (fun ls hl => ?_)
  refine lv_goto (tgt := 3) hx hb dX7_put_43 (by decide) ?_
  refine lv_iload_n hx hb dX7_put_3 rfl (lv_at hl 0 rfl) ?_
  refine lv_if_lt (tgt := 46) hx hb dX7_put_4 (by decide) (fun c4 => absurd c4 (by decide)) (fun c4 => ?_)
  refine lv_aload_n hx hb dX7_put_7 rfl (lv_at hl 1 rfl) ?_
  refine va_get (D := g.1) (ci := 7) (v := .int 10) (C := RX7) (T := TX7) (N := 2) hx hb hG iX7 hown hX.1 hP 0 rfl rfl 1 (by decide) (hG _ g235) (fun _ h9 => h9) rfl dX7_put_8 ?_
  refine lv_sipush (v := 1200) hx hb dX7_put_11 (by decide) ?_
  refine lv_icmp_ge (tgt := 46) hx hb dX7_put_14 (by decide) (fun c14 => absurd c14 (by decide)) (fun c14 => ?_)
  refine lv_aload_n hx hb dX7_put_17 rfl (lv_at hl 1 rfl) ?_
  refine va_get (D := g.1) (ci := 7) (v := .ref xb) (C := RX7) (T := TX7) (N := 2) hx hb hG iX7 hown hX.1 hP 0 rfl rfl 0 (by decide) (hG _ g234) (fun _ h9 => h9) rfl dX7_put_18 ?_
  refine lv_aload_n hx hb dX7_put_21 rfl (lv_at hl 1 rfl) ?_
  refine va_get (D := g.1) (ci := 7) (v := .int 10) (C := RX7) (T := TX7) (N := 2) hx hb hG iX7 hown hX.1 hP 0 rfl rfl 1 (by decide) (hG _ g235) (fun _ h9 => h9) rfl dX7_put_22 ?_
  refine lv_iload_n hx hb dX7_put_25 rfl (lv_at hl 2 rfl) ?_
  refine lv_iload_n hx hb dX7_put_26 rfl (lv_at hl 0 rfl) ?_
  refine lv_ishr hx hb dX7_put_27 ?_
  refine lv_i2b (v := (x >>> (8 &&& 31)).toInt8.toInt32) hx hb dX7_put_28 rfl ?_
  refine va_bast hx hb hX.1 hP hD hS 1 1 rfl rfl (vp_in_iff.mpr (by decide)) dX7_put_29 (fun H locs hP hD hS => ?_)
  obtain ⟨f3, ef3⟩ : ∃ z : Nat → Int32, z = upd f2 (10 : Int32).toNatClampNeg (vp_nar .byte ((x >>> (8 &&& 31)).toInt8.toInt32)) := ⟨_, rfl⟩
  rw [← ef3] at hP hD
  have hP : va_P g.1 vwCl [(xt, .inr (7, [.ref xb, .int 10])), (xb, .inl (g.2.1.2.1, 1200, .inl f3))] H := hP
  have hD : va_D A [(xt, .inr (7, [.ref xb, .int 10])), (xb, .inl (g.2.1.2.1, 1200, .inl f3))] := hD
  refine lv_aload_n hx hb dX7_put_30 rfl (lv_at hl 1 rfl) ?_
  refine lv_dup hx hb dX7_put_31 rfl ?_
  refine va_get (D := g.1) (ci := 7) (v := .int 10) (C := RX7) (T := TX7) (N := 2) hx hb hG iX7 hown hX.1 hP 0 rfl rfl 1 (by decide) (hG _ g235) (fun _ h9 => h9) rfl dX7_put_32 ?_
  refine lv_iconst (v := 1) hx hb dX7_put_35 (by decide) ?_
  refine lv_iadd hx hb dX7_put_36 ?_
  refine zt (z := 11) (by decide) ?_
  refine va_put (D := g.1) (ci := 7) (v := .int 11) (ty := .int) (C := RX7) (T := TX7) (N := 2) hx hb hG iX7 tyX7 tyX7_ok nmX7 hown hX.1 hP hD hS 0 rfl rfl 1 (by decide) (hG _ g235) (fun _ h9 => h9) rfl (by decide +kernel) rfl rfl (Nat.le_of_ble_eq_true rfl) dX7_put_37 (fun H locs hP hD hS => ?_)
  have hP : va_P g.1 vwCl [(xt, .inr (7, [.ref xb, .int 11])), (xb, .inl (g.2.1.2.1, 1200, .inl f3))] H := hP
  have hD : va_D A [(xt, .inr (7, [.ref xb, .int 11])), (xb, .inl (g.2.1.2.1, 1200, .inl f3))] := hD
  refine lv_iinc (v := 0) (lv' := [(2, .int 0), (0, .ref xt), (1, .int x)]) hx hb dX7_put_40 hl (k := 0) rfl (by decide) (by decide) rfl (fun ls hl => ?_)
  refine lv_goto (tgt := 3) hx hb dX7_put_43 (by decide) ?_
  refine lv_iload_n hx hb dX7_put_3 rfl (lv_at hl 0 rfl) ?_
  refine lv_if_lt (tgt := 46) hx hb dX7_put_4 (by decide) (fun c4 => absurd c4 (by decide)) (fun c4 => ?_)
  refine lv_aload_n hx hb dX7_put_7 rfl (lv_at hl 1 rfl) ?_
  refine va_get (D := g.1) (ci := 7) (v := .int 11) (C := RX7) (T := TX7) (N := 2) hx hb hG iX7 hown hX.1 hP 0 rfl rfl 1 (by decide) (hG _ g235) (fun _ h9 => h9) rfl dX7_put_8 ?_
  refine lv_sipush (v := 1200) hx hb dX7_put_11 (by decide) ?_
  refine lv_icmp_ge (tgt := 46) hx hb dX7_put_14 (by decide) (fun c14 => absurd c14 (by decide)) (fun c14 => ?_)
  refine lv_aload_n hx hb dX7_put_17 rfl (lv_at hl 1 rfl) ?_
  refine va_get (D := g.1) (ci := 7) (v := .ref xb) (C := RX7) (T := TX7) (N := 2) hx hb hG iX7 hown hX.1 hP 0 rfl rfl 0 (by decide) (hG _ g234) (fun _ h9 => h9) rfl dX7_put_18 ?_
  refine lv_aload_n hx hb dX7_put_21 rfl (lv_at hl 1 rfl) ?_
  refine va_get (D := g.1) (ci := 7) (v := .int 11) (C := RX7) (T := TX7) (N := 2) hx hb hG iX7 hown hX.1 hP 0 rfl rfl 1 (by decide) (hG _ g235) (fun _ h9 => h9) rfl dX7_put_22 ?_
  refine lv_iload_n hx hb dX7_put_25 rfl (lv_at hl 2 rfl) ?_
  refine lv_iload_n hx hb dX7_put_26 rfl (lv_at hl 0 rfl) ?_
  refine lv_ishr hx hb dX7_put_27 ?_
  refine lv_i2b (v := (x >>> (0 &&& 31)).toInt8.toInt32) hx hb dX7_put_28 rfl ?_
  refine va_bast hx hb hX.1 hP hD hS 1 1 rfl rfl (vp_in_iff.mpr (by decide)) dX7_put_29 (fun H locs hP hD hS => ?_)
  obtain ⟨f4, ef4⟩ : ∃ z : Nat → Int32, z = upd f3 (11 : Int32).toNatClampNeg (vp_nar .byte ((x >>> (0 &&& 31)).toInt8.toInt32)) := ⟨_, rfl⟩
  rw [← ef4] at hP hD
  have hP : va_P g.1 vwCl [(xt, .inr (7, [.ref xb, .int 11])), (xb, .inl (g.2.1.2.1, 1200, .inl f4))] H := hP
  have hD : va_D A [(xt, .inr (7, [.ref xb, .int 11])), (xb, .inl (g.2.1.2.1, 1200, .inl f4))] := hD
  refine lv_aload_n hx hb dX7_put_30 rfl (lv_at hl 1 rfl) ?_
  refine lv_dup hx hb dX7_put_31 rfl ?_
  refine va_get (D := g.1) (ci := 7) (v := .int 11) (C := RX7) (T := TX7) (N := 2) hx hb hG iX7 hown hX.1 hP 0 rfl rfl 1 (by decide) (hG _ g235) (fun _ h9 => h9) rfl dX7_put_32 ?_
  refine lv_iconst (v := 1) hx hb dX7_put_35 (by decide) ?_
  refine lv_iadd hx hb dX7_put_36 ?_
  refine zt (z := 12) (by decide) ?_
  refine va_put (D := g.1) (ci := 7) (v := .int 12) (ty := .int) (C := RX7) (T := TX7) (N := 2) hx hb hG iX7 tyX7 tyX7_ok nmX7 hown hX.1 hP hD hS 0 rfl rfl 1 (by decide) (hG _ g235) (fun _ h9 => h9) rfl (by decide +kernel) rfl rfl (Nat.le_of_ble_eq_true rfl) dX7_put_37 (fun H locs hP hD hS => ?_)
  have hP : va_P g.1 vwCl [(xt, .inr (7, [.ref xb, .int 12])), (xb, .inl (g.2.1.2.1, 1200, .inl f4))] H := hP
  have hD : va_D A [(xt, .inr (7, [.ref xb, .int 12])), (xb, .inl (g.2.1.2.1, 1200, .inl f4))] := hD
  refine lv_iinc (v := (-8)) (lv' := [(2, .int (-8)), (0, .ref xt), (1, .int x)]) hx hb dX7_put_40 hl (k := 0) rfl (by decide) (by decide) rfl (fun ls hl => ?_)
  refine lv_goto (tgt := 3) hx hb dX7_put_43 (by decide) ?_
  refine lv_iload_n hx hb dX7_put_3 rfl (lv_at hl 0 rfl) ?_
  refine lv_if_lt (tgt := 46) hx hb dX7_put_4 (by decide) (fun c4 => ?_) (fun c4 => (c4 (by decide)).elim)
  exact zrv (rm := { frames := 0, cells := 0, slots := 0, locals := 0 }) f4 hx hb hr hlocks (Nat.le_of_ble_eq_true rfl) (Nat.le_of_ble_eq_true rfl) (trivial) hP hD hS dX7_put_46
set_option maxHeartbeats 4000000 in
set_option maxRecDepth 100000 in
theorem kX7_put12 (l : Launch) (g : zL) (xt : Nat) (x : Int32) (xb : Nat) (f : Nat → Int32) : zCv l g yX7_put cX7_put 3 none { frames := 0, cells := 0, slots := 0, locals := 0 } [.ref xt, .int x] [(xt, .inr (7, [.ref xb, .int 12])), (xb, .inl (g.2.1.2.1, 1200, .inl f))] (fun (u : (Nat → Int32)) => True) (fun (u : (Nat → Int32)) => [(xt, .inr (7, [.ref xb, .int 16])), (xb, .inl (g.2.1.2.1, 1200, .inl u))]) := by
  refine zCv.mk (by decide) (Nat.le_of_ble_eq_true rfl) ?_
  intro p e s m below meth c A hE hP hD hS ls hl
  obtain ⟨hx, hb, hr, hml, hown, hG, hlocks, hnm, hX, hA⟩ := hE
  have hown : s.vm.findClass RX7 = some m.cls := hown
  have hl : lv_has ls 3 [(0, .ref xt), (1, .int x)] := hl
  refine lv_bipush (v := 24) hx hb dX7_put_0 (by decide) ?_
  refine lv_istore_n (lv' := [(2, .int 24), (0, .ref xt), (1, .int x)]) hx hb dX7_put_2 rfl hl (by decide) rfl (fun ls hl => ?_)
  refine lv_iload_n hx hb dX7_put_3 rfl (lv_at hl 0 rfl) ?_
  refine lv_if_lt (tgt := 46) hx hb dX7_put_4 (by decide) (fun c4 => absurd c4 (by decide)) (fun c4 => ?_)
  refine lv_aload_n hx hb dX7_put_7 rfl (lv_at hl 1 rfl) ?_
  refine va_get (D := g.1) (ci := 7) (v := .int 12) (C := RX7) (T := TX7) (N := 2) hx hb hG iX7 hown hX.1 hP 0 rfl rfl 1 (by decide) (hG _ g235) (fun _ h9 => h9) rfl dX7_put_8 ?_
  refine lv_sipush (v := 1200) hx hb dX7_put_11 (by decide) ?_
  refine lv_icmp_ge (tgt := 46) hx hb dX7_put_14 (by decide) (fun c14 => absurd c14 (by decide)) (fun c14 => ?_)
  refine lv_aload_n hx hb dX7_put_17 rfl (lv_at hl 1 rfl) ?_
  refine va_get (D := g.1) (ci := 7) (v := .ref xb) (C := RX7) (T := TX7) (N := 2) hx hb hG iX7 hown hX.1 hP 0 rfl rfl 0 (by decide) (hG _ g234) (fun _ h9 => h9) rfl dX7_put_18 ?_
  refine lv_aload_n hx hb dX7_put_21 rfl (lv_at hl 1 rfl) ?_
  refine va_get (D := g.1) (ci := 7) (v := .int 12) (C := RX7) (T := TX7) (N := 2) hx hb hG iX7 hown hX.1 hP 0 rfl rfl 1 (by decide) (hG _ g235) (fun _ h9 => h9) rfl dX7_put_22 ?_
  refine lv_iload_n hx hb dX7_put_25 rfl (lv_at hl 2 rfl) ?_
  refine lv_iload_n hx hb dX7_put_26 rfl (lv_at hl 0 rfl) ?_
  refine lv_ishr hx hb dX7_put_27 ?_
  refine lv_i2b (v := (x >>> (24 &&& 31)).toInt8.toInt32) hx hb dX7_put_28 rfl ?_
  refine va_bast hx hb hX.1 hP hD hS 1 1 rfl rfl (vp_in_iff.mpr (by decide)) dX7_put_29 (fun H locs hP hD hS => ?_)
  obtain ⟨f1, ef1⟩ : ∃ z : Nat → Int32, z = upd f (12 : Int32).toNatClampNeg (vp_nar .byte ((x >>> (24 &&& 31)).toInt8.toInt32)) := ⟨_, rfl⟩
  rw [← ef1] at hP hD
  have hP : va_P g.1 vwCl [(xt, .inr (7, [.ref xb, .int 12])), (xb, .inl (g.2.1.2.1, 1200, .inl f1))] H := hP
  have hD : va_D A [(xt, .inr (7, [.ref xb, .int 12])), (xb, .inl (g.2.1.2.1, 1200, .inl f1))] := hD
  refine lv_aload_n hx hb dX7_put_30 rfl (lv_at hl 1 rfl) ?_
  refine lv_dup hx hb dX7_put_31 rfl ?_
  refine va_get (D := g.1) (ci := 7) (v := .int 12) (C := RX7) (T := TX7) (N := 2) hx hb hG iX7 hown hX.1 hP 0 rfl rfl 1 (by decide) (hG _ g235) (fun _ h9 => h9) rfl dX7_put_32 ?_
  refine lv_iconst (v := 1) hx hb dX7_put_35 (by decide) ?_
  refine lv_iadd hx hb dX7_put_36 ?_
  refine zt (z := 13) (by decide) ?_
  refine va_put (D := g.1) (ci := 7) (v := .int 13) (ty := .int) (C := RX7) (T := TX7) (N := 2) hx hb hG iX7 tyX7 tyX7_ok nmX7 hown hX.1 hP hD hS 0 rfl rfl 1 (by decide) (hG _ g235) (fun _ h9 => h9) rfl (by decide +kernel) rfl rfl (Nat.le_of_ble_eq_true rfl) dX7_put_37 (fun H locs hP hD hS => ?_)
  have hP : va_P g.1 vwCl [(xt, .inr (7, [.ref xb, .int 13])), (xb, .inl (g.2.1.2.1, 1200, .inl f1))] H := hP
  have hD : va_D A [(xt, .inr (7, [.ref xb, .int 13])), (xb, .inl (g.2.1.2.1, 1200, .inl f1))] := hD
  refine lv_iinc (v := 16) (lv' := [(2, .int 16), (0, .ref xt), (1, .int x)]) hx hb dX7_put_40 hl (k := 0) rfl (by decide) (by decide) rfl (fun ls hl => ?_)
  refine lv_goto (tgt := 3) hx hb dX7_put_43 (by decide) ?_
  refine lv_iload_n hx hb dX7_put_3 rfl (lv_at hl 0 rfl) ?_
  refine lv_if_lt (tgt := 46) hx hb dX7_put_4 (by decide) (fun c4 => absurd c4 (by decide)) (fun c4 => ?_)
  refine lv_aload_n hx hb dX7_put_7 rfl (lv_at hl 1 rfl) ?_
  refine va_get (D := g.1) (ci := 7) (v := .int 13) (C := RX7) (T := TX7) (N := 2) hx hb hG iX7 hown hX.1 hP 0 rfl rfl 1 (by decide) (hG _ g235) (fun _ h9 => h9) rfl dX7_put_8 ?_
  refine lv_sipush (v := 1200) hx hb dX7_put_11 (by decide) ?_
  refine lv_icmp_ge (tgt := 46) hx hb dX7_put_14 (by decide) (fun c14 => absurd c14 (by decide)) (fun c14 => ?_)
  refine lv_aload_n hx hb dX7_put_17 rfl (lv_at hl 1 rfl) ?_
  refine va_get (D := g.1) (ci := 7) (v := .ref xb) (C := RX7) (T := TX7) (N := 2) hx hb hG iX7 hown hX.1 hP 0 rfl rfl 0 (by decide) (hG _ g234) (fun _ h9 => h9) rfl dX7_put_18 ?_
  refine lv_aload_n hx hb dX7_put_21 rfl (lv_at hl 1 rfl) ?_
  refine va_get (D := g.1) (ci := 7) (v := .int 13) (C := RX7) (T := TX7) (N := 2) hx hb hG iX7 hown hX.1 hP 0 rfl rfl 1 (by decide) (hG _ g235) (fun _ h9 => h9) rfl dX7_put_22 ?_
  refine lv_iload_n hx hb dX7_put_25 rfl (lv_at hl 2 rfl) ?_
  refine lv_iload_n hx hb dX7_put_26 rfl (lv_at hl 0 rfl) ?_
  refine lv_ishr hx hb dX7_put_27 ?_
  refine lv_i2b (v := (x >>> (16 &&& 31)).toInt8.toInt32) hx hb dX7_put_28 rfl ?_
  refine va_bast hx hb hX.1 hP hD hS 1 1 rfl rfl (vp_in_iff.mpr (by decide)) dX7_put_29 (fun H locs hP hD hS => ?_)
  obtain ⟨f2, ef2⟩ : ∃ z : Nat → Int32, z = upd f1 (13 : Int32).toNatClampNeg (vp_nar .byte ((x >>> (16 &&& 31)).toInt8.toInt32)) := ⟨_, rfl⟩
  rw [← ef2] at hP hD
  have hP : va_P g.1 vwCl [(xt, .inr (7, [.ref xb, .int 13])), (xb, .inl (g.2.1.2.1, 1200, .inl f2))] H := hP
  have hD : va_D A [(xt, .inr (7, [.ref xb, .int 13])), (xb, .inl (g.2.1.2.1, 1200, .inl f2))] := hD
  refine lv_aload_n hx hb dX7_put_30 rfl (lv_at hl 1 rfl) ?_
  refine lv_dup hx hb dX7_put_31 rfl ?_
  refine va_get (D := g.1) (ci := 7) (v := .int 13) (C := RX7) (T := TX7) (N := 2) hx hb hG iX7 hown hX.1 hP 0 rfl rfl 1 (by decide) (hG _ g235) (fun _ h9 => h9) rfl dX7_put_32 ?_
  refine lv_iconst (v := 1) hx hb dX7_put_35 (by decide) ?_
  refine lv_iadd hx hb dX7_put_36 ?_
  refine zt (z := 14) (by decide) ?_
  refine va_put (D := g.1) (ci := 7) (v := .int 14) (ty := .int) (C := RX7) (T := TX7) (N := 2) hx hb hG iX7 tyX7 tyX7_ok nmX7 hown hX.1 hP hD hS 0 rfl rfl 1 (by decide) (hG _ g235) (fun _ h9 => h9) rfl (by decide +kernel) rfl rfl (Nat.le_of_ble_eq_true rfl) dX7_put_37 (fun H locs hP hD hS => ?_)
  have hP : va_P g.1 vwCl [(xt, .inr (7, [.ref xb, .int 14])), (xb, .inl (g.2.1.2.1, 1200, .inl f2))] H := hP
  have hD : va_D A [(xt, .inr (7, [.ref xb, .int 14])), (xb, .inl (g.2.1.2.1, 1200, .inl f2))] := hD
  refine lv_iinc (v := 8) (lv' := [(2, .int 8), (0, .ref xt), (1, .int x)]) hx hb dX7_put_40 hl (k := 0) rfl (by decide) (by decide) rfl (fun ls hl => ?_)
  refine lv_goto (tgt := 3) hx hb dX7_put_43 (by decide) ?_
  refine lv_iload_n hx hb dX7_put_3 rfl (lv_at hl 0 rfl) ?_
  refine lv_if_lt (tgt := 46) hx hb dX7_put_4 (by decide) (fun c4 => absurd c4 (by decide)) (fun c4 => ?_)
  refine lv_aload_n hx hb dX7_put_7 rfl (lv_at hl 1 rfl) ?_
  refine va_get (D := g.1) (ci := 7) (v := .int 14) (C := RX7) (T := TX7) (N := 2) hx hb hG iX7 hown hX.1 hP 0 rfl rfl 1 (by decide) (hG _ g235) (fun _ h9 => h9) rfl dX7_put_8 ?_
  refine lv_sipush (v := 1200) hx hb dX7_put_11 (by decide) ?_
  refine lv_icmp_ge (tgt := 46) hx hb dX7_put_14 (by decide) (fun c14 => absurd c14 (by decide)) (fun c14 => ?_)
  refine lv_aload_n hx hb dX7_put_17 rfl (lv_at hl 1 rfl) ?_
  refine va_get (D := g.1) (ci := 7) (v := .ref xb) (C := RX7) (T := TX7) (N := 2) hx hb hG iX7 hown hX.1 hP 0 rfl rfl 0 (by decide) (hG _ g234) (fun _ h9 => h9) rfl dX7_put_18 ?_
  refine lv_aload_n hx hb dX7_put_21 rfl (lv_at hl 1 rfl) ?_
  refine va_get (D := g.1) (ci := 7) (v := .int 14) (C := RX7) (T := TX7) (N := 2) hx hb hG iX7 hown hX.1 hP 0 rfl rfl 1 (by decide) (hG _ g235) (fun _ h9 => h9) rfl dX7_put_22 ?_
  refine lv_iload_n hx hb dX7_put_25 rfl (lv_at hl 2 rfl) ?_
  refine lv_iload_n hx hb dX7_put_26 rfl (lv_at hl 0 rfl) ?_
  refine lv_ishr hx hb dX7_put_27 ?_
  refine lv_i2b (v := (x >>> (8 &&& 31)).toInt8.toInt32) hx hb dX7_put_28 rfl ?_
  refine va_bast hx hb hX.1 hP hD hS 1 1 rfl rfl (vp_in_iff.mpr (by decide)) dX7_put_29 (fun H locs hP hD hS => ?_)
  obtain ⟨f3, ef3⟩ : ∃ z : Nat → Int32, z = upd f2 (14 : Int32).toNatClampNeg (vp_nar .byte ((x >>> (8 &&& 31)).toInt8.toInt32)) := ⟨_, rfl⟩
  rw [← ef3] at hP hD
  have hP : va_P g.1 vwCl [(xt, .inr (7, [.ref xb, .int 14])), (xb, .inl (g.2.1.2.1, 1200, .inl f3))] H := hP
  have hD : va_D A [(xt, .inr (7, [.ref xb, .int 14])), (xb, .inl (g.2.1.2.1, 1200, .inl f3))] := hD
  refine lv_aload_n hx hb dX7_put_30 rfl (lv_at hl 1 rfl) ?_
  refine lv_dup hx hb dX7_put_31 rfl ?_
  refine va_get (D := g.1) (ci := 7) (v := .int 14) (C := RX7) (T := TX7) (N := 2) hx hb hG iX7 hown hX.1 hP 0 rfl rfl 1 (by decide) (hG _ g235) (fun _ h9 => h9) rfl dX7_put_32 ?_
  refine lv_iconst (v := 1) hx hb dX7_put_35 (by decide) ?_
  refine lv_iadd hx hb dX7_put_36 ?_
  refine zt (z := 15) (by decide) ?_
  refine va_put (D := g.1) (ci := 7) (v := .int 15) (ty := .int) (C := RX7) (T := TX7) (N := 2) hx hb hG iX7 tyX7 tyX7_ok nmX7 hown hX.1 hP hD hS 0 rfl rfl 1 (by decide) (hG _ g235) (fun _ h9 => h9) rfl (by decide +kernel) rfl rfl (Nat.le_of_ble_eq_true rfl) dX7_put_37 (fun H locs hP hD hS => ?_)
  have hP : va_P g.1 vwCl [(xt, .inr (7, [.ref xb, .int 15])), (xb, .inl (g.2.1.2.1, 1200, .inl f3))] H := hP
  have hD : va_D A [(xt, .inr (7, [.ref xb, .int 15])), (xb, .inl (g.2.1.2.1, 1200, .inl f3))] := hD
  refine lv_iinc (v := 0) (lv' := [(2, .int 0), (0, .ref xt), (1, .int x)]) hx hb dX7_put_40 hl (k := 0) rfl (by decide) (by decide) rfl (fun ls hl => ?_)
  refine lv_goto (tgt := 3) hx hb dX7_put_43 (by decide) ?_
  refine lv_iload_n hx hb dX7_put_3 rfl (lv_at hl 0 rfl) ?_
  refine lv_if_lt (tgt := 46) hx hb dX7_put_4 (by decide) (fun c4 => absurd c4 (by decide)) (fun c4 => ?_)
  refine lv_aload_n hx hb dX7_put_7 rfl (lv_at hl 1 rfl) ?_
  refine va_get (D := g.1) (ci := 7) (v := .int 15) (C := RX7) (T := TX7) (N := 2) hx hb hG iX7 hown hX.1 hP 0 rfl rfl 1 (by decide) (hG _ g235) (fun _ h9 => h9) rfl dX7_put_8 ?_
  refine lv_sipush (v := 1200) hx hb dX7_put_11 (by decide) ?_
  refine lv_icmp_ge (tgt := 46) hx hb dX7_put_14 (by decide) (fun c14 => absurd c14 (by decide)) (fun c14 => ?_)
  refine lv_aload_n hx hb dX7_put_17 rfl (lv_at hl 1 rfl) ?_
  refine va_get (D := g.1) (ci := 7) (v := .ref xb) (C := RX7) (T := TX7) (N := 2) hx hb hG iX7 hown hX.1 hP 0 rfl rfl 0 (by decide) (hG _ g234) (fun _ h9 => h9) rfl dX7_put_18 ?_
  refine lv_aload_n hx hb dX7_put_21 rfl (lv_at hl 1 rfl) ?_
  refine va_get (D := g.1) (ci := 7) (v := .int 15) (C := RX7) (T := TX7) (N := 2) hx hb hG iX7 hown hX.1 hP 0 rfl rfl 1 (by decide) (hG _ g235) (fun _ h9 => h9) rfl dX7_put_22 ?_
  refine lv_iload_n hx hb dX7_put_25 rfl (lv_at hl 2 rfl) ?_
  refine lv_iload_n hx hb dX7_put_26 rfl (lv_at hl 0 rfl) ?_
  refine lv_ishr hx hb dX7_put_27 ?_
  refine lv_i2b (v := (x >>> (0 &&& 31)).toInt8.toInt32) hx hb dX7_put_28 rfl ?_
  refine va_bast hx hb hX.1 hP hD hS 1 1 rfl rfl (vp_in_iff.mpr (by decide)) dX7_put_29 (fun H locs hP hD hS => ?_)
  obtain ⟨f4, ef4⟩ : ∃ z : Nat → Int32, z = upd f3 (15 : Int32).toNatClampNeg (vp_nar .byte ((x >>> (0 &&& 31)).toInt8.toInt32)) := ⟨_, rfl⟩
  rw [← ef4] at hP hD
  have hP : va_P g.1 vwCl [(xt, .inr (7, [.ref xb, .int 15])), (xb, .inl (g.2.1.2.1, 1200, .inl f4))] H := hP
  have hD : va_D A [(xt, .inr (7, [.ref xb, .int 15])), (xb, .inl (g.2.1.2.1, 1200, .inl f4))] := hD
  refine lv_aload_n hx hb dX7_put_30 rfl (lv_at hl 1 rfl) ?_
  refine lv_dup hx hb dX7_put_31 rfl ?_
  refine va_get (D := g.1) (ci := 7) (v := .int 15) (C := RX7) (T := TX7) (N := 2) hx hb hG iX7 hown hX.1 hP 0 rfl rfl 1 (by decide) (hG _ g235) (fun _ h9 => h9) rfl dX7_put_32 ?_
  refine lv_iconst (v := 1) hx hb dX7_put_35 (by decide) ?_
  refine lv_iadd hx hb dX7_put_36 ?_
  refine zt (z := 16) (by decide) ?_
  refine va_put (D := g.1) (ci := 7) (v := .int 16) (ty := .int) (C := RX7) (T := TX7) (N := 2) hx hb hG iX7 tyX7 tyX7_ok nmX7 hown hX.1 hP hD hS 0 rfl rfl 1 (by decide) (hG _ g235) (fun _ h9 => h9) rfl (by decide +kernel) rfl rfl (Nat.le_of_ble_eq_true rfl) dX7_put_37 (fun H locs hP hD hS => ?_)
  have hP : va_P g.1 vwCl [(xt, .inr (7, [.ref xb, .int 16])), (xb, .inl (g.2.1.2.1, 1200, .inl f4))] H := hP
  have hD : va_D A [(xt, .inr (7, [.ref xb, .int 16])), (xb, .inl (g.2.1.2.1, 1200, .inl f4))] := hD
  refine lv_iinc (v := (-8)) (lv' := [(2, .int (-8)), (0, .ref xt), (1, .int x)]) hx hb dX7_put_40 hl (k := 0) rfl (by decide) (by decide) rfl (fun ls hl => ?_)
  refine lv_goto (tgt := 3) hx hb dX7_put_43 (by decide) ?_
  refine lv_iload_n hx hb dX7_put_3 rfl (lv_at hl 0 rfl) ?_
  refine lv_if_lt (tgt := 46) hx hb dX7_put_4 (by decide) (fun c4 => ?_) (fun c4 => (c4 (by decide)).elim)
  exact zrv (rm := { frames := 0, cells := 0, slots := 0, locals := 0 }) f4 hx hb hr hlocks (Nat.le_of_ble_eq_true rfl) (Nat.le_of_ble_eq_true rfl) (trivial) hP hD hS dX7_put_46
set_option maxHeartbeats 4000000 in
set_option maxRecDepth 100000 in
theorem kX7_put16 (l : Launch) (g : zL) (xt : Nat) (x : Int32) (xb : Nat) (f : Nat → Int32) : zCv l g yX7_put cX7_put 3 none { frames := 0, cells := 0, slots := 0, locals := 0 } [.ref xt, .int x] [(xt, .inr (7, [.ref xb, .int 16])), (xb, .inl (g.2.1.2.1, 1200, .inl f))] (fun (u : (Nat → Int32)) => True) (fun (u : (Nat → Int32)) => [(xt, .inr (7, [.ref xb, .int 20])), (xb, .inl (g.2.1.2.1, 1200, .inl u))]) := by
  refine zCv.mk (by decide) (Nat.le_of_ble_eq_true rfl) ?_
  intro p e s m below meth c A hE hP hD hS ls hl
  obtain ⟨hx, hb, hr, hml, hown, hG, hlocks, hnm, hX, hA⟩ := hE
  have hown : s.vm.findClass RX7 = some m.cls := hown
  have hl : lv_has ls 3 [(0, .ref xt), (1, .int x)] := hl
  refine lv_bipush (v := 24) hx hb dX7_put_0 (by decide) ?_
  refine lv_istore_n (lv' := [(2, .int 24), (0, .ref xt), (1, .int x)]) hx hb dX7_put_2 rfl hl (by decide) rfl (fun ls hl => ?_)
  refine lv_iload_n hx hb dX7_put_3 rfl (lv_at hl 0 rfl) ?_
  refine lv_if_lt (tgt := 46) hx hb dX7_put_4 (by decide) (fun c4 => absurd c4 (by decide)) (fun c4 => ?_)
  refine lv_aload_n hx hb dX7_put_7 rfl (lv_at hl 1 rfl) ?_
  refine va_get (D := g.1) (ci := 7) (v := .int 16) (C := RX7) (T := TX7) (N := 2) hx hb hG iX7 hown hX.1 hP 0 rfl rfl 1 (by decide) (hG _ g235) (fun _ h9 => h9) rfl dX7_put_8 ?_
  refine lv_sipush (v := 1200) hx hb dX7_put_11 (by decide) ?_
  refine lv_icmp_ge (tgt := 46) hx hb dX7_put_14 (by decide) (fun c14 => absurd c14 (by decide)) (fun c14 => ?_)
  refine lv_aload_n hx hb dX7_put_17 rfl (lv_at hl 1 rfl) ?_
  refine va_get (D := g.1) (ci := 7) (v := .ref xb) (C := RX7) (T := TX7) (N := 2) hx hb hG iX7 hown hX.1 hP 0 rfl rfl 0 (by decide) (hG _ g234) (fun _ h9 => h9) rfl dX7_put_18 ?_
  refine lv_aload_n hx hb dX7_put_21 rfl (lv_at hl 1 rfl) ?_
  refine va_get (D := g.1) (ci := 7) (v := .int 16) (C := RX7) (T := TX7) (N := 2) hx hb hG iX7 hown hX.1 hP 0 rfl rfl 1 (by decide) (hG _ g235) (fun _ h9 => h9) rfl dX7_put_22 ?_
  refine lv_iload_n hx hb dX7_put_25 rfl (lv_at hl 2 rfl) ?_
  refine lv_iload_n hx hb dX7_put_26 rfl (lv_at hl 0 rfl) ?_
  refine lv_ishr hx hb dX7_put_27 ?_
  refine lv_i2b (v := (x >>> (24 &&& 31)).toInt8.toInt32) hx hb dX7_put_28 rfl ?_
  refine va_bast hx hb hX.1 hP hD hS 1 1 rfl rfl (vp_in_iff.mpr (by decide)) dX7_put_29 (fun H locs hP hD hS => ?_)
  obtain ⟨f1, ef1⟩ : ∃ z : Nat → Int32, z = upd f (16 : Int32).toNatClampNeg (vp_nar .byte ((x >>> (24 &&& 31)).toInt8.toInt32)) := ⟨_, rfl⟩
  rw [← ef1] at hP hD
  have hP : va_P g.1 vwCl [(xt, .inr (7, [.ref xb, .int 16])), (xb, .inl (g.2.1.2.1, 1200, .inl f1))] H := hP
  have hD : va_D A [(xt, .inr (7, [.ref xb, .int 16])), (xb, .inl (g.2.1.2.1, 1200, .inl f1))] := hD
  refine lv_aload_n hx hb dX7_put_30 rfl (lv_at hl 1 rfl) ?_
  refine lv_dup hx hb dX7_put_31 rfl ?_
  refine va_get (D := g.1) (ci := 7) (v := .int 16) (C := RX7) (T := TX7) (N := 2) hx hb hG iX7 hown hX.1 hP 0 rfl rfl 1 (by decide) (hG _ g235) (fun _ h9 => h9) rfl dX7_put_32 ?_
  refine lv_iconst (v := 1) hx hb dX7_put_35 (by decide) ?_
  refine lv_iadd hx hb dX7_put_36 ?_
  refine zt (z := 17) (by decide) ?_
  refine va_put (D := g.1) (ci := 7) (v := .int 17) (ty := .int) (C := RX7) (T := TX7) (N := 2) hx hb hG iX7 tyX7 tyX7_ok nmX7 hown hX.1 hP hD hS 0 rfl rfl 1 (by decide) (hG _ g235) (fun _ h9 => h9) rfl (by decide +kernel) rfl rfl (Nat.le_of_ble_eq_true rfl) dX7_put_37 (fun H locs hP hD hS => ?_)
  have hP : va_P g.1 vwCl [(xt, .inr (7, [.ref xb, .int 17])), (xb, .inl (g.2.1.2.1, 1200, .inl f1))] H := hP
  have hD : va_D A [(xt, .inr (7, [.ref xb, .int 17])), (xb, .inl (g.2.1.2.1, 1200, .inl f1))] := hD
  refine lv_iinc (v := 16) (lv' := [(2, .int 16), (0, .ref xt), (1, .int x)]) hx hb dX7_put_40 hl (k := 0) rfl (by decide) (by decide) rfl (fun ls hl => ?_)
  refine lv_goto (tgt := 3) hx hb dX7_put_43 (by decide) ?_
  refine lv_iload_n hx hb dX7_put_3 rfl (lv_at hl 0 rfl) ?_
  refine lv_if_lt (tgt := 46) hx hb dX7_put_4 (by decide) (fun c4 => absurd c4 (by decide)) (fun c4 => ?_)
  refine lv_aload_n hx hb dX7_put_7 rfl (lv_at hl 1 rfl) ?_
  refine va_get (D := g.1) (ci := 7) (v := .int 17) (C := RX7) (T := TX7) (N := 2) hx hb hG iX7 hown hX.1 hP 0 rfl rfl 1 (by decide) (hG _ g235) (fun _ h9 => h9) rfl dX7_put_8 ?_
  refine lv_sipush (v := 1200) hx hb dX7_put_11 (by decide) ?_
  refine lv_icmp_ge (tgt := 46) hx hb dX7_put_14 (by decide) (fun c14 => absurd c14 (by decide)) (fun c14 => ?_)
  refine lv_aload_n hx hb dX7_put_17 rfl (lv_at hl 1 rfl) ?_
  refine va_get (D := g.1) (ci := 7) (v := .ref xb) (C := RX7) (T := TX7) (N := 2) hx hb hG iX7 hown hX.1 hP 0 rfl rfl 0 (by decide) (hG _ g234) (fun _ h9 => h9) rfl dX7_put_18 ?_
  refine lv_aload_n hx hb dX7_put_21 rfl (lv_at hl 1 rfl) ?_
  refine va_get (D := g.1) (ci := 7) (v := .int 17) (C := RX7) (T := TX7) (N := 2) hx hb hG iX7 hown hX.1 hP 0 rfl rfl 1 (by decide) (hG _ g235) (fun _ h9 => h9) rfl dX7_put_22 ?_
  refine lv_iload_n hx hb dX7_put_25 rfl (lv_at hl 2 rfl) ?_
  refine lv_iload_n hx hb dX7_put_26 rfl (lv_at hl 0 rfl) ?_
  refine lv_ishr hx hb dX7_put_27 ?_
  refine lv_i2b (v := (x >>> (16 &&& 31)).toInt8.toInt32) hx hb dX7_put_28 rfl ?_
  refine va_bast hx hb hX.1 hP hD hS 1 1 rfl rfl (vp_in_iff.mpr (by decide)) dX7_put_29 (fun H locs hP hD hS => ?_)
  obtain ⟨f2, ef2⟩ : ∃ z : Nat → Int32, z = upd f1 (17 : Int32).toNatClampNeg (vp_nar .byte ((x >>> (16 &&& 31)).toInt8.toInt32)) := ⟨_, rfl⟩
  rw [← ef2] at hP hD
  have hP : va_P g.1 vwCl [(xt, .inr (7, [.ref xb, .int 17])), (xb, .inl (g.2.1.2.1, 1200, .inl f2))] H := hP
  have hD : va_D A [(xt, .inr (7, [.ref xb, .int 17])), (xb, .inl (g.2.1.2.1, 1200, .inl f2))] := hD
  refine lv_aload_n hx hb dX7_put_30 rfl (lv_at hl 1 rfl) ?_
  refine lv_dup hx hb dX7_put_31 rfl ?_
  refine va_get (D := g.1) (ci := 7) (v := .int 17) (C := RX7) (T := TX7) (N := 2) hx hb hG iX7 hown hX.1 hP 0 rfl rfl 1 (by decide) (hG _ g235) (fun _ h9 => h9) rfl dX7_put_32 ?_
  refine lv_iconst (v := 1) hx hb dX7_put_35 (by decide) ?_
  refine lv_iadd hx hb dX7_put_36 ?_
  refine zt (z := 18) (by decide) ?_
  refine va_put (D := g.1) (ci := 7) (v := .int 18) (ty := .int) (C := RX7) (T := TX7) (N := 2) hx hb hG iX7 tyX7 tyX7_ok nmX7 hown hX.1 hP hD hS 0 rfl rfl 1 (by decide) (hG _ g235) (fun _ h9 => h9) rfl (by decide +kernel) rfl rfl (Nat.le_of_ble_eq_true rfl) dX7_put_37 (fun H locs hP hD hS => ?_)
  have hP : va_P g.1 vwCl [(xt, .inr (7, [.ref xb, .int 18])), (xb, .inl (g.2.1.2.1, 1200, .inl f2))] H := hP
  have hD : va_D A [(xt, .inr (7, [.ref xb, .int 18])), (xb, .inl (g.2.1.2.1, 1200, .inl f2))] := hD
  refine lv_iinc (v := 8) (lv' := [(2, .int 8), (0, .ref xt), (1, .int x)]) hx hb dX7_put_40 hl (k := 0) rfl (by decide) (by decide) rfl (fun ls hl => ?_)
  refine lv_goto (tgt := 3) hx hb dX7_put_43 (by decide) ?_
  refine lv_iload_n hx hb dX7_put_3 rfl (lv_at hl 0 rfl) ?_
  refine lv_if_lt (tgt := 46) hx hb dX7_put_4 (by decide) (fun c4 => absurd c4 (by decide)) (fun c4 => ?_)
  refine lv_aload_n hx hb dX7_put_7 rfl (lv_at hl 1 rfl) ?_
  refine va_get (D := g.1) (ci := 7) (v := .int 18) (C := RX7) (T := TX7) (N := 2) hx hb hG iX7 hown hX.1 hP 0 rfl rfl 1 (by decide) (hG _ g235) (fun _ h9 => h9) rfl dX7_put_8 ?_
  refine lv_sipush (v := 1200) hx hb dX7_put_11 (by decide) ?_
  refine lv_icmp_ge (tgt := 46) hx hb dX7_put_14 (by decide) (fun c14 => absurd c14 (by decide)) (fun c14 => ?_)
  refine lv_aload_n hx hb dX7_put_17 rfl (lv_at hl 1 rfl) ?_
  refine va_get (D := g.1) (ci := 7) (v := .ref xb) (C := RX7) (T := TX7) (N := 2) hx hb hG iX7 hown hX.1 hP 0 rfl rfl 0 (by decide) (hG _ g234) (fun _ h9 => h9) rfl dX7_put_18 ?_
  refine lv_aload_n hx hb dX7_put_21 rfl (lv_at hl 1 rfl) ?_
  refine va_get (D := g.1) (ci := 7) (v := .int 18) (C := RX7) (T := TX7) (N := 2) hx hb hG iX7 hown hX.1 hP 0 rfl rfl 1 (by decide) (hG _ g235) (fun _ h9 => h9) rfl dX7_put_22 ?_
  refine lv_iload_n hx hb dX7_put_25 rfl (lv_at hl 2 rfl) ?_
  refine lv_iload_n hx hb dX7_put_26 rfl (lv_at hl 0 rfl) ?_
  refine lv_ishr hx hb dX7_put_27 ?_
  refine lv_i2b (v := (x >>> (8 &&& 31)).toInt8.toInt32) hx hb dX7_put_28 rfl ?_
  refine va_bast hx hb hX.1 hP hD hS 1 1 rfl rfl (vp_in_iff.mpr (by decide)) dX7_put_29 (fun H locs hP hD hS => ?_)
  obtain ⟨f3, ef3⟩ : ∃ z : Nat → Int32, z = upd f2 (18 : Int32).toNatClampNeg (vp_nar .byte ((x >>> (8 &&& 31)).toInt8.toInt32)) := ⟨_, rfl⟩
  rw [← ef3] at hP hD
  have hP : va_P g.1 vwCl [(xt, .inr (7, [.ref xb, .int 18])), (xb, .inl (g.2.1.2.1, 1200, .inl f3))] H := hP
  have hD : va_D A [(xt, .inr (7, [.ref xb, .int 18])), (xb, .inl (g.2.1.2.1, 1200, .inl f3))] := hD
  refine lv_aload_n hx hb dX7_put_30 rfl (lv_at hl 1 rfl) ?_
  refine lv_dup hx hb dX7_put_31 rfl ?_
  refine va_get (D := g.1) (ci := 7) (v := .int 18) (C := RX7) (T := TX7) (N := 2) hx hb hG iX7 hown hX.1 hP 0 rfl rfl 1 (by decide) (hG _ g235) (fun _ h9 => h9) rfl dX7_put_32 ?_
  refine lv_iconst (v := 1) hx hb dX7_put_35 (by decide) ?_
  refine lv_iadd hx hb dX7_put_36 ?_
  refine zt (z := 19) (by decide) ?_
  refine va_put (D := g.1) (ci := 7) (v := .int 19) (ty := .int) (C := RX7) (T := TX7) (N := 2) hx hb hG iX7 tyX7 tyX7_ok nmX7 hown hX.1 hP hD hS 0 rfl rfl 1 (by decide) (hG _ g235) (fun _ h9 => h9) rfl (by decide +kernel) rfl rfl (Nat.le_of_ble_eq_true rfl) dX7_put_37 (fun H locs hP hD hS => ?_)
  have hP : va_P g.1 vwCl [(xt, .inr (7, [.ref xb, .int 19])), (xb, .inl (g.2.1.2.1, 1200, .inl f3))] H := hP
  have hD : va_D A [(xt, .inr (7, [.ref xb, .int 19])), (xb, .inl (g.2.1.2.1, 1200, .inl f3))] := hD
  refine lv_iinc (v := 0) (lv' := [(2, .int 0), (0, .ref xt), (1, .int x)]) hx hb dX7_put_40 hl (k := 0) rfl (by decide) (by decide) rfl (fun ls hl => ?_)
  refine lv_goto (tgt := 3) hx hb dX7_put_43 (by decide) ?_
  refine lv_iload_n hx hb dX7_put_3 rfl (lv_at hl 0 rfl) ?_
  refine lv_if_lt (tgt := 46) hx hb dX7_put_4 (by decide) (fun c4 => absurd c4 (by decide)) (fun c4 => ?_)
  refine lv_aload_n hx hb dX7_put_7 rfl (lv_at hl 1 rfl) ?_
  refine va_get (D := g.1) (ci := 7) (v := .int 19) (C := RX7) (T := TX7) (N := 2) hx hb hG iX7 hown hX.1 hP 0 rfl rfl 1 (by decide) (hG _ g235) (fun _ h9 => h9) rfl dX7_put_8 ?_
  refine lv_sipush (v := 1200) hx hb dX7_put_11 (by decide) ?_
  refine lv_icmp_ge (tgt := 46) hx hb dX7_put_14 (by decide) (fun c14 => absurd c14 (by decide)) (fun c14 => ?_)
  refine lv_aload_n hx hb dX7_put_17 rfl (lv_at hl 1 rfl) ?_
  refine va_get (D := g.1) (ci := 7) (v := .ref xb) (C := RX7) (T := TX7) (N := 2) hx hb hG iX7 hown hX.1 hP 0 rfl rfl 0 (by decide) (hG _ g234) (fun _ h9 => h9) rfl dX7_put_18 ?_
  refine lv_aload_n hx hb dX7_put_21 rfl (lv_at hl 1 rfl) ?_
  refine va_get (D := g.1) (ci := 7) (v := .int 19) (C := RX7) (T := TX7) (N := 2) hx hb hG iX7 hown hX.1 hP 0 rfl rfl 1 (by decide) (hG _ g235) (fun _ h9 => h9) rfl dX7_put_22 ?_
  refine lv_iload_n hx hb dX7_put_25 rfl (lv_at hl 2 rfl) ?_
  refine lv_iload_n hx hb dX7_put_26 rfl (lv_at hl 0 rfl) ?_
  refine lv_ishr hx hb dX7_put_27 ?_
  refine lv_i2b (v := (x >>> (0 &&& 31)).toInt8.toInt32) hx hb dX7_put_28 rfl ?_
  refine va_bast hx hb hX.1 hP hD hS 1 1 rfl rfl (vp_in_iff.mpr (by decide)) dX7_put_29 (fun H locs hP hD hS => ?_)
  obtain ⟨f4, ef4⟩ : ∃ z : Nat → Int32, z = upd f3 (19 : Int32).toNatClampNeg (vp_nar .byte ((x >>> (0 &&& 31)).toInt8.toInt32)) := ⟨_, rfl⟩
  rw [← ef4] at hP hD
  have hP : va_P g.1 vwCl [(xt, .inr (7, [.ref xb, .int 19])), (xb, .inl (g.2.1.2.1, 1200, .inl f4))] H := hP
  have hD : va_D A [(xt, .inr (7, [.ref xb, .int 19])), (xb, .inl (g.2.1.2.1, 1200, .inl f4))] := hD
  refine lv_aload_n hx hb dX7_put_30 rfl (lv_at hl 1 rfl) ?_
  refine lv_dup hx hb dX7_put_31 rfl ?_
  refine va_get (D := g.1) (ci := 7) (v := .int 19) (C := RX7) (T := TX7) (N := 2) hx hb hG iX7 hown hX.1 hP 0 rfl rfl 1 (by decide) (hG _ g235) (fun _ h9 => h9) rfl dX7_put_32 ?_
  refine lv_iconst (v := 1) hx hb dX7_put_35 (by decide) ?_
  refine lv_iadd hx hb dX7_put_36 ?_
  refine zt (z := 20) (by decide) ?_
  refine va_put (D := g.1) (ci := 7) (v := .int 20) (ty := .int) (C := RX7) (T := TX7) (N := 2) hx hb hG iX7 tyX7 tyX7_ok nmX7 hown hX.1 hP hD hS 0 rfl rfl 1 (by decide) (hG _ g235) (fun _ h9 => h9) rfl (by decide +kernel) rfl rfl (Nat.le_of_ble_eq_true rfl) dX7_put_37 (fun H locs hP hD hS => ?_)
  have hP : va_P g.1 vwCl [(xt, .inr (7, [.ref xb, .int 20])), (xb, .inl (g.2.1.2.1, 1200, .inl f4))] H := hP
  have hD : va_D A [(xt, .inr (7, [.ref xb, .int 20])), (xb, .inl (g.2.1.2.1, 1200, .inl f4))] := hD
  refine lv_iinc (v := (-8)) (lv' := [(2, .int (-8)), (0, .ref xt), (1, .int x)]) hx hb dX7_put_40 hl (k := 0) rfl (by decide) (by decide) rfl (fun ls hl => ?_)
  refine lv_goto (tgt := 3) hx hb dX7_put_43 (by decide) ?_
  refine lv_iload_n hx hb dX7_put_3 rfl (lv_at hl 0 rfl) ?_
  refine lv_if_lt (tgt := 46) hx hb dX7_put_4 (by decide) (fun c4 => ?_) (fun c4 => (c4 (by decide)).elim)
  exact zrv (rm := { frames := 0, cells := 0, slots := 0, locals := 0 }) f4 hx hb hr hlocks (Nat.le_of_ble_eq_true rfl) (Nat.le_of_ble_eq_true rfl) (trivial) hP hD hS dX7_put_46
theorem dX7_at_0 : decode cX7_at 0 = .ok (.iload_n 1, 1) := by decide +kernel
theorem dX7_at_1 : decode cX7_at 1 = .ok (.ifCond .lt 31, 3) := by decide +kernel
theorem dX7_at_4 : decode cX7_at 4 = .ok (.iload_n 1, 1) := by decide +kernel
theorem dX7_at_5 : decode cX7_at 5 = .ok (.aload_n 0, 1) := by decide +kernel
theorem dX7_at_6 : decode cX7_at 6 = .ok (.getfield 15, 3) := by decide +kernel
theorem dX7_at_9 : decode cX7_at 9 = .ok (.if_icmp .ge 23, 3) := by decide +kernel
theorem dX7_at_32 : decode cX7_at 32 = .ok (.iconst (-1), 1) := by decide +kernel
theorem dX7_at_33 : decode cX7_at 33 = .ok (.ireturn, 1) := by decide +kernel
set_option maxHeartbeats 4000000 in
set_option maxRecDepth 100000 in
theorem kX7_at (l : Launch) (g : zL) (xt : Nat) (xb : Nat) : zCi l g yX7_at cX7_at 2 (some .int) { frames := 0, cells := 0, slots := 0, locals := 0 } [.ref xt, .int 0] [(xt, .inr (7, [.ref xb, .int 0]))] (fun (r : Int32) (u : Unit) => r = (-1)) (fun (u : Unit) => [(xt, .inr (7, [.ref xb, .int 0]))]) := by
  refine zCi.mk (by decide) (Nat.le_of_ble_eq_true rfl) ?_
  intro p e s m below meth c A hE hP hD hS ls hl
  obtain ⟨hx, hb, hr, hml, hown, hG, hlocks, hnm, hX, hA⟩ := hE
  have hown : s.vm.findClass RX7 = some m.cls := hown
  have hl : lv_has ls 2 [(0, .ref xt), (1, .int 0)] := hl
  refine lv_iload_n hx hb dX7_at_0 rfl (lv_at hl 1 rfl) ?_
  refine lv_if_lt (tgt := 32) hx hb dX7_at_1 (by decide) (fun c1 => absurd c1 (by decide)) (fun c1 => ?_)
  refine lv_iload_n hx hb dX7_at_4 rfl (lv_at hl 1 rfl) ?_
  refine lv_aload_n hx hb dX7_at_5 rfl (lv_at hl 0 rfl) ?_
  refine va_get (D := g.1) (ci := 7) (v := .int 0) (C := RX7) (T := TX7) (N := 2) hx hb hG iX7 hown hX.1 hP 0 rfl rfl 1 (by decide) (hG _ g235) (fun _ h9 => h9) rfl dX7_at_6 ?_
  refine lv_icmp_ge (tgt := 32) hx hb dX7_at_9 (by decide) (fun c9 => ?_) (fun c9 => (c9 (by decide)).elim)
  refine lv_iconst (v := (-1)) hx hb dX7_at_32 (by decide) ?_
  exact zri (rm := { frames := 0, cells := 0, slots := 0, locals := 0 }) (v := (-1)) () hx hb hr hlocks (Nat.le_of_ble_eq_true rfl) (Nat.le_of_ble_eq_true rfl) (rfl) hP hD hS dX7_at_33
theorem dX8_feed_0 : decode cX8_feed 0 = .ok (.aload_n 0, 1) := by decide +kernel
theorem dX8_feed_1 : decode cX8_feed 1 = .ok (.getfield 10, 3) := by decide +kernel
theorem dX8_feed_4 : decode cX8_feed 4 = .ok (.invokevirtual 78, 3) := by decide +kernel
theorem dX8_feed_7 : decode cX8_feed 7 = .ok (.ifCond .ne 9, 3) := by decide +kernel
theorem dX8_feed_16 : decode cX8_feed 16 = .ok (.aload_n 0, 1) := by decide +kernel
theorem dX8_feed_17 : decode cX8_feed 17 = .ok (.getfield 10, 3) := by decide +kernel
theorem dX8_feed_20 : decode cX8_feed 20 = .ok (.iload_n 1, 1) := by decide +kernel
theorem dX8_feed_21 : decode cX8_feed 21 = .ok (.invokevirtual 86, 3) := by decide +kernel
theorem dX8_feed_24 : decode cX8_feed 24 = .ok (.aload_n 0, 1) := by decide +kernel
theorem dX8_feed_25 : decode cX8_feed 25 = .ok (.getfield 10, 3) := by decide +kernel
theorem dX8_feed_28 : decode cX8_feed 28 = .ok (.iload_n 2, 1) := by decide +kernel
theorem dX8_feed_29 : decode cX8_feed 29 = .ok (.invokevirtual 86, 3) := by decide +kernel
theorem dX8_feed_32 : decode cX8_feed 32 = .ok (.aload_n 0, 1) := by decide +kernel
theorem dX8_feed_33 : decode cX8_feed 33 = .ok (.getfield 10, 3) := by decide +kernel
theorem dX8_feed_36 : decode cX8_feed 36 = .ok (.iload_n 3, 1) := by decide +kernel
theorem dX8_feed_37 : decode cX8_feed 37 = .ok (.invokevirtual 86, 3) := by decide +kernel
theorem dX8_feed_40 : decode cX8_feed 40 = .ok (.aload_n 0, 1) := by decide +kernel
theorem dX8_feed_41 : decode cX8_feed 41 = .ok (.getfield 10, 3) := by decide +kernel
theorem dX8_feed_44 : decode cX8_feed 44 = .ok (.iload 4, 2) := by decide +kernel
theorem dX8_feed_46 : decode cX8_feed 46 = .ok (.invokevirtual 86, 3) := by decide +kernel
theorem dX8_feed_49 : decode cX8_feed 49 = .ok (.aload_n 0, 1) := by decide +kernel
theorem dX8_feed_50 : decode cX8_feed 50 = .ok (.getfield 10, 3) := by decide +kernel
theorem dX8_feed_53 : decode cX8_feed 53 = .ok (.iload 5, 2) := by decide +kernel
theorem dX8_feed_55 : decode cX8_feed 55 = .ok (.invokevirtual 86, 3) := by decide +kernel
theorem dX8_feed_58 : decode cX8_feed 58 = .ok (.aload_n 0, 1) := by decide +kernel
theorem dX8_feed_59 : decode cX8_feed 59 = .ok (.getfield 10, 3) := by decide +kernel
theorem dX8_feed_62 : decode cX8_feed 62 = .ok (.getfield 90, 3) := by decide +kernel
theorem dX8_feed_65 : decode cX8_feed 65 = .ok (.ireturn, 1) := by decide +kernel
set_option maxHeartbeats 4000000 in
set_option maxRecDepth 100000 in
theorem kX8_feed (l : Launch) (g : zL) (h0 : Nat) (x0 : Int32) (x1 : Int32) (x2 : Int32) (x3 : Int32) (x4 : Int32) (xt : Nat) (xr : Nat) (xp : Nat) (xs : Nat) (xm : Nat) (xh : Nat) (xe : Nat) (xf : Nat) (pa : Nat) (dr : Nat) (xb : Nat) (f : Nat → Int32) : zCi l g yX8_feed cX8_feed 6 (some .int) { frames := 1, cells := 0, slots := 0, locals := 22 } [.ref h0, .int x0, .int x1, .int x2, .int x3, .int x4] [(h0, .inr (8, [.ref xt, .ref xr, .ref xp, .ref xs, .ref xm, .ref xh, .ref xe, .ref xf, .ref pa, .ref dr, .int 0, .int 1, .int 0, .int 0])), (xt, .inr (7, [.ref xb, .int 0])), (xb, .inl (g.2.1.2.1, 1200, .inl f))] (fun (r : Int32) (u : Unit) => r = 20) (fun (u : Unit) => []) := by
  refine zCi.mk (by decide) (Nat.le_of_ble_eq_true rfl) ?_
  intro p e s m below meth c A hE hP hD hS ls hl
  obtain ⟨hx, hb, hr, hml, hown, hG, hlocks, hnm, hX, hA⟩ := hE
  have hown : s.vm.findClass RX8 = some m.cls := hown
  have hl : lv_has ls 6 [(0, .ref h0), (1, .int x0), (2, .int x1), (3, .int x2), (4, .int x3), (5, .int x4)] := hl
  refine lv_aload_n hx hb dX8_feed_0 rfl (lv_at hl 0 rfl) ?_
  refine va_get (D := g.1) (ci := 8) (v := .ref xt) (C := RX8) (T := TX8) (N := 14) hx hb hG iX8 hown hX.1 hP 0 rfl rfl 0 (by decide) (hG _ g507) (fun _ h9 => h9) rfl dX8_feed_1 ?_
  refine zfi (wr := [(h0, .inr (8, [.ref xt, .ref xr, .ref xp, .ref xs, .ref xm, .ref xh, .ref xe, .ref xf, .ref pa, .ref dr, .int 0, .int 1, .int 0, .int 0])), (xb, .inl (g.2.1.2.1, 1200, .inl f))]) (va_runVN (As := []) (rest := []) ⟨hx, hb, hml, hown, hG⟩ (kX7_hasRoom l g xt xb _) ⟨va_cnB 0 hG (zGood g557) rfl rfl rfl (hX.2.1.ml g554) (hG _ g203) hX7_hasRoom ⟨Nat.le_of_ble_eq_true rfl, Nat.le_of_ble_eq_true rfl⟩, hG _ g556, hG _ g0⟩ (zpreV (va_recv hX.1 hP (ci := 7) (q0 := 1) rfl rfl) hX hP hD hS hA [1] rfl (by decide)) rfl rfl hl.1 rfl (lv_room (Nat.le_of_ble_eq_true rfl)) dX8_feed_4 ⟨Nat.le_of_ble_eq_true rfl, Nat.le_of_ble_eq_true rfl⟩) hP hD hS hA [1] [0, 2] rfl rfl (by decide) (by decide) (fun r1 _ H locs hp hP hD hS => ?_)
  refine W.cs (cells' := 0) (slots' := 0) rfl rfl ?_
  have hq2 : r1 = 1 := hp
  subst hq2
  have hP : va_P g.1 vwCl [(h0, .inr (8, [.ref xt, .ref xr, .ref xp, .ref xs, .ref xm, .ref xh, .ref xe, .ref xf, .ref pa, .ref dr, .int 0, .int 1, .int 0, .int 0])), (xb, .inl (g.2.1.2.1, 1200, .inl f)), (xt, .inr (7, [.ref xb, .int 0]))] H := hP
  have hD : va_D A [(h0, .inr (8, [.ref xt, .ref xr, .ref xp, .ref xs, .ref xm, .ref xh, .ref xe, .ref xf, .ref pa, .ref dr, .int 0, .int 1, .int 0, .int 0])), (xb, .inl (g.2.1.2.1, 1200, .inl f)), (xt, .inr (7, [.ref xb, .int 0]))] := hD
  refine lv_if_ne (tgt := 16) hx hb dX8_feed_7 (by decide) (fun c7 => ?_) (fun c7 => absurd c7 (by decide))
  refine lv_aload_n hx hb dX8_feed_16 rfl (lv_at hl 0 rfl) ?_
  refine va_get (D := g.1) (ci := 8) (v := .ref xt) (C := RX8) (T := TX8) (N := 14) hx hb hG iX8 hown hX.1 hP 0 rfl rfl 0 (by decide) (hG _ g507) (fun _ h9 => h9) rfl dX8_feed_17 ?_
  refine lv_iload_n hx hb dX8_feed_20 rfl (lv_at hl 1 rfl) ?_
  refine zfv (wr := [(h0, .inr (8, [.ref xt, .ref xr, .ref xp, .ref xs, .ref xm, .ref xh, .ref xe, .ref xf, .ref pa, .ref dr, .int 0, .int 1, .int 0, .int 0]))]) (va_runVN (As := [.int x0]) (rest := []) ⟨hx, hb, hml, hown, hG⟩ (kX7_put0 l g xt x0 xb f _) ⟨va_cnB 1 hG (zGood g565) rfl rfl rfl (hX.2.1.ml g562) (hG _ g203) hX7_put ⟨Nat.le_of_ble_eq_true rfl, Nat.le_of_ble_eq_true rfl⟩, hG _ g564, hG _ g2⟩ (zpreV (va_recv hX.1 hP (ci := 7) (q0 := 2) rfl rfl) hX hP hD hS hA [2, 1] rfl (by decide)) rfl rfl hl.1 rfl (lv_room (Nat.le_of_ble_eq_true rfl)) dX8_feed_21 ⟨Nat.le_of_ble_eq_true rfl, Nat.le_of_ble_eq_true rfl⟩) hP hD hS hA [2, 1] [0] rfl rfl (by decide) (by decide) (fun u4 H locs hp hP hD hS => ?_)
  refine W.cs (cells' := 0) (slots' := 0) rfl rfl ?_
  have hP : va_P g.1 vwCl [(h0, .inr (8, [.ref xt, .ref xr, .ref xp, .ref xs, .ref xm, .ref xh, .ref xe, .ref xf, .ref pa, .ref dr, .int 0, .int 1, .int 0, .int 0])), (xt, .inr (7, [.ref xb, .int 4])), (xb, .inl (g.2.1.2.1, 1200, .inl u4))] H := hP
  have hD : va_D A [(h0, .inr (8, [.ref xt, .ref xr, .ref xp, .ref xs, .ref xm, .ref xh, .ref xe, .ref xf, .ref pa, .ref dr, .int 0, .int 1, .int 0, .int 0])), (xt, .inr (7, [.ref xb, .int 4])), (xb, .inl (g.2.1.2.1, 1200, .inl u4))] := hD
  refine lv_aload_n hx hb dX8_feed_24 rfl (lv_at hl 0 rfl) ?_
  refine va_get (D := g.1) (ci := 8) (v := .ref xt) (C := RX8) (T := TX8) (N := 14) hx hb hG iX8 hown hX.1 hP 0 rfl rfl 0 (by decide) (hG _ g507) (fun _ h9 => h9) rfl dX8_feed_25 ?_
  refine lv_iload_n hx hb dX8_feed_28 rfl (lv_at hl 2 rfl) ?_
  refine zfv (wr := [(h0, .inr (8, [.ref xt, .ref xr, .ref xp, .ref xs, .ref xm, .ref xh, .ref xe, .ref xf, .ref pa, .ref dr, .int 0, .int 1, .int 0, .int 0]))]) (va_runVN (As := [.int x1]) (rest := []) ⟨hx, hb, hml, hown, hG⟩ (kX7_put4 l g xt x1 xb u4 _) ⟨va_cnB 1 hG (zGood g565) rfl rfl rfl (hX.2.1.ml g562) (hG _ g203) hX7_put ⟨Nat.le_of_ble_eq_true rfl, Nat.le_of_ble_eq_true rfl⟩, hG _ g564, hG _ g2⟩ (zpreV (va_recv hX.1 hP (ci := 7) (q0 := 1) rfl rfl) hX hP hD hS hA [1, 2] rfl (by decide)) rfl rfl hl.1 rfl (lv_room (Nat.le_of_ble_eq_true rfl)) dX8_feed_29 ⟨Nat.le_of_ble_eq_true rfl, Nat.le_of_ble_eq_true rfl⟩) hP hD hS hA [1, 2] [0] rfl rfl (by decide) (by decide) (fun u6 H locs hp hP hD hS => ?_)
  refine W.cs (cells' := 0) (slots' := 0) rfl rfl ?_
  have hP : va_P g.1 vwCl [(h0, .inr (8, [.ref xt, .ref xr, .ref xp, .ref xs, .ref xm, .ref xh, .ref xe, .ref xf, .ref pa, .ref dr, .int 0, .int 1, .int 0, .int 0])), (xt, .inr (7, [.ref xb, .int 8])), (xb, .inl (g.2.1.2.1, 1200, .inl u6))] H := hP
  have hD : va_D A [(h0, .inr (8, [.ref xt, .ref xr, .ref xp, .ref xs, .ref xm, .ref xh, .ref xe, .ref xf, .ref pa, .ref dr, .int 0, .int 1, .int 0, .int 0])), (xt, .inr (7, [.ref xb, .int 8])), (xb, .inl (g.2.1.2.1, 1200, .inl u6))] := hD
  refine lv_aload_n hx hb dX8_feed_32 rfl (lv_at hl 0 rfl) ?_
  refine va_get (D := g.1) (ci := 8) (v := .ref xt) (C := RX8) (T := TX8) (N := 14) hx hb hG iX8 hown hX.1 hP 0 rfl rfl 0 (by decide) (hG _ g507) (fun _ h9 => h9) rfl dX8_feed_33 ?_
  refine lv_iload_n hx hb dX8_feed_36 rfl (lv_at hl 3 rfl) ?_
  refine zfv (wr := [(h0, .inr (8, [.ref xt, .ref xr, .ref xp, .ref xs, .ref xm, .ref xh, .ref xe, .ref xf, .ref pa, .ref dr, .int 0, .int 1, .int 0, .int 0]))]) (va_runVN (As := [.int x2]) (rest := []) ⟨hx, hb, hml, hown, hG⟩ (kX7_put8 l g xt x2 xb u6 _) ⟨va_cnB 1 hG (zGood g565) rfl rfl rfl (hX.2.1.ml g562) (hG _ g203) hX7_put ⟨Nat.le_of_ble_eq_true rfl, Nat.le_of_ble_eq_true rfl⟩, hG _ g564, hG _ g2⟩ (zpreV (va_recv hX.1 hP (ci := 7) (q0 := 1) rfl rfl) hX hP hD hS hA [1, 2] rfl (by decide)) rfl rfl hl.1 rfl (lv_room (Nat.le_of_ble_eq_true rfl)) dX8_feed_37 ⟨Nat.le_of_ble_eq_true rfl, Nat.le_of_ble_eq_true rfl⟩) hP hD hS hA [1, 2] [0] rfl rfl (by decide) (by decide) (fun u8 H locs hp hP hD hS => ?_)
  refine W.cs (cells' := 0) (slots' := 0) rfl rfl ?_
  have hP : va_P g.1 vwCl [(h0, .inr (8, [.ref xt, .ref xr, .ref xp, .ref xs, .ref xm, .ref xh, .ref xe, .ref xf, .ref pa, .ref dr, .int 0, .int 1, .int 0, .int 0])), (xt, .inr (7, [.ref xb, .int 12])), (xb, .inl (g.2.1.2.1, 1200, .inl u8))] H := hP
  have hD : va_D A [(h0, .inr (8, [.ref xt, .ref xr, .ref xp, .ref xs, .ref xm, .ref xh, .ref xe, .ref xf, .ref pa, .ref dr, .int 0, .int 1, .int 0, .int 0])), (xt, .inr (7, [.ref xb, .int 12])), (xb, .inl (g.2.1.2.1, 1200, .inl u8))] := hD
  refine lv_aload_n hx hb dX8_feed_40 rfl (lv_at hl 0 rfl) ?_
  refine va_get (D := g.1) (ci := 8) (v := .ref xt) (C := RX8) (T := TX8) (N := 14) hx hb hG iX8 hown hX.1 hP 0 rfl rfl 0 (by decide) (hG _ g507) (fun _ h9 => h9) rfl dX8_feed_41 ?_
  refine lv_iload hx hb dX8_feed_44 (lv_at hl 4 rfl) ?_
  refine zfv (wr := [(h0, .inr (8, [.ref xt, .ref xr, .ref xp, .ref xs, .ref xm, .ref xh, .ref xe, .ref xf, .ref pa, .ref dr, .int 0, .int 1, .int 0, .int 0]))]) (va_runVN (As := [.int x3]) (rest := []) ⟨hx, hb, hml, hown, hG⟩ (kX7_put12 l g xt x3 xb u8 _) ⟨va_cnB 1 hG (zGood g565) rfl rfl rfl (hX.2.1.ml g562) (hG _ g203) hX7_put ⟨Nat.le_of_ble_eq_true rfl, Nat.le_of_ble_eq_true rfl⟩, hG _ g564, hG _ g2⟩ (zpreV (va_recv hX.1 hP (ci := 7) (q0 := 1) rfl rfl) hX hP hD hS hA [1, 2] rfl (by decide)) rfl rfl hl.1 rfl (lv_room (Nat.le_of_ble_eq_true rfl)) dX8_feed_46 ⟨Nat.le_of_ble_eq_true rfl, Nat.le_of_ble_eq_true rfl⟩) hP hD hS hA [1, 2] [0] rfl rfl (by decide) (by decide) (fun u10 H locs hp hP hD hS => ?_)
  refine W.cs (cells' := 0) (slots' := 0) rfl rfl ?_
  have hP : va_P g.1 vwCl [(h0, .inr (8, [.ref xt, .ref xr, .ref xp, .ref xs, .ref xm, .ref xh, .ref xe, .ref xf, .ref pa, .ref dr, .int 0, .int 1, .int 0, .int 0])), (xt, .inr (7, [.ref xb, .int 16])), (xb, .inl (g.2.1.2.1, 1200, .inl u10))] H := hP
  have hD : va_D A [(h0, .inr (8, [.ref xt, .ref xr, .ref xp, .ref xs, .ref xm, .ref xh, .ref xe, .ref xf, .ref pa, .ref dr, .int 0, .int 1, .int 0, .int 0])), (xt, .inr (7, [.ref xb, .int 16])), (xb, .inl (g.2.1.2.1, 1200, .inl u10))] := hD
  refine lv_aload_n hx hb dX8_feed_49 rfl (lv_at hl 0 rfl) ?_
  refine va_get (D := g.1) (ci := 8) (v := .ref xt) (C := RX8) (T := TX8) (N := 14) hx hb hG iX8 hown hX.1 hP 0 rfl rfl 0 (by decide) (hG _ g507) (fun _ h9 => h9) rfl dX8_feed_50 ?_
  refine lv_iload hx hb dX8_feed_53 (lv_at hl 5 rfl) ?_
  refine zfv (wr := [(h0, .inr (8, [.ref xt, .ref xr, .ref xp, .ref xs, .ref xm, .ref xh, .ref xe, .ref xf, .ref pa, .ref dr, .int 0, .int 1, .int 0, .int 0]))]) (va_runVN (As := [.int x4]) (rest := []) ⟨hx, hb, hml, hown, hG⟩ (kX7_put16 l g xt x4 xb u10 _) ⟨va_cnB 1 hG (zGood g565) rfl rfl rfl (hX.2.1.ml g562) (hG _ g203) hX7_put ⟨Nat.le_of_ble_eq_true rfl, Nat.le_of_ble_eq_true rfl⟩, hG _ g564, hG _ g2⟩ (zpreV (va_recv hX.1 hP (ci := 7) (q0 := 1) rfl rfl) hX hP hD hS hA [1, 2] rfl (by decide)) rfl rfl hl.1 rfl (lv_room (Nat.le_of_ble_eq_true rfl)) dX8_feed_55 ⟨Nat.le_of_ble_eq_true rfl, Nat.le_of_ble_eq_true rfl⟩) hP hD hS hA [1, 2] [0] rfl rfl (by decide) (by decide) (fun u12 H locs hp hP hD hS => ?_)
  refine W.cs (cells' := 0) (slots' := 0) rfl rfl ?_
  have hP : va_P g.1 vwCl [(h0, .inr (8, [.ref xt, .ref xr, .ref xp, .ref xs, .ref xm, .ref xh, .ref xe, .ref xf, .ref pa, .ref dr, .int 0, .int 1, .int 0, .int 0])), (xt, .inr (7, [.ref xb, .int 20])), (xb, .inl (g.2.1.2.1, 1200, .inl u12))] H := hP
  have hD : va_D A [(h0, .inr (8, [.ref xt, .ref xr, .ref xp, .ref xs, .ref xm, .ref xh, .ref xe, .ref xf, .ref pa, .ref dr, .int 0, .int 1, .int 0, .int 0])), (xt, .inr (7, [.ref xb, .int 20])), (xb, .inl (g.2.1.2.1, 1200, .inl u12))] := hD
  refine lv_aload_n hx hb dX8_feed_58 rfl (lv_at hl 0 rfl) ?_
  refine va_get (D := g.1) (ci := 8) (v := .ref xt) (C := RX8) (T := TX8) (N := 14) hx hb hG iX8 hown hX.1 hP 0 rfl rfl 0 (by decide) (hG _ g507) (fun _ h9 => h9) rfl dX8_feed_59 ?_
  refine va_getN (D := g.1) (ci := 7) (v := .int 20) (C := RX7) (T := TX7) (N := 2) hx hb hG iX7 hown hX.1 hP 1 rfl rfl 1 (by decide) (hX.2.1.fl g237) (fun _ h9 => h9) rfl dX8_feed_62 ?_
  exact zri (rm := { frames := 1, cells := 0, slots := 0, locals := 22 }) (v := 20) () hx hb hr hlocks (Nat.le_of_ble_eq_true rfl) (Nat.le_of_ble_eq_true rfl) (rfl) (hP.sub [] rfl) (hD.sub [] (by decide) rfl) hS dX8_feed_65
theorem dX8_end_0 : decode cX8_end 0 = .ok (.iload_n 1, 1) := by decide +kernel
theorem dX8_end_1 : decode cX8_end 1 = .ok (.ifCond .lt 14, 3) := by decide +kernel
theorem dX8_end_15 : decode cX8_end 15 = .ok (.aload_n 0, 1) := by decide +kernel
theorem dX8_end_16 : decode cX8_end 16 = .ok (.iconst 0, 1) := by decide +kernel
theorem dX8_end_17 : decode cX8_end 17 = .ok (.invokevirtual 93, 3) := by decide +kernel
theorem dX8_end_20 : decode cX8_end 20 = .ok (.ireturn, 1) := by decide +kernel
theorem dX8_end_4 : decode cX8_end 4 = .ok (.iload_n 1, 1) := by decide +kernel
theorem dX8_end_5 : decode cX8_end 5 = .ok (.aload_n 0, 1) := by decide +kernel
theorem dX8_end_6 : decode cX8_end 6 = .ok (.getfield 10, 3) := by decide +kernel
theorem dX8_end_9 : decode cX8_end 9 = .ok (.getfield 90, 3) := by decide +kernel
theorem dX8_end_12 : decode cX8_end 12 = .ok (.if_icmp .le 9, 3) := by decide +kernel
theorem dX8_end_21 : decode cX8_end 21 = .ok (.aload_n 0, 1) := by decide +kernel
theorem dX8_end_22 : decode cX8_end 22 = .ok (.getfield 10, 3) := by decide +kernel
theorem dX8_end_25 : decode cX8_end 25 = .ok (.iload_n 1, 1) := by decide +kernel
theorem dX8_end_26 : decode cX8_end 26 = .ok (.putfield 90, 3) := by decide +kernel
theorem dX8_end_29 : decode cX8_end 29 = .ok (.iconst 1, 1) := by decide +kernel
theorem dX8_end_30 : decode cX8_end 30 = .ok (.ireturn, 1) := by decide +kernel
set_option maxHeartbeats 4000000 in
set_option maxRecDepth 100000 in
theorem kX8_end (l : Launch) (g : zL) (h0 : Nat) (x : Int32) (xt : Nat) (xr : Nat) (xp : Nat) (xs : Nat) (xm : Nat) (xh : Nat) (xe : Nat) (xf : Nat) (pa : Nat) (dr : Nat) (xb : Nat) (f : Nat → Int32) : zCi l g yX8_end cX8_end 2 (some .boolean) { frames := 2, cells := 0, slots := 0, locals := 42 } [.ref h0, .int x] [(h0, .inr (8, [.ref xt, .ref xr, .ref xp, .ref xs, .ref xm, .ref xh, .ref xe, .ref xf, .ref pa, .ref dr, .int 0, .int 1, .int 0, .int 0])), (xt, .inr (7, [.ref xb, .int 0])), (xf, .inl (g.2.1.1, 6, .inl f))] (fun (r : Int32) (u : Unit) => r = sp_end x) (fun (u : Unit) => []) := by
  refine zCi.mk (by decide) (Nat.le_of_ble_eq_true rfl) ?_
  intro p e s m below meth c A hE hP hD hS ls hl
  obtain ⟨hx, hb, hr, hml, hown, hG, hlocks, hnm, hX, hA⟩ := hE
  have hown : s.vm.findClass RX8 = some m.cls := hown
  have hl : lv_has ls 2 [(0, .ref h0), (1, .int x)] := hl
  refine lv_iload_n hx hb dX8_end_0 rfl (lv_at hl 1 rfl) ?_
  refine lv_if_lt (tgt := 15) hx hb dX8_end_1 (by decide) (fun c1 => ?_) (fun c1 => ?_)
  · skip
    have c1i : x.toInt < 0 := (zc_lt (rfl : x.toInt = _) (show (0 : Int32).toInt = 0 from by decide)).mp c1
    refine lv_aload_n hx hb dX8_end_15 rfl (lv_at hl 0 rfl) ?_
    refine lv_iconst (v := 0) hx hb dX8_end_16 (by decide) ?_
    refine zfi (wr := [(xt, .inr (7, [.ref xb, .int 0]))]) (va_runV (As := [.int 0]) (rest := []) ⟨hx, hb, hml, hown, hG⟩ (kX8_deny0 l g h0 xt xr xp xs xm xh xe xf pa dr f _) ⟨callB_of 1 hG (zGood g573) rfl rfl rfl (hG _ g202) (hG _ g570) hX8_deny ⟨Nat.le_of_ble_eq_true rfl, Nat.le_of_ble_eq_true rfl⟩, hG _ g572, hG _ g3⟩ (zpreV (va_recv hX.1 hP (ci := 8) (q0 := 0) rfl rfl) hX hP hD hS hA [0, 2] rfl (by decide)) rfl rfl hl.1 rfl (lv_room (Nat.le_of_ble_eq_true rfl)) dX8_end_17 ⟨Nat.le_of_ble_eq_true rfl, Nat.le_of_ble_eq_true rfl⟩) hP hD hS hA [0, 2] [1] rfl rfl (by decide) (by decide) (fun r1 u2 H locs hp hP hD hS => ?_)
    refine W.cs (cells' := 0) (slots' := 0) rfl rfl ?_
    have hq3 : r1 = 0 := hp
    subst hq3
    have hP : va_P g.1 vwCl [(xt, .inr (7, [.ref xb, .int 0])), (h0, .inr (8, [.ref xt, .ref xr, .ref xp, .ref xs, .ref xm, .ref xh, .ref xe, .ref xf, .ref pa, .ref dr, .int 0, .int 1, .int 0, .int 0])), (xf, .inl (g.2.1.1, 6, .inl u2))] H := hP
    have hD : va_D A [(xt, .inr (7, [.ref xb, .int 0])), (h0, .inr (8, [.ref xt, .ref xr, .ref xp, .ref xs, .ref xm, .ref xh, .ref xe, .ref xf, .ref pa, .ref dr, .int 0, .int 1, .int 0, .int 0])), (xf, .inl (g.2.1.1, 6, .inl u2))] := hD
    exact zrz (rm := { frames := 2, cells := 0, slots := 0, locals := 42 }) (v := 0) () hx hb hr hlocks (rfl) (Nat.le_of_ble_eq_true rfl) (Nat.le_of_ble_eq_true rfl) (by first | exact (sp_end_t (by omega)).symm | exact (sp_end_f (by omega)).symm) (hP.sub [] rfl) (hD.sub [] (by decide) rfl) hS dX8_end_20
  · skip
    have c1i : ¬ x.toInt < 0 := fun q => c1 ((zc_lt (rfl : x.toInt = _) (show (0 : Int32).toInt = 0 from by decide)).mpr q)
    refine lv_iload_n hx hb dX8_end_4 rfl (lv_at hl 1 rfl) ?_
    refine lv_aload_n hx hb dX8_end_5 rfl (lv_at hl 0 rfl) ?_
    refine va_get (D := g.1) (ci := 8) (v := .ref xt) (C := RX8) (T := TX8) (N := 14) hx hb hG iX8 hown hX.1 hP 0 rfl rfl 0 (by decide) (hG _ g507) (fun _ h9 => h9) rfl dX8_end_6 ?_
    refine va_getN (D := g.1) (ci := 7) (v := .int 0) (C := RX7) (T := TX7) (N := 2) hx hb hG iX7 hown hX.1 hP 1 rfl rfl 1 (by decide) (hX.2.1.fl g237) (fun _ h9 => h9) rfl dX8_end_9 ?_
    refine lv_icmp_le (tgt := 21) hx hb dX8_end_12 (by decide) (fun c12 => ?_) (fun c12 => ?_)
    · skip
      have c12i : x.toInt ≤ 0 := (zc_le (rfl : x.toInt = _) (show (0 : Int32).toInt = 0 from by decide)).mp c12
      refine lv_aload_n hx hb dX8_end_21 rfl (lv_at hl 0 rfl) ?_
      refine va_get (D := g.1) (ci := 8) (v := .ref xt) (C := RX8) (T := TX8) (N := 14) hx hb hG iX8 hown hX.1 hP 0 rfl rfl 0 (by decide) (hG _ g507) (fun _ h9 => h9) rfl dX8_end_22 ?_
      refine lv_iload_n hx hb dX8_end_25 rfl (lv_at hl 1 rfl) ?_
      refine va_putN (D := g.1) (ci := 7) (v := .int x) (ty := .int) (C := RX7) (T := TX7) (N := 2) hx hb hG iX7 tyX7 tyX7_ok nmX7 hown hX.1 hP hD hS 1 rfl rfl 1 (by decide) (hX.2.1.fl g237) (fun _ h9 => h9) rfl (by decide +kernel) rfl rfl (Nat.le_of_ble_eq_true rfl) dX8_end_26 (fun H locs hP hD hS => ?_)
      have hP : va_P g.1 vwCl [(h0, .inr (8, [.ref xt, .ref xr, .ref xp, .ref xs, .ref xm, .ref xh, .ref xe, .ref xf, .ref pa, .ref dr, .int 0, .int 1, .int 0, .int 0])), (xt, .inr (7, [.ref xb, .int x])), (xf, .inl (g.2.1.1, 6, .inl f))] H := hP
      have hD : va_D A [(h0, .inr (8, [.ref xt, .ref xr, .ref xp, .ref xs, .ref xm, .ref xh, .ref xe, .ref xf, .ref pa, .ref dr, .int 0, .int 1, .int 0, .int 0])), (xt, .inr (7, [.ref xb, .int x])), (xf, .inl (g.2.1.1, 6, .inl f))] := hD
      refine lv_iconst (v := 1) hx hb dX8_end_29 (by decide) ?_
      exact zrz (rm := { frames := 2, cells := 0, slots := 0, locals := 42 }) (v := 1) () hx hb hr hlocks (rfl) (Nat.le_of_ble_eq_true rfl) (Nat.le_of_ble_eq_true rfl) (by first | exact (sp_end_t (by omega)).symm | exact (sp_end_f (by omega)).symm) (hP.sub [] rfl) (hD.sub [] (by decide) rfl) hS dX8_end_30
    · skip
      have c12i : ¬ x.toInt ≤ 0 := fun q => c12 ((zc_le (rfl : x.toInt = _) (show (0 : Int32).toInt = 0 from by decide)).mpr q)
      refine lv_aload_n hx hb dX8_end_15 rfl (lv_at hl 0 rfl) ?_
      refine lv_iconst (v := 0) hx hb dX8_end_16 (by decide) ?_
      refine zfi (wr := [(xt, .inr (7, [.ref xb, .int 0]))]) (va_runV (As := [.int 0]) (rest := []) ⟨hx, hb, hml, hown, hG⟩ (kX8_deny0 l g h0 xt xr xp xs xm xh xe xf pa dr f _) ⟨callB_of 1 hG (zGood g573) rfl rfl rfl (hG _ g202) (hG _ g570) hX8_deny ⟨Nat.le_of_ble_eq_true rfl, Nat.le_of_ble_eq_true rfl⟩, hG _ g572, hG _ g3⟩ (zpreV (va_recv hX.1 hP (ci := 8) (q0 := 0) rfl rfl) hX hP hD hS hA [0, 2] rfl (by decide)) rfl rfl hl.1 rfl (lv_room (Nat.le_of_ble_eq_true rfl)) dX8_end_17 ⟨Nat.le_of_ble_eq_true rfl, Nat.le_of_ble_eq_true rfl⟩) hP hD hS hA [0, 2] [1] rfl rfl (by decide) (by decide) (fun r4 u5 H locs hp hP hD hS => ?_)
      refine W.cs (cells' := 0) (slots' := 0) rfl rfl ?_
      have hq6 : r4 = 0 := hp
      subst hq6
      have hP : va_P g.1 vwCl [(xt, .inr (7, [.ref xb, .int 0])), (h0, .inr (8, [.ref xt, .ref xr, .ref xp, .ref xs, .ref xm, .ref xh, .ref xe, .ref xf, .ref pa, .ref dr, .int 0, .int 1, .int 0, .int 0])), (xf, .inl (g.2.1.1, 6, .inl u5))] H := hP
      have hD : va_D A [(xt, .inr (7, [.ref xb, .int 0])), (h0, .inr (8, [.ref xt, .ref xr, .ref xp, .ref xs, .ref xm, .ref xh, .ref xe, .ref xf, .ref pa, .ref dr, .int 0, .int 1, .int 0, .int 0])), (xf, .inl (g.2.1.1, 6, .inl u5))] := hD
      exact zrz (rm := { frames := 2, cells := 0, slots := 0, locals := 42 }) (v := 0) () hx hb hr hlocks (rfl) (Nat.le_of_ble_eq_true rfl) (Nat.le_of_ble_eq_true rfl) (by first | exact (sp_end_t (by omega)).symm | exact (sp_end_f (by omega)).symm) (hP.sub [] rfl) (hD.sub [] (by decide) rfl) hS dX8_end_20
theorem dX8_fault_0 : decode cX8_fault 0 = .ok (.iload_n 1, 1) := by decide +kernel
theorem dX8_fault_1 : decode cX8_fault 1 = .ok (.ifCond .ne 11, 3) := by decide +kernel
theorem dX8_fault_12 : decode cX8_fault 12 = .ok (.iload_n 1, 1) := by decide +kernel
theorem dX8_fault_13 : decode cX8_fault 13 = .ok (.iconst 1, 1) := by decide +kernel
theorem dX8_fault_14 : decode cX8_fault 14 = .ok (.if_icmp .ne 13, 3) := by decide +kernel
theorem dX8_fault_27 : decode cX8_fault 27 = .ok (.iconst (-1), 1) := by decide +kernel
theorem dX8_fault_28 : decode cX8_fault 28 = .ok (.ireturn, 1) := by decide +kernel
theorem dX8_fault_17 : decode cX8_fault 17 = .ok (.aload_n 0, 1) := by decide +kernel
theorem dX8_fault_18 : decode cX8_fault 18 = .ok (.getfield 21, 3) := by decide +kernel
theorem dX8_fault_21 : decode cX8_fault 21 = .ok (.getfield 122, 3) := by decide +kernel
theorem dX8_fault_24 : decode cX8_fault 24 = .ok (.goto 4, 3) := by decide +kernel
theorem dX8_fault_4 : decode cX8_fault 4 = .ok (.aload_n 0, 1) := by decide +kernel
theorem dX8_fault_5 : decode cX8_fault 5 = .ok (.getfield 21, 3) := by decide +kernel
theorem dX8_fault_8 : decode cX8_fault 8 = .ok (.getfield 101, 3) := by decide +kernel
theorem dX8_fault_11 : decode cX8_fault 11 = .ok (.ireturn, 1) := by decide +kernel
set_option maxHeartbeats 4000000 in
set_option maxRecDepth 100000 in
theorem kX8_fault (l : Launch) (g : zL) (h0 : Nat) (x : Int32) (xt : Nat) (xr : Nat) (xp : Nat) (xs : Nat) (xm : Nat) (xh : Nat) (xe : Nat) (xf : Nat) (pa : Nat) (dr : Nat) : zCi l g yX8_fault cX8_fault 2 (some .int) { frames := 0, cells := 0, slots := 0, locals := 0 } [.ref h0, .int x] [(h0, .inr (8, [.ref xt, .ref xr, .ref xp, .ref xs, .ref xm, .ref xh, .ref xe, .ref xf, .ref pa, .ref dr, .int 0, .int 1, .int 0, .int 0])), (xr, .inr (6, [.ref xt, .null, .int 0, .int 0, .int 0, .int 0, .int (-1)]))] (fun (r : Int32) (u : Unit) => r = sp_fault x) (fun (u : Unit) => []) := by
  refine zCi.mk (by decide) (Nat.le_of_ble_eq_true rfl) ?_
  intro p e s m below meth c A hE hP hD hS ls hl
  obtain ⟨hx, hb, hr, hml, hown, hG, hlocks, hnm, hX, hA⟩ := hE
  have hown : s.vm.findClass RX8 = some m.cls := hown
  have hl : lv_has ls 2 [(0, .ref h0), (1, .int x)] := hl
  refine lv_iload_n hx hb dX8_fault_0 rfl (lv_at hl 1 rfl) ?_
  refine lv_if_ne (tgt := 12) hx hb dX8_fault_1 (by decide) (fun c1 => ?_) (fun c1 => ?_)
  · skip
    have c1i : ¬ x.toInt = 0 := fun q => c1 ((zc_eq (rfl : x.toInt = _) (show (0 : Int32).toInt = 0 from by decide)).mpr q)
    refine lv_iload_n hx hb dX8_fault_12 rfl (lv_at hl 1 rfl) ?_
    refine lv_iconst (v := 1) hx hb dX8_fault_13 (by decide) ?_
    refine lv_icmp_ne (tgt := 27) hx hb dX8_fault_14 (by decide) (fun c14 => ?_) (fun c14 => ?_)
    · skip
      have c14i : ¬ x.toInt = 1 := fun q => c14 ((zc_eq (rfl : x.toInt = _) (show (1 : Int32).toInt = 1 from by decide)).mpr q)
      refine lv_iconst (v := (-1)) hx hb dX8_fault_27 (by decide) ?_
      exact zri (rm := { frames := 0, cells := 0, slots := 0, locals := 0 }) (v := (-1)) () hx hb hr hlocks (Nat.le_of_ble_eq_true rfl) (Nat.le_of_ble_eq_true rfl) (by first | exact (sp_fault_t (by omega)).symm | exact (sp_fault_f (by omega)).symm) (hP.sub [] rfl) (hD.sub [] (by decide) rfl) hS dX8_fault_28
    · skip
      have c14i : x.toInt = 1 := (zc_eq (rfl : x.toInt = _) (show (1 : Int32).toInt = 1 from by decide)).mp c14
      refine lv_aload_n hx hb dX8_fault_17 rfl (lv_at hl 0 rfl) ?_
      refine va_get (D := g.1) (ci := 8) (v := .ref xr) (C := RX8) (T := TX8) (N := 14) hx hb hG iX8 hown hX.1 hP 0 rfl rfl 1 (by decide) (hG _ g508) (fun _ h9 => h9) rfl dX8_fault_18 ?_
      refine va_getN (D := g.1) (ci := 6) (v := .int (-1)) (C := RX6) (T := TX6) (N := 7) hx hb hG iX6 hown hX.1 hP 1 rfl rfl 6 (by decide) (hX.2.1.fl g259) (fun _ h9 => h9) rfl dX8_fault_21 ?_
      refine lv_goto (tgt := 28) hx hb dX8_fault_24 (by decide) ?_
      exact zri (rm := { frames := 0, cells := 0, slots := 0, locals := 0 }) (v := (-1)) () hx hb hr hlocks (Nat.le_of_ble_eq_true rfl) (Nat.le_of_ble_eq_true rfl) (by first | exact (sp_fault_t (by omega)).symm | exact (sp_fault_f (by omega)).symm) (hP.sub [] rfl) (hD.sub [] (by decide) rfl) hS dX8_fault_28
  · skip
    have c1i : x.toInt = 0 := (zc_eq (rfl : x.toInt = _) (show (0 : Int32).toInt = 0 from by decide)).mp c1
    refine lv_aload_n hx hb dX8_fault_4 rfl (lv_at hl 0 rfl) ?_
    refine va_get (D := g.1) (ci := 8) (v := .ref xr) (C := RX8) (T := TX8) (N := 14) hx hb hG iX8 hown hX.1 hP 0 rfl rfl 1 (by decide) (hG _ g508) (fun _ h9 => h9) rfl dX8_fault_5 ?_
    refine va_getN (D := g.1) (ci := 6) (v := .int 0) (C := RX6) (T := TX6) (N := 7) hx hb hG iX6 hown hX.1 hP 1 rfl rfl 5 (by decide) (hX.2.1.fl g257) (fun _ h9 => h9) rfl dX8_fault_8 ?_
    exact zri (rm := { frames := 0, cells := 0, slots := 0, locals := 0 }) (v := 0) () hx hb hr hlocks (Nat.le_of_ble_eq_true rfl) (Nat.le_of_ble_eq_true rfl) (by first | exact (sp_fault_t (by omega)).symm | exact (sp_fault_f (by omega)).symm) (hP.sub [] rfl) (hD.sub [] (by decide) rfl) hS dX8_fault_11
theorem dX8_has_0 : decode cX8_has 0 = .ok (.iload_n 1, 1) := by decide +kernel
theorem dX8_has_1 : decode cX8_has 1 = .ok (.tableswitch 105 0 7 #[47, 55, 63, 71, 79, 84, 92, 100], 47) := by decide +kernel
theorem dX8_has_48 : decode cX8_has 48 = .ok (.aload_n 0, 1) := by decide +kernel
theorem dX8_has_49 : decode cX8_has 49 = .ok (.getfield 67, 3) := by decide +kernel
theorem dX8_has_52 : decode cX8_has 52 = .ok (.getfield 125, 3) := by decide +kernel
theorem dX8_has_55 : decode cX8_has 55 = .ok (.ireturn, 1) := by decide +kernel
theorem dX8_has_56 : decode cX8_has 56 = .ok (.aload_n 0, 1) := by decide +kernel
theorem dX8_has_57 : decode cX8_has 57 = .ok (.getfield 67, 3) := by decide +kernel
theorem dX8_has_60 : decode cX8_has 60 = .ok (.getfield 128, 3) := by decide +kernel
theorem dX8_has_63 : decode cX8_has 63 = .ok (.ireturn, 1) := by decide +kernel
theorem dX8_has_64 : decode cX8_has 64 = .ok (.aload_n 0, 1) := by decide +kernel
theorem dX8_has_65 : decode cX8_has 65 = .ok (.getfield 67, 3) := by decide +kernel
theorem dX8_has_68 : decode cX8_has 68 = .ok (.getfield 131, 3) := by decide +kernel
theorem dX8_has_71 : decode cX8_has 71 = .ok (.ireturn, 1) := by decide +kernel
theorem dX8_has_72 : decode cX8_has 72 = .ok (.aload_n 0, 1) := by decide +kernel
theorem dX8_has_73 : decode cX8_has 73 = .ok (.getfield 67, 3) := by decide +kernel
theorem dX8_has_76 : decode cX8_has 76 = .ok (.getfield 134, 3) := by decide +kernel
theorem dX8_has_79 : decode cX8_has 79 = .ok (.ireturn, 1) := by decide +kernel
theorem dX8_has_80 : decode cX8_has 80 = .ok (.aload_n 0, 1) := by decide +kernel
theorem dX8_has_81 : decode cX8_has 81 = .ok (.getfield 107, 3) := by decide +kernel
theorem dX8_has_84 : decode cX8_has 84 = .ok (.ireturn, 1) := by decide +kernel
theorem dX8_has_85 : decode cX8_has 85 = .ok (.aload_n 0, 1) := by decide +kernel
theorem dX8_has_86 : decode cX8_has 86 = .ok (.getfield 56, 3) := by decide +kernel
theorem dX8_has_89 : decode cX8_has 89 = .ok (.getfield 110, 3) := by decide +kernel
theorem dX8_has_92 : decode cX8_has 92 = .ok (.ireturn, 1) := by decide +kernel
theorem dX8_has_93 : decode cX8_has 93 = .ok (.aload_n 0, 1) := by decide +kernel
theorem dX8_has_94 : decode cX8_has 94 = .ok (.getfield 49, 3) := by decide +kernel
theorem dX8_has_97 : decode cX8_has 97 = .ok (.getfield 113, 3) := by decide +kernel
theorem dX8_has_100 : decode cX8_has 100 = .ok (.ireturn, 1) := by decide +kernel
theorem dX8_has_101 : decode cX8_has 101 = .ok (.aload_n 0, 1) := by decide +kernel
theorem dX8_has_102 : decode cX8_has 102 = .ok (.getfield 74, 3) := by decide +kernel
theorem dX8_has_105 : decode cX8_has 105 = .ok (.ireturn, 1) := by decide +kernel
theorem dX8_has_106 : decode cX8_has 106 = .ok (.iconst (-1), 1) := by decide +kernel
theorem dX8_has_107 : decode cX8_has 107 = .ok (.ireturn, 1) := by decide +kernel
set_option maxHeartbeats 4000000 in
set_option maxRecDepth 100000 in
theorem kX8_has (l : Launch) (g : zL) (h0 : Nat) (x : Int32) (xt : Nat) (xr : Nat) (xp : Nat) (xs : Nat) (xm : Nat) (xh : Nat) (xe : Nat) (xf : Nat) (pa : Nat) (dr : Nat) (p_toolWidth : Nat) (p_told : Nat) (p_name : Nat) (p_parent : Nat) (p_side : Nat) (p_from : Nat) (p_width : Nat) (p_height : Nat) (p_radius : Nat) (p_toolSet : Nat) (e1 : Nat) (e2 : Nat) (hr1 : Nat) : zCi l g yX8_has cX8_has 2 (some .int) { frames := 0, cells := 0, slots := 0, locals := 0 } [.ref h0, .int x] [(h0, .inr (8, [.ref xt, .ref xr, .ref xp, .ref xs, .ref xm, .ref xh, .ref xe, .ref xf, .ref pa, .ref dr, .int 0, .int 1, .int 0, .int 0])), (pa, .inr (4, [.int 0, .int 0, .int 0, .int 0, .int 0, .int 0, .ref p_toolWidth, .ref p_told, .ref p_name, .ref p_parent, .ref p_side, .ref p_from, .ref p_width, .ref p_height, .ref p_radius, .ref p_toolSet])), (xe, .inr (1, [.ref e1, .ref e2, .int 0])), (xh, .inr (0, [.ref hr1, .int 0, .int 0]))] (fun (r : Int32) (u : Unit) => r = sp_has x) (fun (u : Unit) => []) := by
  refine zCi.mk (by decide) (Nat.le_of_ble_eq_true rfl) ?_
  intro p e s m below meth c A hE hP hD hS ls hl
  obtain ⟨hx, hb, hr, hml, hown, hG, hlocks, hnm, hX, hA⟩ := hE
  have hown : s.vm.findClass RX8 = some m.cls := hown
  have hl : lv_has ls 2 [(0, .ref h0), (1, .int x)] := hl
  refine lv_iload_n hx hb dX8_has_0 rfl (lv_at hl 1 rfl) ?_
  rcases (show x.toInt = 0 ∨ x.toInt = 1 ∨ x.toInt = 2 ∨ x.toInt = 3 ∨ x.toInt = 4 ∨ x.toInt = 5 ∨ x.toInt = 6 ∨ x.toInt = 7 ∨ (x.toInt < 0 ∨ 7 < x.toInt) by omega) with c1 | c1 | c1 | c1 | c1 | c1 | c1 | c1 | c1
  · have c1v : x = 0 := Int32.toInt_inj.mp (by rw [c1]; rfl)
    refine lv_tableIn (off := 47) (tgt := 48) hx hb dX8_has_1 (by rw [c1]; decide) (by rw [c1]; decide) (by rw [c1]; rfl) (by decide) ?_
    refine lv_aload_n hx hb dX8_has_48 rfl (lv_at hl 0 rfl) ?_
    refine va_get (D := g.1) (ci := 8) (v := .ref pa) (C := RX8) (T := TX8) (N := 14) hx hb hG iX8 hown hX.1 hP 0 rfl rfl 8 (by decide) (hG _ g515) (fun _ h9 => h9) rfl dX8_has_49 ?_
    refine va_getN (D := g.1) (ci := 4) (v := .int 0) (C := RX4) (T := TX4) (N := 16) hx hb hG iX4 hown hX.1 hP 1 rfl rfl 0 (by decide) (hX.2.1.fl g414) (fun _ h9 => h9) rfl dX8_has_52 ?_
    exact zri (rm := { frames := 0, cells := 0, slots := 0, locals := 0 }) (v := 0) () hx hb hr hlocks (Nat.le_of_ble_eq_true rfl) (Nat.le_of_ble_eq_true rfl) (by first | exact (sp_has_a (by omega)).symm | exact (sp_has_b (by omega)).symm | exact (sp_has_c (by omega) (by omega)).symm | exact (sp_has_d (by omega)).symm | exact c1.elim (fun q => (sp_has_b q).symm) (fun q => (sp_has_d q).symm)) (hP.sub [] rfl) (hD.sub [] (by decide) rfl) hS dX8_has_55
  · have c1v : x = 1 := Int32.toInt_inj.mp (by rw [c1]; rfl)
    refine lv_tableIn (off := 55) (tgt := 56) hx hb dX8_has_1 (by rw [c1]; decide) (by rw [c1]; decide) (by rw [c1]; rfl) (by decide) ?_
    refine lv_aload_n hx hb dX8_has_56 rfl (lv_at hl 0 rfl) ?_
    refine va_get (D := g.1) (ci := 8) (v := .ref pa) (C := RX8) (T := TX8) (N := 14) hx hb hG iX8 hown hX.1 hP 0 rfl rfl 8 (by decide) (hG _ g515) (fun _ h9 => h9) rfl dX8_has_57 ?_
    refine va_getN (D := g.1) (ci := 4) (v := .int 0) (C := RX4) (T := TX4) (N := 16) hx hb hG iX4 hown hX.1 hP 1 rfl rfl 5 (by decide) (hX.2.1.fl g436) (fun _ h9 => h9) rfl dX8_has_60 ?_
    exact zri (rm := { frames := 0, cells := 0, slots := 0, locals := 0 }) (v := 0) () hx hb hr hlocks (Nat.le_of_ble_eq_true rfl) (Nat.le_of_ble_eq_true rfl) (by first | exact (sp_has_a (by omega)).symm | exact (sp_has_b (by omega)).symm | exact (sp_has_c (by omega) (by omega)).symm | exact (sp_has_d (by omega)).symm | exact c1.elim (fun q => (sp_has_b q).symm) (fun q => (sp_has_d q).symm)) (hP.sub [] rfl) (hD.sub [] (by decide) rfl) hS dX8_has_63
  · have c1v : x = 2 := Int32.toInt_inj.mp (by rw [c1]; rfl)
    refine lv_tableIn (off := 63) (tgt := 64) hx hb dX8_has_1 (by rw [c1]; decide) (by rw [c1]; decide) (by rw [c1]; rfl) (by decide) ?_
    refine lv_aload_n hx hb dX8_has_64 rfl (lv_at hl 0 rfl) ?_
    refine va_get (D := g.1) (ci := 8) (v := .ref pa) (C := RX8) (T := TX8) (N := 14) hx hb hG iX8 hown hX.1 hP 0 rfl rfl 8 (by decide) (hG _ g515) (fun _ h9 => h9) rfl dX8_has_65 ?_
    refine va_getN (D := g.1) (ci := 4) (v := .int 0) (C := RX4) (T := TX4) (N := 16) hx hb hG iX4 hown hX.1 hP 1 rfl rfl 2 (by decide) (hX.2.1.fl g419) (fun _ h9 => h9) rfl dX8_has_68 ?_
    exact zri (rm := { frames := 0, cells := 0, slots := 0, locals := 0 }) (v := 0) () hx hb hr hlocks (Nat.le_of_ble_eq_true rfl) (Nat.le_of_ble_eq_true rfl) (by first | exact (sp_has_a (by omega)).symm | exact (sp_has_b (by omega)).symm | exact (sp_has_c (by omega) (by omega)).symm | exact (sp_has_d (by omega)).symm | exact c1.elim (fun q => (sp_has_b q).symm) (fun q => (sp_has_d q).symm)) (hP.sub [] rfl) (hD.sub [] (by decide) rfl) hS dX8_has_71
  · have c1v : x = 3 := Int32.toInt_inj.mp (by rw [c1]; rfl)
    refine lv_tableIn (off := 71) (tgt := 72) hx hb dX8_has_1 (by rw [c1]; decide) (by rw [c1]; decide) (by rw [c1]; rfl) (by decide) ?_
    refine lv_aload_n hx hb dX8_has_72 rfl (lv_at hl 0 rfl) ?_
    refine va_get (D := g.1) (ci := 8) (v := .ref pa) (C := RX8) (T := TX8) (N := 14) hx hb hG iX8 hown hX.1 hP 0 rfl rfl 8 (by decide) (hG _ g515) (fun _ h9 => h9) rfl dX8_has_73 ?_
    refine va_getN (D := g.1) (ci := 4) (v := .int 0) (C := RX4) (T := TX4) (N := 16) hx hb hG iX4 hown hX.1 hP 1 rfl rfl 3 (by decide) (hX.2.1.fl g426) (fun _ h9 => h9) rfl dX8_has_76 ?_
    exact zri (rm := { frames := 0, cells := 0, slots := 0, locals := 0 }) (v := 0) () hx hb hr hlocks (Nat.le_of_ble_eq_true rfl) (Nat.le_of_ble_eq_true rfl) (by first | exact (sp_has_a (by omega)).symm | exact (sp_has_b (by omega)).symm | exact (sp_has_c (by omega) (by omega)).symm | exact (sp_has_d (by omega)).symm | exact c1.elim (fun q => (sp_has_b q).symm) (fun q => (sp_has_d q).symm)) (hP.sub [] rfl) (hD.sub [] (by decide) rfl) hS dX8_has_79
  · have c1v : x = 4 := Int32.toInt_inj.mp (by rw [c1]; rfl)
    refine lv_tableIn (off := 79) (tgt := 80) hx hb dX8_has_1 (by rw [c1]; decide) (by rw [c1]; decide) (by rw [c1]; rfl) (by decide) ?_
    refine lv_aload_n hx hb dX8_has_80 rfl (lv_at hl 0 rfl) ?_
    refine va_get (D := g.1) (ci := 8) (v := .int 0) (C := RX8) (T := TX8) (N := 14) hx hb hG iX8 hown hX.1 hP 0 rfl rfl 10 (by decide) (hG _ g517) (fun _ h9 => h9) rfl dX8_has_81 ?_
    exact zri (rm := { frames := 0, cells := 0, slots := 0, locals := 0 }) (v := 0) () hx hb hr hlocks (Nat.le_of_ble_eq_true rfl) (Nat.le_of_ble_eq_true rfl) (by first | exact (sp_has_a (by omega)).symm | exact (sp_has_b (by omega)).symm | exact (sp_has_c (by omega) (by omega)).symm | exact (sp_has_d (by omega)).symm | exact c1.elim (fun q => (sp_has_b q).symm) (fun q => (sp_has_d q).symm)) (hP.sub [] rfl) (hD.sub [] (by decide) rfl) hS dX8_has_84
  · have c1v : x = 5 := Int32.toInt_inj.mp (by rw [c1]; rfl)
    refine lv_tableIn (off := 84) (tgt := 85) hx hb dX8_has_1 (by rw [c1]; decide) (by rw [c1]; decide) (by rw [c1]; rfl) (by decide) ?_
    refine lv_aload_n hx hb dX8_has_85 rfl (lv_at hl 0 rfl) ?_
    refine va_get (D := g.1) (ci := 8) (v := .ref xe) (C := RX8) (T := TX8) (N := 14) hx hb hG iX8 hown hX.1 hP 0 rfl rfl 6 (by decide) (hG _ g513) (fun _ h9 => h9) rfl dX8_has_86 ?_
    refine va_getN (D := g.1) (ci := 1) (v := .int 0) (C := RX1) (T := TX1) (N := 3) hx hb hG iX1 hown hX.1 hP 2 rfl rfl 2 (by decide) (hX.2.1.fl g395) (fun _ h9 => h9) rfl dX8_has_89 ?_
    exact zri (rm := { frames := 0, cells := 0, slots := 0, locals := 0 }) (v := 0) () hx hb hr hlocks (Nat.le_of_ble_eq_true rfl) (Nat.le_of_ble_eq_true rfl) (by first | exact (sp_has_a (by omega)).symm | exact (sp_has_b (by omega)).symm | exact (sp_has_c (by omega) (by omega)).symm | exact (sp_has_d (by omega)).symm | exact c1.elim (fun q => (sp_has_b q).symm) (fun q => (sp_has_d q).symm)) (hP.sub [] rfl) (hD.sub [] (by decide) rfl) hS dX8_has_92
  · have c1v : x = 6 := Int32.toInt_inj.mp (by rw [c1]; rfl)
    refine lv_tableIn (off := 92) (tgt := 93) hx hb dX8_has_1 (by rw [c1]; decide) (by rw [c1]; decide) (by rw [c1]; rfl) (by decide) ?_
    refine lv_aload_n hx hb dX8_has_93 rfl (lv_at hl 0 rfl) ?_
    refine va_get (D := g.1) (ci := 8) (v := .ref xh) (C := RX8) (T := TX8) (N := 14) hx hb hG iX8 hown hX.1 hP 0 rfl rfl 5 (by decide) (hG _ g512) (fun _ h9 => h9) rfl dX8_has_94 ?_
    refine va_getN (D := g.1) (ci := 0) (v := .int 0) (C := RX0) (T := TX0) (N := 3) hx hb hG iX0 hown hX.1 hP 3 rfl rfl 1 (by decide) (hX.2.1.fl g377) (fun _ h9 => h9) rfl dX8_has_97 ?_
    exact zri (rm := { frames := 0, cells := 0, slots := 0, locals := 0 }) (v := 0) () hx hb hr hlocks (Nat.le_of_ble_eq_true rfl) (Nat.le_of_ble_eq_true rfl) (by first | exact (sp_has_a (by omega)).symm | exact (sp_has_b (by omega)).symm | exact (sp_has_c (by omega) (by omega)).symm | exact (sp_has_d (by omega)).symm | exact c1.elim (fun q => (sp_has_b q).symm) (fun q => (sp_has_d q).symm)) (hP.sub [] rfl) (hD.sub [] (by decide) rfl) hS dX8_has_100
  · have c1v : x = 7 := Int32.toInt_inj.mp (by rw [c1]; rfl)
    refine lv_tableIn (off := 100) (tgt := 101) hx hb dX8_has_1 (by rw [c1]; decide) (by rw [c1]; decide) (by rw [c1]; rfl) (by decide) ?_
    refine lv_aload_n hx hb dX8_has_101 rfl (lv_at hl 0 rfl) ?_
    refine va_get (D := g.1) (ci := 8) (v := .int 1) (C := RX8) (T := TX8) (N := 14) hx hb hG iX8 hown hX.1 hP 0 rfl rfl 11 (by decide) (hG _ g518) (fun _ h9 => h9) rfl dX8_has_102 ?_
    exact zri (rm := { frames := 0, cells := 0, slots := 0, locals := 0 }) (v := 1) () hx hb hr hlocks (Nat.le_of_ble_eq_true rfl) (Nat.le_of_ble_eq_true rfl) (by first | exact (sp_has_a (by omega)).symm | exact (sp_has_b (by omega)).symm | exact (sp_has_c (by omega) (by omega)).symm | exact (sp_has_d (by omega)).symm | exact c1.elim (fun q => (sp_has_b q).symm) (fun q => (sp_has_d q).symm)) (hP.sub [] rfl) (hD.sub [] (by decide) rfl) hS dX8_has_105
  · refine lv_tableOut (tgt := 106) hx hb dX8_has_1 c1 (by decide) ?_
    refine lv_iconst (v := (-1)) hx hb dX8_has_106 (by decide) ?_
    exact zri (rm := { frames := 0, cells := 0, slots := 0, locals := 0 }) (v := (-1)) () hx hb hr hlocks (Nat.le_of_ble_eq_true rfl) (Nat.le_of_ble_eq_true rfl) (by first | exact (sp_has_a (by omega)).symm | exact (sp_has_b (by omega)).symm | exact (sp_has_c (by omega) (by omega)).symm | exact (sp_has_d (by omega)).symm | exact c1.elim (fun q => (sp_has_b q).symm) (fun q => (sp_has_d q).symm)) (hP.sub [] rfl) (hD.sub [] (by decide) rfl) hS dX8_has_107
theorem dX8_letter_0 : decode cX8_letter 0 = .ok (.aload_n 0, 1) := by decide +kernel
theorem dX8_letter_1 : decode cX8_letter 1 = .ok (.getfield 67, 3) := by decide +kernel
theorem dX8_letter_4 : decode cX8_letter 4 = .ok (.iload_n 1, 1) := by decide +kernel
theorem dX8_letter_5 : decode cX8_letter 5 = .ok (.invokevirtual 137, 3) := by decide +kernel
theorem dX8_letter_8 : decode cX8_letter 8 = .ok (.ifCond .eq 12, 3) := by decide +kernel
theorem dX8_letter_20 : decode cX8_letter 20 = .ok (.iconst (-1), 1) := by decide +kernel
theorem dX8_letter_21 : decode cX8_letter 21 = .ok (.ireturn, 1) := by decide +kernel
set_option maxHeartbeats 4000000 in
set_option maxRecDepth 100000 in
theorem kX8_letter (l : Launch) (g : zL) (h0 : Nat) (x : Int32) (y : Int32) (xt : Nat) (xr : Nat) (xp : Nat) (xs : Nat) (xm : Nat) (xh : Nat) (xe : Nat) (xf : Nat) (pa : Nat) (dr : Nat) (p_toolWidth : Nat) (p_told : Nat) (p_name : Nat) (p_parent : Nat) (p_side : Nat) (p_from : Nat) (p_width : Nat) (p_height : Nat) (p_radius : Nat) (p_toolSet : Nat) : zCi l g yX8_letter cX8_letter 3 (some .int) { frames := 1, cells := 0, slots := 0, locals := 21 } [.ref h0, .int x, .int y] [(h0, .inr (8, [.ref xt, .ref xr, .ref xp, .ref xs, .ref xm, .ref xh, .ref xe, .ref xf, .ref pa, .ref dr, .int 0, .int 1, .int 0, .int 0])), (pa, .inr (4, [.int 0, .int 0, .int 0, .int 0, .int 0, .int 0, .ref p_toolWidth, .ref p_told, .ref p_name, .ref p_parent, .ref p_side, .ref p_from, .ref p_width, .ref p_height, .ref p_radius, .ref p_toolSet]))] (fun (r : Int32) (u : Unit) => r = (-1)) (fun (u : Unit) => []) := by
  refine zCi.mk (by decide) (Nat.le_of_ble_eq_true rfl) ?_
  intro p e s m below meth c A hE hP hD hS ls hl
  obtain ⟨hx, hb, hr, hml, hown, hG, hlocks, hnm, hX, hA⟩ := hE
  have hown : s.vm.findClass RX8 = some m.cls := hown
  have hl : lv_has ls 3 [(0, .ref h0), (1, .int x), (2, .int y)] := hl
  refine lv_aload_n hx hb dX8_letter_0 rfl (lv_at hl 0 rfl) ?_
  refine va_get (D := g.1) (ci := 8) (v := .ref pa) (C := RX8) (T := TX8) (N := 14) hx hb hG iX8 hown hX.1 hP 0 rfl rfl 8 (by decide) (hG _ g515) (fun _ h9 => h9) rfl dX8_letter_1 ?_
  refine lv_iload_n hx hb dX8_letter_4 rfl (lv_at hl 1 rfl) ?_
  refine zfi (wr := [(h0, .inr (8, [.ref xt, .ref xr, .ref xp, .ref xs, .ref xm, .ref xh, .ref xe, .ref xf, .ref pa, .ref dr, .int 0, .int 1, .int 0, .int 0]))]) (va_runVN (As := [.int x]) (rest := []) ⟨hx, hb, hml, hown, hG⟩ (kX4_isFlange l g pa x p_toolWidth p_told p_name p_parent p_side p_from p_width p_height p_radius p_toolSet _) ⟨va_cnB 1 hG (zGood g813) rfl rfl rfl (hX.2.1.ml g810) (hG _ g210) hX4_isFlange ⟨Nat.le_of_ble_eq_true rfl, Nat.le_of_ble_eq_true rfl⟩, hG _ g812, hG _ g37⟩ (zpreV (va_recv hX.1 hP (ci := 4) (q0 := 1) rfl rfl) hX hP hD hS hA [1] rfl (by decide)) rfl rfl hl.1 rfl (lv_room (Nat.le_of_ble_eq_true rfl)) dX8_letter_5 ⟨Nat.le_of_ble_eq_true rfl, Nat.le_of_ble_eq_true rfl⟩) hP hD hS hA [1] [0] rfl rfl (by decide) (by decide) (fun r1 _ H locs hp hP hD hS => ?_)
  refine W.cs (cells' := 0) (slots' := 0) rfl rfl ?_
  have hq2 : r1 = 0 := hp
  subst hq2
  have hP : va_P g.1 vwCl [(h0, .inr (8, [.ref xt, .ref xr, .ref xp, .ref xs, .ref xm, .ref xh, .ref xe, .ref xf, .ref pa, .ref dr, .int 0, .int 1, .int 0, .int 0])), (pa, .inr (4, [.int 0, .int 0, .int 0, .int 0, .int 0, .int 0, .ref p_toolWidth, .ref p_told, .ref p_name, .ref p_parent, .ref p_side, .ref p_from, .ref p_width, .ref p_height, .ref p_radius, .ref p_toolSet]))] H := hP
  have hD : va_D A [(h0, .inr (8, [.ref xt, .ref xr, .ref xp, .ref xs, .ref xm, .ref xh, .ref xe, .ref xf, .ref pa, .ref dr, .int 0, .int 1, .int 0, .int 0])), (pa, .inr (4, [.int 0, .int 0, .int 0, .int 0, .int 0, .int 0, .ref p_toolWidth, .ref p_told, .ref p_name, .ref p_parent, .ref p_side, .ref p_from, .ref p_width, .ref p_height, .ref p_radius, .ref p_toolSet]))] := hD
  refine lv_if_eq (tgt := 20) hx hb dX8_letter_8 (by decide) (fun c8 => ?_) (fun c8 => (c8 (by decide)).elim)
  refine lv_iconst (v := (-1)) hx hb dX8_letter_20 (by decide) ?_
  exact zri (rm := { frames := 1, cells := 0, slots := 0, locals := 21 }) (v := (-1)) () hx hb hr hlocks (Nat.le_of_ble_eq_true rfl) (Nat.le_of_ble_eq_true rfl) (rfl) (hP.sub [] rfl) (hD.sub [] (by decide) rfl) hS dX8_letter_21
theorem dX8_flange_0 : decode cX8_flange 0 = .ok (.aload_n 0, 1) := by decide +kernel
theorem dX8_flange_1 : decode cX8_flange 1 = .ok (.getfield 67, 3) := by decide +kernel
theorem dX8_flange_4 : decode cX8_flange 4 = .ok (.iload_n 1, 1) := by decide +kernel
theorem dX8_flange_5 : decode cX8_flange 5 = .ok (.invokevirtual 143, 3) := by decide +kernel
theorem dX8_flange_8 : decode cX8_flange 8 = .ok (.ifCond .ne 5, 3) := by decide +kernel
theorem dX8_flange_11 : decode cX8_flange 11 = .ok (.iconst (-1), 1) := by decide +kernel
theorem dX8_flange_12 : decode cX8_flange 12 = .ok (.ireturn, 1) := by decide +kernel
set_option maxHeartbeats 4000000 in
set_option maxRecDepth 100000 in
theorem kX8_flange (l : Launch) (g : zL) (h0 : Nat) (x : Int32) (y : Int32) (xt : Nat) (xr : Nat) (xp : Nat) (xs : Nat) (xm : Nat) (xh : Nat) (xe : Nat) (xf : Nat) (pa : Nat) (dr : Nat) (p_toolWidth : Nat) (p_told : Nat) (p_name : Nat) (p_parent : Nat) (p_side : Nat) (p_from : Nat) (p_width : Nat) (p_height : Nat) (p_radius : Nat) (p_toolSet : Nat) : zCi l g yX8_flange cX8_flange 3 (some .int) { frames := 1, cells := 0, slots := 0, locals := 21 } [.ref h0, .int x, .int y] [(h0, .inr (8, [.ref xt, .ref xr, .ref xp, .ref xs, .ref xm, .ref xh, .ref xe, .ref xf, .ref pa, .ref dr, .int 0, .int 1, .int 0, .int 0])), (pa, .inr (4, [.int 0, .int 0, .int 0, .int 0, .int 0, .int 0, .ref p_toolWidth, .ref p_told, .ref p_name, .ref p_parent, .ref p_side, .ref p_from, .ref p_width, .ref p_height, .ref p_radius, .ref p_toolSet]))] (fun (r : Int32) (u : Unit) => r = (-1)) (fun (u : Unit) => []) := by
  refine zCi.mk (by decide) (Nat.le_of_ble_eq_true rfl) ?_
  intro p e s m below meth c A hE hP hD hS ls hl
  obtain ⟨hx, hb, hr, hml, hown, hG, hlocks, hnm, hX, hA⟩ := hE
  have hown : s.vm.findClass RX8 = some m.cls := hown
  have hl : lv_has ls 3 [(0, .ref h0), (1, .int x), (2, .int y)] := hl
  refine lv_aload_n hx hb dX8_flange_0 rfl (lv_at hl 0 rfl) ?_
  refine va_get (D := g.1) (ci := 8) (v := .ref pa) (C := RX8) (T := TX8) (N := 14) hx hb hG iX8 hown hX.1 hP 0 rfl rfl 8 (by decide) (hG _ g515) (fun _ h9 => h9) rfl dX8_flange_1 ?_
  refine lv_iload_n hx hb dX8_flange_4 rfl (lv_at hl 1 rfl) ?_
  refine zfi (wr := [(h0, .inr (8, [.ref xt, .ref xr, .ref xp, .ref xs, .ref xm, .ref xh, .ref xe, .ref xf, .ref pa, .ref dr, .int 0, .int 1, .int 0, .int 0]))]) (va_runVN (As := [.int x]) (rest := []) ⟨hx, hb, hml, hown, hG⟩ (kX4_isBend l g pa x p_toolWidth p_told p_name p_parent p_side p_from p_width p_height p_radius p_toolSet _) ⟨va_cnB 1 hG (zGood g821) rfl rfl rfl (hX.2.1.ml g818) (hG _ g210) hX4_isBend ⟨Nat.le_of_ble_eq_true rfl, Nat.le_of_ble_eq_true rfl⟩, hG _ g820, hG _ g38⟩ (zpreV (va_recv hX.1 hP (ci := 4) (q0 := 1) rfl rfl) hX hP hD hS hA [1] rfl (by decide)) rfl rfl hl.1 rfl (lv_room (Nat.le_of_ble_eq_true rfl)) dX8_flange_5 ⟨Nat.le_of_ble_eq_true rfl, Nat.le_of_ble_eq_true rfl⟩) hP hD hS hA [1] [0] rfl rfl (by decide) (by decide) (fun r1 _ H locs hp hP hD hS => ?_)
  refine W.cs (cells' := 0) (slots' := 0) rfl rfl ?_
  have hq2 : r1 = 0 := hp
  subst hq2
  have hP : va_P g.1 vwCl [(h0, .inr (8, [.ref xt, .ref xr, .ref xp, .ref xs, .ref xm, .ref xh, .ref xe, .ref xf, .ref pa, .ref dr, .int 0, .int 1, .int 0, .int 0])), (pa, .inr (4, [.int 0, .int 0, .int 0, .int 0, .int 0, .int 0, .ref p_toolWidth, .ref p_told, .ref p_name, .ref p_parent, .ref p_side, .ref p_from, .ref p_width, .ref p_height, .ref p_radius, .ref p_toolSet]))] H := hP
  have hD : va_D A [(h0, .inr (8, [.ref xt, .ref xr, .ref xp, .ref xs, .ref xm, .ref xh, .ref xe, .ref xf, .ref pa, .ref dr, .int 0, .int 1, .int 0, .int 0])), (pa, .inr (4, [.int 0, .int 0, .int 0, .int 0, .int 0, .int 0, .ref p_toolWidth, .ref p_told, .ref p_name, .ref p_parent, .ref p_side, .ref p_from, .ref p_width, .ref p_height, .ref p_radius, .ref p_toolSet]))] := hD
  refine lv_if_ne (tgt := 13) hx hb dX8_flange_8 (by decide) (fun c8 => (c8 (by decide)).elim) (fun c8 => ?_)
  refine lv_iconst (v := (-1)) hx hb dX8_flange_11 (by decide) ?_
  exact zri (rm := { frames := 1, cells := 0, slots := 0, locals := 21 }) (v := (-1)) () hx hb hr hlocks (Nat.le_of_ble_eq_true rfl) (Nat.le_of_ble_eq_true rfl) (rfl) (hP.sub [] rfl) (hD.sub [] (by decide) rfl) hS dX8_flange_12
theorem dX8_tool_0 : decode cX8_tool 0 = .ok (.iload_n 1, 1) := by decide +kernel
theorem dX8_tool_1 : decode cX8_tool 1 = .ok (.ifCond .lt 14, 3) := by decide +kernel
theorem dX8_tool_15 : decode cX8_tool 15 = .ok (.iconst (-1), 1) := by decide +kernel
theorem dX8_tool_16 : decode cX8_tool 16 = .ok (.goto 12, 3) := by decide +kernel
theorem dX8_tool_28 : decode cX8_tool 28 = .ok (.ireturn, 1) := by decide +kernel
theorem dX8_tool_4 : decode cX8_tool 4 = .ok (.iload_n 1, 1) := by decide +kernel
theorem dX8_tool_5 : decode cX8_tool 5 = .ok (.aload_n 0, 1) := by decide +kernel
theorem dX8_tool_6 : decode cX8_tool 6 = .ok (.getfield 67, 3) := by decide +kernel
theorem dX8_tool_9 : decode cX8_tool 9 = .ok (.getfield 128, 3) := by decide +kernel
theorem dX8_tool_12 : decode cX8_tool 12 = .ok (.if_icmp .lt 7, 3) := by decide +kernel
set_option maxHeartbeats 4000000 in
set_option maxRecDepth 100000 in
theorem kX8_tool (l : Launch) (g : zL) (h0 : Nat) (x : Int32) (xt : Nat) (xr : Nat) (xp : Nat) (xs : Nat) (xm : Nat) (xh : Nat) (xe : Nat) (xf : Nat) (pa : Nat) (dr : Nat) (p_toolWidth : Nat) (p_told : Nat) (p_name : Nat) (p_parent : Nat) (p_side : Nat) (p_from : Nat) (p_width : Nat) (p_height : Nat) (p_radius : Nat) (p_toolSet : Nat) : zCi l g yX8_tool cX8_tool 2 (some .int) { frames := 0, cells := 0, slots := 0, locals := 0 } [.ref h0, .int x] [(h0, .inr (8, [.ref xt, .ref xr, .ref xp, .ref xs, .ref xm, .ref xh, .ref xe, .ref xf, .ref pa, .ref dr, .int 0, .int 1, .int 0, .int 0])), (pa, .inr (4, [.int 0, .int 0, .int 0, .int 0, .int 0, .int 0, .ref p_toolWidth, .ref p_told, .ref p_name, .ref p_parent, .ref p_side, .ref p_from, .ref p_width, .ref p_height, .ref p_radius, .ref p_toolSet]))] (fun (r : Int32) (u : Unit) => r = (-1)) (fun (u : Unit) => []) := by
  refine zCi.mk (by decide) (Nat.le_of_ble_eq_true rfl) ?_
  intro p e s m below meth c A hE hP hD hS ls hl
  obtain ⟨hx, hb, hr, hml, hown, hG, hlocks, hnm, hX, hA⟩ := hE
  have hown : s.vm.findClass RX8 = some m.cls := hown
  have hl : lv_has ls 2 [(0, .ref h0), (1, .int x)] := hl
  refine lv_iload_n hx hb dX8_tool_0 rfl (lv_at hl 1 rfl) ?_
  refine lv_if_lt (tgt := 15) hx hb dX8_tool_1 (by decide) (fun c1 => ?_) (fun c1 => ?_)
  · skip
    have c1i : x.toInt < 0 := (zc_lt (rfl : x.toInt = _) (show (0 : Int32).toInt = 0 from by decide)).mp c1
    refine lv_iconst (v := (-1)) hx hb dX8_tool_15 (by decide) ?_
    refine lv_goto (tgt := 28) hx hb dX8_tool_16 (by decide) ?_
    exact zri (rm := { frames := 0, cells := 0, slots := 0, locals := 0 }) (v := (-1)) () hx hb hr hlocks (Nat.le_of_ble_eq_true rfl) (Nat.le_of_ble_eq_true rfl) (rfl) (hP.sub [] rfl) (hD.sub [] (by decide) rfl) hS dX8_tool_28
  · skip
    have c1i : ¬ x.toInt < 0 := fun q => c1 ((zc_lt (rfl : x.toInt = _) (show (0 : Int32).toInt = 0 from by decide)).mpr q)
    refine lv_iload_n hx hb dX8_tool_4 rfl (lv_at hl 1 rfl) ?_
    refine lv_aload_n hx hb dX8_tool_5 rfl (lv_at hl 0 rfl) ?_
    refine va_get (D := g.1) (ci := 8) (v := .ref pa) (C := RX8) (T := TX8) (N := 14) hx hb hG iX8 hown hX.1 hP 0 rfl rfl 8 (by decide) (hG _ g515) (fun _ h9 => h9) rfl dX8_tool_6 ?_
    refine va_getN (D := g.1) (ci := 4) (v := .int 0) (C := RX4) (T := TX4) (N := 16) hx hb hG iX4 hown hX.1 hP 1 rfl rfl 5 (by decide) (hX.2.1.fl g436) (fun _ h9 => h9) rfl dX8_tool_9 ?_
    refine lv_icmp_lt (tgt := 19) hx hb dX8_tool_12 (by decide) (fun c12 => absurd c12 (by rw [zc_lt (rfl : x.toInt = _) (show (0 : Int32).toInt = 0 from by decide)]; omega)) (fun c12 => ?_)
    refine lv_iconst (v := (-1)) hx hb dX8_tool_15 (by decide) ?_
    refine lv_goto (tgt := 28) hx hb dX8_tool_16 (by decide) ?_
    exact zri (rm := { frames := 0, cells := 0, slots := 0, locals := 0 }) (v := (-1)) () hx hb hr hlocks (Nat.le_of_ble_eq_true rfl) (Nat.le_of_ble_eq_true rfl) (rfl) (hP.sub [] rfl) (hD.sub [] (by decide) rfl) hS dX8_tool_28
theorem dX8_allowance_0 : decode cX8_allowance 0 = .ok (.aload_n 0, 1) := by decide +kernel
theorem dX8_allowance_1 : decode cX8_allowance 1 = .ok (.getfield 67, 3) := by decide +kernel
theorem dX8_allowance_4 : decode cX8_allowance 4 = .ok (.invokevirtual 183, 3) := by decide +kernel
theorem dX8_allowance_7 : decode cX8_allowance 7 = .ok (.ifCond .eq 21, 3) := by decide +kernel
theorem dX8_allowance_28 : decode cX8_allowance 28 = .ok (.iconst (-1), 1) := by decide +kernel
theorem dX8_allowance_29 : decode cX8_allowance 29 = .ok (.ireturn, 1) := by decide +kernel
set_option maxHeartbeats 4000000 in
set_option maxRecDepth 100000 in
theorem kX8_allowance (l : Launch) (g : zL) (h0 : Nat) (x : Int32) (xt : Nat) (xr : Nat) (xp : Nat) (xs : Nat) (xm : Nat) (xh : Nat) (xe : Nat) (xf : Nat) (pa : Nat) (dr : Nat) (p_toolWidth : Nat) (p_told : Nat) (p_name : Nat) (p_parent : Nat) (p_side : Nat) (p_from : Nat) (p_width : Nat) (p_height : Nat) (p_radius : Nat) (p_toolSet : Nat) : zCi l g yX8_allowance cX8_allowance 2 (some .int) { frames := 1, cells := 0, slots := 0, locals := 20 } [.ref h0, .int x] [(h0, .inr (8, [.ref xt, .ref xr, .ref xp, .ref xs, .ref xm, .ref xh, .ref xe, .ref xf, .ref pa, .ref dr, .int 0, .int 1, .int 0, .int 0])), (pa, .inr (4, [.int 0, .int 0, .int 0, .int 0, .int 0, .int 0, .ref p_toolWidth, .ref p_told, .ref p_name, .ref p_parent, .ref p_side, .ref p_from, .ref p_width, .ref p_height, .ref p_radius, .ref p_toolSet]))] (fun (r : Int32) (u : Unit) => r = (-1)) (fun (u : Unit) => []) := by
  refine zCi.mk (by decide) (Nat.le_of_ble_eq_true rfl) ?_
  intro p e s m below meth c A hE hP hD hS ls hl
  obtain ⟨hx, hb, hr, hml, hown, hG, hlocks, hnm, hX, hA⟩ := hE
  have hown : s.vm.findClass RX8 = some m.cls := hown
  have hl : lv_has ls 2 [(0, .ref h0), (1, .int x)] := hl
  refine lv_aload_n hx hb dX8_allowance_0 rfl (lv_at hl 0 rfl) ?_
  refine va_get (D := g.1) (ci := 8) (v := .ref pa) (C := RX8) (T := TX8) (N := 14) hx hb hG iX8 hown hX.1 hP 0 rfl rfl 8 (by decide) (hG _ g515) (fun _ h9 => h9) rfl dX8_allowance_1 ?_
  refine zfi (wr := [(h0, .inr (8, [.ref xt, .ref xr, .ref xp, .ref xs, .ref xm, .ref xh, .ref xe, .ref xf, .ref pa, .ref dr, .int 0, .int 1, .int 0, .int 0]))]) (va_runVN (As := []) (rest := []) ⟨hx, hb, hml, hown, hG⟩ (kX4_isThere l g pa p_toolWidth p_told p_name p_parent p_side p_from p_width p_height p_radius p_toolSet _) ⟨va_cnB 0 hG (zGood g861) rfl rfl rfl (hX.2.1.ml g858) (hG _ g210) hX4_isThere ⟨Nat.le_of_ble_eq_true rfl, Nat.le_of_ble_eq_true rfl⟩, hG _ g860, hG _ g45⟩ (zpreV (va_recv hX.1 hP (ci := 4) (q0 := 1) rfl rfl) hX hP hD hS hA [1] rfl (by decide)) rfl rfl hl.1 rfl (lv_room (Nat.le_of_ble_eq_true rfl)) dX8_allowance_4 ⟨Nat.le_of_ble_eq_true rfl, Nat.le_of_ble_eq_true rfl⟩) hP hD hS hA [1] [0] rfl rfl (by decide) (by decide) (fun r1 _ H locs hp hP hD hS => ?_)
  refine W.cs (cells' := 0) (slots' := 0) rfl rfl ?_
  have hq2 : r1 = 0 := hp
  subst hq2
  have hP : va_P g.1 vwCl [(h0, .inr (8, [.ref xt, .ref xr, .ref xp, .ref xs, .ref xm, .ref xh, .ref xe, .ref xf, .ref pa, .ref dr, .int 0, .int 1, .int 0, .int 0])), (pa, .inr (4, [.int 0, .int 0, .int 0, .int 0, .int 0, .int 0, .ref p_toolWidth, .ref p_told, .ref p_name, .ref p_parent, .ref p_side, .ref p_from, .ref p_width, .ref p_height, .ref p_radius, .ref p_toolSet]))] H := hP
  have hD : va_D A [(h0, .inr (8, [.ref xt, .ref xr, .ref xp, .ref xs, .ref xm, .ref xh, .ref xe, .ref xf, .ref pa, .ref dr, .int 0, .int 1, .int 0, .int 0])), (pa, .inr (4, [.int 0, .int 0, .int 0, .int 0, .int 0, .int 0, .ref p_toolWidth, .ref p_told, .ref p_name, .ref p_parent, .ref p_side, .ref p_from, .ref p_width, .ref p_height, .ref p_radius, .ref p_toolSet]))] := hD
  refine lv_if_eq (tgt := 28) hx hb dX8_allowance_7 (by decide) (fun c7 => ?_) (fun c7 => (c7 (by decide)).elim)
  refine lv_iconst (v := (-1)) hx hb dX8_allowance_28 (by decide) ?_
  exact zri (rm := { frames := 1, cells := 0, slots := 0, locals := 20 }) (v := (-1)) () hx hb hr hlocks (Nat.le_of_ble_eq_true rfl) (Nat.le_of_ble_eq_true rfl) (rfl) (hP.sub [] rfl) (hD.sub [] (by decide) rfl) hS dX8_allowance_29
theorem dX8_flat_0 : decode cX8_flat 0 = .ok (.aload_n 0, 1) := by decide +kernel
theorem dX8_flat_1 : decode cX8_flat 1 = .ok (.getfield 67, 3) := by decide +kernel
theorem dX8_flat_4 : decode cX8_flat 4 = .ok (.iload_n 1, 1) := by decide +kernel
theorem dX8_flat_5 : decode cX8_flat 5 = .ok (.invokevirtual 192, 3) := by decide +kernel
theorem dX8_flat_8 : decode cX8_flat 8 = .ok (.ifCond .eq 12, 3) := by decide +kernel
theorem dX8_flat_20 : decode cX8_flat 20 = .ok (.ldc 195, 2) := by decide +kernel
theorem dX8_flat_22 : decode cX8_flat 22 = .ok (.ireturn, 1) := by decide +kernel
set_option maxHeartbeats 4000000 in
set_option maxRecDepth 100000 in
theorem kX8_flat (l : Launch) (g : zL) (h0 : Nat) (x : Int32) (y : Int32) (xt : Nat) (xr : Nat) (xp : Nat) (xs : Nat) (xm : Nat) (xh : Nat) (xe : Nat) (xf : Nat) (pa : Nat) (dr : Nat) (p_toolWidth : Nat) (p_told : Nat) (p_name : Nat) (p_parent : Nat) (p_side : Nat) (p_from : Nat) (p_width : Nat) (p_height : Nat) (p_radius : Nat) (p_toolSet : Nat) : zCi l g yX8_flat cX8_flat 3 (some .int) { frames := 2, cells := 0, slots := 0, locals := 42 } [.ref h0, .int x, .int y] [(h0, .inr (8, [.ref xt, .ref xr, .ref xp, .ref xs, .ref xm, .ref xh, .ref xe, .ref xf, .ref pa, .ref dr, .int 0, .int 1, .int 0, .int 0])), (pa, .inr (4, [.int 0, .int 0, .int 0, .int 0, .int 0, .int 0, .ref p_toolWidth, .ref p_told, .ref p_name, .ref p_parent, .ref p_side, .ref p_from, .ref p_width, .ref p_height, .ref p_radius, .ref p_toolSet]))] (fun (r : Int32) (u : Unit) => r = (-1000000)) (fun (u : Unit) => []) := by
  refine zCi.mk (by decide) (Nat.le_of_ble_eq_true rfl) ?_
  intro p e s m below meth c A hE hP hD hS ls hl
  obtain ⟨hx, hb, hr, hml, hown, hG, hlocks, hnm, hX, hA⟩ := hE
  have hown : s.vm.findClass RX8 = some m.cls := hown
  have hl : lv_has ls 3 [(0, .ref h0), (1, .int x), (2, .int y)] := hl
  refine lv_aload_n hx hb dX8_flat_0 rfl (lv_at hl 0 rfl) ?_
  refine va_get (D := g.1) (ci := 8) (v := .ref pa) (C := RX8) (T := TX8) (N := 14) hx hb hG iX8 hown hX.1 hP 0 rfl rfl 8 (by decide) (hG _ g515) (fun _ h9 => h9) rfl dX8_flat_1 ?_
  refine lv_iload_n hx hb dX8_flat_4 rfl (lv_at hl 1 rfl) ?_
  refine zfi (wr := [(h0, .inr (8, [.ref xt, .ref xr, .ref xp, .ref xs, .ref xm, .ref xh, .ref xe, .ref xf, .ref pa, .ref dr, .int 0, .int 1, .int 0, .int 0]))]) (va_runVN (As := [.int x]) (rest := []) ⟨hx, hb, hml, hown, hG⟩ (kX4_isPiece l g pa x p_toolWidth p_told p_name p_parent p_side p_from p_width p_height p_radius p_toolSet _) ⟨va_cnB 1 hG (zGood g873) rfl rfl rfl (hX.2.1.ml g870) (hG _ g210) hX4_isPiece ⟨Nat.le_of_ble_eq_true rfl, Nat.le_of_ble_eq_true rfl⟩, hG _ g872, hG _ g46⟩ (zpreV (va_recv hX.1 hP (ci := 4) (q0 := 1) rfl rfl) hX hP hD hS hA [1] rfl (by decide)) rfl rfl hl.1 rfl (lv_room (Nat.le_of_ble_eq_true rfl)) dX8_flat_5 ⟨Nat.le_of_ble_eq_true rfl, Nat.le_of_ble_eq_true rfl⟩) hP hD hS hA [1] [0] rfl rfl (by decide) (by decide) (fun r1 _ H locs hp hP hD hS => ?_)
  refine W.cs (cells' := 0) (slots' := 0) rfl rfl ?_
  have hq2 : r1 = 0 := hp
  subst hq2
  have hP : va_P g.1 vwCl [(h0, .inr (8, [.ref xt, .ref xr, .ref xp, .ref xs, .ref xm, .ref xh, .ref xe, .ref xf, .ref pa, .ref dr, .int 0, .int 1, .int 0, .int 0])), (pa, .inr (4, [.int 0, .int 0, .int 0, .int 0, .int 0, .int 0, .ref p_toolWidth, .ref p_told, .ref p_name, .ref p_parent, .ref p_side, .ref p_from, .ref p_width, .ref p_height, .ref p_radius, .ref p_toolSet]))] H := hP
  have hD : va_D A [(h0, .inr (8, [.ref xt, .ref xr, .ref xp, .ref xs, .ref xm, .ref xh, .ref xe, .ref xf, .ref pa, .ref dr, .int 0, .int 1, .int 0, .int 0])), (pa, .inr (4, [.int 0, .int 0, .int 0, .int 0, .int 0, .int 0, .ref p_toolWidth, .ref p_told, .ref p_name, .ref p_parent, .ref p_side, .ref p_from, .ref p_width, .ref p_height, .ref p_radius, .ref p_toolSet]))] := hD
  refine lv_if_eq (tgt := 20) hx hb dX8_flat_8 (by decide) (fun c8 => ?_) (fun c8 => (c8 (by decide)).elim)
  refine lv_ldc (v := (-1000000)) hx hb hown (hG _ g876) dX8_flat_20 ?_
  exact zri (rm := { frames := 2, cells := 0, slots := 0, locals := 42 }) (v := (-1000000)) () hx hb hr hlocks (Nat.le_of_ble_eq_true rfl) (Nat.le_of_ble_eq_true rfl) (rfl) (hP.sub [] rfl) (hD.sub [] (by decide) rfl) hS dX8_flat_22
theorem dX8_flatBox_0 : decode cX8_flatBox 0 = .ok (.aload_n 0, 1) := by decide +kernel
theorem dX8_flatBox_1 : decode cX8_flatBox 1 = .ok (.getfield 67, 3) := by decide +kernel
theorem dX8_flatBox_4 : decode cX8_flatBox 4 = .ok (.invokevirtual 183, 3) := by decide +kernel
theorem dX8_flatBox_7 : decode cX8_flatBox 7 = .ok (.ifCond .eq 12, 3) := by decide +kernel
theorem dX8_flatBox_19 : decode cX8_flatBox 19 = .ok (.ldc 195, 2) := by decide +kernel
theorem dX8_flatBox_21 : decode cX8_flatBox 21 = .ok (.ireturn, 1) := by decide +kernel
set_option maxHeartbeats 4000000 in
set_option maxRecDepth 100000 in
theorem kX8_flatBox (l : Launch) (g : zL) (h0 : Nat) (x : Int32) (xt : Nat) (xr : Nat) (xp : Nat) (xs : Nat) (xm : Nat) (xh : Nat) (xe : Nat) (xf : Nat) (pa : Nat) (dr : Nat) (p_toolWidth : Nat) (p_told : Nat) (p_name : Nat) (p_parent : Nat) (p_side : Nat) (p_from : Nat) (p_width : Nat) (p_height : Nat) (p_radius : Nat) (p_toolSet : Nat) : zCi l g yX8_flatBox cX8_flatBox 2 (some .int) { frames := 1, cells := 0, slots := 0, locals := 20 } [.ref h0, .int x] [(h0, .inr (8, [.ref xt, .ref xr, .ref xp, .ref xs, .ref xm, .ref xh, .ref xe, .ref xf, .ref pa, .ref dr, .int 0, .int 1, .int 0, .int 0])), (pa, .inr (4, [.int 0, .int 0, .int 0, .int 0, .int 0, .int 0, .ref p_toolWidth, .ref p_told, .ref p_name, .ref p_parent, .ref p_side, .ref p_from, .ref p_width, .ref p_height, .ref p_radius, .ref p_toolSet]))] (fun (r : Int32) (u : Unit) => r = (-1000000)) (fun (u : Unit) => []) := by
  refine zCi.mk (by decide) (Nat.le_of_ble_eq_true rfl) ?_
  intro p e s m below meth c A hE hP hD hS ls hl
  obtain ⟨hx, hb, hr, hml, hown, hG, hlocks, hnm, hX, hA⟩ := hE
  have hown : s.vm.findClass RX8 = some m.cls := hown
  have hl : lv_has ls 2 [(0, .ref h0), (1, .int x)] := hl
  refine lv_aload_n hx hb dX8_flatBox_0 rfl (lv_at hl 0 rfl) ?_
  refine va_get (D := g.1) (ci := 8) (v := .ref pa) (C := RX8) (T := TX8) (N := 14) hx hb hG iX8 hown hX.1 hP 0 rfl rfl 8 (by decide) (hG _ g515) (fun _ h9 => h9) rfl dX8_flatBox_1 ?_
  refine zfi (wr := [(h0, .inr (8, [.ref xt, .ref xr, .ref xp, .ref xs, .ref xm, .ref xh, .ref xe, .ref xf, .ref pa, .ref dr, .int 0, .int 1, .int 0, .int 0]))]) (va_runVN (As := []) (rest := []) ⟨hx, hb, hml, hown, hG⟩ (kX4_isThere l g pa p_toolWidth p_told p_name p_parent p_side p_from p_width p_height p_radius p_toolSet _) ⟨va_cnB 0 hG (zGood g861) rfl rfl rfl (hX.2.1.ml g858) (hG _ g210) hX4_isThere ⟨Nat.le_of_ble_eq_true rfl, Nat.le_of_ble_eq_true rfl⟩, hG _ g860, hG _ g45⟩ (zpreV (va_recv hX.1 hP (ci := 4) (q0 := 1) rfl rfl) hX hP hD hS hA [1] rfl (by decide)) rfl rfl hl.1 rfl (lv_room (Nat.le_of_ble_eq_true rfl)) dX8_flatBox_4 ⟨Nat.le_of_ble_eq_true rfl, Nat.le_of_ble_eq_true rfl⟩) hP hD hS hA [1] [0] rfl rfl (by decide) (by decide) (fun r1 _ H locs hp hP hD hS => ?_)
  refine W.cs (cells' := 0) (slots' := 0) rfl rfl ?_
  have hq2 : r1 = 0 := hp
  subst hq2
  have hP : va_P g.1 vwCl [(h0, .inr (8, [.ref xt, .ref xr, .ref xp, .ref xs, .ref xm, .ref xh, .ref xe, .ref xf, .ref pa, .ref dr, .int 0, .int 1, .int 0, .int 0])), (pa, .inr (4, [.int 0, .int 0, .int 0, .int 0, .int 0, .int 0, .ref p_toolWidth, .ref p_told, .ref p_name, .ref p_parent, .ref p_side, .ref p_from, .ref p_width, .ref p_height, .ref p_radius, .ref p_toolSet]))] H := hP
  have hD : va_D A [(h0, .inr (8, [.ref xt, .ref xr, .ref xp, .ref xs, .ref xm, .ref xh, .ref xe, .ref xf, .ref pa, .ref dr, .int 0, .int 1, .int 0, .int 0])), (pa, .inr (4, [.int 0, .int 0, .int 0, .int 0, .int 0, .int 0, .ref p_toolWidth, .ref p_told, .ref p_name, .ref p_parent, .ref p_side, .ref p_from, .ref p_width, .ref p_height, .ref p_radius, .ref p_toolSet]))] := hD
  refine lv_if_eq (tgt := 19) hx hb dX8_flatBox_7 (by decide) (fun c7 => ?_) (fun c7 => (c7 (by decide)).elim)
  refine lv_ldc (v := (-1000000)) hx hb hown (hG _ g876) dX8_flatBox_19 ?_
  exact zri (rm := { frames := 1, cells := 0, slots := 0, locals := 20 }) (v := (-1000000)) () hx hb hr hlocks (Nat.le_of_ble_eq_true rfl) (Nat.le_of_ble_eq_true rfl) (rfl) (hP.sub [] rfl) (hD.sub [] (by decide) rfl) hS dX8_flatBox_21
theorem dX8_overlap_0 : decode cX8_overlap 0 = .ok (.aload_n 0, 1) := by decide +kernel
theorem dX8_overlap_1 : decode cX8_overlap 1 = .ok (.getfield 67, 3) := by decide +kernel
theorem dX8_overlap_4 : decode cX8_overlap 4 = .ok (.invokevirtual 183, 3) := by decide +kernel
theorem dX8_overlap_7 : decode cX8_overlap 7 = .ok (.ifCond .ne 5, 3) := by decide +kernel
theorem dX8_overlap_10 : decode cX8_overlap 10 = .ok (.iconst (-1), 1) := by decide +kernel
theorem dX8_overlap_11 : decode cX8_overlap 11 = .ok (.ireturn, 1) := by decide +kernel
set_option maxHeartbeats 4000000 in
set_option maxRecDepth 100000 in
theorem kX8_overlap (l : Launch) (g : zL) (h0 : Nat) (x : Int32) (y : Int32) (xt : Nat) (xr : Nat) (xp : Nat) (xs : Nat) (xm : Nat) (xh : Nat) (xe : Nat) (xf : Nat) (pa : Nat) (dr : Nat) (p_toolWidth : Nat) (p_told : Nat) (p_name : Nat) (p_parent : Nat) (p_side : Nat) (p_from : Nat) (p_width : Nat) (p_height : Nat) (p_radius : Nat) (p_toolSet : Nat) : zCi l g yX8_overlap cX8_overlap 4 (some .int) { frames := 1, cells := 0, slots := 0, locals := 20 } [.ref h0, .int x, .int y] [(h0, .inr (8, [.ref xt, .ref xr, .ref xp, .ref xs, .ref xm, .ref xh, .ref xe, .ref xf, .ref pa, .ref dr, .int 0, .int 1, .int 0, .int 0])), (pa, .inr (4, [.int 0, .int 0, .int 0, .int 0, .int 0, .int 0, .ref p_toolWidth, .ref p_told, .ref p_name, .ref p_parent, .ref p_side, .ref p_from, .ref p_width, .ref p_height, .ref p_radius, .ref p_toolSet]))] (fun (r : Int32) (u : Unit) => r = (-1)) (fun (u : Unit) => []) := by
  refine zCi.mk (by decide) (Nat.le_of_ble_eq_true rfl) ?_
  intro p e s m below meth c A hE hP hD hS ls hl
  obtain ⟨hx, hb, hr, hml, hown, hG, hlocks, hnm, hX, hA⟩ := hE
  have hown : s.vm.findClass RX8 = some m.cls := hown
  have hl : lv_has ls 4 [(0, .ref h0), (1, .int x), (2, .int y)] := hl
  refine lv_aload_n hx hb dX8_overlap_0 rfl (lv_at hl 0 rfl) ?_
  refine va_get (D := g.1) (ci := 8) (v := .ref pa) (C := RX8) (T := TX8) (N := 14) hx hb hG iX8 hown hX.1 hP 0 rfl rfl 8 (by decide) (hG _ g515) (fun _ h9 => h9) rfl dX8_overlap_1 ?_
  refine zfi (wr := [(h0, .inr (8, [.ref xt, .ref xr, .ref xp, .ref xs, .ref xm, .ref xh, .ref xe, .ref xf, .ref pa, .ref dr, .int 0, .int 1, .int 0, .int 0]))]) (va_runVN (As := []) (rest := []) ⟨hx, hb, hml, hown, hG⟩ (kX4_isThere l g pa p_toolWidth p_told p_name p_parent p_side p_from p_width p_height p_radius p_toolSet _) ⟨va_cnB 0 hG (zGood g861) rfl rfl rfl (hX.2.1.ml g858) (hG _ g210) hX4_isThere ⟨Nat.le_of_ble_eq_true rfl, Nat.le_of_ble_eq_true rfl⟩, hG _ g860, hG _ g45⟩ (zpreV (va_recv hX.1 hP (ci := 4) (q0 := 1) rfl rfl) hX hP hD hS hA [1] rfl (by decide)) rfl rfl hl.1 rfl (lv_room (Nat.le_of_ble_eq_true rfl)) dX8_overlap_4 ⟨Nat.le_of_ble_eq_true rfl, Nat.le_of_ble_eq_true rfl⟩) hP hD hS hA [1] [0] rfl rfl (by decide) (by decide) (fun r1 _ H locs hp hP hD hS => ?_)
  refine W.cs (cells' := 0) (slots' := 0) rfl rfl ?_
  have hq2 : r1 = 0 := hp
  subst hq2
  have hP : va_P g.1 vwCl [(h0, .inr (8, [.ref xt, .ref xr, .ref xp, .ref xs, .ref xm, .ref xh, .ref xe, .ref xf, .ref pa, .ref dr, .int 0, .int 1, .int 0, .int 0])), (pa, .inr (4, [.int 0, .int 0, .int 0, .int 0, .int 0, .int 0, .ref p_toolWidth, .ref p_told, .ref p_name, .ref p_parent, .ref p_side, .ref p_from, .ref p_width, .ref p_height, .ref p_radius, .ref p_toolSet]))] H := hP
  have hD : va_D A [(h0, .inr (8, [.ref xt, .ref xr, .ref xp, .ref xs, .ref xm, .ref xh, .ref xe, .ref xf, .ref pa, .ref dr, .int 0, .int 1, .int 0, .int 0])), (pa, .inr (4, [.int 0, .int 0, .int 0, .int 0, .int 0, .int 0, .ref p_toolWidth, .ref p_told, .ref p_name, .ref p_parent, .ref p_side, .ref p_from, .ref p_width, .ref p_height, .ref p_radius, .ref p_toolSet]))] := hD
  refine lv_if_ne (tgt := 12) hx hb dX8_overlap_7 (by decide) (fun c7 => (c7 (by decide)).elim) (fun c7 => ?_)
  refine lv_iconst (v := (-1)) hx hb dX8_overlap_10 (by decide) ?_
  exact zri (rm := { frames := 1, cells := 0, slots := 0, locals := 20 }) (v := (-1)) () hx hb hr hlocks (Nat.le_of_ble_eq_true rfl) (Nat.le_of_ble_eq_true rfl) (rfl) (hP.sub [] rfl) (hD.sub [] (by decide) rfl) hS dX8_overlap_11
theorem dX8_space_0 : decode cX8_space 0 = .ok (.aload_n 0, 1) := by decide +kernel
theorem dX8_space_1 : decode cX8_space 1 = .ok (.getfield 67, 3) := by decide +kernel
theorem dX8_space_4 : decode cX8_space 4 = .ok (.iload_n 1, 1) := by decide +kernel
theorem dX8_space_5 : decode cX8_space 5 = .ok (.invokevirtual 137, 3) := by decide +kernel
theorem dX8_space_8 : decode cX8_space 8 = .ok (.ifCond .eq 12, 3) := by decide +kernel
theorem dX8_space_20 : decode cX8_space 20 = .ok (.ldc 195, 2) := by decide +kernel
theorem dX8_space_22 : decode cX8_space 22 = .ok (.ireturn, 1) := by decide +kernel
set_option maxHeartbeats 4000000 in
set_option maxRecDepth 100000 in
theorem kX8_space (l : Launch) (g : zL) (h0 : Nat) (x : Int32) (y : Int32) (xt : Nat) (xr : Nat) (xp : Nat) (xs : Nat) (xm : Nat) (xh : Nat) (xe : Nat) (xf : Nat) (pa : Nat) (dr : Nat) (p_toolWidth : Nat) (p_told : Nat) (p_name : Nat) (p_parent : Nat) (p_side : Nat) (p_from : Nat) (p_width : Nat) (p_height : Nat) (p_radius : Nat) (p_toolSet : Nat) : zCi l g yX8_space cX8_space 3 (some .int) { frames := 1, cells := 0, slots := 0, locals := 21 } [.ref h0, .int x, .int y] [(h0, .inr (8, [.ref xt, .ref xr, .ref xp, .ref xs, .ref xm, .ref xh, .ref xe, .ref xf, .ref pa, .ref dr, .int 0, .int 1, .int 0, .int 0])), (pa, .inr (4, [.int 0, .int 0, .int 0, .int 0, .int 0, .int 0, .ref p_toolWidth, .ref p_told, .ref p_name, .ref p_parent, .ref p_side, .ref p_from, .ref p_width, .ref p_height, .ref p_radius, .ref p_toolSet]))] (fun (r : Int32) (u : Unit) => r = (-1000000)) (fun (u : Unit) => []) := by
  refine zCi.mk (by decide) (Nat.le_of_ble_eq_true rfl) ?_
  intro p e s m below meth c A hE hP hD hS ls hl
  obtain ⟨hx, hb, hr, hml, hown, hG, hlocks, hnm, hX, hA⟩ := hE
  have hown : s.vm.findClass RX8 = some m.cls := hown
  have hl : lv_has ls 3 [(0, .ref h0), (1, .int x), (2, .int y)] := hl
  refine lv_aload_n hx hb dX8_space_0 rfl (lv_at hl 0 rfl) ?_
  refine va_get (D := g.1) (ci := 8) (v := .ref pa) (C := RX8) (T := TX8) (N := 14) hx hb hG iX8 hown hX.1 hP 0 rfl rfl 8 (by decide) (hG _ g515) (fun _ h9 => h9) rfl dX8_space_1 ?_
  refine lv_iload_n hx hb dX8_space_4 rfl (lv_at hl 1 rfl) ?_
  refine zfi (wr := [(h0, .inr (8, [.ref xt, .ref xr, .ref xp, .ref xs, .ref xm, .ref xh, .ref xe, .ref xf, .ref pa, .ref dr, .int 0, .int 1, .int 0, .int 0]))]) (va_runVN (As := [.int x]) (rest := []) ⟨hx, hb, hml, hown, hG⟩ (kX4_isFlange l g pa x p_toolWidth p_told p_name p_parent p_side p_from p_width p_height p_radius p_toolSet _) ⟨va_cnB 1 hG (zGood g813) rfl rfl rfl (hX.2.1.ml g810) (hG _ g210) hX4_isFlange ⟨Nat.le_of_ble_eq_true rfl, Nat.le_of_ble_eq_true rfl⟩, hG _ g812, hG _ g37⟩ (zpreV (va_recv hX.1 hP (ci := 4) (q0 := 1) rfl rfl) hX hP hD hS hA [1] rfl (by decide)) rfl rfl hl.1 rfl (lv_room (Nat.le_of_ble_eq_true rfl)) dX8_space_5 ⟨Nat.le_of_ble_eq_true rfl, Nat.le_of_ble_eq_true rfl⟩) hP hD hS hA [1] [0] rfl rfl (by decide) (by decide) (fun r1 _ H locs hp hP hD hS => ?_)
  refine W.cs (cells' := 0) (slots' := 0) rfl rfl ?_
  have hq2 : r1 = 0 := hp
  subst hq2
  have hP : va_P g.1 vwCl [(h0, .inr (8, [.ref xt, .ref xr, .ref xp, .ref xs, .ref xm, .ref xh, .ref xe, .ref xf, .ref pa, .ref dr, .int 0, .int 1, .int 0, .int 0])), (pa, .inr (4, [.int 0, .int 0, .int 0, .int 0, .int 0, .int 0, .ref p_toolWidth, .ref p_told, .ref p_name, .ref p_parent, .ref p_side, .ref p_from, .ref p_width, .ref p_height, .ref p_radius, .ref p_toolSet]))] H := hP
  have hD : va_D A [(h0, .inr (8, [.ref xt, .ref xr, .ref xp, .ref xs, .ref xm, .ref xh, .ref xe, .ref xf, .ref pa, .ref dr, .int 0, .int 1, .int 0, .int 0])), (pa, .inr (4, [.int 0, .int 0, .int 0, .int 0, .int 0, .int 0, .ref p_toolWidth, .ref p_told, .ref p_name, .ref p_parent, .ref p_side, .ref p_from, .ref p_width, .ref p_height, .ref p_radius, .ref p_toolSet]))] := hD
  refine lv_if_eq (tgt := 20) hx hb dX8_space_8 (by decide) (fun c8 => ?_) (fun c8 => (c8 (by decide)).elim)
  refine lv_ldc (v := (-1000000)) hx hb hown (hG _ g876) dX8_space_20 ?_
  exact zri (rm := { frames := 1, cells := 0, slots := 0, locals := 21 }) (v := (-1000000)) () hx hb hr hlocks (Nat.le_of_ble_eq_true rfl) (Nat.le_of_ble_eq_true rfl) (rfl) (hP.sub [] rfl) (hD.sub [] (by decide) rfl) hS dX8_space_22
theorem dX8_spaceBox_0 : decode cX8_spaceBox 0 = .ok (.aload_n 0, 1) := by decide +kernel
theorem dX8_spaceBox_1 : decode cX8_spaceBox 1 = .ok (.getfield 67, 3) := by decide +kernel
theorem dX8_spaceBox_4 : decode cX8_spaceBox 4 = .ok (.invokevirtual 183, 3) := by decide +kernel
theorem dX8_spaceBox_7 : decode cX8_spaceBox 7 = .ok (.ifCond .eq 12, 3) := by decide +kernel
theorem dX8_spaceBox_19 : decode cX8_spaceBox 19 = .ok (.ldc 195, 2) := by decide +kernel
theorem dX8_spaceBox_21 : decode cX8_spaceBox 21 = .ok (.ireturn, 1) := by decide +kernel
set_option maxHeartbeats 4000000 in
set_option maxRecDepth 100000 in
theorem kX8_spaceBox (l : Launch) (g : zL) (h0 : Nat) (x : Int32) (xt : Nat) (xr : Nat) (xp : Nat) (xs : Nat) (xm : Nat) (xh : Nat) (xe : Nat) (xf : Nat) (pa : Nat) (dr : Nat) (p_toolWidth : Nat) (p_told : Nat) (p_name : Nat) (p_parent : Nat) (p_side : Nat) (p_from : Nat) (p_width : Nat) (p_height : Nat) (p_radius : Nat) (p_toolSet : Nat) : zCi l g yX8_spaceBox cX8_spaceBox 2 (some .int) { frames := 1, cells := 0, slots := 0, locals := 20 } [.ref h0, .int x] [(h0, .inr (8, [.ref xt, .ref xr, .ref xp, .ref xs, .ref xm, .ref xh, .ref xe, .ref xf, .ref pa, .ref dr, .int 0, .int 1, .int 0, .int 0])), (pa, .inr (4, [.int 0, .int 0, .int 0, .int 0, .int 0, .int 0, .ref p_toolWidth, .ref p_told, .ref p_name, .ref p_parent, .ref p_side, .ref p_from, .ref p_width, .ref p_height, .ref p_radius, .ref p_toolSet]))] (fun (r : Int32) (u : Unit) => r = (-1000000)) (fun (u : Unit) => []) := by
  refine zCi.mk (by decide) (Nat.le_of_ble_eq_true rfl) ?_
  intro p e s m below meth c A hE hP hD hS ls hl
  obtain ⟨hx, hb, hr, hml, hown, hG, hlocks, hnm, hX, hA⟩ := hE
  have hown : s.vm.findClass RX8 = some m.cls := hown
  have hl : lv_has ls 2 [(0, .ref h0), (1, .int x)] := hl
  refine lv_aload_n hx hb dX8_spaceBox_0 rfl (lv_at hl 0 rfl) ?_
  refine va_get (D := g.1) (ci := 8) (v := .ref pa) (C := RX8) (T := TX8) (N := 14) hx hb hG iX8 hown hX.1 hP 0 rfl rfl 8 (by decide) (hG _ g515) (fun _ h9 => h9) rfl dX8_spaceBox_1 ?_
  refine zfi (wr := [(h0, .inr (8, [.ref xt, .ref xr, .ref xp, .ref xs, .ref xm, .ref xh, .ref xe, .ref xf, .ref pa, .ref dr, .int 0, .int 1, .int 0, .int 0]))]) (va_runVN (As := []) (rest := []) ⟨hx, hb, hml, hown, hG⟩ (kX4_isThere l g pa p_toolWidth p_told p_name p_parent p_side p_from p_width p_height p_radius p_toolSet _) ⟨va_cnB 0 hG (zGood g861) rfl rfl rfl (hX.2.1.ml g858) (hG _ g210) hX4_isThere ⟨Nat.le_of_ble_eq_true rfl, Nat.le_of_ble_eq_true rfl⟩, hG _ g860, hG _ g45⟩ (zpreV (va_recv hX.1 hP (ci := 4) (q0 := 1) rfl rfl) hX hP hD hS hA [1] rfl (by decide)) rfl rfl hl.1 rfl (lv_room (Nat.le_of_ble_eq_true rfl)) dX8_spaceBox_4 ⟨Nat.le_of_ble_eq_true rfl, Nat.le_of_ble_eq_true rfl⟩) hP hD hS hA [1] [0] rfl rfl (by decide) (by decide) (fun r1 _ H locs hp hP hD hS => ?_)
  refine W.cs (cells' := 0) (slots' := 0) rfl rfl ?_
  have hq2 : r1 = 0 := hp
  subst hq2
  have hP : va_P g.1 vwCl [(h0, .inr (8, [.ref xt, .ref xr, .ref xp, .ref xs, .ref xm, .ref xh, .ref xe, .ref xf, .ref pa, .ref dr, .int 0, .int 1, .int 0, .int 0])), (pa, .inr (4, [.int 0, .int 0, .int 0, .int 0, .int 0, .int 0, .ref p_toolWidth, .ref p_told, .ref p_name, .ref p_parent, .ref p_side, .ref p_from, .ref p_width, .ref p_height, .ref p_radius, .ref p_toolSet]))] H := hP
  have hD : va_D A [(h0, .inr (8, [.ref xt, .ref xr, .ref xp, .ref xs, .ref xm, .ref xh, .ref xe, .ref xf, .ref pa, .ref dr, .int 0, .int 1, .int 0, .int 0])), (pa, .inr (4, [.int 0, .int 0, .int 0, .int 0, .int 0, .int 0, .ref p_toolWidth, .ref p_told, .ref p_name, .ref p_parent, .ref p_side, .ref p_from, .ref p_width, .ref p_height, .ref p_radius, .ref p_toolSet]))] := hD
  refine lv_if_eq (tgt := 19) hx hb dX8_spaceBox_7 (by decide) (fun c7 => ?_) (fun c7 => (c7 (by decide)).elim)
  refine lv_ldc (v := (-1000000)) hx hb hown (hG _ g876) dX8_spaceBox_19 ?_
  exact zri (rm := { frames := 1, cells := 0, slots := 0, locals := 20 }) (v := (-1000000)) () hx hb hr hlocks (Nat.le_of_ble_eq_true rfl) (Nat.le_of_ble_eq_true rfl) (rfl) (hP.sub [] rfl) (hD.sub [] (by decide) rfl) hS dX8_spaceBox_21
theorem dX8_gap_0 : decode cX8_gap 0 = .ok (.aload_n 0, 1) := by decide +kernel
theorem dX8_gap_1 : decode cX8_gap 1 = .ok (.getfield 67, 3) := by decide +kernel
theorem dX8_gap_4 : decode cX8_gap 4 = .ok (.iload_n 1, 1) := by decide +kernel
theorem dX8_gap_5 : decode cX8_gap 5 = .ok (.invokevirtual 137, 3) := by decide +kernel
theorem dX8_gap_8 : decode cX8_gap 8 = .ok (.ifCond .eq 14, 3) := by decide +kernel
theorem dX8_gap_22 : decode cX8_gap 22 = .ok (.iconst (-1), 1) := by decide +kernel
theorem dX8_gap_23 : decode cX8_gap 23 = .ok (.ireturn, 1) := by decide +kernel
set_option maxHeartbeats 4000000 in
set_option maxRecDepth 100000 in
theorem kX8_gap (l : Launch) (g : zL) (h0 : Nat) (x : Int32) (y : Int32) (xt : Nat) (xr : Nat) (xp : Nat) (xs : Nat) (xm : Nat) (xh : Nat) (xe : Nat) (xf : Nat) (pa : Nat) (dr : Nat) (p_toolWidth : Nat) (p_told : Nat) (p_name : Nat) (p_parent : Nat) (p_side : Nat) (p_from : Nat) (p_width : Nat) (p_height : Nat) (p_radius : Nat) (p_toolSet : Nat) : zCi l g yX8_gap cX8_gap 3 (some .int) { frames := 1, cells := 0, slots := 0, locals := 21 } [.ref h0, .int x, .int y] [(h0, .inr (8, [.ref xt, .ref xr, .ref xp, .ref xs, .ref xm, .ref xh, .ref xe, .ref xf, .ref pa, .ref dr, .int 0, .int 1, .int 0, .int 0])), (pa, .inr (4, [.int 0, .int 0, .int 0, .int 0, .int 0, .int 0, .ref p_toolWidth, .ref p_told, .ref p_name, .ref p_parent, .ref p_side, .ref p_from, .ref p_width, .ref p_height, .ref p_radius, .ref p_toolSet]))] (fun (r : Int32) (u : Unit) => r = (-1)) (fun (u : Unit) => []) := by
  refine zCi.mk (by decide) (Nat.le_of_ble_eq_true rfl) ?_
  intro p e s m below meth c A hE hP hD hS ls hl
  obtain ⟨hx, hb, hr, hml, hown, hG, hlocks, hnm, hX, hA⟩ := hE
  have hown : s.vm.findClass RX8 = some m.cls := hown
  have hl : lv_has ls 3 [(0, .ref h0), (1, .int x), (2, .int y)] := hl
  refine lv_aload_n hx hb dX8_gap_0 rfl (lv_at hl 0 rfl) ?_
  refine va_get (D := g.1) (ci := 8) (v := .ref pa) (C := RX8) (T := TX8) (N := 14) hx hb hG iX8 hown hX.1 hP 0 rfl rfl 8 (by decide) (hG _ g515) (fun _ h9 => h9) rfl dX8_gap_1 ?_
  refine lv_iload_n hx hb dX8_gap_4 rfl (lv_at hl 1 rfl) ?_
  refine zfi (wr := [(h0, .inr (8, [.ref xt, .ref xr, .ref xp, .ref xs, .ref xm, .ref xh, .ref xe, .ref xf, .ref pa, .ref dr, .int 0, .int 1, .int 0, .int 0]))]) (va_runVN (As := [.int x]) (rest := []) ⟨hx, hb, hml, hown, hG⟩ (kX4_isFlange l g pa x p_toolWidth p_told p_name p_parent p_side p_from p_width p_height p_radius p_toolSet _) ⟨va_cnB 1 hG (zGood g813) rfl rfl rfl (hX.2.1.ml g810) (hG _ g210) hX4_isFlange ⟨Nat.le_of_ble_eq_true rfl, Nat.le_of_ble_eq_true rfl⟩, hG _ g812, hG _ g37⟩ (zpreV (va_recv hX.1 hP (ci := 4) (q0 := 1) rfl rfl) hX hP hD hS hA [1] rfl (by decide)) rfl rfl hl.1 rfl (lv_room (Nat.le_of_ble_eq_true rfl)) dX8_gap_5 ⟨Nat.le_of_ble_eq_true rfl, Nat.le_of_ble_eq_true rfl⟩) hP hD hS hA [1] [0] rfl rfl (by decide) (by decide) (fun r1 _ H locs hp hP hD hS => ?_)
  refine W.cs (cells' := 0) (slots' := 0) rfl rfl ?_
  have hq2 : r1 = 0 := hp
  subst hq2
  have hP : va_P g.1 vwCl [(h0, .inr (8, [.ref xt, .ref xr, .ref xp, .ref xs, .ref xm, .ref xh, .ref xe, .ref xf, .ref pa, .ref dr, .int 0, .int 1, .int 0, .int 0])), (pa, .inr (4, [.int 0, .int 0, .int 0, .int 0, .int 0, .int 0, .ref p_toolWidth, .ref p_told, .ref p_name, .ref p_parent, .ref p_side, .ref p_from, .ref p_width, .ref p_height, .ref p_radius, .ref p_toolSet]))] H := hP
  have hD : va_D A [(h0, .inr (8, [.ref xt, .ref xr, .ref xp, .ref xs, .ref xm, .ref xh, .ref xe, .ref xf, .ref pa, .ref dr, .int 0, .int 1, .int 0, .int 0])), (pa, .inr (4, [.int 0, .int 0, .int 0, .int 0, .int 0, .int 0, .ref p_toolWidth, .ref p_told, .ref p_name, .ref p_parent, .ref p_side, .ref p_from, .ref p_width, .ref p_height, .ref p_radius, .ref p_toolSet]))] := hD
  refine lv_if_eq (tgt := 22) hx hb dX8_gap_8 (by decide) (fun c8 => ?_) (fun c8 => (c8 (by decide)).elim)
  refine lv_iconst (v := (-1)) hx hb dX8_gap_22 (by decide) ?_
  exact zri (rm := { frames := 1, cells := 0, slots := 0, locals := 21 }) (v := (-1)) () hx hb hr hlocks (Nat.le_of_ble_eq_true rfl) (Nat.le_of_ble_eq_true rfl) (rfl) (hP.sub [] rfl) (hD.sub [] (by decide) rfl) hS dX8_gap_23
theorem dX8_normal_0 : decode cX8_normal 0 = .ok (.aload_n 0, 1) := by decide +kernel
theorem dX8_normal_1 : decode cX8_normal 1 = .ok (.getfield 67, 3) := by decide +kernel
theorem dX8_normal_4 : decode cX8_normal 4 = .ok (.iload_n 1, 1) := by decide +kernel
theorem dX8_normal_5 : decode cX8_normal 5 = .ok (.invokevirtual 137, 3) := by decide +kernel
theorem dX8_normal_8 : decode cX8_normal 8 = .ok (.ifCond .ne 5, 3) := by decide +kernel
theorem dX8_normal_11 : decode cX8_normal 11 = .ok (.iconst 0, 1) := by decide +kernel
theorem dX8_normal_12 : decode cX8_normal 12 = .ok (.ireturn, 1) := by decide +kernel
set_option maxHeartbeats 4000000 in
set_option maxRecDepth 100000 in
theorem kX8_normal (l : Launch) (g : zL) (h0 : Nat) (x : Int32) (xt : Nat) (xr : Nat) (xp : Nat) (xs : Nat) (xm : Nat) (xh : Nat) (xe : Nat) (xf : Nat) (pa : Nat) (dr : Nat) (p_toolWidth : Nat) (p_told : Nat) (p_name : Nat) (p_parent : Nat) (p_side : Nat) (p_from : Nat) (p_width : Nat) (p_height : Nat) (p_radius : Nat) (p_toolSet : Nat) : zCi l g yX8_normal cX8_normal 2 (some .int) { frames := 1, cells := 0, slots := 0, locals := 21 } [.ref h0, .int x] [(h0, .inr (8, [.ref xt, .ref xr, .ref xp, .ref xs, .ref xm, .ref xh, .ref xe, .ref xf, .ref pa, .ref dr, .int 0, .int 1, .int 0, .int 0])), (pa, .inr (4, [.int 0, .int 0, .int 0, .int 0, .int 0, .int 0, .ref p_toolWidth, .ref p_told, .ref p_name, .ref p_parent, .ref p_side, .ref p_from, .ref p_width, .ref p_height, .ref p_radius, .ref p_toolSet]))] (fun (r : Int32) (u : Unit) => r = 0) (fun (u : Unit) => []) := by
  refine zCi.mk (by decide) (Nat.le_of_ble_eq_true rfl) ?_
  intro p e s m below meth c A hE hP hD hS ls hl
  obtain ⟨hx, hb, hr, hml, hown, hG, hlocks, hnm, hX, hA⟩ := hE
  have hown : s.vm.findClass RX8 = some m.cls := hown
  have hl : lv_has ls 2 [(0, .ref h0), (1, .int x)] := hl
  refine lv_aload_n hx hb dX8_normal_0 rfl (lv_at hl 0 rfl) ?_
  refine va_get (D := g.1) (ci := 8) (v := .ref pa) (C := RX8) (T := TX8) (N := 14) hx hb hG iX8 hown hX.1 hP 0 rfl rfl 8 (by decide) (hG _ g515) (fun _ h9 => h9) rfl dX8_normal_1 ?_
  refine lv_iload_n hx hb dX8_normal_4 rfl (lv_at hl 1 rfl) ?_
  refine zfi (wr := [(h0, .inr (8, [.ref xt, .ref xr, .ref xp, .ref xs, .ref xm, .ref xh, .ref xe, .ref xf, .ref pa, .ref dr, .int 0, .int 1, .int 0, .int 0]))]) (va_runVN (As := [.int x]) (rest := []) ⟨hx, hb, hml, hown, hG⟩ (kX4_isFlange l g pa x p_toolWidth p_told p_name p_parent p_side p_from p_width p_height p_radius p_toolSet _) ⟨va_cnB 1 hG (zGood g813) rfl rfl rfl (hX.2.1.ml g810) (hG _ g210) hX4_isFlange ⟨Nat.le_of_ble_eq_true rfl, Nat.le_of_ble_eq_true rfl⟩, hG _ g812, hG _ g37⟩ (zpreV (va_recv hX.1 hP (ci := 4) (q0 := 1) rfl rfl) hX hP hD hS hA [1] rfl (by decide)) rfl rfl hl.1 rfl (lv_room (Nat.le_of_ble_eq_true rfl)) dX8_normal_5 ⟨Nat.le_of_ble_eq_true rfl, Nat.le_of_ble_eq_true rfl⟩) hP hD hS hA [1] [0] rfl rfl (by decide) (by decide) (fun r1 _ H locs hp hP hD hS => ?_)
  refine W.cs (cells' := 0) (slots' := 0) rfl rfl ?_
  have hq2 : r1 = 0 := hp
  subst hq2
  have hP : va_P g.1 vwCl [(h0, .inr (8, [.ref xt, .ref xr, .ref xp, .ref xs, .ref xm, .ref xh, .ref xe, .ref xf, .ref pa, .ref dr, .int 0, .int 1, .int 0, .int 0])), (pa, .inr (4, [.int 0, .int 0, .int 0, .int 0, .int 0, .int 0, .ref p_toolWidth, .ref p_told, .ref p_name, .ref p_parent, .ref p_side, .ref p_from, .ref p_width, .ref p_height, .ref p_radius, .ref p_toolSet]))] H := hP
  have hD : va_D A [(h0, .inr (8, [.ref xt, .ref xr, .ref xp, .ref xs, .ref xm, .ref xh, .ref xe, .ref xf, .ref pa, .ref dr, .int 0, .int 1, .int 0, .int 0])), (pa, .inr (4, [.int 0, .int 0, .int 0, .int 0, .int 0, .int 0, .ref p_toolWidth, .ref p_told, .ref p_name, .ref p_parent, .ref p_side, .ref p_from, .ref p_width, .ref p_height, .ref p_radius, .ref p_toolSet]))] := hD
  refine lv_if_ne (tgt := 13) hx hb dX8_normal_8 (by decide) (fun c8 => (c8 (by decide)).elim) (fun c8 => ?_)
  refine lv_iconst (v := 0) hx hb dX8_normal_11 (by decide) ?_
  exact zri (rm := { frames := 1, cells := 0, slots := 0, locals := 21 }) (v := 0) () hx hb hr hlocks (Nat.le_of_ble_eq_true rfl) (Nat.le_of_ble_eq_true rfl) (rfl) (hP.sub [] rfl) (hD.sub [] (by decide) rfl) hS dX8_normal_12
theorem dX8_clash_0 : decode cX8_clash 0 = .ok (.aload_n 0, 1) := by decide +kernel
theorem dX8_clash_1 : decode cX8_clash 1 = .ok (.getfield 67, 3) := by decide +kernel
theorem dX8_clash_4 : decode cX8_clash 4 = .ok (.iload_n 1, 1) := by decide +kernel
theorem dX8_clash_5 : decode cX8_clash 5 = .ok (.invokevirtual 232, 3) := by decide +kernel
theorem dX8_clash_8 : decode cX8_clash 8 = .ok (.ifCond .eq 8, 3) := by decide +kernel
theorem dX8_clash_16 : decode cX8_clash 16 = .ok (.iconst (-1), 1) := by decide +kernel
theorem dX8_clash_17 : decode cX8_clash 17 = .ok (.ireturn, 1) := by decide +kernel
set_option maxHeartbeats 4000000 in
set_option maxRecDepth 100000 in
theorem kX8_clash (l : Launch) (g : zL) (h0 : Nat) (x : Int32) (y : Int32) (xt : Nat) (xr : Nat) (xp : Nat) (xs : Nat) (xm : Nat) (xh : Nat) (xe : Nat) (xf : Nat) (pa : Nat) (dr : Nat) (p_toolWidth : Nat) (p_told : Nat) (p_name : Nat) (p_parent : Nat) (p_side : Nat) (p_from : Nat) (p_width : Nat) (p_height : Nat) (p_radius : Nat) (p_toolSet : Nat) : zCi l g yX8_clash cX8_clash 3 (some .int) { frames := 2, cells := 0, slots := 0, locals := 41 } [.ref h0, .int x, .int y] [(h0, .inr (8, [.ref xt, .ref xr, .ref xp, .ref xs, .ref xm, .ref xh, .ref xe, .ref xf, .ref pa, .ref dr, .int 0, .int 1, .int 0, .int 0])), (pa, .inr (4, [.int 0, .int 0, .int 0, .int 0, .int 0, .int 0, .ref p_toolWidth, .ref p_told, .ref p_name, .ref p_parent, .ref p_side, .ref p_from, .ref p_width, .ref p_height, .ref p_radius, .ref p_toolSet]))] (fun (r : Int32) (u : Unit) => r = (-1)) (fun (u : Unit) => []) := by
  refine zCi.mk (by decide) (Nat.le_of_ble_eq_true rfl) ?_
  intro p e s m below meth c A hE hP hD hS ls hl
  obtain ⟨hx, hb, hr, hml, hown, hG, hlocks, hnm, hX, hA⟩ := hE
  have hown : s.vm.findClass RX8 = some m.cls := hown
  have hl : lv_has ls 3 [(0, .ref h0), (1, .int x), (2, .int y)] := hl
  refine lv_aload_n hx hb dX8_clash_0 rfl (lv_at hl 0 rfl) ?_
  refine va_get (D := g.1) (ci := 8) (v := .ref pa) (C := RX8) (T := TX8) (N := 14) hx hb hG iX8 hown hX.1 hP 0 rfl rfl 8 (by decide) (hG _ g515) (fun _ h9 => h9) rfl dX8_clash_1 ?_
  refine lv_iload_n hx hb dX8_clash_4 rfl (lv_at hl 1 rfl) ?_
  refine zfi (wr := [(h0, .inr (8, [.ref xt, .ref xr, .ref xp, .ref xs, .ref xm, .ref xh, .ref xe, .ref xf, .ref pa, .ref dr, .int 0, .int 1, .int 0, .int 0]))]) (va_runVN (As := [.int x]) (rest := []) ⟨hx, hb, hml, hown, hG⟩ (kX4_isState l g pa x p_toolWidth p_told p_name p_parent p_side p_from p_width p_height p_radius p_toolSet _) ⟨va_cnB 1 hG (zGood g1011) rfl rfl rfl (hX.2.1.ml g1008) (hG _ g210) hX4_isState ⟨Nat.le_of_ble_eq_true rfl, Nat.le_of_ble_eq_true rfl⟩, hG _ g1010, hG _ g66⟩ (zpreV (va_recv hX.1 hP (ci := 4) (q0 := 1) rfl rfl) hX hP hD hS hA [1] rfl (by decide)) rfl rfl hl.1 rfl (lv_room (Nat.le_of_ble_eq_true rfl)) dX8_clash_5 ⟨Nat.le_of_ble_eq_true rfl, Nat.le_of_ble_eq_true rfl⟩) hP hD hS hA [1] [0] rfl rfl (by decide) (by decide) (fun r1 _ H locs hp hP hD hS => ?_)
  refine W.cs (cells' := 0) (slots' := 0) rfl rfl ?_
  have hq2 : r1 = 0 := hp
  subst hq2
  have hP : va_P g.1 vwCl [(h0, .inr (8, [.ref xt, .ref xr, .ref xp, .ref xs, .ref xm, .ref xh, .ref xe, .ref xf, .ref pa, .ref dr, .int 0, .int 1, .int 0, .int 0])), (pa, .inr (4, [.int 0, .int 0, .int 0, .int 0, .int 0, .int 0, .ref p_toolWidth, .ref p_told, .ref p_name, .ref p_parent, .ref p_side, .ref p_from, .ref p_width, .ref p_height, .ref p_radius, .ref p_toolSet]))] H := hP
  have hD : va_D A [(h0, .inr (8, [.ref xt, .ref xr, .ref xp, .ref xs, .ref xm, .ref xh, .ref xe, .ref xf, .ref pa, .ref dr, .int 0, .int 1, .int 0, .int 0])), (pa, .inr (4, [.int 0, .int 0, .int 0, .int 0, .int 0, .int 0, .ref p_toolWidth, .ref p_told, .ref p_name, .ref p_parent, .ref p_side, .ref p_from, .ref p_width, .ref p_height, .ref p_radius, .ref p_toolSet]))] := hD
  refine lv_if_eq (tgt := 16) hx hb dX8_clash_8 (by decide) (fun c8 => ?_) (fun c8 => (c8 (by decide)).elim)
  refine lv_iconst (v := (-1)) hx hb dX8_clash_16 (by decide) ?_
  exact zri (rm := { frames := 2, cells := 0, slots := 0, locals := 41 }) (v := (-1)) () hx hb hr hlocks (Nat.le_of_ble_eq_true rfl) (Nat.le_of_ble_eq_true rfl) (rfl) (hP.sub [] rfl) (hD.sub [] (by decide) rfl) hS dX8_clash_17
theorem dX8_meets_0 : decode cX8_meets 0 = .ok (.aload_n 0, 1) := by decide +kernel
theorem dX8_meets_1 : decode cX8_meets 1 = .ok (.getfield 67, 3) := by decide +kernel
theorem dX8_meets_4 : decode cX8_meets 4 = .ok (.iload_n 1, 1) := by decide +kernel
theorem dX8_meets_5 : decode cX8_meets 5 = .ok (.invokevirtual 143, 3) := by decide +kernel
theorem dX8_meets_8 : decode cX8_meets 8 = .ok (.ifCond .eq 22, 3) := by decide +kernel
theorem dX8_meets_30 : decode cX8_meets 30 = .ok (.iconst (-1), 1) := by decide +kernel
theorem dX8_meets_31 : decode cX8_meets 31 = .ok (.ireturn, 1) := by decide +kernel
set_option maxHeartbeats 4000000 in
set_option maxRecDepth 100000 in
theorem kX8_meets (l : Launch) (g : zL) (h0 : Nat) (x : Int32) (y : Int32) (xt : Nat) (xr : Nat) (xp : Nat) (xs : Nat) (xm : Nat) (xh : Nat) (xe : Nat) (xf : Nat) (pa : Nat) (dr : Nat) (p_toolWidth : Nat) (p_told : Nat) (p_name : Nat) (p_parent : Nat) (p_side : Nat) (p_from : Nat) (p_width : Nat) (p_height : Nat) (p_radius : Nat) (p_toolSet : Nat) : zCi l g yX8_meets cX8_meets 3 (some .int) { frames := 1, cells := 0, slots := 0, locals := 21 } [.ref h0, .int x, .int y] [(h0, .inr (8, [.ref xt, .ref xr, .ref xp, .ref xs, .ref xm, .ref xh, .ref xe, .ref xf, .ref pa, .ref dr, .int 0, .int 1, .int 0, .int 0])), (pa, .inr (4, [.int 0, .int 0, .int 0, .int 0, .int 0, .int 0, .ref p_toolWidth, .ref p_told, .ref p_name, .ref p_parent, .ref p_side, .ref p_from, .ref p_width, .ref p_height, .ref p_radius, .ref p_toolSet]))] (fun (r : Int32) (u : Unit) => r = (-1)) (fun (u : Unit) => []) := by
  refine zCi.mk (by decide) (Nat.le_of_ble_eq_true rfl) ?_
  intro p e s m below meth c A hE hP hD hS ls hl
  obtain ⟨hx, hb, hr, hml, hown, hG, hlocks, hnm, hX, hA⟩ := hE
  have hown : s.vm.findClass RX8 = some m.cls := hown
  have hl : lv_has ls 3 [(0, .ref h0), (1, .int x), (2, .int y)] := hl
  refine lv_aload_n hx hb dX8_meets_0 rfl (lv_at hl 0 rfl) ?_
  refine va_get (D := g.1) (ci := 8) (v := .ref pa) (C := RX8) (T := TX8) (N := 14) hx hb hG iX8 hown hX.1 hP 0 rfl rfl 8 (by decide) (hG _ g515) (fun _ h9 => h9) rfl dX8_meets_1 ?_
  refine lv_iload_n hx hb dX8_meets_4 rfl (lv_at hl 1 rfl) ?_
  refine zfi (wr := [(h0, .inr (8, [.ref xt, .ref xr, .ref xp, .ref xs, .ref xm, .ref xh, .ref xe, .ref xf, .ref pa, .ref dr, .int 0, .int 1, .int 0, .int 0]))]) (va_runVN (As := [.int x]) (rest := []) ⟨hx, hb, hml, hown, hG⟩ (kX4_isBend l g pa x p_toolWidth p_told p_name p_parent p_side p_from p_width p_height p_radius p_toolSet _) ⟨va_cnB 1 hG (zGood g821) rfl rfl rfl (hX.2.1.ml g818) (hG _ g210) hX4_isBend ⟨Nat.le_of_ble_eq_true rfl, Nat.le_of_ble_eq_true rfl⟩, hG _ g820, hG _ g38⟩ (zpreV (va_recv hX.1 hP (ci := 4) (q0 := 1) rfl rfl) hX hP hD hS hA [1] rfl (by decide)) rfl rfl hl.1 rfl (lv_room (Nat.le_of_ble_eq_true rfl)) dX8_meets_5 ⟨Nat.le_of_ble_eq_true rfl, Nat.le_of_ble_eq_true rfl⟩) hP hD hS hA [1] [0] rfl rfl (by decide) (by decide) (fun r1 _ H locs hp hP hD hS => ?_)
  refine W.cs (cells' := 0) (slots' := 0) rfl rfl ?_
  have hq2 : r1 = 0 := hp
  subst hq2
  have hP : va_P g.1 vwCl [(h0, .inr (8, [.ref xt, .ref xr, .ref xp, .ref xs, .ref xm, .ref xh, .ref xe, .ref xf, .ref pa, .ref dr, .int 0, .int 1, .int 0, .int 0])), (pa, .inr (4, [.int 0, .int 0, .int 0, .int 0, .int 0, .int 0, .ref p_toolWidth, .ref p_told, .ref p_name, .ref p_parent, .ref p_side, .ref p_from, .ref p_width, .ref p_height, .ref p_radius, .ref p_toolSet]))] H := hP
  have hD : va_D A [(h0, .inr (8, [.ref xt, .ref xr, .ref xp, .ref xs, .ref xm, .ref xh, .ref xe, .ref xf, .ref pa, .ref dr, .int 0, .int 1, .int 0, .int 0])), (pa, .inr (4, [.int 0, .int 0, .int 0, .int 0, .int 0, .int 0, .ref p_toolWidth, .ref p_told, .ref p_name, .ref p_parent, .ref p_side, .ref p_from, .ref p_width, .ref p_height, .ref p_radius, .ref p_toolSet]))] := hD
  refine lv_if_eq (tgt := 30) hx hb dX8_meets_8 (by decide) (fun c8 => ?_) (fun c8 => (c8 (by decide)).elim)
  refine lv_iconst (v := (-1)) hx hb dX8_meets_30 (by decide) ?_
  exact zri (rm := { frames := 1, cells := 0, slots := 0, locals := 21 }) (v := (-1)) () hx hb hr hlocks (Nat.le_of_ble_eq_true rfl) (Nat.le_of_ble_eq_true rfl) (rfl) (hP.sub [] rfl) (hD.sub [] (by decide) rfl) hS dX8_meets_31
theorem dX8_tools_0 : decode cX8_tools 0 = .ok (.aload_n 0, 1) := by decide +kernel
theorem dX8_tools_1 : decode cX8_tools 1 = .ok (.getfield 67, 3) := by decide +kernel
theorem dX8_tools_4 : decode cX8_tools 4 = .ok (.iload_n 1, 1) := by decide +kernel
theorem dX8_tools_5 : decode cX8_tools 5 = .ok (.invokevirtual 143, 3) := by decide +kernel
theorem dX8_tools_8 : decode cX8_tools 8 = .ok (.ifCond .eq 15, 3) := by decide +kernel
theorem dX8_tools_23 : decode cX8_tools 23 = .ok (.iconst (-1), 1) := by decide +kernel
theorem dX8_tools_24 : decode cX8_tools 24 = .ok (.ireturn, 1) := by decide +kernel
set_option maxHeartbeats 4000000 in
set_option maxRecDepth 100000 in
theorem kX8_tools (l : Launch) (g : zL) (h0 : Nat) (x : Int32) (y : Int32) (xt : Nat) (xr : Nat) (xp : Nat) (xs : Nat) (xm : Nat) (xh : Nat) (xe : Nat) (xf : Nat) (pa : Nat) (dr : Nat) (p_toolWidth : Nat) (p_told : Nat) (p_name : Nat) (p_parent : Nat) (p_side : Nat) (p_from : Nat) (p_width : Nat) (p_height : Nat) (p_radius : Nat) (p_toolSet : Nat) : zCi l g yX8_tools cX8_tools 3 (some .int) { frames := 1, cells := 0, slots := 0, locals := 21 } [.ref h0, .int x, .int y] [(h0, .inr (8, [.ref xt, .ref xr, .ref xp, .ref xs, .ref xm, .ref xh, .ref xe, .ref xf, .ref pa, .ref dr, .int 0, .int 1, .int 0, .int 0])), (pa, .inr (4, [.int 0, .int 0, .int 0, .int 0, .int 0, .int 0, .ref p_toolWidth, .ref p_told, .ref p_name, .ref p_parent, .ref p_side, .ref p_from, .ref p_width, .ref p_height, .ref p_radius, .ref p_toolSet]))] (fun (r : Int32) (u : Unit) => r = (-1)) (fun (u : Unit) => []) := by
  refine zCi.mk (by decide) (Nat.le_of_ble_eq_true rfl) ?_
  intro p e s m below meth c A hE hP hD hS ls hl
  obtain ⟨hx, hb, hr, hml, hown, hG, hlocks, hnm, hX, hA⟩ := hE
  have hown : s.vm.findClass RX8 = some m.cls := hown
  have hl : lv_has ls 3 [(0, .ref h0), (1, .int x), (2, .int y)] := hl
  refine lv_aload_n hx hb dX8_tools_0 rfl (lv_at hl 0 rfl) ?_
  refine va_get (D := g.1) (ci := 8) (v := .ref pa) (C := RX8) (T := TX8) (N := 14) hx hb hG iX8 hown hX.1 hP 0 rfl rfl 8 (by decide) (hG _ g515) (fun _ h9 => h9) rfl dX8_tools_1 ?_
  refine lv_iload_n hx hb dX8_tools_4 rfl (lv_at hl 1 rfl) ?_
  refine zfi (wr := [(h0, .inr (8, [.ref xt, .ref xr, .ref xp, .ref xs, .ref xm, .ref xh, .ref xe, .ref xf, .ref pa, .ref dr, .int 0, .int 1, .int 0, .int 0]))]) (va_runVN (As := [.int x]) (rest := []) ⟨hx, hb, hml, hown, hG⟩ (kX4_isBend l g pa x p_toolWidth p_told p_name p_parent p_side p_from p_width p_height p_radius p_toolSet _) ⟨va_cnB 1 hG (zGood g821) rfl rfl rfl (hX.2.1.ml g818) (hG _ g210) hX4_isBend ⟨Nat.le_of_ble_eq_true rfl, Nat.le_of_ble_eq_true rfl⟩, hG _ g820, hG _ g38⟩ (zpreV (va_recv hX.1 hP (ci := 4) (q0 := 1) rfl rfl) hX hP hD hS hA [1] rfl (by decide)) rfl rfl hl.1 rfl (lv_room (Nat.le_of_ble_eq_true rfl)) dX8_tools_5 ⟨Nat.le_of_ble_eq_true rfl, Nat.le_of_ble_eq_true rfl⟩) hP hD hS hA [1] [0] rfl rfl (by decide) (by decide) (fun r1 _ H locs hp hP hD hS => ?_)
  refine W.cs (cells' := 0) (slots' := 0) rfl rfl ?_
  have hq2 : r1 = 0 := hp
  subst hq2
  have hP : va_P g.1 vwCl [(h0, .inr (8, [.ref xt, .ref xr, .ref xp, .ref xs, .ref xm, .ref xh, .ref xe, .ref xf, .ref pa, .ref dr, .int 0, .int 1, .int 0, .int 0])), (pa, .inr (4, [.int 0, .int 0, .int 0, .int 0, .int 0, .int 0, .ref p_toolWidth, .ref p_told, .ref p_name, .ref p_parent, .ref p_side, .ref p_from, .ref p_width, .ref p_height, .ref p_radius, .ref p_toolSet]))] H := hP
  have hD : va_D A [(h0, .inr (8, [.ref xt, .ref xr, .ref xp, .ref xs, .ref xm, .ref xh, .ref xe, .ref xf, .ref pa, .ref dr, .int 0, .int 1, .int 0, .int 0])), (pa, .inr (4, [.int 0, .int 0, .int 0, .int 0, .int 0, .int 0, .ref p_toolWidth, .ref p_told, .ref p_name, .ref p_parent, .ref p_side, .ref p_from, .ref p_width, .ref p_height, .ref p_radius, .ref p_toolSet]))] := hD
  refine lv_if_eq (tgt := 23) hx hb dX8_tools_8 (by decide) (fun c8 => ?_) (fun c8 => (c8 (by decide)).elim)
  refine lv_iconst (v := (-1)) hx hb dX8_tools_23 (by decide) ?_
  exact zri (rm := { frames := 1, cells := 0, slots := 0, locals := 21 }) (v := (-1)) () hx hb hr hlocks (Nat.le_of_ble_eq_true rfl) (Nat.le_of_ble_eq_true rfl) (rfl) (hP.sub [] rfl) (hD.sub [] (by decide) rfl) hS dX8_tools_24
theorem dX8_why_0 : decode cX8_why 0 = .ok (.aload_n 0, 1) := by decide +kernel
theorem dX8_why_1 : decode cX8_why 1 = .ok (.getfield 67, 3) := by decide +kernel
theorem dX8_why_4 : decode cX8_why 4 = .ok (.iload_n 1, 1) := by decide +kernel
theorem dX8_why_5 : decode cX8_why 5 = .ok (.invokevirtual 143, 3) := by decide +kernel
theorem dX8_why_8 : decode cX8_why 8 = .ok (.ifCond .eq 23, 3) := by decide +kernel
theorem dX8_why_31 : decode cX8_why 31 = .ok (.iconst (-1), 1) := by decide +kernel
theorem dX8_why_32 : decode cX8_why 32 = .ok (.ireturn, 1) := by decide +kernel
set_option maxHeartbeats 4000000 in
set_option maxRecDepth 100000 in
theorem kX8_why (l : Launch) (g : zL) (h0 : Nat) (x : Int32) (y : Int32) (xt : Nat) (xr : Nat) (xp : Nat) (xs : Nat) (xm : Nat) (xh : Nat) (xe : Nat) (xf : Nat) (pa : Nat) (dr : Nat) (p_toolWidth : Nat) (p_told : Nat) (p_name : Nat) (p_parent : Nat) (p_side : Nat) (p_from : Nat) (p_width : Nat) (p_height : Nat) (p_radius : Nat) (p_toolSet : Nat) : zCi l g yX8_why cX8_why 3 (some .int) { frames := 1, cells := 0, slots := 0, locals := 21 } [.ref h0, .int x, .int y] [(h0, .inr (8, [.ref xt, .ref xr, .ref xp, .ref xs, .ref xm, .ref xh, .ref xe, .ref xf, .ref pa, .ref dr, .int 0, .int 1, .int 0, .int 0])), (pa, .inr (4, [.int 0, .int 0, .int 0, .int 0, .int 0, .int 0, .ref p_toolWidth, .ref p_told, .ref p_name, .ref p_parent, .ref p_side, .ref p_from, .ref p_width, .ref p_height, .ref p_radius, .ref p_toolSet]))] (fun (r : Int32) (u : Unit) => r = (-1)) (fun (u : Unit) => []) := by
  refine zCi.mk (by decide) (Nat.le_of_ble_eq_true rfl) ?_
  intro p e s m below meth c A hE hP hD hS ls hl
  obtain ⟨hx, hb, hr, hml, hown, hG, hlocks, hnm, hX, hA⟩ := hE
  have hown : s.vm.findClass RX8 = some m.cls := hown
  have hl : lv_has ls 3 [(0, .ref h0), (1, .int x), (2, .int y)] := hl
  refine lv_aload_n hx hb dX8_why_0 rfl (lv_at hl 0 rfl) ?_
  refine va_get (D := g.1) (ci := 8) (v := .ref pa) (C := RX8) (T := TX8) (N := 14) hx hb hG iX8 hown hX.1 hP 0 rfl rfl 8 (by decide) (hG _ g515) (fun _ h9 => h9) rfl dX8_why_1 ?_
  refine lv_iload_n hx hb dX8_why_4 rfl (lv_at hl 1 rfl) ?_
  refine zfi (wr := [(h0, .inr (8, [.ref xt, .ref xr, .ref xp, .ref xs, .ref xm, .ref xh, .ref xe, .ref xf, .ref pa, .ref dr, .int 0, .int 1, .int 0, .int 0]))]) (va_runVN (As := [.int x]) (rest := []) ⟨hx, hb, hml, hown, hG⟩ (kX4_isBend l g pa x p_toolWidth p_told p_name p_parent p_side p_from p_width p_height p_radius p_toolSet _) ⟨va_cnB 1 hG (zGood g821) rfl rfl rfl (hX.2.1.ml g818) (hG _ g210) hX4_isBend ⟨Nat.le_of_ble_eq_true rfl, Nat.le_of_ble_eq_true rfl⟩, hG _ g820, hG _ g38⟩ (zpreV (va_recv hX.1 hP (ci := 4) (q0 := 1) rfl rfl) hX hP hD hS hA [1] rfl (by decide)) rfl rfl hl.1 rfl (lv_room (Nat.le_of_ble_eq_true rfl)) dX8_why_5 ⟨Nat.le_of_ble_eq_true rfl, Nat.le_of_ble_eq_true rfl⟩) hP hD hS hA [1] [0] rfl rfl (by decide) (by decide) (fun r1 _ H locs hp hP hD hS => ?_)
  refine W.cs (cells' := 0) (slots' := 0) rfl rfl ?_
  have hq2 : r1 = 0 := hp
  subst hq2
  have hP : va_P g.1 vwCl [(h0, .inr (8, [.ref xt, .ref xr, .ref xp, .ref xs, .ref xm, .ref xh, .ref xe, .ref xf, .ref pa, .ref dr, .int 0, .int 1, .int 0, .int 0])), (pa, .inr (4, [.int 0, .int 0, .int 0, .int 0, .int 0, .int 0, .ref p_toolWidth, .ref p_told, .ref p_name, .ref p_parent, .ref p_side, .ref p_from, .ref p_width, .ref p_height, .ref p_radius, .ref p_toolSet]))] H := hP
  have hD : va_D A [(h0, .inr (8, [.ref xt, .ref xr, .ref xp, .ref xs, .ref xm, .ref xh, .ref xe, .ref xf, .ref pa, .ref dr, .int 0, .int 1, .int 0, .int 0])), (pa, .inr (4, [.int 0, .int 0, .int 0, .int 0, .int 0, .int 0, .ref p_toolWidth, .ref p_told, .ref p_name, .ref p_parent, .ref p_side, .ref p_from, .ref p_width, .ref p_height, .ref p_radius, .ref p_toolSet]))] := hD
  refine lv_if_eq (tgt := 31) hx hb dX8_why_8 (by decide) (fun c8 => ?_) (fun c8 => (c8 (by decide)).elim)
  refine lv_iconst (v := (-1)) hx hb dX8_why_31 (by decide) ?_
  exact zri (rm := { frames := 1, cells := 0, slots := 0, locals := 21 }) (v := (-1)) () hx hb hr hlocks (Nat.le_of_ble_eq_true rfl) (Nat.le_of_ble_eq_true rfl) (rfl) (hP.sub [] rfl) (hD.sub [] (by decide) rfl) hS dX8_why_32
theorem dX8_orders_0 : decode cX8_orders 0 = .ok (.aload_n 0, 1) := by decide +kernel
theorem dX8_orders_1 : decode cX8_orders 1 = .ok (.invokevirtual 255, 3) := by decide +kernel
theorem dX8_orders_4 : decode cX8_orders 4 = .ok (.pop, 1) := by decide +kernel
theorem dX8_orders_5 : decode cX8_orders 5 = .ok (.aload_n 0, 1) := by decide +kernel
theorem dX8_orders_6 : decode cX8_orders 6 = .ok (.getfield 67, 3) := by decide +kernel
theorem dX8_orders_9 : decode cX8_orders 9 = .ok (.invokevirtual 183, 3) := by decide +kernel
theorem dX8_orders_12 : decode cX8_orders 12 = .ok (.ifCond .eq 17, 3) := by decide +kernel
theorem dX8_orders_29 : decode cX8_orders 29 = .ok (.iconst (-1), 1) := by decide +kernel
theorem dX8_orders_30 : decode cX8_orders 30 = .ok (.ireturn, 1) := by decide +kernel
set_option maxHeartbeats 4000000 in
set_option maxRecDepth 100000 in
theorem kX8_orders (l : Launch) (g : zL) (h0 : Nat) (xt : Nat) (xr : Nat) (xp : Nat) (xs : Nat) (xm : Nat) (xh : Nat) (xe : Nat) (xf : Nat) (pa : Nat) (dr : Nat) (p_toolWidth : Nat) (p_told : Nat) (p_name : Nat) (p_parent : Nat) (p_side : Nat) (p_from : Nat) (p_width : Nat) (p_height : Nat) (p_radius : Nat) (p_toolSet : Nat) : zCi l g yX8_orders cX8_orders 1 (some .int) { frames := 2, cells := 0, slots := 0, locals := 40 } [.ref h0] [(h0, .inr (8, [.ref xt, .ref xr, .ref xp, .ref xs, .ref xm, .ref xh, .ref xe, .ref xf, .ref pa, .ref dr, .int 0, .int 1, .int 0, .int 0])), (pa, .inr (4, [.int 0, .int 0, .int 0, .int 0, .int 0, .int 0, .ref p_toolWidth, .ref p_told, .ref p_name, .ref p_parent, .ref p_side, .ref p_from, .ref p_width, .ref p_height, .ref p_radius, .ref p_toolSet]))] (fun (r : Int32) (u : Unit) => r = (-1)) (fun (u : Unit) => []) := by
  refine zCi.mk (by decide) (Nat.le_of_ble_eq_true rfl) ?_
  intro p e s m below meth c A hE hP hD hS ls hl
  obtain ⟨hx, hb, hr, hml, hown, hG, hlocks, hnm, hX, hA⟩ := hE
  have hown : s.vm.findClass RX8 = some m.cls := hown
  have hl : lv_has ls 1 [(0, .ref h0)] := hl
  refine lv_aload_n hx hb dX8_orders_0 rfl (lv_at hl 0 rfl) ?_
  refine zfi (wr := []) (va_runV (As := []) (rest := []) ⟨hx, hb, hml, hown, hG⟩ (kX8_searchOrders l g h0 xt xr xp xs xm xh xe xf pa dr p_toolWidth p_told p_name p_parent p_side p_from p_width p_height p_radius p_toolSet _) ⟨callB_of 0 hG (zGood g1065) rfl rfl rfl (hG _ g202) (hG _ g1062) hX8_searchOrders ⟨Nat.le_of_ble_eq_true rfl, Nat.le_of_ble_eq_true rfl⟩, hG _ g1064, hG _ g75⟩ (zpreV (va_recv hX.1 hP (ci := 8) (q0 := 0) rfl rfl) hX hP hD hS hA [0, 1] rfl (by decide)) rfl rfl hl.1 rfl (lv_room (Nat.le_of_ble_eq_true rfl)) dX8_orders_1 ⟨Nat.le_of_ble_eq_true rfl, Nat.le_of_ble_eq_true rfl⟩) hP hD hS hA [0, 1] [] rfl rfl (by decide) (by decide) (fun r1 _ H locs hp hP hD hS => ?_)
  refine W.cs (cells' := 0) (slots' := 0) rfl rfl ?_
  have hq2 : r1 = 0 := hp
  subst hq2
  have hP : va_P g.1 vwCl [(h0, .inr (8, [.ref xt, .ref xr, .ref xp, .ref xs, .ref xm, .ref xh, .ref xe, .ref xf, .ref pa, .ref dr, .int 0, .int 1, .int 0, .int 0])), (pa, .inr (4, [.int 0, .int 0, .int 0, .int 0, .int 0, .int 0, .ref p_toolWidth, .ref p_told, .ref p_name, .ref p_parent, .ref p_side, .ref p_from, .ref p_width, .ref p_height, .ref p_radius, .ref p_toolSet]))] H := hP
  have hD : va_D A [(h0, .inr (8, [.ref xt, .ref xr, .ref xp, .ref xs, .ref xm, .ref xh, .ref xe, .ref xf, .ref pa, .ref dr, .int 0, .int 1, .int 0, .int 0])), (pa, .inr (4, [.int 0, .int 0, .int 0, .int 0, .int 0, .int 0, .ref p_toolWidth, .ref p_told, .ref p_name, .ref p_parent, .ref p_side, .ref p_from, .ref p_width, .ref p_height, .ref p_radius, .ref p_toolSet]))] := hD
  refine lv_pop hx hb dX8_orders_4 rfl ?_
  refine lv_aload_n hx hb dX8_orders_5 rfl (lv_at hl 0 rfl) ?_
  refine va_get (D := g.1) (ci := 8) (v := .ref pa) (C := RX8) (T := TX8) (N := 14) hx hb hG iX8 hown hX.1 hP 0 rfl rfl 8 (by decide) (hG _ g515) (fun _ h9 => h9) rfl dX8_orders_6 ?_
  refine zfi (wr := [(h0, .inr (8, [.ref xt, .ref xr, .ref xp, .ref xs, .ref xm, .ref xh, .ref xe, .ref xf, .ref pa, .ref dr, .int 0, .int 1, .int 0, .int 0]))]) (va_runVN (As := []) (rest := []) ⟨hx, hb, hml, hown, hG⟩ (kX4_isThere l g pa p_toolWidth p_told p_name p_parent p_side p_from p_width p_height p_radius p_toolSet _) ⟨va_cnB 0 hG (zGood g861) rfl rfl rfl (hX.2.1.ml g858) (hG _ g210) hX4_isThere ⟨Nat.le_of_ble_eq_true rfl, Nat.le_of_ble_eq_true rfl⟩, hG _ g860, hG _ g45⟩ (zpreV (va_recv hX.1 hP (ci := 4) (q0 := 1) rfl rfl) hX hP hD hS hA [1] rfl (by decide)) rfl rfl hl.1 rfl (lv_room (Nat.le_of_ble_eq_true rfl)) dX8_orders_9 ⟨Nat.le_of_ble_eq_true rfl, Nat.le_of_ble_eq_true rfl⟩) hP hD hS hA [1] [0] rfl rfl (by decide) (by decide) (fun r3 _ H locs hp hP hD hS => ?_)
  refine W.cs (cells' := 0) (slots' := 0) rfl rfl ?_
  have hq4 : r3 = 0 := hp
  subst hq4
  have hP : va_P g.1 vwCl [(h0, .inr (8, [.ref xt, .ref xr, .ref xp, .ref xs, .ref xm, .ref xh, .ref xe, .ref xf, .ref pa, .ref dr, .int 0, .int 1, .int 0, .int 0])), (pa, .inr (4, [.int 0, .int 0, .int 0, .int 0, .int 0, .int 0, .ref p_toolWidth, .ref p_told, .ref p_name, .ref p_parent, .ref p_side, .ref p_from, .ref p_width, .ref p_height, .ref p_radius, .ref p_toolSet]))] H := hP
  have hD : va_D A [(h0, .inr (8, [.ref xt, .ref xr, .ref xp, .ref xs, .ref xm, .ref xh, .ref xe, .ref xf, .ref pa, .ref dr, .int 0, .int 1, .int 0, .int 0])), (pa, .inr (4, [.int 0, .int 0, .int 0, .int 0, .int 0, .int 0, .ref p_toolWidth, .ref p_told, .ref p_name, .ref p_parent, .ref p_side, .ref p_from, .ref p_width, .ref p_height, .ref p_radius, .ref p_toolSet]))] := hD
  refine lv_if_eq (tgt := 29) hx hb dX8_orders_12 (by decide) (fun c12 => ?_) (fun c12 => (c12 (by decide)).elim)
  refine lv_iconst (v := (-1)) hx hb dX8_orders_29 (by decide) ?_
  exact zri (rm := { frames := 2, cells := 0, slots := 0, locals := 40 }) (v := (-1)) () hx hb hr hlocks (Nat.le_of_ble_eq_true rfl) (Nat.le_of_ble_eq_true rfl) (rfl) (hP.sub [] rfl) (hD.sub [] (by decide) rfl) hS dX8_orders_30
theorem dX8_order_0 : decode cX8_order 0 = .ok (.iload_n 1, 1) := by decide +kernel
theorem dX8_order_1 : decode cX8_order 1 = .ok (.ifCond .lt 10, 3) := by decide +kernel
theorem dX8_order_11 : decode cX8_order 11 = .ok (.iconst (-1), 1) := by decide +kernel
theorem dX8_order_12 : decode cX8_order 12 = .ok (.ireturn, 1) := by decide +kernel
theorem dX8_order_4 : decode cX8_order 4 = .ok (.aload_n 0, 1) := by decide +kernel
theorem dX8_order_5 : decode cX8_order 5 = .ok (.invokevirtual 255, 3) := by decide +kernel
theorem dX8_order_8 : decode cX8_order 8 = .ok (.ifCond .ne 5, 3) := by decide +kernel
set_option maxHeartbeats 4000000 in
set_option maxRecDepth 100000 in
theorem kX8_order (l : Launch) (g : zL) (h0 : Nat) (x : Int32) (xt : Nat) (xr : Nat) (xp : Nat) (xs : Nat) (xm : Nat) (xh : Nat) (xe : Nat) (xf : Nat) (pa : Nat) (dr : Nat) (p_toolWidth : Nat) (p_told : Nat) (p_name : Nat) (p_parent : Nat) (p_side : Nat) (p_from : Nat) (p_width : Nat) (p_height : Nat) (p_radius : Nat) (p_toolSet : Nat) : zCi l g yX8_order cX8_order 2 (some .int) { frames := 2, cells := 0, slots := 0, locals := 40 } [.ref h0, .int x] [(h0, .inr (8, [.ref xt, .ref xr, .ref xp, .ref xs, .ref xm, .ref xh, .ref xe, .ref xf, .ref pa, .ref dr, .int 0, .int 1, .int 0, .int 0])), (pa, .inr (4, [.int 0, .int 0, .int 0, .int 0, .int 0, .int 0, .ref p_toolWidth, .ref p_told, .ref p_name, .ref p_parent, .ref p_side, .ref p_from, .ref p_width, .ref p_height, .ref p_radius, .ref p_toolSet]))] (fun (r : Int32) (u : Unit) => r = (-1)) (fun (u : Unit) => []) := by
  refine zCi.mk (by decide) (Nat.le_of_ble_eq_true rfl) ?_
  intro p e s m below meth c A hE hP hD hS ls hl
  obtain ⟨hx, hb, hr, hml, hown, hG, hlocks, hnm, hX, hA⟩ := hE
  have hown : s.vm.findClass RX8 = some m.cls := hown
  have hl : lv_has ls 2 [(0, .ref h0), (1, .int x)] := hl
  refine lv_iload_n hx hb dX8_order_0 rfl (lv_at hl 1 rfl) ?_
  refine lv_if_lt (tgt := 11) hx hb dX8_order_1 (by decide) (fun c1 => ?_) (fun c1 => ?_)
  · skip
    have c1i : x.toInt < 0 := (zc_lt (rfl : x.toInt = _) (show (0 : Int32).toInt = 0 from by decide)).mp c1
    refine lv_iconst (v := (-1)) hx hb dX8_order_11 (by decide) ?_
    exact zri (rm := { frames := 2, cells := 0, slots := 0, locals := 40 }) (v := (-1)) () hx hb hr hlocks (Nat.le_of_ble_eq_true rfl) (Nat.le_of_ble_eq_true rfl) (rfl) (hP.sub [] rfl) (hD.sub [] (by decide) rfl) hS dX8_order_12
  · skip
    have c1i : ¬ x.toInt < 0 := fun q => c1 ((zc_lt (rfl : x.toInt = _) (show (0 : Int32).toInt = 0 from by decide)).mpr q)
    refine lv_aload_n hx hb dX8_order_4 rfl (lv_at hl 0 rfl) ?_
    refine zfi (wr := []) (va_runV (As := []) (rest := []) ⟨hx, hb, hml, hown, hG⟩ (kX8_searchOrders l g h0 xt xr xp xs xm xh xe xf pa dr p_toolWidth p_told p_name p_parent p_side p_from p_width p_height p_radius p_toolSet _) ⟨callB_of 0 hG (zGood g1065) rfl rfl rfl (hG _ g202) (hG _ g1062) hX8_searchOrders ⟨Nat.le_of_ble_eq_true rfl, Nat.le_of_ble_eq_true rfl⟩, hG _ g1064, hG _ g75⟩ (zpreV (va_recv hX.1 hP (ci := 8) (q0 := 0) rfl rfl) hX hP hD hS hA [0, 1] rfl (by decide)) rfl rfl hl.1 rfl (lv_room (Nat.le_of_ble_eq_true rfl)) dX8_order_5 ⟨Nat.le_of_ble_eq_true rfl, Nat.le_of_ble_eq_true rfl⟩) hP hD hS hA [0, 1] [] rfl rfl (by decide) (by decide) (fun r1 _ H locs hp hP hD hS => ?_)
    refine W.cs (cells' := 0) (slots' := 0) rfl rfl ?_
    have hq2 : r1 = 0 := hp
    subst hq2
    have hP : va_P g.1 vwCl [(h0, .inr (8, [.ref xt, .ref xr, .ref xp, .ref xs, .ref xm, .ref xh, .ref xe, .ref xf, .ref pa, .ref dr, .int 0, .int 1, .int 0, .int 0])), (pa, .inr (4, [.int 0, .int 0, .int 0, .int 0, .int 0, .int 0, .ref p_toolWidth, .ref p_told, .ref p_name, .ref p_parent, .ref p_side, .ref p_from, .ref p_width, .ref p_height, .ref p_radius, .ref p_toolSet]))] H := hP
    have hD : va_D A [(h0, .inr (8, [.ref xt, .ref xr, .ref xp, .ref xs, .ref xm, .ref xh, .ref xe, .ref xf, .ref pa, .ref dr, .int 0, .int 1, .int 0, .int 0])), (pa, .inr (4, [.int 0, .int 0, .int 0, .int 0, .int 0, .int 0, .ref p_toolWidth, .ref p_told, .ref p_name, .ref p_parent, .ref p_side, .ref p_from, .ref p_width, .ref p_height, .ref p_radius, .ref p_toolSet]))] := hD
    refine lv_if_ne (tgt := 13) hx hb dX8_order_8 (by decide) (fun c8 => (c8 (by decide)).elim) (fun c8 => ?_)
    refine lv_iconst (v := (-1)) hx hb dX8_order_11 (by decide) ?_
    exact zri (rm := { frames := 2, cells := 0, slots := 0, locals := 40 }) (v := (-1)) () hx hb hr hlocks (Nat.le_of_ble_eq_true rfl) (Nat.le_of_ble_eq_true rfl) (rfl) (hP.sub [] rfl) (hD.sub [] (by decide) rfl) hS dX8_order_12
theorem dX8_mayBeLast_0 : decode cX8_mayBeLast 0 = .ok (.aload_n 0, 1) := by decide +kernel
theorem dX8_mayBeLast_1 : decode cX8_mayBeLast 1 = .ok (.iload_n 1, 1) := by decide +kernel
theorem dX8_mayBeLast_2 : decode cX8_mayBeLast 2 = .ok (.invokevirtual 267, 3) := by decide +kernel
theorem dX8_mayBeLast_5 : decode cX8_mayBeLast 5 = .ok (.ifCond .ne 5, 3) := by decide +kernel
theorem dX8_mayBeLast_8 : decode cX8_mayBeLast 8 = .ok (.iconst (-1), 1) := by decide +kernel
theorem dX8_mayBeLast_9 : decode cX8_mayBeLast 9 = .ok (.ireturn, 1) := by decide +kernel
set_option maxHeartbeats 4000000 in
set_option maxRecDepth 100000 in
theorem kX8_mayBeLast (l : Launch) (g : zL) (h0 : Nat) (x : Int32) (xt : Nat) (xr : Nat) (xp : Nat) (xs : Nat) (xm : Nat) (xh : Nat) (xe : Nat) (xf : Nat) (pa : Nat) (dr : Nat) (p_toolWidth : Nat) (p_told : Nat) (p_name : Nat) (p_parent : Nat) (p_side : Nat) (p_from : Nat) (p_width : Nat) (p_height : Nat) (p_radius : Nat) (p_toolSet : Nat) : zCi l g yX8_mayBeLast cX8_mayBeLast 2 (some .int) { frames := 2, cells := 0, slots := 0, locals := 42 } [.ref h0, .int x] [(h0, .inr (8, [.ref xt, .ref xr, .ref xp, .ref xs, .ref xm, .ref xh, .ref xe, .ref xf, .ref pa, .ref dr, .int 0, .int 1, .int 0, .int 0])), (pa, .inr (4, [.int 0, .int 0, .int 0, .int 0, .int 0, .int 0, .ref p_toolWidth, .ref p_told, .ref p_name, .ref p_parent, .ref p_side, .ref p_from, .ref p_width, .ref p_height, .ref p_radius, .ref p_toolSet]))] (fun (r : Int32) (u : Unit) => r = (-1)) (fun (u : Unit) => []) := by
  refine zCi.mk (by decide) (Nat.le_of_ble_eq_true rfl) ?_
  intro p e s m below meth c A hE hP hD hS ls hl
  obtain ⟨hx, hb, hr, hml, hown, hG, hlocks, hnm, hX, hA⟩ := hE
  have hown : s.vm.findClass RX8 = some m.cls := hown
  have hl : lv_has ls 2 [(0, .ref h0), (1, .int x)] := hl
  refine lv_aload_n hx hb dX8_mayBeLast_0 rfl (lv_at hl 0 rfl) ?_
  refine lv_iload_n hx hb dX8_mayBeLast_1 rfl (lv_at hl 1 rfl) ?_
  refine zfi (wr := []) (va_runV (As := [.int x]) (rest := []) ⟨hx, hb, hml, hown, hG⟩ (kX8_isUnmade l g h0 x xt xr xp xs xm xh xe xf pa dr p_toolWidth p_told p_name p_parent p_side p_from p_width p_height p_radius p_toolSet _) ⟨callB_of 1 hG (zGood g1134) rfl rfl rfl (hG _ g202) (hG _ g1131) hX8_isUnmade ⟨Nat.le_of_ble_eq_true rfl, Nat.le_of_ble_eq_true rfl⟩, hG _ g1133, hG _ g87⟩ (zpreV (va_recv hX.1 hP (ci := 8) (q0 := 0) rfl rfl) hX hP hD hS hA [0, 1] rfl (by decide)) rfl rfl hl.1 rfl (lv_room (Nat.le_of_ble_eq_true rfl)) dX8_mayBeLast_2 ⟨Nat.le_of_ble_eq_true rfl, Nat.le_of_ble_eq_true rfl⟩) hP hD hS hA [0, 1] [] rfl rfl (by decide) (by decide) (fun r1 _ H locs hp hP hD hS => ?_)
  refine W.cs (cells' := 0) (slots' := 0) rfl rfl ?_
  have hq2 : r1 = 0 := hp
  subst hq2
  have hP : va_P g.1 vwCl [(h0, .inr (8, [.ref xt, .ref xr, .ref xp, .ref xs, .ref xm, .ref xh, .ref xe, .ref xf, .ref pa, .ref dr, .int 0, .int 1, .int 0, .int 0])), (pa, .inr (4, [.int 0, .int 0, .int 0, .int 0, .int 0, .int 0, .ref p_toolWidth, .ref p_told, .ref p_name, .ref p_parent, .ref p_side, .ref p_from, .ref p_width, .ref p_height, .ref p_radius, .ref p_toolSet]))] H := hP
  have hD : va_D A [(h0, .inr (8, [.ref xt, .ref xr, .ref xp, .ref xs, .ref xm, .ref xh, .ref xe, .ref xf, .ref pa, .ref dr, .int 0, .int 1, .int 0, .int 0])), (pa, .inr (4, [.int 0, .int 0, .int 0, .int 0, .int 0, .int 0, .ref p_toolWidth, .ref p_told, .ref p_name, .ref p_parent, .ref p_side, .ref p_from, .ref p_width, .ref p_height, .ref p_radius, .ref p_toolSet]))] := hD
  refine lv_if_ne (tgt := 10) hx hb dX8_mayBeLast_5 (by decide) (fun c5 => (c5 (by decide)).elim) (fun c5 => ?_)
  refine lv_iconst (v := (-1)) hx hb dX8_mayBeLast_8 (by decide) ?_
  exact zri (rm := { frames := 2, cells := 0, slots := 0, locals := 42 }) (v := (-1)) () hx hb hr hlocks (Nat.le_of_ble_eq_true rfl) (Nat.le_of_ble_eq_true rfl) (rfl) (hP.sub [] rfl) (hD.sub [] (by decide) rfl) hS dX8_mayBeLast_9
theorem dX8_ahead_0 : decode cX8_ahead 0 = .ok (.aload_n 0, 1) := by decide +kernel
theorem dX8_ahead_1 : decode cX8_ahead 1 = .ok (.iload_n 1, 1) := by decide +kernel
theorem dX8_ahead_2 : decode cX8_ahead 2 = .ok (.invokevirtual 267, 3) := by decide +kernel
theorem dX8_ahead_5 : decode cX8_ahead 5 = .ok (.ifCond .eq 23, 3) := by decide +kernel
theorem dX8_ahead_28 : decode cX8_ahead 28 = .ok (.iconst (-1), 1) := by decide +kernel
theorem dX8_ahead_29 : decode cX8_ahead 29 = .ok (.ireturn, 1) := by decide +kernel
set_option maxHeartbeats 4000000 in
set_option maxRecDepth 100000 in
theorem kX8_ahead (l : Launch) (g : zL) (h0 : Nat) (x : Int32) (y : Int32) (xt : Nat) (xr : Nat) (xp : Nat) (xs : Nat) (xm : Nat) (xh : Nat) (xe : Nat) (xf : Nat) (pa : Nat) (dr : Nat) (p_toolWidth : Nat) (p_told : Nat) (p_name : Nat) (p_parent : Nat) (p_side : Nat) (p_from : Nat) (p_width : Nat) (p_height : Nat) (p_radius : Nat) (p_toolSet : Nat) : zCi l g yX8_ahead cX8_ahead 3 (some .int) { frames := 2, cells := 0, slots := 0, locals := 42 } [.ref h0, .int x, .int y] [(h0, .inr (8, [.ref xt, .ref xr, .ref xp, .ref xs, .ref xm, .ref xh, .ref xe, .ref xf, .ref pa, .ref dr, .int 0, .int 1, .int 0, .int 0])), (pa, .inr (4, [.int 0, .int 0, .int 0, .int 0, .int 0, .int 0, .ref p_toolWidth, .ref p_told, .ref p_name, .ref p_parent, .ref p_side, .ref p_from, .ref p_width, .ref p_height, .ref p_radius, .ref p_toolSet]))] (fun (r : Int32) (u : Unit) => r = (-1)) (fun (u : Unit) => []) := by
  refine zCi.mk (by decide) (Nat.le_of_ble_eq_true rfl) ?_
  intro p e s m below meth c A hE hP hD hS ls hl
  obtain ⟨hx, hb, hr, hml, hown, hG, hlocks, hnm, hX, hA⟩ := hE
  have hown : s.vm.findClass RX8 = some m.cls := hown
  have hl : lv_has ls 3 [(0, .ref h0), (1, .int x), (2, .int y)] := hl
  refine lv_aload_n hx hb dX8_ahead_0 rfl (lv_at hl 0 rfl) ?_
  refine lv_iload_n hx hb dX8_ahead_1 rfl (lv_at hl 1 rfl) ?_
  refine zfi (wr := []) (va_runV (As := [.int x]) (rest := []) ⟨hx, hb, hml, hown, hG⟩ (kX8_isUnmade l g h0 x xt xr xp xs xm xh xe xf pa dr p_toolWidth p_told p_name p_parent p_side p_from p_width p_height p_radius p_toolSet _) ⟨callB_of 1 hG (zGood g1134) rfl rfl rfl (hG _ g202) (hG _ g1131) hX8_isUnmade ⟨Nat.le_of_ble_eq_true rfl, Nat.le_of_ble_eq_true rfl⟩, hG _ g1133, hG _ g87⟩ (zpreV (va_recv hX.1 hP (ci := 8) (q0 := 0) rfl rfl) hX hP hD hS hA [0, 1] rfl (by decide)) rfl rfl hl.1 rfl (lv_room (Nat.le_of_ble_eq_true rfl)) dX8_ahead_2 ⟨Nat.le_of_ble_eq_true rfl, Nat.le_of_ble_eq_true rfl⟩) hP hD hS hA [0, 1] [] rfl rfl (by decide) (by decide) (fun r1 _ H locs hp hP hD hS => ?_)
  refine W.cs (cells' := 0) (slots' := 0) rfl rfl ?_
  have hq2 : r1 = 0 := hp
  subst hq2
  have hP : va_P g.1 vwCl [(h0, .inr (8, [.ref xt, .ref xr, .ref xp, .ref xs, .ref xm, .ref xh, .ref xe, .ref xf, .ref pa, .ref dr, .int 0, .int 1, .int 0, .int 0])), (pa, .inr (4, [.int 0, .int 0, .int 0, .int 0, .int 0, .int 0, .ref p_toolWidth, .ref p_told, .ref p_name, .ref p_parent, .ref p_side, .ref p_from, .ref p_width, .ref p_height, .ref p_radius, .ref p_toolSet]))] H := hP
  have hD : va_D A [(h0, .inr (8, [.ref xt, .ref xr, .ref xp, .ref xs, .ref xm, .ref xh, .ref xe, .ref xf, .ref pa, .ref dr, .int 0, .int 1, .int 0, .int 0])), (pa, .inr (4, [.int 0, .int 0, .int 0, .int 0, .int 0, .int 0, .ref p_toolWidth, .ref p_told, .ref p_name, .ref p_parent, .ref p_side, .ref p_from, .ref p_width, .ref p_height, .ref p_radius, .ref p_toolSet]))] := hD
  refine lv_if_eq (tgt := 28) hx hb dX8_ahead_5 (by decide) (fun c5 => ?_) (fun c5 => (c5 (by decide)).elim)
  refine lv_iconst (v := (-1)) hx hb dX8_ahead_28 (by decide) ?_
  exact zri (rm := { frames := 2, cells := 0, slots := 0, locals := 42 }) (v := (-1)) () hx hb hr hlocks (Nat.le_of_ble_eq_true rfl) (Nat.le_of_ble_eq_true rfl) (rfl) (hP.sub [] rfl) (hD.sub [] (by decide) rfl) hS dX8_ahead_29
theorem dX8_reached_0 : decode cX8_reached 0 = .ok (.aload_n 0, 1) := by decide +kernel
theorem dX8_reached_1 : decode cX8_reached 1 = .ok (.getfield 67, 3) := by decide +kernel
theorem dX8_reached_4 : decode cX8_reached 4 = .ok (.invokevirtual 183, 3) := by decide +kernel
theorem dX8_reached_7 : decode cX8_reached 7 = .ok (.ifCond .ne 5, 3) := by decide +kernel
theorem dX8_reached_10 : decode cX8_reached 10 = .ok (.iconst (-1), 1) := by decide +kernel
theorem dX8_reached_11 : decode cX8_reached 11 = .ok (.ireturn, 1) := by decide +kernel
set_option maxHeartbeats 4000000 in
set_option maxRecDepth 100000 in
theorem kX8_reached (l : Launch) (g : zL) (h0 : Nat) (x : Int32) (xt : Nat) (xr : Nat) (xp : Nat) (xs : Nat) (xm : Nat) (xh : Nat) (xe : Nat) (xf : Nat) (pa : Nat) (dr : Nat) (p_toolWidth : Nat) (p_told : Nat) (p_name : Nat) (p_parent : Nat) (p_side : Nat) (p_from : Nat) (p_width : Nat) (p_height : Nat) (p_radius : Nat) (p_toolSet : Nat) : zCi l g yX8_reached cX8_reached 2 (some .int) { frames := 1, cells := 0, slots := 0, locals := 20 } [.ref h0, .int x] [(h0, .inr (8, [.ref xt, .ref xr, .ref xp, .ref xs, .ref xm, .ref xh, .ref xe, .ref xf, .ref pa, .ref dr, .int 0, .int 1, .int 0, .int 0])), (pa, .inr (4, [.int 0, .int 0, .int 0, .int 0, .int 0, .int 0, .ref p_toolWidth, .ref p_told, .ref p_name, .ref p_parent, .ref p_side, .ref p_from, .ref p_width, .ref p_height, .ref p_radius, .ref p_toolSet]))] (fun (r : Int32) (u : Unit) => r = (-1)) (fun (u : Unit) => []) := by
  refine zCi.mk (by decide) (Nat.le_of_ble_eq_true rfl) ?_
  intro p e s m below meth c A hE hP hD hS ls hl
  obtain ⟨hx, hb, hr, hml, hown, hG, hlocks, hnm, hX, hA⟩ := hE
  have hown : s.vm.findClass RX8 = some m.cls := hown
  have hl : lv_has ls 2 [(0, .ref h0), (1, .int x)] := hl
  refine lv_aload_n hx hb dX8_reached_0 rfl (lv_at hl 0 rfl) ?_
  refine va_get (D := g.1) (ci := 8) (v := .ref pa) (C := RX8) (T := TX8) (N := 14) hx hb hG iX8 hown hX.1 hP 0 rfl rfl 8 (by decide) (hG _ g515) (fun _ h9 => h9) rfl dX8_reached_1 ?_
  refine zfi (wr := [(h0, .inr (8, [.ref xt, .ref xr, .ref xp, .ref xs, .ref xm, .ref xh, .ref xe, .ref xf, .ref pa, .ref dr, .int 0, .int 1, .int 0, .int 0]))]) (va_runVN (As := []) (rest := []) ⟨hx, hb, hml, hown, hG⟩ (kX4_isThere l g pa p_toolWidth p_told p_name p_parent p_side p_from p_width p_height p_radius p_toolSet _) ⟨va_cnB 0 hG (zGood g861) rfl rfl rfl (hX.2.1.ml g858) (hG _ g210) hX4_isThere ⟨Nat.le_of_ble_eq_true rfl, Nat.le_of_ble_eq_true rfl⟩, hG _ g860, hG _ g45⟩ (zpreV (va_recv hX.1 hP (ci := 4) (q0 := 1) rfl rfl) hX hP hD hS hA [1] rfl (by decide)) rfl rfl hl.1 rfl (lv_room (Nat.le_of_ble_eq_true rfl)) dX8_reached_4 ⟨Nat.le_of_ble_eq_true rfl, Nat.le_of_ble_eq_true rfl⟩) hP hD hS hA [1] [0] rfl rfl (by decide) (by decide) (fun r1 _ H locs hp hP hD hS => ?_)
  refine W.cs (cells' := 0) (slots' := 0) rfl rfl ?_
  have hq2 : r1 = 0 := hp
  subst hq2
  have hP : va_P g.1 vwCl [(h0, .inr (8, [.ref xt, .ref xr, .ref xp, .ref xs, .ref xm, .ref xh, .ref xe, .ref xf, .ref pa, .ref dr, .int 0, .int 1, .int 0, .int 0])), (pa, .inr (4, [.int 0, .int 0, .int 0, .int 0, .int 0, .int 0, .ref p_toolWidth, .ref p_told, .ref p_name, .ref p_parent, .ref p_side, .ref p_from, .ref p_width, .ref p_height, .ref p_radius, .ref p_toolSet]))] H := hP
  have hD : va_D A [(h0, .inr (8, [.ref xt, .ref xr, .ref xp, .ref xs, .ref xm, .ref xh, .ref xe, .ref xf, .ref pa, .ref dr, .int 0, .int 1, .int 0, .int 0])), (pa, .inr (4, [.int 0, .int 0, .int 0, .int 0, .int 0, .int 0, .ref p_toolWidth, .ref p_told, .ref p_name, .ref p_parent, .ref p_side, .ref p_from, .ref p_width, .ref p_height, .ref p_radius, .ref p_toolSet]))] := hD
  refine lv_if_ne (tgt := 12) hx hb dX8_reached_7 (by decide) (fun c7 => (c7 (by decide)).elim) (fun c7 => ?_)
  refine lv_iconst (v := (-1)) hx hb dX8_reached_10 (by decide) ?_
  exact zri (rm := { frames := 1, cells := 0, slots := 0, locals := 20 }) (v := (-1)) () hx hb hr hlocks (Nat.le_of_ble_eq_true rfl) (Nat.le_of_ble_eq_true rfl) (rfl) (hP.sub [] rfl) (hD.sub [] (by decide) rfl) hS dX8_reached_11
theorem dX8_fewest_0 : decode cX8_fewest 0 = .ok (.iload_n 1, 1) := by decide +kernel
theorem dX8_fewest_1 : decode cX8_fewest 1 = .ok (.ifCond .lt 15, 3) := by decide +kernel
theorem dX8_fewest_16 : decode cX8_fewest 16 = .ok (.iconst (-1), 1) := by decide +kernel
theorem dX8_fewest_17 : decode cX8_fewest 17 = .ok (.ireturn, 1) := by decide +kernel
theorem dX8_fewest_4 : decode cX8_fewest 4 = .ok (.iload_n 1, 1) := by decide +kernel
theorem dX8_fewest_5 : decode cX8_fewest 5 = .ok (.iconst 1, 1) := by decide +kernel
theorem dX8_fewest_6 : decode cX8_fewest 6 = .ok (.if_icmp .gt 10, 3) := by decide +kernel
theorem dX8_fewest_9 : decode cX8_fewest 9 = .ok (.aload_n 0, 1) := by decide +kernel
theorem dX8_fewest_10 : decode cX8_fewest 10 = .ok (.invokevirtual 255, 3) := by decide +kernel
theorem dX8_fewest_13 : decode cX8_fewest 13 = .ok (.ifCond .ne 5, 3) := by decide +kernel
set_option maxHeartbeats 4000000 in
set_option maxRecDepth 100000 in
theorem kX8_fewest (l : Launch) (g : zL) (h0 : Nat) (x : Int32) (xt : Nat) (xr : Nat) (xp : Nat) (xs : Nat) (xm : Nat) (xh : Nat) (xe : Nat) (xf : Nat) (pa : Nat) (dr : Nat) (p_toolWidth : Nat) (p_told : Nat) (p_name : Nat) (p_parent : Nat) (p_side : Nat) (p_from : Nat) (p_width : Nat) (p_height : Nat) (p_radius : Nat) (p_toolSet : Nat) : zCi l g yX8_fewest cX8_fewest 2 (some .int) { frames := 2, cells := 0, slots := 0, locals := 40 } [.ref h0, .int x] [(h0, .inr (8, [.ref xt, .ref xr, .ref xp, .ref xs, .ref xm, .ref xh, .ref xe, .ref xf, .ref pa, .ref dr, .int 0, .int 1, .int 0, .int 0])), (pa, .inr (4, [.int 0, .int 0, .int 0, .int 0, .int 0, .int 0, .ref p_toolWidth, .ref p_told, .ref p_name, .ref p_parent, .ref p_side, .ref p_from, .ref p_width, .ref p_height, .ref p_radius, .ref p_toolSet]))] (fun (r : Int32) (u : Unit) => r = (-1)) (fun (u : Unit) => []) := by
  refine zCi.mk (by decide) (Nat.le_of_ble_eq_true rfl) ?_
  intro p e s m below meth c A hE hP hD hS ls hl
  obtain ⟨hx, hb, hr, hml, hown, hG, hlocks, hnm, hX, hA⟩ := hE
  have hown : s.vm.findClass RX8 = some m.cls := hown
  have hl : lv_has ls 2 [(0, .ref h0), (1, .int x)] := hl
  refine lv_iload_n hx hb dX8_fewest_0 rfl (lv_at hl 1 rfl) ?_
  refine lv_if_lt (tgt := 16) hx hb dX8_fewest_1 (by decide) (fun c1 => ?_) (fun c1 => ?_)
  · skip
    have c1i : x.toInt < 0 := (zc_lt (rfl : x.toInt = _) (show (0 : Int32).toInt = 0 from by decide)).mp c1
    refine lv_iconst (v := (-1)) hx hb dX8_fewest_16 (by decide) ?_
    exact zri (rm := { frames := 2, cells := 0, slots := 0, locals := 40 }) (v := (-1)) () hx hb hr hlocks (Nat.le_of_ble_eq_true rfl) (Nat.le_of_ble_eq_true rfl) (rfl) (hP.sub [] rfl) (hD.sub [] (by decide) rfl) hS dX8_fewest_17
  · skip
    have c1i : ¬ x.toInt < 0 := fun q => c1 ((zc_lt (rfl : x.toInt = _) (show (0 : Int32).toInt = 0 from by decide)).mpr q)
    refine lv_iload_n hx hb dX8_fewest_4 rfl (lv_at hl 1 rfl) ?_
    refine lv_iconst (v := 1) hx hb dX8_fewest_5 (by decide) ?_
    refine lv_icmp_gt (tgt := 16) hx hb dX8_fewest_6 (by decide) (fun c6 => ?_) (fun c6 => ?_)
    · skip
      have c6i : 1 < x.toInt := (zc_lt (show (1 : Int32).toInt = 1 from by decide) (rfl : x.toInt = _)).mp c6
      refine lv_iconst (v := (-1)) hx hb dX8_fewest_16 (by decide) ?_
      exact zri (rm := { frames := 2, cells := 0, slots := 0, locals := 40 }) (v := (-1)) () hx hb hr hlocks (Nat.le_of_ble_eq_true rfl) (Nat.le_of_ble_eq_true rfl) (rfl) (hP.sub [] rfl) (hD.sub [] (by decide) rfl) hS dX8_fewest_17
    · skip
      have c6i : ¬ 1 < x.toInt := fun q => c6 ((zc_lt (show (1 : Int32).toInt = 1 from by decide) (rfl : x.toInt = _)).mpr q)
      refine lv_aload_n hx hb dX8_fewest_9 rfl (lv_at hl 0 rfl) ?_
      refine zfi (wr := []) (va_runV (As := []) (rest := []) ⟨hx, hb, hml, hown, hG⟩ (kX8_searchOrders l g h0 xt xr xp xs xm xh xe xf pa dr p_toolWidth p_told p_name p_parent p_side p_from p_width p_height p_radius p_toolSet _) ⟨callB_of 0 hG (zGood g1065) rfl rfl rfl (hG _ g202) (hG _ g1062) hX8_searchOrders ⟨Nat.le_of_ble_eq_true rfl, Nat.le_of_ble_eq_true rfl⟩, hG _ g1064, hG _ g75⟩ (zpreV (va_recv hX.1 hP (ci := 8) (q0 := 0) rfl rfl) hX hP hD hS hA [0, 1] rfl (by decide)) rfl rfl hl.1 rfl (lv_room (Nat.le_of_ble_eq_true rfl)) dX8_fewest_10 ⟨Nat.le_of_ble_eq_true rfl, Nat.le_of_ble_eq_true rfl⟩) hP hD hS hA [0, 1] [] rfl rfl (by decide) (by decide) (fun r1 _ H locs hp hP hD hS => ?_)
      refine W.cs (cells' := 0) (slots' := 0) rfl rfl ?_
      have hq2 : r1 = 0 := hp
      subst hq2
      have hP : va_P g.1 vwCl [(h0, .inr (8, [.ref xt, .ref xr, .ref xp, .ref xs, .ref xm, .ref xh, .ref xe, .ref xf, .ref pa, .ref dr, .int 0, .int 1, .int 0, .int 0])), (pa, .inr (4, [.int 0, .int 0, .int 0, .int 0, .int 0, .int 0, .ref p_toolWidth, .ref p_told, .ref p_name, .ref p_parent, .ref p_side, .ref p_from, .ref p_width, .ref p_height, .ref p_radius, .ref p_toolSet]))] H := hP
      have hD : va_D A [(h0, .inr (8, [.ref xt, .ref xr, .ref xp, .ref xs, .ref xm, .ref xh, .ref xe, .ref xf, .ref pa, .ref dr, .int 0, .int 1, .int 0, .int 0])), (pa, .inr (4, [.int 0, .int 0, .int 0, .int 0, .int 0, .int 0, .ref p_toolWidth, .ref p_told, .ref p_name, .ref p_parent, .ref p_side, .ref p_from, .ref p_width, .ref p_height, .ref p_radius, .ref p_toolSet]))] := hD
      refine lv_if_ne (tgt := 18) hx hb dX8_fewest_13 (by decide) (fun c13 => (c13 (by decide)).elim) (fun c13 => ?_)
      refine lv_iconst (v := (-1)) hx hb dX8_fewest_16 (by decide) ?_
      exact zri (rm := { frames := 2, cells := 0, slots := 0, locals := 40 }) (v := (-1)) () hx hb hr hlocks (Nat.le_of_ble_eq_true rfl) (Nat.le_of_ble_eq_true rfl) (rfl) (hP.sub [] rfl) (hD.sub [] (by decide) rfl) hS dX8_fewest_17
theorem dX8_thrifty_0 : decode cX8_thrifty 0 = .ok (.iload_n 1, 1) := by decide +kernel
theorem dX8_thrifty_1 : decode cX8_thrifty 1 = .ok (.ifCond .lt 19, 3) := by decide +kernel
theorem dX8_thrifty_20 : decode cX8_thrifty 20 = .ok (.iconst (-1), 1) := by decide +kernel
theorem dX8_thrifty_21 : decode cX8_thrifty 21 = .ok (.ireturn, 1) := by decide +kernel
theorem dX8_thrifty_4 : decode cX8_thrifty 4 = .ok (.iload_n 1, 1) := by decide +kernel
theorem dX8_thrifty_5 : decode cX8_thrifty 5 = .ok (.iconst 1, 1) := by decide +kernel
theorem dX8_thrifty_6 : decode cX8_thrifty 6 = .ok (.if_icmp .gt 14, 3) := by decide +kernel
theorem dX8_thrifty_9 : decode cX8_thrifty 9 = .ok (.iload_n 2, 1) := by decide +kernel
theorem dX8_thrifty_10 : decode cX8_thrifty 10 = .ok (.ifCond .lt 10, 3) := by decide +kernel
theorem dX8_thrifty_13 : decode cX8_thrifty 13 = .ok (.aload_n 0, 1) := by decide +kernel
theorem dX8_thrifty_14 : decode cX8_thrifty 14 = .ok (.invokevirtual 255, 3) := by decide +kernel
theorem dX8_thrifty_17 : decode cX8_thrifty 17 = .ok (.ifCond .ne 5, 3) := by decide +kernel
set_option maxHeartbeats 4000000 in
set_option maxRecDepth 100000 in
theorem kX8_thrifty (l : Launch) (g : zL) (h0 : Nat) (x : Int32) (y : Int32) (xt : Nat) (xr : Nat) (xp : Nat) (xs : Nat) (xm : Nat) (xh : Nat) (xe : Nat) (xf : Nat) (pa : Nat) (dr : Nat) (p_toolWidth : Nat) (p_told : Nat) (p_name : Nat) (p_parent : Nat) (p_side : Nat) (p_from : Nat) (p_width : Nat) (p_height : Nat) (p_radius : Nat) (p_toolSet : Nat) : zCi l g yX8_thrifty cX8_thrifty 3 (some .int) { frames := 2, cells := 0, slots := 0, locals := 40 } [.ref h0, .int x, .int y] [(h0, .inr (8, [.ref xt, .ref xr, .ref xp, .ref xs, .ref xm, .ref xh, .ref xe, .ref xf, .ref pa, .ref dr, .int 0, .int 1, .int 0, .int 0])), (pa, .inr (4, [.int 0, .int 0, .int 0, .int 0, .int 0, .int 0, .ref p_toolWidth, .ref p_told, .ref p_name, .ref p_parent, .ref p_side, .ref p_from, .ref p_width, .ref p_height, .ref p_radius, .ref p_toolSet]))] (fun (r : Int32) (u : Unit) => r = (-1)) (fun (u : Unit) => []) := by
  refine zCi.mk (by decide) (Nat.le_of_ble_eq_true rfl) ?_
  intro p e s m below meth c A hE hP hD hS ls hl
  obtain ⟨hx, hb, hr, hml, hown, hG, hlocks, hnm, hX, hA⟩ := hE
  have hown : s.vm.findClass RX8 = some m.cls := hown
  have hl : lv_has ls 3 [(0, .ref h0), (1, .int x), (2, .int y)] := hl
  refine lv_iload_n hx hb dX8_thrifty_0 rfl (lv_at hl 1 rfl) ?_
  refine lv_if_lt (tgt := 20) hx hb dX8_thrifty_1 (by decide) (fun c1 => ?_) (fun c1 => ?_)
  · skip
    have c1i : x.toInt < 0 := (zc_lt (rfl : x.toInt = _) (show (0 : Int32).toInt = 0 from by decide)).mp c1
    refine lv_iconst (v := (-1)) hx hb dX8_thrifty_20 (by decide) ?_
    exact zri (rm := { frames := 2, cells := 0, slots := 0, locals := 40 }) (v := (-1)) () hx hb hr hlocks (Nat.le_of_ble_eq_true rfl) (Nat.le_of_ble_eq_true rfl) (rfl) (hP.sub [] rfl) (hD.sub [] (by decide) rfl) hS dX8_thrifty_21
  · skip
    have c1i : ¬ x.toInt < 0 := fun q => c1 ((zc_lt (rfl : x.toInt = _) (show (0 : Int32).toInt = 0 from by decide)).mpr q)
    refine lv_iload_n hx hb dX8_thrifty_4 rfl (lv_at hl 1 rfl) ?_
    refine lv_iconst (v := 1) hx hb dX8_thrifty_5 (by decide) ?_
    refine lv_icmp_gt (tgt := 20) hx hb dX8_thrifty_6 (by decide) (fun c6 => ?_) (fun c6 => ?_)
    · skip
      have c6i : 1 < x.toInt := (zc_lt (show (1 : Int32).toInt = 1 from by decide) (rfl : x.toInt = _)).mp c6
      refine lv_iconst (v := (-1)) hx hb dX8_thrifty_20 (by decide) ?_
      exact zri (rm := { frames := 2, cells := 0, slots := 0, locals := 40 }) (v := (-1)) () hx hb hr hlocks (Nat.le_of_ble_eq_true rfl) (Nat.le_of_ble_eq_true rfl) (rfl) (hP.sub [] rfl) (hD.sub [] (by decide) rfl) hS dX8_thrifty_21
    · skip
      have c6i : ¬ 1 < x.toInt := fun q => c6 ((zc_lt (show (1 : Int32).toInt = 1 from by decide) (rfl : x.toInt = _)).mpr q)
      refine lv_iload_n hx hb dX8_thrifty_9 rfl (lv_at hl 2 rfl) ?_
      refine lv_if_lt (tgt := 20) hx hb dX8_thrifty_10 (by decide) (fun c10 => ?_) (fun c10 => ?_)
      · skip
        have c10i : y.toInt < 0 := (zc_lt (rfl : y.toInt = _) (show (0 : Int32).toInt = 0 from by decide)).mp c10
        refine lv_iconst (v := (-1)) hx hb dX8_thrifty_20 (by decide) ?_
        exact zri (rm := { frames := 2, cells := 0, slots := 0, locals := 40 }) (v := (-1)) () hx hb hr hlocks (Nat.le_of_ble_eq_true rfl) (Nat.le_of_ble_eq_true rfl) (rfl) (hP.sub [] rfl) (hD.sub [] (by decide) rfl) hS dX8_thrifty_21
      · skip
        have c10i : ¬ y.toInt < 0 := fun q => c10 ((zc_lt (rfl : y.toInt = _) (show (0 : Int32).toInt = 0 from by decide)).mpr q)
        refine lv_aload_n hx hb dX8_thrifty_13 rfl (lv_at hl 0 rfl) ?_
        refine zfi (wr := []) (va_runV (As := []) (rest := []) ⟨hx, hb, hml, hown, hG⟩ (kX8_searchOrders l g h0 xt xr xp xs xm xh xe xf pa dr p_toolWidth p_told p_name p_parent p_side p_from p_width p_height p_radius p_toolSet _) ⟨callB_of 0 hG (zGood g1065) rfl rfl rfl (hG _ g202) (hG _ g1062) hX8_searchOrders ⟨Nat.le_of_ble_eq_true rfl, Nat.le_of_ble_eq_true rfl⟩, hG _ g1064, hG _ g75⟩ (zpreV (va_recv hX.1 hP (ci := 8) (q0 := 0) rfl rfl) hX hP hD hS hA [0, 1] rfl (by decide)) rfl rfl hl.1 rfl (lv_room (Nat.le_of_ble_eq_true rfl)) dX8_thrifty_14 ⟨Nat.le_of_ble_eq_true rfl, Nat.le_of_ble_eq_true rfl⟩) hP hD hS hA [0, 1] [] rfl rfl (by decide) (by decide) (fun r1 _ H locs hp hP hD hS => ?_)
        refine W.cs (cells' := 0) (slots' := 0) rfl rfl ?_
        have hq2 : r1 = 0 := hp
        subst hq2
        have hP : va_P g.1 vwCl [(h0, .inr (8, [.ref xt, .ref xr, .ref xp, .ref xs, .ref xm, .ref xh, .ref xe, .ref xf, .ref pa, .ref dr, .int 0, .int 1, .int 0, .int 0])), (pa, .inr (4, [.int 0, .int 0, .int 0, .int 0, .int 0, .int 0, .ref p_toolWidth, .ref p_told, .ref p_name, .ref p_parent, .ref p_side, .ref p_from, .ref p_width, .ref p_height, .ref p_radius, .ref p_toolSet]))] H := hP
        have hD : va_D A [(h0, .inr (8, [.ref xt, .ref xr, .ref xp, .ref xs, .ref xm, .ref xh, .ref xe, .ref xf, .ref pa, .ref dr, .int 0, .int 1, .int 0, .int 0])), (pa, .inr (4, [.int 0, .int 0, .int 0, .int 0, .int 0, .int 0, .ref p_toolWidth, .ref p_told, .ref p_name, .ref p_parent, .ref p_side, .ref p_from, .ref p_width, .ref p_height, .ref p_radius, .ref p_toolSet]))] := hD
        refine lv_if_ne (tgt := 22) hx hb dX8_thrifty_17 (by decide) (fun c17 => (c17 (by decide)).elim) (fun c17 => ?_)
        refine lv_iconst (v := (-1)) hx hb dX8_thrifty_20 (by decide) ?_
        exact zri (rm := { frames := 2, cells := 0, slots := 0, locals := 40 }) (v := (-1)) () hx hb hr hlocks (Nat.le_of_ble_eq_true rfl) (Nat.le_of_ble_eq_true rfl) (rfl) (hP.sub [] rfl) (hD.sub [] (by decide) rfl) hS dX8_thrifty_21
theorem dX8_tallest_0 : decode cX8_tallest 0 = .ok (.aload_n 0, 1) := by decide +kernel
theorem dX8_tallest_1 : decode cX8_tallest 1 = .ok (.getfield 67, 3) := by decide +kernel
theorem dX8_tallest_4 : decode cX8_tallest 4 = .ok (.invokevirtual 183, 3) := by decide +kernel
theorem dX8_tallest_7 : decode cX8_tallest 7 = .ok (.ifCond .ne 5, 3) := by decide +kernel
theorem dX8_tallest_10 : decode cX8_tallest 10 = .ok (.iconst (-1), 1) := by decide +kernel
theorem dX8_tallest_11 : decode cX8_tallest 11 = .ok (.ireturn, 1) := by decide +kernel
set_option maxHeartbeats 4000000 in
set_option maxRecDepth 100000 in
theorem kX8_tallest (l : Launch) (g : zL) (h0 : Nat) (xt : Nat) (xr : Nat) (xp : Nat) (xs : Nat) (xm : Nat) (xh : Nat) (xe : Nat) (xf : Nat) (pa : Nat) (dr : Nat) (p_toolWidth : Nat) (p_told : Nat) (p_name : Nat) (p_parent : Nat) (p_side : Nat) (p_from : Nat) (p_width : Nat) (p_height : Nat) (p_radius : Nat) (p_toolSet : Nat) : zCi l g yX8_tallest cX8_tallest 2 (some .int) { frames := 1, cells := 0, slots := 0, locals := 20 } [.ref h0] [(h0, .inr (8, [.ref xt, .ref xr, .ref xp, .ref xs, .ref xm, .ref xh, .ref xe, .ref xf, .ref pa, .ref dr, .int 0, .int 1, .int 0, .int 0])), (pa, .inr (4, [.int 0, .int 0, .int 0, .int 0, .int 0, .int 0, .ref p_toolWidth, .ref p_told, .ref p_name, .ref p_parent, .ref p_side, .ref p_from, .ref p_width, .ref p_height, .ref p_radius, .ref p_toolSet]))] (fun (r : Int32) (u : Unit) => r = (-1)) (fun (u : Unit) => []) := by
  refine zCi.mk (by decide) (Nat.le_of_ble_eq_true rfl) ?_
  intro p e s m below meth c A hE hP hD hS ls hl
  obtain ⟨hx, hb, hr, hml, hown, hG, hlocks, hnm, hX, hA⟩ := hE
  have hown : s.vm.findClass RX8 = some m.cls := hown
  have hl : lv_has ls 2 [(0, .ref h0)] := hl
  refine lv_aload_n hx hb dX8_tallest_0 rfl (lv_at hl 0 rfl) ?_
  refine va_get (D := g.1) (ci := 8) (v := .ref pa) (C := RX8) (T := TX8) (N := 14) hx hb hG iX8 hown hX.1 hP 0 rfl rfl 8 (by decide) (hG _ g515) (fun _ h9 => h9) rfl dX8_tallest_1 ?_
  refine zfi (wr := [(h0, .inr (8, [.ref xt, .ref xr, .ref xp, .ref xs, .ref xm, .ref xh, .ref xe, .ref xf, .ref pa, .ref dr, .int 0, .int 1, .int 0, .int 0]))]) (va_runVN (As := []) (rest := []) ⟨hx, hb, hml, hown, hG⟩ (kX4_isThere l g pa p_toolWidth p_told p_name p_parent p_side p_from p_width p_height p_radius p_toolSet _) ⟨va_cnB 0 hG (zGood g861) rfl rfl rfl (hX.2.1.ml g858) (hG _ g210) hX4_isThere ⟨Nat.le_of_ble_eq_true rfl, Nat.le_of_ble_eq_true rfl⟩, hG _ g860, hG _ g45⟩ (zpreV (va_recv hX.1 hP (ci := 4) (q0 := 1) rfl rfl) hX hP hD hS hA [1] rfl (by decide)) rfl rfl hl.1 rfl (lv_room (Nat.le_of_ble_eq_true rfl)) dX8_tallest_4 ⟨Nat.le_of_ble_eq_true rfl, Nat.le_of_ble_eq_true rfl⟩) hP hD hS hA [1] [0] rfl rfl (by decide) (by decide) (fun r1 _ H locs hp hP hD hS => ?_)
  refine W.cs (cells' := 0) (slots' := 0) rfl rfl ?_
  have hq2 : r1 = 0 := hp
  subst hq2
  have hP : va_P g.1 vwCl [(h0, .inr (8, [.ref xt, .ref xr, .ref xp, .ref xs, .ref xm, .ref xh, .ref xe, .ref xf, .ref pa, .ref dr, .int 0, .int 1, .int 0, .int 0])), (pa, .inr (4, [.int 0, .int 0, .int 0, .int 0, .int 0, .int 0, .ref p_toolWidth, .ref p_told, .ref p_name, .ref p_parent, .ref p_side, .ref p_from, .ref p_width, .ref p_height, .ref p_radius, .ref p_toolSet]))] H := hP
  have hD : va_D A [(h0, .inr (8, [.ref xt, .ref xr, .ref xp, .ref xs, .ref xm, .ref xh, .ref xe, .ref xf, .ref pa, .ref dr, .int 0, .int 1, .int 0, .int 0])), (pa, .inr (4, [.int 0, .int 0, .int 0, .int 0, .int 0, .int 0, .ref p_toolWidth, .ref p_told, .ref p_name, .ref p_parent, .ref p_side, .ref p_from, .ref p_width, .ref p_height, .ref p_radius, .ref p_toolSet]))] := hD
  refine lv_if_ne (tgt := 12) hx hb dX8_tallest_7 (by decide) (fun c7 => (c7 (by decide)).elim) (fun c7 => ?_)
  refine lv_iconst (v := (-1)) hx hb dX8_tallest_10 (by decide) ?_
  exact zri (rm := { frames := 1, cells := 0, slots := 0, locals := 20 }) (v := (-1)) () hx hb hr hlocks (Nat.le_of_ble_eq_true rfl) (Nat.le_of_ble_eq_true rfl) (rfl) (hP.sub [] rfl) (hD.sub [] (by decide) rfl) hS dX8_tallest_11
theorem dX8_turned_0 : decode cX8_turned 0 = .ok (.aload_n 0, 1) := by decide +kernel
theorem dX8_turned_1 : decode cX8_turned 1 = .ok (.iload_n 1, 1) := by decide +kernel
theorem dX8_turned_2 : decode cX8_turned 2 = .ok (.invokevirtual 267, 3) := by decide +kernel
theorem dX8_turned_5 : decode cX8_turned 5 = .ok (.ifCond .ne 5, 3) := by decide +kernel
theorem dX8_turned_8 : decode cX8_turned 8 = .ok (.iconst (-1), 1) := by decide +kernel
theorem dX8_turned_9 : decode cX8_turned 9 = .ok (.ireturn, 1) := by decide +kernel
set_option maxHeartbeats 4000000 in
set_option maxRecDepth 100000 in
theorem kX8_turned (l : Launch) (g : zL) (h0 : Nat) (x : Int32) (xt : Nat) (xr : Nat) (xp : Nat) (xs : Nat) (xm : Nat) (xh : Nat) (xe : Nat) (xf : Nat) (pa : Nat) (dr : Nat) (p_toolWidth : Nat) (p_told : Nat) (p_name : Nat) (p_parent : Nat) (p_side : Nat) (p_from : Nat) (p_width : Nat) (p_height : Nat) (p_radius : Nat) (p_toolSet : Nat) : zCi l g yX8_turned cX8_turned 2 (some .int) { frames := 2, cells := 0, slots := 0, locals := 42 } [.ref h0, .int x] [(h0, .inr (8, [.ref xt, .ref xr, .ref xp, .ref xs, .ref xm, .ref xh, .ref xe, .ref xf, .ref pa, .ref dr, .int 0, .int 1, .int 0, .int 0])), (pa, .inr (4, [.int 0, .int 0, .int 0, .int 0, .int 0, .int 0, .ref p_toolWidth, .ref p_told, .ref p_name, .ref p_parent, .ref p_side, .ref p_from, .ref p_width, .ref p_height, .ref p_radius, .ref p_toolSet]))] (fun (r : Int32) (u : Unit) => r = (-1)) (fun (u : Unit) => []) := by
  refine zCi.mk (by decide) (Nat.le_of_ble_eq_true rfl) ?_
  intro p e s m below meth c A hE hP hD hS ls hl
  obtain ⟨hx, hb, hr, hml, hown, hG, hlocks, hnm, hX, hA⟩ := hE
  have hown : s.vm.findClass RX8 = some m.cls := hown
  have hl : lv_has ls 2 [(0, .ref h0), (1, .int x)] := hl
  refine lv_aload_n hx hb dX8_turned_0 rfl (lv_at hl 0 rfl) ?_
  refine lv_iload_n hx hb dX8_turned_1 rfl (lv_at hl 1 rfl) ?_
  refine zfi (wr := []) (va_runV (As := [.int x]) (rest := []) ⟨hx, hb, hml, hown, hG⟩ (kX8_isUnmade l g h0 x xt xr xp xs xm xh xe xf pa dr p_toolWidth p_told p_name p_parent p_side p_from p_width p_height p_radius p_toolSet _) ⟨callB_of 1 hG (zGood g1134) rfl rfl rfl (hG _ g202) (hG _ g1131) hX8_isUnmade ⟨Nat.le_of_ble_eq_true rfl, Nat.le_of_ble_eq_true rfl⟩, hG _ g1133, hG _ g87⟩ (zpreV (va_recv hX.1 hP (ci := 8) (q0 := 0) rfl rfl) hX hP hD hS hA [0, 1] rfl (by decide)) rfl rfl hl.1 rfl (lv_room (Nat.le_of_ble_eq_true rfl)) dX8_turned_2 ⟨Nat.le_of_ble_eq_true rfl, Nat.le_of_ble_eq_true rfl⟩) hP hD hS hA [0, 1] [] rfl rfl (by decide) (by decide) (fun r1 _ H locs hp hP hD hS => ?_)
  refine W.cs (cells' := 0) (slots' := 0) rfl rfl ?_
  have hq2 : r1 = 0 := hp
  subst hq2
  have hP : va_P g.1 vwCl [(h0, .inr (8, [.ref xt, .ref xr, .ref xp, .ref xs, .ref xm, .ref xh, .ref xe, .ref xf, .ref pa, .ref dr, .int 0, .int 1, .int 0, .int 0])), (pa, .inr (4, [.int 0, .int 0, .int 0, .int 0, .int 0, .int 0, .ref p_toolWidth, .ref p_told, .ref p_name, .ref p_parent, .ref p_side, .ref p_from, .ref p_width, .ref p_height, .ref p_radius, .ref p_toolSet]))] H := hP
  have hD : va_D A [(h0, .inr (8, [.ref xt, .ref xr, .ref xp, .ref xs, .ref xm, .ref xh, .ref xe, .ref xf, .ref pa, .ref dr, .int 0, .int 1, .int 0, .int 0])), (pa, .inr (4, [.int 0, .int 0, .int 0, .int 0, .int 0, .int 0, .ref p_toolWidth, .ref p_told, .ref p_name, .ref p_parent, .ref p_side, .ref p_from, .ref p_width, .ref p_height, .ref p_radius, .ref p_toolSet]))] := hD
  refine lv_if_ne (tgt := 10) hx hb dX8_turned_5 (by decide) (fun c5 => (c5 (by decide)).elim) (fun c5 => ?_)
  refine lv_iconst (v := (-1)) hx hb dX8_turned_8 (by decide) ?_
  exact zri (rm := { frames := 2, cells := 0, slots := 0, locals := 42 }) (v := (-1)) () hx hb hr hlocks (Nat.le_of_ble_eq_true rfl) (Nat.le_of_ble_eq_true rfl) (rfl) (hP.sub [] rfl) (hD.sub [] (by decide) rfl) hS dX8_turned_9
theorem dX8_mends_0 : decode cX8_mends 0 = .ok (.aload_n 0, 1) := by decide +kernel
theorem dX8_mends_1 : decode cX8_mends 1 = .ok (.getfield 67, 3) := by decide +kernel
theorem dX8_mends_4 : decode cX8_mends 4 = .ok (.invokevirtual 183, 3) := by decide +kernel
theorem dX8_mends_7 : decode cX8_mends 7 = .ok (.ifCond .ne 5, 3) := by decide +kernel
theorem dX8_mends_10 : decode cX8_mends 10 = .ok (.iconst (-1), 1) := by decide +kernel
theorem dX8_mends_11 : decode cX8_mends 11 = .ok (.ireturn, 1) := by decide +kernel
set_option maxHeartbeats 4000000 in
set_option maxRecDepth 100000 in
theorem kX8_mends (l : Launch) (g : zL) (h0 : Nat) (xt : Nat) (xr : Nat) (xp : Nat) (xs : Nat) (xm : Nat) (xh : Nat) (xe : Nat) (xf : Nat) (pa : Nat) (dr : Nat) (p_toolWidth : Nat) (p_told : Nat) (p_name : Nat) (p_parent : Nat) (p_side : Nat) (p_from : Nat) (p_width : Nat) (p_height : Nat) (p_radius : Nat) (p_toolSet : Nat) : zCi l g yX8_mends cX8_mends 1 (some .int) { frames := 1, cells := 0, slots := 0, locals := 20 } [.ref h0] [(h0, .inr (8, [.ref xt, .ref xr, .ref xp, .ref xs, .ref xm, .ref xh, .ref xe, .ref xf, .ref pa, .ref dr, .int 0, .int 1, .int 0, .int 0])), (pa, .inr (4, [.int 0, .int 0, .int 0, .int 0, .int 0, .int 0, .ref p_toolWidth, .ref p_told, .ref p_name, .ref p_parent, .ref p_side, .ref p_from, .ref p_width, .ref p_height, .ref p_radius, .ref p_toolSet]))] (fun (r : Int32) (u : Unit) => r = (-1)) (fun (u : Unit) => []) := by
  refine zCi.mk (by decide) (Nat.le_of_ble_eq_true rfl) ?_
  intro p e s m below meth c A hE hP hD hS ls hl
  obtain ⟨hx, hb, hr, hml, hown, hG, hlocks, hnm, hX, hA⟩ := hE
  have hown : s.vm.findClass RX8 = some m.cls := hown
  have hl : lv_has ls 1 [(0, .ref h0)] := hl
  refine lv_aload_n hx hb dX8_mends_0 rfl (lv_at hl 0 rfl) ?_
  refine va_get (D := g.1) (ci := 8) (v := .ref pa) (C := RX8) (T := TX8) (N := 14) hx hb hG iX8 hown hX.1 hP 0 rfl rfl 8 (by decide) (hG _ g515) (fun _ h9 => h9) rfl dX8_mends_1 ?_
  refine zfi (wr := [(h0, .inr (8, [.ref xt, .ref xr, .ref xp, .ref xs, .ref xm, .ref xh, .ref xe, .ref xf, .ref pa, .ref dr, .int 0, .int 1, .int 0, .int 0]))]) (va_runVN (As := []) (rest := []) ⟨hx, hb, hml, hown, hG⟩ (kX4_isThere l g pa p_toolWidth p_told p_name p_parent p_side p_from p_width p_height p_radius p_toolSet _) ⟨va_cnB 0 hG (zGood g861) rfl rfl rfl (hX.2.1.ml g858) (hG _ g210) hX4_isThere ⟨Nat.le_of_ble_eq_true rfl, Nat.le_of_ble_eq_true rfl⟩, hG _ g860, hG _ g45⟩ (zpreV (va_recv hX.1 hP (ci := 4) (q0 := 1) rfl rfl) hX hP hD hS hA [1] rfl (by decide)) rfl rfl hl.1 rfl (lv_room (Nat.le_of_ble_eq_true rfl)) dX8_mends_4 ⟨Nat.le_of_ble_eq_true rfl, Nat.le_of_ble_eq_true rfl⟩) hP hD hS hA [1] [0] rfl rfl (by decide) (by decide) (fun r1 _ H locs hp hP hD hS => ?_)
  refine W.cs (cells' := 0) (slots' := 0) rfl rfl ?_
  have hq2 : r1 = 0 := hp
  subst hq2
  have hP : va_P g.1 vwCl [(h0, .inr (8, [.ref xt, .ref xr, .ref xp, .ref xs, .ref xm, .ref xh, .ref xe, .ref xf, .ref pa, .ref dr, .int 0, .int 1, .int 0, .int 0])), (pa, .inr (4, [.int 0, .int 0, .int 0, .int 0, .int 0, .int 0, .ref p_toolWidth, .ref p_told, .ref p_name, .ref p_parent, .ref p_side, .ref p_from, .ref p_width, .ref p_height, .ref p_radius, .ref p_toolSet]))] H := hP
  have hD : va_D A [(h0, .inr (8, [.ref xt, .ref xr, .ref xp, .ref xs, .ref xm, .ref xh, .ref xe, .ref xf, .ref pa, .ref dr, .int 0, .int 1, .int 0, .int 0])), (pa, .inr (4, [.int 0, .int 0, .int 0, .int 0, .int 0, .int 0, .ref p_toolWidth, .ref p_told, .ref p_name, .ref p_parent, .ref p_side, .ref p_from, .ref p_width, .ref p_height, .ref p_radius, .ref p_toolSet]))] := hD
  refine lv_if_ne (tgt := 12) hx hb dX8_mends_7 (by decide) (fun c7 => (c7 (by decide)).elim) (fun c7 => ?_)
  refine lv_iconst (v := (-1)) hx hb dX8_mends_10 (by decide) ?_
  exact zri (rm := { frames := 1, cells := 0, slots := 0, locals := 20 }) (v := (-1)) () hx hb hr hlocks (Nat.le_of_ble_eq_true rfl) (Nat.le_of_ble_eq_true rfl) (rfl) (hP.sub [] rfl) (hD.sub [] (by decide) rfl) hS dX8_mends_11
theorem dX8_lacks_0 : decode cX8_lacks 0 = .ok (.aload_n 0, 1) := by decide +kernel
theorem dX8_lacks_1 : decode cX8_lacks 1 = .ok (.getfield 67, 3) := by decide +kernel
theorem dX8_lacks_4 : decode cX8_lacks 4 = .ok (.invokevirtual 183, 3) := by decide +kernel
theorem dX8_lacks_7 : decode cX8_lacks 7 = .ok (.ifCond .ne 5, 3) := by decide +kernel
theorem dX8_lacks_10 : decode cX8_lacks 10 = .ok (.iconst (-1), 1) := by decide +kernel
theorem dX8_lacks_11 : decode cX8_lacks 11 = .ok (.ireturn, 1) := by decide +kernel
set_option maxHeartbeats 4000000 in
set_option maxRecDepth 100000 in
theorem kX8_lacks (l : Launch) (g : zL) (h0 : Nat) (x : Int32) (xt : Nat) (xr : Nat) (xp : Nat) (xs : Nat) (xm : Nat) (xh : Nat) (xe : Nat) (xf : Nat) (pa : Nat) (dr : Nat) (p_toolWidth : Nat) (p_told : Nat) (p_name : Nat) (p_parent : Nat) (p_side : Nat) (p_from : Nat) (p_width : Nat) (p_height : Nat) (p_radius : Nat) (p_toolSet : Nat) : zCi l g yX8_lacks cX8_lacks 2 (some .int) { frames := 1, cells := 0, slots := 0, locals := 20 } [.ref h0, .int x] [(h0, .inr (8, [.ref xt, .ref xr, .ref xp, .ref xs, .ref xm, .ref xh, .ref xe, .ref xf, .ref pa, .ref dr, .int 0, .int 1, .int 0, .int 0])), (pa, .inr (4, [.int 0, .int 0, .int 0, .int 0, .int 0, .int 0, .ref p_toolWidth, .ref p_told, .ref p_name, .ref p_parent, .ref p_side, .ref p_from, .ref p_width, .ref p_height, .ref p_radius, .ref p_toolSet]))] (fun (r : Int32) (u : Unit) => r = (-1)) (fun (u : Unit) => []) := by
  refine zCi.mk (by decide) (Nat.le_of_ble_eq_true rfl) ?_
  intro p e s m below meth c A hE hP hD hS ls hl
  obtain ⟨hx, hb, hr, hml, hown, hG, hlocks, hnm, hX, hA⟩ := hE
  have hown : s.vm.findClass RX8 = some m.cls := hown
  have hl : lv_has ls 2 [(0, .ref h0), (1, .int x)] := hl
  refine lv_aload_n hx hb dX8_lacks_0 rfl (lv_at hl 0 rfl) ?_
  refine va_get (D := g.1) (ci := 8) (v := .ref pa) (C := RX8) (T := TX8) (N := 14) hx hb hG iX8 hown hX.1 hP 0 rfl rfl 8 (by decide) (hG _ g515) (fun _ h9 => h9) rfl dX8_lacks_1 ?_
  refine zfi (wr := [(h0, .inr (8, [.ref xt, .ref xr, .ref xp, .ref xs, .ref xm, .ref xh, .ref xe, .ref xf, .ref pa, .ref dr, .int 0, .int 1, .int 0, .int 0]))]) (va_runVN (As := []) (rest := []) ⟨hx, hb, hml, hown, hG⟩ (kX4_isThere l g pa p_toolWidth p_told p_name p_parent p_side p_from p_width p_height p_radius p_toolSet _) ⟨va_cnB 0 hG (zGood g861) rfl rfl rfl (hX.2.1.ml g858) (hG _ g210) hX4_isThere ⟨Nat.le_of_ble_eq_true rfl, Nat.le_of_ble_eq_true rfl⟩, hG _ g860, hG _ g45⟩ (zpreV (va_recv hX.1 hP (ci := 4) (q0 := 1) rfl rfl) hX hP hD hS hA [1] rfl (by decide)) rfl rfl hl.1 rfl (lv_room (Nat.le_of_ble_eq_true rfl)) dX8_lacks_4 ⟨Nat.le_of_ble_eq_true rfl, Nat.le_of_ble_eq_true rfl⟩) hP hD hS hA [1] [0] rfl rfl (by decide) (by decide) (fun r1 _ H locs hp hP hD hS => ?_)
  refine W.cs (cells' := 0) (slots' := 0) rfl rfl ?_
  have hq2 : r1 = 0 := hp
  subst hq2
  have hP : va_P g.1 vwCl [(h0, .inr (8, [.ref xt, .ref xr, .ref xp, .ref xs, .ref xm, .ref xh, .ref xe, .ref xf, .ref pa, .ref dr, .int 0, .int 1, .int 0, .int 0])), (pa, .inr (4, [.int 0, .int 0, .int 0, .int 0, .int 0, .int 0, .ref p_toolWidth, .ref p_told, .ref p_name, .ref p_parent, .ref p_side, .ref p_from, .ref p_width, .ref p_height, .ref p_radius, .ref p_toolSet]))] H := hP
  have hD : va_D A [(h0, .inr (8, [.ref xt, .ref xr, .ref xp, .ref xs, .ref xm, .ref xh, .ref xe, .ref xf, .ref pa, .ref dr, .int 0, .int 1, .int 0, .int 0])), (pa, .inr (4, [.int 0, .int 0, .int 0, .int 0, .int 0, .int 0, .ref p_toolWidth, .ref p_told, .ref p_name, .ref p_parent, .ref p_side, .ref p_from, .ref p_width, .ref p_height, .ref p_radius, .ref p_toolSet]))] := hD
  refine lv_if_ne (tgt := 12) hx hb dX8_lacks_7 (by decide) (fun c7 => (c7 (by decide)).elim) (fun c7 => ?_)
  refine lv_iconst (v := (-1)) hx hb dX8_lacks_10 (by decide) ?_
  exact zri (rm := { frames := 1, cells := 0, slots := 0, locals := 20 }) (v := (-1)) () hx hb hr hlocks (Nat.le_of_ble_eq_true rfl) (Nat.le_of_ble_eq_true rfl) (rfl) (hP.sub [] rfl) (hD.sub [] (by decide) rfl) hS dX8_lacks_11
theorem dX8_opens_0 : decode cX8_opens 0 = .ok (.aload_n 0, 1) := by decide +kernel
theorem dX8_opens_1 : decode cX8_opens 1 = .ok (.getfield 67, 3) := by decide +kernel
theorem dX8_opens_4 : decode cX8_opens 4 = .ok (.invokevirtual 183, 3) := by decide +kernel
theorem dX8_opens_7 : decode cX8_opens 7 = .ok (.ifCond .ne 5, 3) := by decide +kernel
theorem dX8_opens_10 : decode cX8_opens 10 = .ok (.iconst (-1), 1) := by decide +kernel
theorem dX8_opens_11 : decode cX8_opens 11 = .ok (.ireturn, 1) := by decide +kernel
set_option maxHeartbeats 4000000 in
set_option maxRecDepth 100000 in
theorem kX8_opens (l : Launch) (g : zL) (h0 : Nat) (xt : Nat) (xr : Nat) (xp : Nat) (xs : Nat) (xm : Nat) (xh : Nat) (xe : Nat) (xf : Nat) (pa : Nat) (dr : Nat) (p_toolWidth : Nat) (p_told : Nat) (p_name : Nat) (p_parent : Nat) (p_side : Nat) (p_from : Nat) (p_width : Nat) (p_height : Nat) (p_radius : Nat) (p_toolSet : Nat) : zCi l g yX8_opens cX8_opens 3 (some .int) { frames := 1, cells := 0, slots := 0, locals := 20 } [.ref h0] [(h0, .inr (8, [.ref xt, .ref xr, .ref xp, .ref xs, .ref xm, .ref xh, .ref xe, .ref xf, .ref pa, .ref dr, .int 0, .int 1, .int 0, .int 0])), (pa, .inr (4, [.int 0, .int 0, .int 0, .int 0, .int 0, .int 0, .ref p_toolWidth, .ref p_told, .ref p_name, .ref p_parent, .ref p_side, .ref p_from, .ref p_width, .ref p_height, .ref p_radius, .ref p_toolSet]))] (fun (r : Int32) (u : Unit) => r = (-1)) (fun (u : Unit) => []) := by
  refine zCi.mk (by decide) (Nat.le_of_ble_eq_true rfl) ?_
  intro p e s m below meth c A hE hP hD hS ls hl
  obtain ⟨hx, hb, hr, hml, hown, hG, hlocks, hnm, hX, hA⟩ := hE
  have hown : s.vm.findClass RX8 = some m.cls := hown
  have hl : lv_has ls 3 [(0, .ref h0)] := hl
  refine lv_aload_n hx hb dX8_opens_0 rfl (lv_at hl 0 rfl) ?_
  refine va_get (D := g.1) (ci := 8) (v := .ref pa) (C := RX8) (T := TX8) (N := 14) hx hb hG iX8 hown hX.1 hP 0 rfl rfl 8 (by decide) (hG _ g515) (fun _ h9 => h9) rfl dX8_opens_1 ?_
  refine zfi (wr := [(h0, .inr (8, [.ref xt, .ref xr, .ref xp, .ref xs, .ref xm, .ref xh, .ref xe, .ref xf, .ref pa, .ref dr, .int 0, .int 1, .int 0, .int 0]))]) (va_runVN (As := []) (rest := []) ⟨hx, hb, hml, hown, hG⟩ (kX4_isThere l g pa p_toolWidth p_told p_name p_parent p_side p_from p_width p_height p_radius p_toolSet _) ⟨va_cnB 0 hG (zGood g861) rfl rfl rfl (hX.2.1.ml g858) (hG _ g210) hX4_isThere ⟨Nat.le_of_ble_eq_true rfl, Nat.le_of_ble_eq_true rfl⟩, hG _ g860, hG _ g45⟩ (zpreV (va_recv hX.1 hP (ci := 4) (q0 := 1) rfl rfl) hX hP hD hS hA [1] rfl (by decide)) rfl rfl hl.1 rfl (lv_room (Nat.le_of_ble_eq_true rfl)) dX8_opens_4 ⟨Nat.le_of_ble_eq_true rfl, Nat.le_of_ble_eq_true rfl⟩) hP hD hS hA [1] [0] rfl rfl (by decide) (by decide) (fun r1 _ H locs hp hP hD hS => ?_)
  refine W.cs (cells' := 0) (slots' := 0) rfl rfl ?_
  have hq2 : r1 = 0 := hp
  subst hq2
  have hP : va_P g.1 vwCl [(h0, .inr (8, [.ref xt, .ref xr, .ref xp, .ref xs, .ref xm, .ref xh, .ref xe, .ref xf, .ref pa, .ref dr, .int 0, .int 1, .int 0, .int 0])), (pa, .inr (4, [.int 0, .int 0, .int 0, .int 0, .int 0, .int 0, .ref p_toolWidth, .ref p_told, .ref p_name, .ref p_parent, .ref p_side, .ref p_from, .ref p_width, .ref p_height, .ref p_radius, .ref p_toolSet]))] H := hP
  have hD : va_D A [(h0, .inr (8, [.ref xt, .ref xr, .ref xp, .ref xs, .ref xm, .ref xh, .ref xe, .ref xf, .ref pa, .ref dr, .int 0, .int 1, .int 0, .int 0])), (pa, .inr (4, [.int 0, .int 0, .int 0, .int 0, .int 0, .int 0, .ref p_toolWidth, .ref p_told, .ref p_name, .ref p_parent, .ref p_side, .ref p_from, .ref p_width, .ref p_height, .ref p_radius, .ref p_toolSet]))] := hD
  refine lv_if_ne (tgt := 12) hx hb dX8_opens_7 (by decide) (fun c7 => (c7 (by decide)).elim) (fun c7 => ?_)
  refine lv_iconst (v := (-1)) hx hb dX8_opens_10 (by decide) ?_
  exact zri (rm := { frames := 1, cells := 0, slots := 0, locals := 20 }) (v := (-1)) () hx hb hr hlocks (Nat.le_of_ble_eq_true rfl) (Nat.le_of_ble_eq_true rfl) (rfl) (hP.sub [] rfl) (hD.sub [] (by decide) rfl) hS dX8_opens_11
theorem dX8_smallest_0 : decode cX8_smallest 0 = .ok (.aload_n 0, 1) := by decide +kernel
theorem dX8_smallest_1 : decode cX8_smallest 1 = .ok (.getfield 67, 3) := by decide +kernel
theorem dX8_smallest_4 : decode cX8_smallest 4 = .ok (.invokevirtual 183, 3) := by decide +kernel
theorem dX8_smallest_7 : decode cX8_smallest 7 = .ok (.ifCond .eq 12, 3) := by decide +kernel
theorem dX8_smallest_19 : decode cX8_smallest 19 = .ok (.iconst (-1), 1) := by decide +kernel
theorem dX8_smallest_20 : decode cX8_smallest 20 = .ok (.ireturn, 1) := by decide +kernel
set_option maxHeartbeats 4000000 in
set_option maxRecDepth 100000 in
theorem kX8_smallest (l : Launch) (g : zL) (h0 : Nat) (x : Int32) (xt : Nat) (xr : Nat) (xp : Nat) (xs : Nat) (xm : Nat) (xh : Nat) (xe : Nat) (xf : Nat) (pa : Nat) (dr : Nat) (p_toolWidth : Nat) (p_told : Nat) (p_name : Nat) (p_parent : Nat) (p_side : Nat) (p_from : Nat) (p_width : Nat) (p_height : Nat) (p_radius : Nat) (p_toolSet : Nat) : zCi l g yX8_smallest cX8_smallest 6 (some .int) { frames := 1, cells := 0, slots := 0, locals := 20 } [.ref h0, .int x] [(h0, .inr (8, [.ref xt, .ref xr, .ref xp, .ref xs, .ref xm, .ref xh, .ref xe, .ref xf, .ref pa, .ref dr, .int 0, .int 1, .int 0, .int 0])), (pa, .inr (4, [.int 0, .int 0, .int 0, .int 0, .int 0, .int 0, .ref p_toolWidth, .ref p_told, .ref p_name, .ref p_parent, .ref p_side, .ref p_from, .ref p_width, .ref p_height, .ref p_radius, .ref p_toolSet]))] (fun (r : Int32) (u : Unit) => r = (-1)) (fun (u : Unit) => []) := by
  refine zCi.mk (by decide) (Nat.le_of_ble_eq_true rfl) ?_
  intro p e s m below meth c A hE hP hD hS ls hl
  obtain ⟨hx, hb, hr, hml, hown, hG, hlocks, hnm, hX, hA⟩ := hE
  have hown : s.vm.findClass RX8 = some m.cls := hown
  have hl : lv_has ls 6 [(0, .ref h0), (1, .int x)] := hl
  refine lv_aload_n hx hb dX8_smallest_0 rfl (lv_at hl 0 rfl) ?_
  refine va_get (D := g.1) (ci := 8) (v := .ref pa) (C := RX8) (T := TX8) (N := 14) hx hb hG iX8 hown hX.1 hP 0 rfl rfl 8 (by decide) (hG _ g515) (fun _ h9 => h9) rfl dX8_smallest_1 ?_
  refine zfi (wr := [(h0, .inr (8, [.ref xt, .ref xr, .ref xp, .ref xs, .ref xm, .ref xh, .ref xe, .ref xf, .ref pa, .ref dr, .int 0, .int 1, .int 0, .int 0]))]) (va_runVN (As := []) (rest := []) ⟨hx, hb, hml, hown, hG⟩ (kX4_isThere l g pa p_toolWidth p_told p_name p_parent p_side p_from p_width p_height p_radius p_toolSet _) ⟨va_cnB 0 hG (zGood g861) rfl rfl rfl (hX.2.1.ml g858) (hG _ g210) hX4_isThere ⟨Nat.le_of_ble_eq_true rfl, Nat.le_of_ble_eq_true rfl⟩, hG _ g860, hG _ g45⟩ (zpreV (va_recv hX.1 hP (ci := 4) (q0 := 1) rfl rfl) hX hP hD hS hA [1] rfl (by decide)) rfl rfl hl.1 rfl (lv_room (Nat.le_of_ble_eq_true rfl)) dX8_smallest_4 ⟨Nat.le_of_ble_eq_true rfl, Nat.le_of_ble_eq_true rfl⟩) hP hD hS hA [1] [0] rfl rfl (by decide) (by decide) (fun r1 _ H locs hp hP hD hS => ?_)
  refine W.cs (cells' := 0) (slots' := 0) rfl rfl ?_
  have hq2 : r1 = 0 := hp
  subst hq2
  have hP : va_P g.1 vwCl [(h0, .inr (8, [.ref xt, .ref xr, .ref xp, .ref xs, .ref xm, .ref xh, .ref xe, .ref xf, .ref pa, .ref dr, .int 0, .int 1, .int 0, .int 0])), (pa, .inr (4, [.int 0, .int 0, .int 0, .int 0, .int 0, .int 0, .ref p_toolWidth, .ref p_told, .ref p_name, .ref p_parent, .ref p_side, .ref p_from, .ref p_width, .ref p_height, .ref p_radius, .ref p_toolSet]))] H := hP
  have hD : va_D A [(h0, .inr (8, [.ref xt, .ref xr, .ref xp, .ref xs, .ref xm, .ref xh, .ref xe, .ref xf, .ref pa, .ref dr, .int 0, .int 1, .int 0, .int 0])), (pa, .inr (4, [.int 0, .int 0, .int 0, .int 0, .int 0, .int 0, .ref p_toolWidth, .ref p_told, .ref p_name, .ref p_parent, .ref p_side, .ref p_from, .ref p_width, .ref p_height, .ref p_radius, .ref p_toolSet]))] := hD
  refine lv_if_eq (tgt := 19) hx hb dX8_smallest_7 (by decide) (fun c7 => ?_) (fun c7 => (c7 (by decide)).elim)
  refine lv_iconst (v := (-1)) hx hb dX8_smallest_19 (by decide) ?_
  exact zri (rm := { frames := 1, cells := 0, slots := 0, locals := 20 }) (v := (-1)) () hx hb hr hlocks (Nat.le_of_ble_eq_true rfl) (Nat.le_of_ble_eq_true rfl) (rfl) (hP.sub [] rfl) (hD.sub [] (by decide) rfl) hS dX8_smallest_20
theorem dX8_between_0 : decode cX8_between 0 = .ok (.aload_n 0, 1) := by decide +kernel
theorem dX8_between_1 : decode cX8_between 1 = .ok (.getfield 67, 3) := by decide +kernel
theorem dX8_between_4 : decode cX8_between 4 = .ok (.iload_n 1, 1) := by decide +kernel
theorem dX8_between_5 : decode cX8_between 5 = .ok (.invokevirtual 137, 3) := by decide +kernel
theorem dX8_between_8 : decode cX8_between 8 = .ok (.ifCond .eq 26, 3) := by decide +kernel
theorem dX8_between_34 : decode cX8_between 34 = .ok (.iconst (-1), 1) := by decide +kernel
theorem dX8_between_35 : decode cX8_between 35 = .ok (.ireturn, 1) := by decide +kernel
set_option maxHeartbeats 4000000 in
set_option maxRecDepth 100000 in
theorem kX8_between (l : Launch) (g : zL) (h0 : Nat) (x : Int32) (y : Int32) (xt : Nat) (xr : Nat) (xp : Nat) (xs : Nat) (xm : Nat) (xh : Nat) (xe : Nat) (xf : Nat) (pa : Nat) (dr : Nat) (p_toolWidth : Nat) (p_told : Nat) (p_name : Nat) (p_parent : Nat) (p_side : Nat) (p_from : Nat) (p_width : Nat) (p_height : Nat) (p_radius : Nat) (p_toolSet : Nat) : zCi l g yX8_between cX8_between 3 (some .int) { frames := 1, cells := 0, slots := 0, locals := 21 } [.ref h0, .int x, .int y] [(h0, .inr (8, [.ref xt, .ref xr, .ref xp, .ref xs, .ref xm, .ref xh, .ref xe, .ref xf, .ref pa, .ref dr, .int 0, .int 1, .int 0, .int 0])), (pa, .inr (4, [.int 0, .int 0, .int 0, .int 0, .int 0, .int 0, .ref p_toolWidth, .ref p_told, .ref p_name, .ref p_parent, .ref p_side, .ref p_from, .ref p_width, .ref p_height, .ref p_radius, .ref p_toolSet]))] (fun (r : Int32) (u : Unit) => r = (-1)) (fun (u : Unit) => []) := by
  refine zCi.mk (by decide) (Nat.le_of_ble_eq_true rfl) ?_
  intro p e s m below meth c A hE hP hD hS ls hl
  obtain ⟨hx, hb, hr, hml, hown, hG, hlocks, hnm, hX, hA⟩ := hE
  have hown : s.vm.findClass RX8 = some m.cls := hown
  have hl : lv_has ls 3 [(0, .ref h0), (1, .int x), (2, .int y)] := hl
  refine lv_aload_n hx hb dX8_between_0 rfl (lv_at hl 0 rfl) ?_
  refine va_get (D := g.1) (ci := 8) (v := .ref pa) (C := RX8) (T := TX8) (N := 14) hx hb hG iX8 hown hX.1 hP 0 rfl rfl 8 (by decide) (hG _ g515) (fun _ h9 => h9) rfl dX8_between_1 ?_
  refine lv_iload_n hx hb dX8_between_4 rfl (lv_at hl 1 rfl) ?_
  refine zfi (wr := [(h0, .inr (8, [.ref xt, .ref xr, .ref xp, .ref xs, .ref xm, .ref xh, .ref xe, .ref xf, .ref pa, .ref dr, .int 0, .int 1, .int 0, .int 0]))]) (va_runVN (As := [.int x]) (rest := []) ⟨hx, hb, hml, hown, hG⟩ (kX4_isFlange l g pa x p_toolWidth p_told p_name p_parent p_side p_from p_width p_height p_radius p_toolSet _) ⟨va_cnB 1 hG (zGood g813) rfl rfl rfl (hX.2.1.ml g810) (hG _ g210) hX4_isFlange ⟨Nat.le_of_ble_eq_true rfl, Nat.le_of_ble_eq_true rfl⟩, hG _ g812, hG _ g37⟩ (zpreV (va_recv hX.1 hP (ci := 4) (q0 := 1) rfl rfl) hX hP hD hS hA [1] rfl (by decide)) rfl rfl hl.1 rfl (lv_room (Nat.le_of_ble_eq_true rfl)) dX8_between_5 ⟨Nat.le_of_ble_eq_true rfl, Nat.le_of_ble_eq_true rfl⟩) hP hD hS hA [1] [0] rfl rfl (by decide) (by decide) (fun r1 _ H locs hp hP hD hS => ?_)
  refine W.cs (cells' := 0) (slots' := 0) rfl rfl ?_
  have hq2 : r1 = 0 := hp
  subst hq2
  have hP : va_P g.1 vwCl [(h0, .inr (8, [.ref xt, .ref xr, .ref xp, .ref xs, .ref xm, .ref xh, .ref xe, .ref xf, .ref pa, .ref dr, .int 0, .int 1, .int 0, .int 0])), (pa, .inr (4, [.int 0, .int 0, .int 0, .int 0, .int 0, .int 0, .ref p_toolWidth, .ref p_told, .ref p_name, .ref p_parent, .ref p_side, .ref p_from, .ref p_width, .ref p_height, .ref p_radius, .ref p_toolSet]))] H := hP
  have hD : va_D A [(h0, .inr (8, [.ref xt, .ref xr, .ref xp, .ref xs, .ref xm, .ref xh, .ref xe, .ref xf, .ref pa, .ref dr, .int 0, .int 1, .int 0, .int 0])), (pa, .inr (4, [.int 0, .int 0, .int 0, .int 0, .int 0, .int 0, .ref p_toolWidth, .ref p_told, .ref p_name, .ref p_parent, .ref p_side, .ref p_from, .ref p_width, .ref p_height, .ref p_radius, .ref p_toolSet]))] := hD
  refine lv_if_eq (tgt := 34) hx hb dX8_between_8 (by decide) (fun c8 => ?_) (fun c8 => (c8 (by decide)).elim)
  refine lv_iconst (v := (-1)) hx hb dX8_between_34 (by decide) ?_
  exact zri (rm := { frames := 1, cells := 0, slots := 0, locals := 21 }) (v := (-1)) () hx hb hr hlocks (Nat.le_of_ble_eq_true rfl) (Nat.le_of_ble_eq_true rfl) (rfl) (hP.sub [] rfl) (hD.sub [] (by decide) rfl) hS dX8_between_35
theorem dX1_take_0 : decode cX1_take 0 = .ok (.aload_n 1, 1) := by decide +kernel
theorem dX1_take_1 : decode cX1_take 1 = .ok (.getfield 18, 3) := by decide +kernel
theorem dX1_take_4 : decode cX1_take 4 = .ok (.iconst 3, 1) := by decide +kernel
theorem dX1_take_5 : decode cX1_take 5 = .ok (.idiv, 1) := by decide +kernel
theorem dX1_take_6 : decode cX1_take 6 = .ok (.istore_n 3, 1) := by decide +kernel
theorem dX1_take_7 : decode cX1_take 7 = .ok (.aload_n 1, 1) := by decide +kernel
theorem dX1_take_8 : decode cX1_take 8 = .ok (.getfield 18, 3) := by decide +kernel
theorem dX1_take_11 : decode cX1_take 11 = .ok (.iconst 3, 1) := by decide +kernel
theorem dX1_take_12 : decode cX1_take 12 = .ok (.irem, 1) := by decide +kernel
theorem dX1_take_13 : decode cX1_take 13 = .ok (.ifCond .ne 18, 3) := by decide +kernel
theorem dX1_take_16 : decode cX1_take 16 = .ok (.iload_n 3, 1) := by decide +kernel
theorem dX1_take_17 : decode cX1_take 17 = .ok (.iconst 1, 1) := by decide +kernel
theorem dX1_take_18 : decode cX1_take 18 = .ok (.if_icmp .lt 13, 3) := by decide +kernel
theorem dX1_take_31 : decode cX1_take 31 = .ok (.iconst 0, 1) := by decide +kernel
theorem dX1_take_32 : decode cX1_take 32 = .ok (.istore 4, 2) := by decide +kernel
theorem dX1_take_34 : decode cX1_take 34 = .ok (.iconst 0, 1) := by decide +kernel
theorem dX1_take_35 : decode cX1_take 35 = .ok (.istore 5, 2) := by decide +kernel
theorem dX1_take_37 : decode cX1_take 37 = .ok (.iload 4, 2) := by decide +kernel
theorem dX1_take_39 : decode cX1_take 39 = .ok (.ifCond .eq 29, 3) := by decide +kernel
theorem dX1_take_68 : decode cX1_take 68 = .ok (.iload 4, 2) := by decide +kernel
theorem dX1_take_70 : decode cX1_take 70 = .ok (.ifCond .ne 5, 3) := by decide +kernel
theorem dX1_take_73 : decode cX1_take 73 = .ok (.iconst 0, 1) := by decide +kernel
theorem dX1_take_74 : decode cX1_take 74 = .ok (.ireturn, 1) := by decide +kernel
set_option maxHeartbeats 4000000 in
set_option maxRecDepth 100000 in
theorem kX1_take (l : Launch) (g : zL) (xe : Nat) (xt : Nat) (pa : Nat) (e1 : Nat) (e2 : Nat) (xb : Nat) (p_toolWidth : Nat) (p_told : Nat) (p_name : Nat) (p_parent : Nat) (p_side : Nat) (p_from : Nat) (p_width : Nat) (p_height : Nat) (p_radius : Nat) (p_toolSet : Nat) : zCi l g yX1_take cX1_take 6 (some .boolean) { frames := 0, cells := 0, slots := 0, locals := 0 } [.ref xe, .ref xt, .ref pa] [(xe, .inr (1, [.ref e1, .ref e2, .int 0])), (xt, .inr (7, [.ref xb, .int 0])), (pa, .inr (4, [.int 0, .int 0, .int 0, .int 0, .int 0, .int 0, .ref p_toolWidth, .ref p_told, .ref p_name, .ref p_parent, .ref p_side, .ref p_from, .ref p_width, .ref p_height, .ref p_radius, .ref p_toolSet]))] (fun (r : Int32) (u : Unit) => r = 0) (fun (u : Unit) => [(xe, .inr (1, [.ref e1, .ref e2, .int 0])), (xt, .inr (7, [.ref xb, .int 0])), (pa, .inr (4, [.int 0, .int 0, .int 0, .int 0, .int 0, .int 0, .ref p_toolWidth, .ref p_told, .ref p_name, .ref p_parent, .ref p_side, .ref p_from, .ref p_width, .ref p_height, .ref p_radius, .ref p_toolSet]))]) := by
  refine zCi.mk (by decide) (Nat.le_of_ble_eq_true rfl) ?_
  intro p e s m below meth c A hE hP hD hS ls hl
  obtain ⟨hx, hb, hr, hml, hown, hG, hlocks, hnm, hX, hA⟩ := hE
  have hown : s.vm.findClass RX1 = some m.cls := hown
  have hl : lv_has ls 6 [(0, .ref xe), (1, .ref xt), (2, .ref pa)] := hl
  refine lv_aload_n hx hb dX1_take_0 rfl (lv_at hl 1 rfl) ?_
  refine va_getN (D := g.1) (ci := 7) (v := .int 0) (C := RX7) (T := TX7) (N := 2) hx hb hG iX7 hown hX.1 hP 1 rfl rfl 1 (by decide) (hX.2.1.fl g236) (fun _ h9 => h9) rfl dX1_take_1 ?_
  refine lv_iconst (v := 3) hx hb dX1_take_4 (by decide) ?_
  refine lv_idiv hx hb dX1_take_5 (by decide) ?_
  refine zt (z := 0) (by decide) ?_
  refine lv_istore_n (lv' := [(3, .int 0), (0, .ref xe), (1, .ref xt), (2, .ref pa)]) hx hb dX1_take_6 rfl hl (by decide) rfl (fun ls hl => ?_)
  refine lv_aload_n hx hb dX1_take_7 rfl (lv_at hl 2 rfl) ?_
  refine va_getN (D := g.1) (ci := 7) (v := .int 0) (C := RX7) (T := TX7) (N := 2) hx hb hG iX7 hown hX.1 hP 1 rfl rfl 1 (by decide) (hX.2.1.fl g236) (fun _ h9 => h9) rfl dX1_take_8 ?_
  refine lv_iconst (v := 3) hx hb dX1_take_11 (by decide) ?_
  refine lv_irem hx hb dX1_take_12 (by decide) ?_
  refine zt (z := 0) (by decide) ?_
  refine lv_if_ne (tgt := 31) hx hb dX1_take_13 (by decide) (fun c13 => (c13 (by decide)).elim) (fun c13 => ?_)
  refine lv_iload_n hx hb dX1_take_16 rfl (lv_at hl 0 rfl) ?_
  refine lv_iconst (v := 1) hx hb dX1_take_17 (by decide) ?_
  refine lv_icmp_lt (tgt := 31) hx hb dX1_take_18 (by decide) (fun c18 => ?_) (fun c18 => (c18 (by decide)).elim)
  refine lv_iconst (v := 0) hx hb dX1_take_31 (by decide) ?_
  refine lv_istore (lv' := [(4, .int 0), (3, .int 0), (0, .ref xe), (1, .ref xt), (2, .ref pa)]) hx hb dX1_take_32 hl (by decide) rfl (fun ls hl => ?_)
  refine lv_iconst (v := 0) hx hb dX1_take_34 (by decide) ?_
  refine lv_istore (lv' := [(5, .int 0), (4, .int 0), (3, .int 0), (0, .ref xe), (1, .ref xt), (2, .ref pa)]) hx hb dX1_take_35 hl (by decide) rfl (fun ls hl => ?_)
  refine lv_iload hx hb dX1_take_37 (lv_at hl 1 rfl) ?_
  refine lv_if_eq (tgt := 68) hx hb dX1_take_39 (by decide) (fun c39 => ?_) (fun c39 => (c39 (by decide)).elim)
  refine lv_iload hx hb dX1_take_68 (lv_at hl 1 rfl) ?_
  refine lv_if_ne (tgt := 75) hx hb dX1_take_70 (by decide) (fun c70 => (c70 (by decide)).elim) (fun c70 => ?_)
  refine lv_iconst (v := 0) hx hb dX1_take_73 (by decide) ?_
  exact zrz (rm := { frames := 0, cells := 0, slots := 0, locals := 0 }) (v := 0) () hx hb hr hlocks (rfl) (Nat.le_of_ble_eq_true rfl) (Nat.le_of_ble_eq_true rfl) (rfl) hP hD hS dX1_take_74
theorem dX8_see_0 : decode cX8_see 0 = .ok (.aload_n 0, 1) := by decide +kernel
theorem dX8_see_1 : decode cX8_see 1 = .ok (.getfield 56, 3) := by decide +kernel
theorem dX8_see_4 : decode cX8_see 4 = .ok (.aload_n 0, 1) := by decide +kernel
theorem dX8_see_5 : decode cX8_see 5 = .ok (.getfield 10, 3) := by decide +kernel
theorem dX8_see_8 : decode cX8_see 8 = .ok (.aload_n 0, 1) := by decide +kernel
theorem dX8_see_9 : decode cX8_see 9 = .ok (.getfield 67, 3) := by decide +kernel
theorem dX8_see_12 : decode cX8_see 12 = .ok (.invokevirtual 337, 3) := by decide +kernel
theorem dX8_see_15 : decode cX8_see 15 = .ok (.istore_n 1, 1) := by decide +kernel
theorem dX8_see_16 : decode cX8_see 16 = .ok (.aload_n 0, 1) := by decide +kernel
theorem dX8_see_17 : decode cX8_see 17 = .ok (.getfield 10, 3) := by decide +kernel
theorem dX8_see_20 : decode cX8_see 20 = .ok (.iconst 0, 1) := by decide +kernel
theorem dX8_see_21 : decode cX8_see 21 = .ok (.putfield 90, 3) := by decide +kernel
theorem dX8_see_24 : decode cX8_see 24 = .ok (.iload_n 1, 1) := by decide +kernel
theorem dX8_see_25 : decode cX8_see 25 = .ok (.ifCond .eq 13, 3) := by decide +kernel
theorem dX8_see_38 : decode cX8_see 38 = .ok (.aload_n 0, 1) := by decide +kernel
theorem dX8_see_39 : decode cX8_see 39 = .ok (.iconst 5, 1) := by decide +kernel
theorem dX8_see_40 : decode cX8_see 40 = .ok (.invokevirtual 82, 3) := by decide +kernel
theorem dX8_see_43 : decode cX8_see 43 = .ok (.ireturn, 1) := by decide +kernel
set_option maxHeartbeats 4000000 in
set_option maxRecDepth 100000 in
theorem kX8_see (l : Launch) (g : zL) (h0 : Nat) (xt : Nat) (xr : Nat) (xp : Nat) (xs : Nat) (xm : Nat) (xh : Nat) (xe : Nat) (xf : Nat) (pa : Nat) (dr : Nat) (p_toolWidth : Nat) (p_told : Nat) (p_name : Nat) (p_parent : Nat) (p_side : Nat) (p_from : Nat) (p_width : Nat) (p_height : Nat) (p_radius : Nat) (p_toolSet : Nat) (e1 : Nat) (e2 : Nat) (xb : Nat) (f : Nat → Int32) : zCi l g yX8_see cX8_see 2 (some .int) { frames := 1, cells := 0, slots := 0, locals := 25 } [.ref h0] [(h0, .inr (8, [.ref xt, .ref xr, .ref xp, .ref xs, .ref xm, .ref xh, .ref xe, .ref xf, .ref pa, .ref dr, .int 0, .int 1, .int 0, .int 0])), (pa, .inr (4, [.int 0, .int 0, .int 0, .int 0, .int 0, .int 0, .ref p_toolWidth, .ref p_told, .ref p_name, .ref p_parent, .ref p_side, .ref p_from, .ref p_width, .ref p_height, .ref p_radius, .ref p_toolSet])), (xe, .inr (1, [.ref e1, .ref e2, .int 0])), (xt, .inr (7, [.ref xb, .int 0])), (xf, .inl (g.2.1.1, 6, .inl f))] (fun (r : Int32) (u : Unit) => r = (-1)) (fun (u : Unit) => []) := by
  refine zCi.mk (by decide) (Nat.le_of_ble_eq_true rfl) ?_
  intro p e s m below meth c A hE hP hD hS ls hl
  obtain ⟨hx, hb, hr, hml, hown, hG, hlocks, hnm, hX, hA⟩ := hE
  have hown : s.vm.findClass RX8 = some m.cls := hown
  have hl : lv_has ls 2 [(0, .ref h0)] := hl
  refine lv_aload_n hx hb dX8_see_0 rfl (lv_at hl 0 rfl) ?_
  refine va_get (D := g.1) (ci := 8) (v := .ref xe) (C := RX8) (T := TX8) (N := 14) hx hb hG iX8 hown hX.1 hP 0 rfl rfl 6 (by decide) (hG _ g513) (fun _ h9 => h9) rfl dX8_see_1 ?_
  refine lv_aload_n hx hb dX8_see_4 rfl (lv_at hl 0 rfl) ?_
  refine va_get (D := g.1) (ci := 8) (v := .ref xt) (C := RX8) (T := TX8) (N := 14) hx hb hG iX8 hown hX.1 hP 0 rfl rfl 0 (by decide) (hG _ g507) (fun _ h9 => h9) rfl dX8_see_5 ?_
  refine lv_aload_n hx hb dX8_see_8 rfl (lv_at hl 0 rfl) ?_
  refine va_get (D := g.1) (ci := 8) (v := .ref pa) (C := RX8) (T := TX8) (N := 14) hx hb hG iX8 hown hX.1 hP 0 rfl rfl 8 (by decide) (hG _ g515) (fun _ h9 => h9) rfl dX8_see_9 ?_
  refine zfi (wr := [(h0, .inr (8, [.ref xt, .ref xr, .ref xp, .ref xs, .ref xm, .ref xh, .ref xe, .ref xf, .ref pa, .ref dr, .int 0, .int 1, .int 0, .int 0])), (xf, .inl (g.2.1.1, 6, .inl f))]) (va_runVN (As := [.ref xt, .ref pa]) (rest := []) ⟨hx, hb, hml, hown, hG⟩ (kX1_take l g xe xt pa e1 e2 xb p_toolWidth p_told p_name p_parent p_side p_from p_width p_height p_radius p_toolSet _) ⟨va_cnB 2 hG (zGood g1299) rfl rfl rfl (hX.2.1.ml g1296) (hG _ g209) hX1_take ⟨Nat.le_of_ble_eq_true rfl, Nat.le_of_ble_eq_true rfl⟩, hG _ g1298, hG _ g111⟩ (zpreV (va_recv hX.1 hP (ci := 1) (q0 := 2) rfl rfl) hX hP hD hS hA [2, 3, 1] rfl (by decide)) rfl rfl hl.1 rfl (lv_room (Nat.le_of_ble_eq_true rfl)) dX8_see_12 ⟨Nat.le_of_ble_eq_true rfl, Nat.le_of_ble_eq_true rfl⟩) hP hD hS hA [2, 3, 1] [0, 4] rfl rfl (by decide) (by decide) (fun r1 _ H locs hp hP hD hS => ?_)
  refine W.cs (cells' := 0) (slots' := 0) rfl rfl ?_
  have hq2 : r1 = 0 := hp
  subst hq2
  have hP : va_P g.1 vwCl [(h0, .inr (8, [.ref xt, .ref xr, .ref xp, .ref xs, .ref xm, .ref xh, .ref xe, .ref xf, .ref pa, .ref dr, .int 0, .int 1, .int 0, .int 0])), (xf, .inl (g.2.1.1, 6, .inl f)), (xe, .inr (1, [.ref e1, .ref e2, .int 0])), (xt, .inr (7, [.ref xb, .int 0])), (pa, .inr (4, [.int 0, .int 0, .int 0, .int 0, .int 0, .int 0, .ref p_toolWidth, .ref p_told, .ref p_name, .ref p_parent, .ref p_side, .ref p_from, .ref p_width, .ref p_height, .ref p_radius, .ref p_toolSet]))] H := hP
  have hD : va_D A [(h0, .inr (8, [.ref xt, .ref xr, .ref xp, .ref xs, .ref xm, .ref xh, .ref xe, .ref xf, .ref pa, .ref dr, .int 0, .int 1, .int 0, .int 0])), (xf, .inl (g.2.1.1, 6, .inl f)), (xe, .inr (1, [.ref e1, .ref e2, .int 0])), (xt, .inr (7, [.ref xb, .int 0])), (pa, .inr (4, [.int 0, .int 0, .int 0, .int 0, .int 0, .int 0, .ref p_toolWidth, .ref p_told, .ref p_name, .ref p_parent, .ref p_side, .ref p_from, .ref p_width, .ref p_height, .ref p_radius, .ref p_toolSet]))] := hD
  refine lv_istore_n (lv' := [(1, .int 0), (0, .ref h0)]) hx hb dX8_see_15 rfl hl (by decide) rfl (fun ls hl => ?_)
  refine lv_aload_n hx hb dX8_see_16 rfl (lv_at hl 1 rfl) ?_
  refine va_get (D := g.1) (ci := 8) (v := .ref xt) (C := RX8) (T := TX8) (N := 14) hx hb hG iX8 hown hX.1 hP 0 rfl rfl 0 (by decide) (hG _ g507) (fun _ h9 => h9) rfl dX8_see_17 ?_
  refine lv_iconst (v := 0) hx hb dX8_see_20 (by decide) ?_
  refine va_putN (D := g.1) (ci := 7) (v := .int 0) (ty := .int) (C := RX7) (T := TX7) (N := 2) hx hb hG iX7 tyX7 tyX7_ok nmX7 hown hX.1 hP hD hS 3 rfl rfl 1 (by decide) (hX.2.1.fl g237) (fun _ h9 => h9) rfl (by decide +kernel) rfl rfl (Nat.le_of_ble_eq_true rfl) dX8_see_21 (fun H locs hP hD hS => ?_)
  have hP : va_P g.1 vwCl [(h0, .inr (8, [.ref xt, .ref xr, .ref xp, .ref xs, .ref xm, .ref xh, .ref xe, .ref xf, .ref pa, .ref dr, .int 0, .int 1, .int 0, .int 0])), (xf, .inl (g.2.1.1, 6, .inl f)), (xe, .inr (1, [.ref e1, .ref e2, .int 0])), (xt, .inr (7, [.ref xb, .int 0])), (pa, .inr (4, [.int 0, .int 0, .int 0, .int 0, .int 0, .int 0, .ref p_toolWidth, .ref p_told, .ref p_name, .ref p_parent, .ref p_side, .ref p_from, .ref p_width, .ref p_height, .ref p_radius, .ref p_toolSet]))] H := hP
  have hD : va_D A [(h0, .inr (8, [.ref xt, .ref xr, .ref xp, .ref xs, .ref xm, .ref xh, .ref xe, .ref xf, .ref pa, .ref dr, .int 0, .int 1, .int 0, .int 0])), (xf, .inl (g.2.1.1, 6, .inl f)), (xe, .inr (1, [.ref e1, .ref e2, .int 0])), (xt, .inr (7, [.ref xb, .int 0])), (pa, .inr (4, [.int 0, .int 0, .int 0, .int 0, .int 0, .int 0, .ref p_toolWidth, .ref p_told, .ref p_name, .ref p_parent, .ref p_side, .ref p_from, .ref p_width, .ref p_height, .ref p_radius, .ref p_toolSet]))] := hD
  refine lv_iload_n hx hb dX8_see_24 rfl (lv_at hl 0 rfl) ?_
  refine lv_if_eq (tgt := 38) hx hb dX8_see_25 (by decide) (fun c25 => ?_) (fun c25 => (c25 (by decide)).elim)
  refine lv_aload_n hx hb dX8_see_38 rfl (lv_at hl 1 rfl) ?_
  refine lv_iconst (v := 5) hx hb dX8_see_39 (by decide) ?_
  refine zfi (wr := [(xe, .inr (1, [.ref e1, .ref e2, .int 0])), (xt, .inr (7, [.ref xb, .int 0])), (pa, .inr (4, [.int 0, .int 0, .int 0, .int 0, .int 0, .int 0, .ref p_toolWidth, .ref p_told, .ref p_name, .ref p_parent, .ref p_side, .ref p_from, .ref p_width, .ref p_height, .ref p_radius, .ref p_toolSet]))]) (va_runV (As := [.int 5]) (rest := []) ⟨hx, hb, hml, hown, hG⟩ (kX8_refuse5 l g h0 xt xr xp xs xm xh xe xf pa dr f _) ⟨callB_of 1 hG (zGood g561) rfl rfl rfl (hG _ g202) (hG _ g558) hX8_refuse ⟨Nat.le_of_ble_eq_true rfl, Nat.le_of_ble_eq_true rfl⟩, hG _ g560, hG _ g1⟩ (zpreV (va_recv hX.1 hP (ci := 8) (q0 := 0) rfl rfl) hX hP hD hS hA [0, 1] rfl (by decide)) rfl rfl hl.1 rfl (lv_room (Nat.le_of_ble_eq_true rfl)) dX8_see_40 ⟨Nat.le_of_ble_eq_true rfl, Nat.le_of_ble_eq_true rfl⟩) hP hD hS hA [0, 1] [2, 3, 4] rfl rfl (by decide) (by decide) (fun r3 u4 H locs hp hP hD hS => ?_)
  refine W.cs (cells' := 0) (slots' := 0) rfl rfl ?_
  have hq5 : r3 = (-1) := hp
  subst hq5
  have hP : va_P g.1 vwCl [(xe, .inr (1, [.ref e1, .ref e2, .int 0])), (xt, .inr (7, [.ref xb, .int 0])), (pa, .inr (4, [.int 0, .int 0, .int 0, .int 0, .int 0, .int 0, .ref p_toolWidth, .ref p_told, .ref p_name, .ref p_parent, .ref p_side, .ref p_from, .ref p_width, .ref p_height, .ref p_radius, .ref p_toolSet])), (h0, .inr (8, [.ref xt, .ref xr, .ref xp, .ref xs, .ref xm, .ref xh, .ref xe, .ref xf, .ref pa, .ref dr, .int 0, .int 1, .int 0, .int 0])), (xf, .inl (g.2.1.1, 6, .inl u4))] H := hP
  have hD : va_D A [(xe, .inr (1, [.ref e1, .ref e2, .int 0])), (xt, .inr (7, [.ref xb, .int 0])), (pa, .inr (4, [.int 0, .int 0, .int 0, .int 0, .int 0, .int 0, .ref p_toolWidth, .ref p_told, .ref p_name, .ref p_parent, .ref p_side, .ref p_from, .ref p_width, .ref p_height, .ref p_radius, .ref p_toolSet])), (h0, .inr (8, [.ref xt, .ref xr, .ref xp, .ref xs, .ref xm, .ref xh, .ref xe, .ref xf, .ref pa, .ref dr, .int 0, .int 1, .int 0, .int 0])), (xf, .inl (g.2.1.1, 6, .inl u4))] := hD
  exact zri (rm := { frames := 1, cells := 0, slots := 0, locals := 25 }) (v := (-1)) () hx hb hr hlocks (Nat.le_of_ble_eq_true rfl) (Nat.le_of_ble_eq_true rfl) (rfl) (hP.sub [] rfl) (hD.sub [] (by decide) rfl) hS dX8_see_43
theorem dX8_fits_0 : decode cX8_fits 0 = .ok (.aload_n 0, 1) := by decide +kernel
theorem dX8_fits_1 : decode cX8_fits 1 = .ok (.getfield 56, 3) := by decide +kernel
theorem dX8_fits_4 : decode cX8_fits 4 = .ok (.getfield 110, 3) := by decide +kernel
theorem dX8_fits_7 : decode cX8_fits 7 = .ok (.ifCond .eq 15, 3) := by decide +kernel
theorem dX8_fits_22 : decode cX8_fits 22 = .ok (.iconst (-1), 1) := by decide +kernel
theorem dX8_fits_23 : decode cX8_fits 23 = .ok (.ireturn, 1) := by decide +kernel
set_option maxHeartbeats 4000000 in
set_option maxRecDepth 100000 in
theorem kX8_fits (l : Launch) (g : zL) (h0 : Nat) (x : Int32) (y : Int32) (xt : Nat) (xr : Nat) (xp : Nat) (xs : Nat) (xm : Nat) (xh : Nat) (xe : Nat) (xf : Nat) (pa : Nat) (dr : Nat) (e1 : Nat) (e2 : Nat) : zCi l g yX8_fits cX8_fits 3 (some .int) { frames := 0, cells := 0, slots := 0, locals := 0 } [.ref h0, .int x, .int y] [(h0, .inr (8, [.ref xt, .ref xr, .ref xp, .ref xs, .ref xm, .ref xh, .ref xe, .ref xf, .ref pa, .ref dr, .int 0, .int 1, .int 0, .int 0])), (xe, .inr (1, [.ref e1, .ref e2, .int 0]))] (fun (r : Int32) (u : Unit) => r = (-1)) (fun (u : Unit) => []) := by
  refine zCi.mk (by decide) (Nat.le_of_ble_eq_true rfl) ?_
  intro p e s m below meth c A hE hP hD hS ls hl
  obtain ⟨hx, hb, hr, hml, hown, hG, hlocks, hnm, hX, hA⟩ := hE
  have hown : s.vm.findClass RX8 = some m.cls := hown
  have hl : lv_has ls 3 [(0, .ref h0), (1, .int x), (2, .int y)] := hl
  refine lv_aload_n hx hb dX8_fits_0 rfl (lv_at hl 0 rfl) ?_
  refine va_get (D := g.1) (ci := 8) (v := .ref xe) (C := RX8) (T := TX8) (N := 14) hx hb hG iX8 hown hX.1 hP 0 rfl rfl 6 (by decide) (hG _ g513) (fun _ h9 => h9) rfl dX8_fits_1 ?_
  refine va_getN (D := g.1) (ci := 1) (v := .int 0) (C := RX1) (T := TX1) (N := 3) hx hb hG iX1 hown hX.1 hP 1 rfl rfl 2 (by decide) (hX.2.1.fl g395) (fun _ h9 => h9) rfl dX8_fits_4 ?_
  refine lv_if_eq (tgt := 22) hx hb dX8_fits_7 (by decide) (fun c7 => ?_) (fun c7 => (c7 (by decide)).elim)
  refine lv_iconst (v := (-1)) hx hb dX8_fits_22 (by decide) ?_
  exact zri (rm := { frames := 0, cells := 0, slots := 0, locals := 0 }) (v := (-1)) () hx hb hr hlocks (Nat.le_of_ble_eq_true rfl) (Nat.le_of_ble_eq_true rfl) (rfl) (hP.sub [] rfl) (hD.sub [] (by decide) rfl) hS dX8_fits_23
theorem dX8_tells_0 : decode cX8_tells 0 = .ok (.aload_n 0, 1) := by decide +kernel
theorem dX8_tells_1 : decode cX8_tells 1 = .ok (.getfield 56, 3) := by decide +kernel
theorem dX8_tells_4 : decode cX8_tells 4 = .ok (.getfield 110, 3) := by decide +kernel
theorem dX8_tells_7 : decode cX8_tells 7 = .ok (.ifCond .eq 19, 3) := by decide +kernel
theorem dX8_tells_26 : decode cX8_tells 26 = .ok (.iconst (-1), 1) := by decide +kernel
theorem dX8_tells_27 : decode cX8_tells 27 = .ok (.ireturn, 1) := by decide +kernel
set_option maxHeartbeats 4000000 in
set_option maxRecDepth 100000 in
theorem kX8_tells (l : Launch) (g : zL) (h0 : Nat) (x : Int32) (y : Int32) (xt : Nat) (xr : Nat) (xp : Nat) (xs : Nat) (xm : Nat) (xh : Nat) (xe : Nat) (xf : Nat) (pa : Nat) (dr : Nat) (e1 : Nat) (e2 : Nat) : zCi l g yX8_tells cX8_tells 5 (some .int) { frames := 0, cells := 0, slots := 0, locals := 0 } [.ref h0, .int x, .int y] [(h0, .inr (8, [.ref xt, .ref xr, .ref xp, .ref xs, .ref xm, .ref xh, .ref xe, .ref xf, .ref pa, .ref dr, .int 0, .int 1, .int 0, .int 0])), (xe, .inr (1, [.ref e1, .ref e2, .int 0]))] (fun (r : Int32) (u : Unit) => r = (-1)) (fun (u : Unit) => []) := by
  refine zCi.mk (by decide) (Nat.le_of_ble_eq_true rfl) ?_
  intro p e s m below meth c A hE hP hD hS ls hl
  obtain ⟨hx, hb, hr, hml, hown, hG, hlocks, hnm, hX, hA⟩ := hE
  have hown : s.vm.findClass RX8 = some m.cls := hown
  have hl : lv_has ls 5 [(0, .ref h0), (1, .int x), (2, .int y)] := hl
  refine lv_aload_n hx hb dX8_tells_0 rfl (lv_at hl 0 rfl) ?_
  refine va_get (D := g.1) (ci := 8) (v := .ref xe) (C := RX8) (T := TX8) (N := 14) hx hb hG iX8 hown hX.1 hP 0 rfl rfl 6 (by decide) (hG _ g513) (fun _ h9 => h9) rfl dX8_tells_1 ?_
  refine va_getN (D := g.1) (ci := 1) (v := .int 0) (C := RX1) (T := TX1) (N := 3) hx hb hG iX1 hown hX.1 hP 1 rfl rfl 2 (by decide) (hX.2.1.fl g395) (fun _ h9 => h9) rfl dX8_tells_4 ?_
  refine lv_if_eq (tgt := 26) hx hb dX8_tells_7 (by decide) (fun c7 => ?_) (fun c7 => (c7 (by decide)).elim)
  refine lv_iconst (v := (-1)) hx hb dX8_tells_26 (by decide) ?_
  exact zri (rm := { frames := 0, cells := 0, slots := 0, locals := 0 }) (v := (-1)) () hx hb hr hlocks (Nat.le_of_ble_eq_true rfl) (Nat.le_of_ble_eq_true rfl) (rfl) (hP.sub [] rfl) (hD.sub [] (by decide) rfl) hS dX8_tells_27
theorem dX8_bend_0 : decode cX8_bend 0 = .ok (.aload_n 0, 1) := by decide +kernel
theorem dX8_bend_1 : decode cX8_bend 1 = .ok (.getfield 67, 3) := by decide +kernel
theorem dX8_bend_4 : decode cX8_bend 4 = .ok (.iload_n 1, 1) := by decide +kernel
theorem dX8_bend_5 : decode cX8_bend 5 = .ok (.invokevirtual 143, 3) := by decide +kernel
theorem dX8_bend_8 : decode cX8_bend 8 = .ok (.ifCond .ne 9, 3) := by decide +kernel
theorem dX8_bend_11 : decode cX8_bend 11 = .ok (.aload_n 0, 1) := by decide +kernel
theorem dX8_bend_12 : decode cX8_bend 12 = .ok (.iconst 2, 1) := by decide +kernel
theorem dX8_bend_13 : decode cX8_bend 13 = .ok (.invokevirtual 82, 3) := by decide +kernel
theorem dX8_bend_16 : decode cX8_bend 16 = .ok (.ireturn, 1) := by decide +kernel
set_option maxHeartbeats 4000000 in
set_option maxRecDepth 100000 in
theorem kX8_bend (l : Launch) (g : zL) (h0 : Nat) (x : Int32) (xt : Nat) (xr : Nat) (xp : Nat) (xs : Nat) (xm : Nat) (xh : Nat) (xe : Nat) (xf : Nat) (pa : Nat) (dr : Nat) (p_toolWidth : Nat) (p_told : Nat) (p_name : Nat) (p_parent : Nat) (p_side : Nat) (p_from : Nat) (p_width : Nat) (p_height : Nat) (p_radius : Nat) (p_toolSet : Nat) (f : Nat → Int32) : zCi l g yX8_bend cX8_bend 3 (some .int) { frames := 1, cells := 0, slots := 0, locals := 21 } [.ref h0, .int x] [(h0, .inr (8, [.ref xt, .ref xr, .ref xp, .ref xs, .ref xm, .ref xh, .ref xe, .ref xf, .ref pa, .ref dr, .int 0, .int 1, .int 0, .int 0])), (pa, .inr (4, [.int 0, .int 0, .int 0, .int 0, .int 0, .int 0, .ref p_toolWidth, .ref p_told, .ref p_name, .ref p_parent, .ref p_side, .ref p_from, .ref p_width, .ref p_height, .ref p_radius, .ref p_toolSet])), (xf, .inl (g.2.1.1, 6, .inl f))] (fun (r : Int32) (u : Unit) => r = (-1)) (fun (u : Unit) => []) := by
  refine zCi.mk (by decide) (Nat.le_of_ble_eq_true rfl) ?_
  intro p e s m below meth c A hE hP hD hS ls hl
  obtain ⟨hx, hb, hr, hml, hown, hG, hlocks, hnm, hX, hA⟩ := hE
  have hown : s.vm.findClass RX8 = some m.cls := hown
  have hl : lv_has ls 3 [(0, .ref h0), (1, .int x)] := hl
  refine lv_aload_n hx hb dX8_bend_0 rfl (lv_at hl 0 rfl) ?_
  refine va_get (D := g.1) (ci := 8) (v := .ref pa) (C := RX8) (T := TX8) (N := 14) hx hb hG iX8 hown hX.1 hP 0 rfl rfl 8 (by decide) (hG _ g515) (fun _ h9 => h9) rfl dX8_bend_1 ?_
  refine lv_iload_n hx hb dX8_bend_4 rfl (lv_at hl 1 rfl) ?_
  refine zfi (wr := [(h0, .inr (8, [.ref xt, .ref xr, .ref xp, .ref xs, .ref xm, .ref xh, .ref xe, .ref xf, .ref pa, .ref dr, .int 0, .int 1, .int 0, .int 0])), (xf, .inl (g.2.1.1, 6, .inl f))]) (va_runVN (As := [.int x]) (rest := []) ⟨hx, hb, hml, hown, hG⟩ (kX4_isBend l g pa x p_toolWidth p_told p_name p_parent p_side p_from p_width p_height p_radius p_toolSet _) ⟨va_cnB 1 hG (zGood g821) rfl rfl rfl (hX.2.1.ml g818) (hG _ g210) hX4_isBend ⟨Nat.le_of_ble_eq_true rfl, Nat.le_of_ble_eq_true rfl⟩, hG _ g820, hG _ g38⟩ (zpreV (va_recv hX.1 hP (ci := 4) (q0 := 1) rfl rfl) hX hP hD hS hA [1] rfl (by decide)) rfl rfl hl.1 rfl (lv_room (Nat.le_of_ble_eq_true rfl)) dX8_bend_5 ⟨Nat.le_of_ble_eq_true rfl, Nat.le_of_ble_eq_true rfl⟩) hP hD hS hA [1] [0, 2] rfl rfl (by decide) (by decide) (fun r1 _ H locs hp hP hD hS => ?_)
  refine W.cs (cells' := 0) (slots' := 0) rfl rfl ?_
  have hq2 : r1 = 0 := hp
  subst hq2
  have hP : va_P g.1 vwCl [(h0, .inr (8, [.ref xt, .ref xr, .ref xp, .ref xs, .ref xm, .ref xh, .ref xe, .ref xf, .ref pa, .ref dr, .int 0, .int 1, .int 0, .int 0])), (xf, .inl (g.2.1.1, 6, .inl f)), (pa, .inr (4, [.int 0, .int 0, .int 0, .int 0, .int 0, .int 0, .ref p_toolWidth, .ref p_told, .ref p_name, .ref p_parent, .ref p_side, .ref p_from, .ref p_width, .ref p_height, .ref p_radius, .ref p_toolSet]))] H := hP
  have hD : va_D A [(h0, .inr (8, [.ref xt, .ref xr, .ref xp, .ref xs, .ref xm, .ref xh, .ref xe, .ref xf, .ref pa, .ref dr, .int 0, .int 1, .int 0, .int 0])), (xf, .inl (g.2.1.1, 6, .inl f)), (pa, .inr (4, [.int 0, .int 0, .int 0, .int 0, .int 0, .int 0, .ref p_toolWidth, .ref p_told, .ref p_name, .ref p_parent, .ref p_side, .ref p_from, .ref p_width, .ref p_height, .ref p_radius, .ref p_toolSet]))] := hD
  refine lv_if_ne (tgt := 17) hx hb dX8_bend_8 (by decide) (fun c8 => (c8 (by decide)).elim) (fun c8 => ?_)
  refine lv_aload_n hx hb dX8_bend_11 rfl (lv_at hl 0 rfl) ?_
  refine lv_iconst (v := 2) hx hb dX8_bend_12 (by decide) ?_
  refine zfi (wr := [(pa, .inr (4, [.int 0, .int 0, .int 0, .int 0, .int 0, .int 0, .ref p_toolWidth, .ref p_told, .ref p_name, .ref p_parent, .ref p_side, .ref p_from, .ref p_width, .ref p_height, .ref p_radius, .ref p_toolSet]))]) (va_runV (As := [.int 2]) (rest := []) ⟨hx, hb, hml, hown, hG⟩ (kX8_refuse2 l g h0 xt xr xp xs xm xh xe xf pa dr f _) ⟨callB_of 1 hG (zGood g561) rfl rfl rfl (hG _ g202) (hG _ g558) hX8_refuse ⟨Nat.le_of_ble_eq_true rfl, Nat.le_of_ble_eq_true rfl⟩, hG _ g560, hG _ g1⟩ (zpreV (va_recv hX.1 hP (ci := 8) (q0 := 0) rfl rfl) hX hP hD hS hA [0, 1] rfl (by decide)) rfl rfl hl.1 rfl (lv_room (Nat.le_of_ble_eq_true rfl)) dX8_bend_13 ⟨Nat.le_of_ble_eq_true rfl, Nat.le_of_ble_eq_true rfl⟩) hP hD hS hA [0, 1] [2] rfl rfl (by decide) (by decide) (fun r3 u4 H locs hp hP hD hS => ?_)
  refine W.cs (cells' := 0) (slots' := 0) rfl rfl ?_
  have hq5 : r3 = (-1) := hp
  subst hq5
  have hP : va_P g.1 vwCl [(pa, .inr (4, [.int 0, .int 0, .int 0, .int 0, .int 0, .int 0, .ref p_toolWidth, .ref p_told, .ref p_name, .ref p_parent, .ref p_side, .ref p_from, .ref p_width, .ref p_height, .ref p_radius, .ref p_toolSet])), (h0, .inr (8, [.ref xt, .ref xr, .ref xp, .ref xs, .ref xm, .ref xh, .ref xe, .ref xf, .ref pa, .ref dr, .int 0, .int 1, .int 0, .int 0])), (xf, .inl (g.2.1.1, 6, .inl u4))] H := hP
  have hD : va_D A [(pa, .inr (4, [.int 0, .int 0, .int 0, .int 0, .int 0, .int 0, .ref p_toolWidth, .ref p_told, .ref p_name, .ref p_parent, .ref p_side, .ref p_from, .ref p_width, .ref p_height, .ref p_radius, .ref p_toolSet])), (h0, .inr (8, [.ref xt, .ref xr, .ref xp, .ref xs, .ref xm, .ref xh, .ref xe, .ref xf, .ref pa, .ref dr, .int 0, .int 1, .int 0, .int 0])), (xf, .inl (g.2.1.1, 6, .inl u4))] := hD
  exact zri (rm := { frames := 1, cells := 0, slots := 0, locals := 21 }) (v := (-1)) () hx hb hr hlocks (Nat.le_of_ble_eq_true rfl) (Nat.le_of_ble_eq_true rfl) (rfl) (hP.sub [] rfl) (hD.sub [] (by decide) rfl) hS dX8_bend_16
theorem dX8_open_0 : decode cX8_open 0 = .ok (.aload_n 0, 1) := by decide +kernel
theorem dX8_open_1 : decode cX8_open 1 = .ok (.getfield 67, 3) := by decide +kernel
theorem dX8_open_4 : decode cX8_open 4 = .ok (.iload_n 1, 1) := by decide +kernel
theorem dX8_open_5 : decode cX8_open 5 = .ok (.invokevirtual 143, 3) := by decide +kernel
theorem dX8_open_8 : decode cX8_open 8 = .ok (.ifCond .eq 30, 3) := by decide +kernel
theorem dX8_open_38 : decode cX8_open 38 = .ok (.aload_n 0, 1) := by decide +kernel
theorem dX8_open_39 : decode cX8_open 39 = .ok (.iconst 2, 1) := by decide +kernel
theorem dX8_open_40 : decode cX8_open 40 = .ok (.invokevirtual 93, 3) := by decide +kernel
theorem dX8_open_43 : decode cX8_open 43 = .ok (.ireturn, 1) := by decide +kernel
set_option maxHeartbeats 4000000 in
set_option maxRecDepth 100000 in
theorem kX8_open (l : Launch) (g : zL) (h0 : Nat) (x : Int32) (xt : Nat) (xr : Nat) (xp : Nat) (xs : Nat) (xm : Nat) (xh : Nat) (xe : Nat) (xf : Nat) (pa : Nat) (dr : Nat) (p_toolWidth : Nat) (p_told : Nat) (p_name : Nat) (p_parent : Nat) (p_side : Nat) (p_from : Nat) (p_width : Nat) (p_height : Nat) (p_radius : Nat) (p_toolSet : Nat) (f : Nat → Int32) : zCi l g yX8_open cX8_open 2 (some .boolean) { frames := 2, cells := 0, slots := 0, locals := 42 } [.ref h0, .int x] [(h0, .inr (8, [.ref xt, .ref xr, .ref xp, .ref xs, .ref xm, .ref xh, .ref xe, .ref xf, .ref pa, .ref dr, .int 0, .int 1, .int 0, .int 0])), (pa, .inr (4, [.int 0, .int 0, .int 0, .int 0, .int 0, .int 0, .ref p_toolWidth, .ref p_told, .ref p_name, .ref p_parent, .ref p_side, .ref p_from, .ref p_width, .ref p_height, .ref p_radius, .ref p_toolSet])), (xf, .inl (g.2.1.1, 6, .inl f))] (fun (r : Int32) (u : Unit) => r = 0) (fun (u : Unit) => []) := by
  refine zCi.mk (by decide) (Nat.le_of_ble_eq_true rfl) ?_
  intro p e s m below meth c A hE hP hD hS ls hl
  obtain ⟨hx, hb, hr, hml, hown, hG, hlocks, hnm, hX, hA⟩ := hE
  have hown : s.vm.findClass RX8 = some m.cls := hown
  have hl : lv_has ls 2 [(0, .ref h0), (1, .int x)] := hl
  refine lv_aload_n hx hb dX8_open_0 rfl (lv_at hl 0 rfl) ?_
  refine va_get (D := g.1) (ci := 8) (v := .ref pa) (C := RX8) (T := TX8) (N := 14) hx hb hG iX8 hown hX.1 hP 0 rfl rfl 8 (by decide) (hG _ g515) (fun _ h9 => h9) rfl dX8_open_1 ?_
  refine lv_iload_n hx hb dX8_open_4 rfl (lv_at hl 1 rfl) ?_
  refine zfi (wr := [(h0, .inr (8, [.ref xt, .ref xr, .ref xp, .ref xs, .ref xm, .ref xh, .ref xe, .ref xf, .ref pa, .ref dr, .int 0, .int 1, .int 0, .int 0])), (xf, .inl (g.2.1.1, 6, .inl f))]) (va_runVN (As := [.int x]) (rest := []) ⟨hx, hb, hml, hown, hG⟩ (kX4_isBend l g pa x p_toolWidth p_told p_name p_parent p_side p_from p_width p_height p_radius p_toolSet _) ⟨va_cnB 1 hG (zGood g821) rfl rfl rfl (hX.2.1.ml g818) (hG _ g210) hX4_isBend ⟨Nat.le_of_ble_eq_true rfl, Nat.le_of_ble_eq_true rfl⟩, hG _ g820, hG _ g38⟩ (zpreV (va_recv hX.1 hP (ci := 4) (q0 := 1) rfl rfl) hX hP hD hS hA [1] rfl (by decide)) rfl rfl hl.1 rfl (lv_room (Nat.le_of_ble_eq_true rfl)) dX8_open_5 ⟨Nat.le_of_ble_eq_true rfl, Nat.le_of_ble_eq_true rfl⟩) hP hD hS hA [1] [0, 2] rfl rfl (by decide) (by decide) (fun r1 _ H locs hp hP hD hS => ?_)
  refine W.cs (cells' := 0) (slots' := 0) rfl rfl ?_
  have hq2 : r1 = 0 := hp
  subst hq2
  have hP : va_P g.1 vwCl [(h0, .inr (8, [.ref xt, .ref xr, .ref xp, .ref xs, .ref xm, .ref xh, .ref xe, .ref xf, .ref pa, .ref dr, .int 0, .int 1, .int 0, .int 0])), (xf, .inl (g.2.1.1, 6, .inl f)), (pa, .inr (4, [.int 0, .int 0, .int 0, .int 0, .int 0, .int 0, .ref p_toolWidth, .ref p_told, .ref p_name, .ref p_parent, .ref p_side, .ref p_from, .ref p_width, .ref p_height, .ref p_radius, .ref p_toolSet]))] H := hP
  have hD : va_D A [(h0, .inr (8, [.ref xt, .ref xr, .ref xp, .ref xs, .ref xm, .ref xh, .ref xe, .ref xf, .ref pa, .ref dr, .int 0, .int 1, .int 0, .int 0])), (xf, .inl (g.2.1.1, 6, .inl f)), (pa, .inr (4, [.int 0, .int 0, .int 0, .int 0, .int 0, .int 0, .ref p_toolWidth, .ref p_told, .ref p_name, .ref p_parent, .ref p_side, .ref p_from, .ref p_width, .ref p_height, .ref p_radius, .ref p_toolSet]))] := hD
  refine lv_if_eq (tgt := 38) hx hb dX8_open_8 (by decide) (fun c8 => ?_) (fun c8 => (c8 (by decide)).elim)
  refine lv_aload_n hx hb dX8_open_38 rfl (lv_at hl 0 rfl) ?_
  refine lv_iconst (v := 2) hx hb dX8_open_39 (by decide) ?_
  refine zfi (wr := [(pa, .inr (4, [.int 0, .int 0, .int 0, .int 0, .int 0, .int 0, .ref p_toolWidth, .ref p_told, .ref p_name, .ref p_parent, .ref p_side, .ref p_from, .ref p_width, .ref p_height, .ref p_radius, .ref p_toolSet]))]) (va_runV (As := [.int 2]) (rest := []) ⟨hx, hb, hml, hown, hG⟩ (kX8_deny2 l g h0 xt xr xp xs xm xh xe xf pa dr f _) ⟨callB_of 1 hG (zGood g573) rfl rfl rfl (hG _ g202) (hG _ g570) hX8_deny ⟨Nat.le_of_ble_eq_true rfl, Nat.le_of_ble_eq_true rfl⟩, hG _ g572, hG _ g3⟩ (zpreV (va_recv hX.1 hP (ci := 8) (q0 := 0) rfl rfl) hX hP hD hS hA [0, 1] rfl (by decide)) rfl rfl hl.1 rfl (lv_room (Nat.le_of_ble_eq_true rfl)) dX8_open_40 ⟨Nat.le_of_ble_eq_true rfl, Nat.le_of_ble_eq_true rfl⟩) hP hD hS hA [0, 1] [2] rfl rfl (by decide) (by decide) (fun r3 u4 H locs hp hP hD hS => ?_)
  refine W.cs (cells' := 0) (slots' := 0) rfl rfl ?_
  have hq5 : r3 = 0 := hp
  subst hq5
  have hP : va_P g.1 vwCl [(pa, .inr (4, [.int 0, .int 0, .int 0, .int 0, .int 0, .int 0, .ref p_toolWidth, .ref p_told, .ref p_name, .ref p_parent, .ref p_side, .ref p_from, .ref p_width, .ref p_height, .ref p_radius, .ref p_toolSet])), (h0, .inr (8, [.ref xt, .ref xr, .ref xp, .ref xs, .ref xm, .ref xh, .ref xe, .ref xf, .ref pa, .ref dr, .int 0, .int 1, .int 0, .int 0])), (xf, .inl (g.2.1.1, 6, .inl u4))] H := hP
  have hD : va_D A [(pa, .inr (4, [.int 0, .int 0, .int 0, .int 0, .int 0, .int 0, .ref p_toolWidth, .ref p_told, .ref p_name, .ref p_parent, .ref p_side, .ref p_from, .ref p_width, .ref p_height, .ref p_radius, .ref p_toolSet])), (h0, .inr (8, [.ref xt, .ref xr, .ref xp, .ref xs, .ref xm, .ref xh, .ref xe, .ref xf, .ref pa, .ref dr, .int 0, .int 1, .int 0, .int 0])), (xf, .inl (g.2.1.1, 6, .inl u4))] := hD
  exact zrz (rm := { frames := 2, cells := 0, slots := 0, locals := 42 }) (v := 0) () hx hb hr hlocks (rfl) (Nat.le_of_ble_eq_true rfl) (Nat.le_of_ble_eq_true rfl) (rfl) (hP.sub [] rfl) (hD.sub [] (by decide) rfl) hS dX8_open_43
theorem dX8_turn_0 : decode cX8_turn 0 = .ok (.aload_n 0, 1) := by decide +kernel
theorem dX8_turn_1 : decode cX8_turn 1 = .ok (.iload_n 1, 1) := by decide +kernel
theorem dX8_turn_2 : decode cX8_turn 2 = .ok (.invokevirtual 267, 3) := by decide +kernel
theorem dX8_turn_5 : decode cX8_turn 5 = .ok (.ifCond .ne 9, 3) := by decide +kernel
theorem dX8_turn_8 : decode cX8_turn 8 = .ok (.aload_n 0, 1) := by decide +kernel
theorem dX8_turn_9 : decode cX8_turn 9 = .ok (.iconst 2, 1) := by decide +kernel
theorem dX8_turn_10 : decode cX8_turn 10 = .ok (.invokevirtual 93, 3) := by decide +kernel
theorem dX8_turn_13 : decode cX8_turn 13 = .ok (.ireturn, 1) := by decide +kernel
set_option maxHeartbeats 4000000 in
set_option maxRecDepth 100000 in
theorem kX8_turn (l : Launch) (g : zL) (h0 : Nat) (x : Int32) (xt : Nat) (xr : Nat) (xp : Nat) (xs : Nat) (xm : Nat) (xh : Nat) (xe : Nat) (xf : Nat) (pa : Nat) (dr : Nat) (p_toolWidth : Nat) (p_told : Nat) (p_name : Nat) (p_parent : Nat) (p_side : Nat) (p_from : Nat) (p_width : Nat) (p_height : Nat) (p_radius : Nat) (p_toolSet : Nat) (f : Nat → Int32) : zCi l g yX8_turn cX8_turn 2 (some .boolean) { frames := 2, cells := 0, slots := 0, locals := 42 } [.ref h0, .int x] [(h0, .inr (8, [.ref xt, .ref xr, .ref xp, .ref xs, .ref xm, .ref xh, .ref xe, .ref xf, .ref pa, .ref dr, .int 0, .int 1, .int 0, .int 0])), (pa, .inr (4, [.int 0, .int 0, .int 0, .int 0, .int 0, .int 0, .ref p_toolWidth, .ref p_told, .ref p_name, .ref p_parent, .ref p_side, .ref p_from, .ref p_width, .ref p_height, .ref p_radius, .ref p_toolSet])), (xf, .inl (g.2.1.1, 6, .inl f))] (fun (r : Int32) (u : Unit) => r = 0) (fun (u : Unit) => []) := by
  refine zCi.mk (by decide) (Nat.le_of_ble_eq_true rfl) ?_
  intro p e s m below meth c A hE hP hD hS ls hl
  obtain ⟨hx, hb, hr, hml, hown, hG, hlocks, hnm, hX, hA⟩ := hE
  have hown : s.vm.findClass RX8 = some m.cls := hown
  have hl : lv_has ls 2 [(0, .ref h0), (1, .int x)] := hl
  refine lv_aload_n hx hb dX8_turn_0 rfl (lv_at hl 0 rfl) ?_
  refine lv_iload_n hx hb dX8_turn_1 rfl (lv_at hl 1 rfl) ?_
  refine zfi (wr := [(xf, .inl (g.2.1.1, 6, .inl f))]) (va_runV (As := [.int x]) (rest := []) ⟨hx, hb, hml, hown, hG⟩ (kX8_isUnmade l g h0 x xt xr xp xs xm xh xe xf pa dr p_toolWidth p_told p_name p_parent p_side p_from p_width p_height p_radius p_toolSet _) ⟨callB_of 1 hG (zGood g1134) rfl rfl rfl (hG _ g202) (hG _ g1131) hX8_isUnmade ⟨Nat.le_of_ble_eq_true rfl, Nat.le_of_ble_eq_true rfl⟩, hG _ g1133, hG _ g87⟩ (zpreV (va_recv hX.1 hP (ci := 8) (q0 := 0) rfl rfl) hX hP hD hS hA [0, 1] rfl (by decide)) rfl rfl hl.1 rfl (lv_room (Nat.le_of_ble_eq_true rfl)) dX8_turn_2 ⟨Nat.le_of_ble_eq_true rfl, Nat.le_of_ble_eq_true rfl⟩) hP hD hS hA [0, 1] [2] rfl rfl (by decide) (by decide) (fun r1 _ H locs hp hP hD hS => ?_)
  refine W.cs (cells' := 0) (slots' := 0) rfl rfl ?_
  have hq2 : r1 = 0 := hp
  subst hq2
  have hP : va_P g.1 vwCl [(xf, .inl (g.2.1.1, 6, .inl f)), (h0, .inr (8, [.ref xt, .ref xr, .ref xp, .ref xs, .ref xm, .ref xh, .ref xe, .ref xf, .ref pa, .ref dr, .int 0, .int 1, .int 0, .int 0])), (pa, .inr (4, [.int 0, .int 0, .int 0, .int 0, .int 0, .int 0, .ref p_toolWidth, .ref p_told, .ref p_name, .ref p_parent, .ref p_side, .ref p_from, .ref p_width, .ref p_height, .ref p_radius, .ref p_toolSet]))] H := hP
  have hD : va_D A [(xf, .inl (g.2.1.1, 6, .inl f)), (h0, .inr (8, [.ref xt, .ref xr, .ref xp, .ref xs, .ref xm, .ref xh, .ref xe, .ref xf, .ref pa, .ref dr, .int 0, .int 1, .int 0, .int 0])), (pa, .inr (4, [.int 0, .int 0, .int 0, .int 0, .int 0, .int 0, .ref p_toolWidth, .ref p_told, .ref p_name, .ref p_parent, .ref p_side, .ref p_from, .ref p_width, .ref p_height, .ref p_radius, .ref p_toolSet]))] := hD
  refine lv_if_ne (tgt := 14) hx hb dX8_turn_5 (by decide) (fun c5 => (c5 (by decide)).elim) (fun c5 => ?_)
  refine lv_aload_n hx hb dX8_turn_8 rfl (lv_at hl 0 rfl) ?_
  refine lv_iconst (v := 2) hx hb dX8_turn_9 (by decide) ?_
  refine zfi (wr := [(pa, .inr (4, [.int 0, .int 0, .int 0, .int 0, .int 0, .int 0, .ref p_toolWidth, .ref p_told, .ref p_name, .ref p_parent, .ref p_side, .ref p_from, .ref p_width, .ref p_height, .ref p_radius, .ref p_toolSet]))]) (va_runV (As := [.int 2]) (rest := []) ⟨hx, hb, hml, hown, hG⟩ (kX8_deny2 l g h0 xt xr xp xs xm xh xe xf pa dr f _) ⟨callB_of 1 hG (zGood g573) rfl rfl rfl (hG _ g202) (hG _ g570) hX8_deny ⟨Nat.le_of_ble_eq_true rfl, Nat.le_of_ble_eq_true rfl⟩, hG _ g572, hG _ g3⟩ (zpreV (va_recv hX.1 hP (ci := 8) (q0 := 1) rfl rfl) hX hP hD hS hA [1, 0] rfl (by decide)) rfl rfl hl.1 rfl (lv_room (Nat.le_of_ble_eq_true rfl)) dX8_turn_10 ⟨Nat.le_of_ble_eq_true rfl, Nat.le_of_ble_eq_true rfl⟩) hP hD hS hA [1, 0] [2] rfl rfl (by decide) (by decide) (fun r3 u4 H locs hp hP hD hS => ?_)
  refine W.cs (cells' := 0) (slots' := 0) rfl rfl ?_
  have hq5 : r3 = 0 := hp
  subst hq5
  have hP : va_P g.1 vwCl [(pa, .inr (4, [.int 0, .int 0, .int 0, .int 0, .int 0, .int 0, .ref p_toolWidth, .ref p_told, .ref p_name, .ref p_parent, .ref p_side, .ref p_from, .ref p_width, .ref p_height, .ref p_radius, .ref p_toolSet])), (h0, .inr (8, [.ref xt, .ref xr, .ref xp, .ref xs, .ref xm, .ref xh, .ref xe, .ref xf, .ref pa, .ref dr, .int 0, .int 1, .int 0, .int 0])), (xf, .inl (g.2.1.1, 6, .inl u4))] H := hP
  have hD : va_D A [(pa, .inr (4, [.int 0, .int 0, .int 0, .int 0, .int 0, .int 0, .ref p_toolWidth, .ref p_told, .ref p_name, .ref p_parent, .ref p_side, .ref p_from, .ref p_width, .ref p_height, .ref p_radius, .ref p_toolSet])), (h0, .inr (8, [.ref xt, .ref xr, .ref xp, .ref xs, .ref xm, .ref xh, .ref xe, .ref xf, .ref pa, .ref dr, .int 0, .int 1, .int 0, .int 0])), (xf, .inl (g.2.1.1, 6, .inl u4))] := hD
  exact zrz (rm := { frames := 2, cells := 0, slots := 0, locals := 42 }) (v := 0) () hx hb hr hlocks (rfl) (Nat.le_of_ble_eq_true rfl) (Nat.le_of_ble_eq_true rfl) (rfl) (hP.sub [] rfl) (hD.sub [] (by decide) rfl) hS dX8_turn_13
theorem dX8_lay_0 : decode cX8_lay 0 = .ok (.aload_n 0, 1) := by decide +kernel
theorem dX8_lay_1 : decode cX8_lay 1 = .ok (.getfield 67, 3) := by decide +kernel
theorem dX8_lay_4 : decode cX8_lay 4 = .ok (.iload_n 1, 1) := by decide +kernel
theorem dX8_lay_5 : decode cX8_lay 5 = .ok (.invokevirtual 232, 3) := by decide +kernel
theorem dX8_lay_8 : decode cX8_lay 8 = .ok (.ifCond .eq 19, 3) := by decide +kernel
theorem dX8_lay_27 : decode cX8_lay 27 = .ok (.aload_n 0, 1) := by decide +kernel
theorem dX8_lay_28 : decode cX8_lay 28 = .ok (.iconst 2, 1) := by decide +kernel
theorem dX8_lay_29 : decode cX8_lay 29 = .ok (.invokevirtual 93, 3) := by decide +kernel
theorem dX8_lay_32 : decode cX8_lay 32 = .ok (.ireturn, 1) := by decide +kernel
set_option maxHeartbeats 4000000 in
set_option maxRecDepth 100000 in
theorem kX8_lay (l : Launch) (g : zL) (h0 : Nat) (x : Int32) (xt : Nat) (xr : Nat) (xp : Nat) (xs : Nat) (xm : Nat) (xh : Nat) (xe : Nat) (xf : Nat) (pa : Nat) (dr : Nat) (p_toolWidth : Nat) (p_told : Nat) (p_name : Nat) (p_parent : Nat) (p_side : Nat) (p_from : Nat) (p_width : Nat) (p_height : Nat) (p_radius : Nat) (p_toolSet : Nat) (f : Nat → Int32) : zCi l g yX8_lay cX8_lay 2 (some .boolean) { frames := 2, cells := 0, slots := 0, locals := 42 } [.ref h0, .int x] [(h0, .inr (8, [.ref xt, .ref xr, .ref xp, .ref xs, .ref xm, .ref xh, .ref xe, .ref xf, .ref pa, .ref dr, .int 0, .int 1, .int 0, .int 0])), (pa, .inr (4, [.int 0, .int 0, .int 0, .int 0, .int 0, .int 0, .ref p_toolWidth, .ref p_told, .ref p_name, .ref p_parent, .ref p_side, .ref p_from, .ref p_width, .ref p_height, .ref p_radius, .ref p_toolSet])), (xf, .inl (g.2.1.1, 6, .inl f))] (fun (r : Int32) (u : Unit) => r = 0) (fun (u : Unit) => []) := by
  refine zCi.mk (by decide) (Nat.le_of_ble_eq_true rfl) ?_
  intro p e s m below meth c A hE hP hD hS ls hl
  obtain ⟨hx, hb, hr, hml, hown, hG, hlocks, hnm, hX, hA⟩ := hE
  have hown : s.vm.findClass RX8 = some m.cls := hown
  have hl : lv_has ls 2 [(0, .ref h0), (1, .int x)] := hl
  refine lv_aload_n hx hb dX8_lay_0 rfl (lv_at hl 0 rfl) ?_
  refine va_get (D := g.1) (ci := 8) (v := .ref pa) (C := RX8) (T := TX8) (N := 14) hx hb hG iX8 hown hX.1 hP 0 rfl rfl 8 (by decide) (hG _ g515) (fun _ h9 => h9) rfl dX8_lay_1 ?_
  refine lv_iload_n hx hb dX8_lay_4 rfl (lv_at hl 1 rfl) ?_
  refine zfi (wr := [(h0, .inr (8, [.ref xt, .ref xr, .ref xp, .ref xs, .ref xm, .ref xh, .ref xe, .ref xf, .ref pa, .ref dr, .int 0, .int 1, .int 0, .int 0])), (xf, .inl (g.2.1.1, 6, .inl f))]) (va_runVN (As := [.int x]) (rest := []) ⟨hx, hb, hml, hown, hG⟩ (kX4_isState l g pa x p_toolWidth p_told p_name p_parent p_side p_from p_width p_height p_radius p_toolSet _) ⟨va_cnB 1 hG (zGood g1011) rfl rfl rfl (hX.2.1.ml g1008) (hG _ g210) hX4_isState ⟨Nat.le_of_ble_eq_true rfl, Nat.le_of_ble_eq_true rfl⟩, hG _ g1010, hG _ g66⟩ (zpreV (va_recv hX.1 hP (ci := 4) (q0 := 1) rfl rfl) hX hP hD hS hA [1] rfl (by decide)) rfl rfl hl.1 rfl (lv_room (Nat.le_of_ble_eq_true rfl)) dX8_lay_5 ⟨Nat.le_of_ble_eq_true rfl, Nat.le_of_ble_eq_true rfl⟩) hP hD hS hA [1] [0, 2] rfl rfl (by decide) (by decide) (fun r1 _ H locs hp hP hD hS => ?_)
  refine W.cs (cells' := 0) (slots' := 0) rfl rfl ?_
  have hq2 : r1 = 0 := hp
  subst hq2
  have hP : va_P g.1 vwCl [(h0, .inr (8, [.ref xt, .ref xr, .ref xp, .ref xs, .ref xm, .ref xh, .ref xe, .ref xf, .ref pa, .ref dr, .int 0, .int 1, .int 0, .int 0])), (xf, .inl (g.2.1.1, 6, .inl f)), (pa, .inr (4, [.int 0, .int 0, .int 0, .int 0, .int 0, .int 0, .ref p_toolWidth, .ref p_told, .ref p_name, .ref p_parent, .ref p_side, .ref p_from, .ref p_width, .ref p_height, .ref p_radius, .ref p_toolSet]))] H := hP
  have hD : va_D A [(h0, .inr (8, [.ref xt, .ref xr, .ref xp, .ref xs, .ref xm, .ref xh, .ref xe, .ref xf, .ref pa, .ref dr, .int 0, .int 1, .int 0, .int 0])), (xf, .inl (g.2.1.1, 6, .inl f)), (pa, .inr (4, [.int 0, .int 0, .int 0, .int 0, .int 0, .int 0, .ref p_toolWidth, .ref p_told, .ref p_name, .ref p_parent, .ref p_side, .ref p_from, .ref p_width, .ref p_height, .ref p_radius, .ref p_toolSet]))] := hD
  refine lv_if_eq (tgt := 27) hx hb dX8_lay_8 (by decide) (fun c8 => ?_) (fun c8 => (c8 (by decide)).elim)
  refine lv_aload_n hx hb dX8_lay_27 rfl (lv_at hl 0 rfl) ?_
  refine lv_iconst (v := 2) hx hb dX8_lay_28 (by decide) ?_
  refine zfi (wr := [(pa, .inr (4, [.int 0, .int 0, .int 0, .int 0, .int 0, .int 0, .ref p_toolWidth, .ref p_told, .ref p_name, .ref p_parent, .ref p_side, .ref p_from, .ref p_width, .ref p_height, .ref p_radius, .ref p_toolSet]))]) (va_runV (As := [.int 2]) (rest := []) ⟨hx, hb, hml, hown, hG⟩ (kX8_deny2 l g h0 xt xr xp xs xm xh xe xf pa dr f _) ⟨callB_of 1 hG (zGood g573) rfl rfl rfl (hG _ g202) (hG _ g570) hX8_deny ⟨Nat.le_of_ble_eq_true rfl, Nat.le_of_ble_eq_true rfl⟩, hG _ g572, hG _ g3⟩ (zpreV (va_recv hX.1 hP (ci := 8) (q0 := 0) rfl rfl) hX hP hD hS hA [0, 1] rfl (by decide)) rfl rfl hl.1 rfl (lv_room (Nat.le_of_ble_eq_true rfl)) dX8_lay_29 ⟨Nat.le_of_ble_eq_true rfl, Nat.le_of_ble_eq_true rfl⟩) hP hD hS hA [0, 1] [2] rfl rfl (by decide) (by decide) (fun r3 u4 H locs hp hP hD hS => ?_)
  refine W.cs (cells' := 0) (slots' := 0) rfl rfl ?_
  have hq5 : r3 = 0 := hp
  subst hq5
  have hP : va_P g.1 vwCl [(pa, .inr (4, [.int 0, .int 0, .int 0, .int 0, .int 0, .int 0, .ref p_toolWidth, .ref p_told, .ref p_name, .ref p_parent, .ref p_side, .ref p_from, .ref p_width, .ref p_height, .ref p_radius, .ref p_toolSet])), (h0, .inr (8, [.ref xt, .ref xr, .ref xp, .ref xs, .ref xm, .ref xh, .ref xe, .ref xf, .ref pa, .ref dr, .int 0, .int 1, .int 0, .int 0])), (xf, .inl (g.2.1.1, 6, .inl u4))] H := hP
  have hD : va_D A [(pa, .inr (4, [.int 0, .int 0, .int 0, .int 0, .int 0, .int 0, .ref p_toolWidth, .ref p_told, .ref p_name, .ref p_parent, .ref p_side, .ref p_from, .ref p_width, .ref p_height, .ref p_radius, .ref p_toolSet])), (h0, .inr (8, [.ref xt, .ref xr, .ref xp, .ref xs, .ref xm, .ref xh, .ref xe, .ref xf, .ref pa, .ref dr, .int 0, .int 1, .int 0, .int 0])), (xf, .inl (g.2.1.1, 6, .inl u4))] := hD
  exact zrz (rm := { frames := 2, cells := 0, slots := 0, locals := 42 }) (v := 0) () hx hb hr hlocks (rfl) (Nat.le_of_ble_eq_true rfl) (Nat.le_of_ble_eq_true rfl) (rfl) (hP.sub [] rfl) (hD.sub [] (by decide) rfl) hS dX8_lay_32
theorem dX8_follow_0 : decode cX8_follow 0 = .ok (.iload_n 1, 1) := by decide +kernel
theorem dX8_follow_1 : decode cX8_follow 1 = .ok (.iconst 1, 1) := by decide +kernel
theorem dX8_follow_2 : decode cX8_follow 2 = .ok (.if_icmp .lt 31, 3) := by decide +kernel
theorem dX8_follow_33 : decode cX8_follow 33 = .ok (.aload_n 0, 1) := by decide +kernel
theorem dX8_follow_34 : decode cX8_follow 34 = .ok (.iconst 3, 1) := by decide +kernel
theorem dX8_follow_35 : decode cX8_follow 35 = .ok (.invokevirtual 82, 3) := by decide +kernel
theorem dX8_follow_38 : decode cX8_follow 38 = .ok (.ireturn, 1) := by decide +kernel
theorem dX8_follow_5 : decode cX8_follow 5 = .ok (.aload_n 0, 1) := by decide +kernel
theorem dX8_follow_6 : decode cX8_follow 6 = .ok (.invokevirtual 255, 3) := by decide +kernel
theorem dX8_follow_9 : decode cX8_follow 9 = .ok (.ifCond .eq 24, 3) := by decide +kernel
set_option maxHeartbeats 4000000 in
set_option maxRecDepth 100000 in
theorem kX8_follow (l : Launch) (g : zL) (h0 : Nat) (x : Int32) (xt : Nat) (xr : Nat) (xp : Nat) (xs : Nat) (xm : Nat) (xh : Nat) (xe : Nat) (xf : Nat) (pa : Nat) (dr : Nat) (p_toolWidth : Nat) (p_told : Nat) (p_name : Nat) (p_parent : Nat) (p_side : Nat) (p_from : Nat) (p_width : Nat) (p_height : Nat) (p_radius : Nat) (p_toolSet : Nat) (f : Nat → Int32) : zCi l g yX8_follow cX8_follow 2 (some .int) { frames := 2, cells := 0, slots := 0, locals := 40 } [.ref h0, .int x] [(h0, .inr (8, [.ref xt, .ref xr, .ref xp, .ref xs, .ref xm, .ref xh, .ref xe, .ref xf, .ref pa, .ref dr, .int 0, .int 1, .int 0, .int 0])), (pa, .inr (4, [.int 0, .int 0, .int 0, .int 0, .int 0, .int 0, .ref p_toolWidth, .ref p_told, .ref p_name, .ref p_parent, .ref p_side, .ref p_from, .ref p_width, .ref p_height, .ref p_radius, .ref p_toolSet])), (xf, .inl (g.2.1.1, 6, .inl f))] (fun (r : Int32) (u : Unit) => r = (-1)) (fun (u : Unit) => []) := by
  refine zCi.mk (by decide) (Nat.le_of_ble_eq_true rfl) ?_
  intro p e s m below meth c A hE hP hD hS ls hl
  obtain ⟨hx, hb, hr, hml, hown, hG, hlocks, hnm, hX, hA⟩ := hE
  have hown : s.vm.findClass RX8 = some m.cls := hown
  have hl : lv_has ls 2 [(0, .ref h0), (1, .int x)] := hl
  refine lv_iload_n hx hb dX8_follow_0 rfl (lv_at hl 1 rfl) ?_
  refine lv_iconst (v := 1) hx hb dX8_follow_1 (by decide) ?_
  refine lv_icmp_lt (tgt := 33) hx hb dX8_follow_2 (by decide) (fun c2 => ?_) (fun c2 => ?_)
  · skip
    have c2i : x.toInt < 1 := (zc_lt (rfl : x.toInt = _) (show (1 : Int32).toInt = 1 from by decide)).mp c2
    refine lv_aload_n hx hb dX8_follow_33 rfl (lv_at hl 0 rfl) ?_
    refine lv_iconst (v := 3) hx hb dX8_follow_34 (by decide) ?_
    refine zfi (wr := [(pa, .inr (4, [.int 0, .int 0, .int 0, .int 0, .int 0, .int 0, .ref p_toolWidth, .ref p_told, .ref p_name, .ref p_parent, .ref p_side, .ref p_from, .ref p_width, .ref p_height, .ref p_radius, .ref p_toolSet]))]) (va_runV (As := [.int 3]) (rest := []) ⟨hx, hb, hml, hown, hG⟩ (kX8_refuse3 l g h0 xt xr xp xs xm xh xe xf pa dr f _) ⟨callB_of 1 hG (zGood g561) rfl rfl rfl (hG _ g202) (hG _ g558) hX8_refuse ⟨Nat.le_of_ble_eq_true rfl, Nat.le_of_ble_eq_true rfl⟩, hG _ g560, hG _ g1⟩ (zpreV (va_recv hX.1 hP (ci := 8) (q0 := 0) rfl rfl) hX hP hD hS hA [0, 2] rfl (by decide)) rfl rfl hl.1 rfl (lv_room (Nat.le_of_ble_eq_true rfl)) dX8_follow_35 ⟨Nat.le_of_ble_eq_true rfl, Nat.le_of_ble_eq_true rfl⟩) hP hD hS hA [0, 2] [1] rfl rfl (by decide) (by decide) (fun r1 u2 H locs hp hP hD hS => ?_)
    refine W.cs (cells' := 0) (slots' := 0) rfl rfl ?_
    have hq3 : r1 = (-1) := hp
    subst hq3
    have hP : va_P g.1 vwCl [(pa, .inr (4, [.int 0, .int 0, .int 0, .int 0, .int 0, .int 0, .ref p_toolWidth, .ref p_told, .ref p_name, .ref p_parent, .ref p_side, .ref p_from, .ref p_width, .ref p_height, .ref p_radius, .ref p_toolSet])), (h0, .inr (8, [.ref xt, .ref xr, .ref xp, .ref xs, .ref xm, .ref xh, .ref xe, .ref xf, .ref pa, .ref dr, .int 0, .int 1, .int 0, .int 0])), (xf, .inl (g.2.1.1, 6, .inl u2))] H := hP
    have hD : va_D A [(pa, .inr (4, [.int 0, .int 0, .int 0, .int 0, .int 0, .int 0, .ref p_toolWidth, .ref p_told, .ref p_name, .ref p_parent, .ref p_side, .ref p_from, .ref p_width, .ref p_height, .ref p_radius, .ref p_toolSet])), (h0, .inr (8, [.ref xt, .ref xr, .ref xp, .ref xs, .ref xm, .ref xh, .ref xe, .ref xf, .ref pa, .ref dr, .int 0, .int 1, .int 0, .int 0])), (xf, .inl (g.2.1.1, 6, .inl u2))] := hD
    exact zri (rm := { frames := 2, cells := 0, slots := 0, locals := 40 }) (v := (-1)) () hx hb hr hlocks (Nat.le_of_ble_eq_true rfl) (Nat.le_of_ble_eq_true rfl) (rfl) (hP.sub [] rfl) (hD.sub [] (by decide) rfl) hS dX8_follow_38
  · skip
    have c2i : ¬ x.toInt < 1 := fun q => c2 ((zc_lt (rfl : x.toInt = _) (show (1 : Int32).toInt = 1 from by decide)).mpr q)
    refine lv_aload_n hx hb dX8_follow_5 rfl (lv_at hl 0 rfl) ?_
    refine zfi (wr := [(xf, .inl (g.2.1.1, 6, .inl f))]) (va_runV (As := []) (rest := []) ⟨hx, hb, hml, hown, hG⟩ (kX8_searchOrders l g h0 xt xr xp xs xm xh xe xf pa dr p_toolWidth p_told p_name p_parent p_side p_from p_width p_height p_radius p_toolSet _) ⟨callB_of 0 hG (zGood g1065) rfl rfl rfl (hG _ g202) (hG _ g1062) hX8_searchOrders ⟨Nat.le_of_ble_eq_true rfl, Nat.le_of_ble_eq_true rfl⟩, hG _ g1064, hG _ g75⟩ (zpreV (va_recv hX.1 hP (ci := 8) (q0 := 0) rfl rfl) hX hP hD hS hA [0, 1] rfl (by decide)) rfl rfl hl.1 rfl (lv_room (Nat.le_of_ble_eq_true rfl)) dX8_follow_6 ⟨Nat.le_of_ble_eq_true rfl, Nat.le_of_ble_eq_true rfl⟩) hP hD hS hA [0, 1] [2] rfl rfl (by decide) (by decide) (fun r4 _ H locs hp hP hD hS => ?_)
    refine W.cs (cells' := 0) (slots' := 0) rfl rfl ?_
    have hq5 : r4 = 0 := hp
    subst hq5
    have hP : va_P g.1 vwCl [(xf, .inl (g.2.1.1, 6, .inl f)), (h0, .inr (8, [.ref xt, .ref xr, .ref xp, .ref xs, .ref xm, .ref xh, .ref xe, .ref xf, .ref pa, .ref dr, .int 0, .int 1, .int 0, .int 0])), (pa, .inr (4, [.int 0, .int 0, .int 0, .int 0, .int 0, .int 0, .ref p_toolWidth, .ref p_told, .ref p_name, .ref p_parent, .ref p_side, .ref p_from, .ref p_width, .ref p_height, .ref p_radius, .ref p_toolSet]))] H := hP
    have hD : va_D A [(xf, .inl (g.2.1.1, 6, .inl f)), (h0, .inr (8, [.ref xt, .ref xr, .ref xp, .ref xs, .ref xm, .ref xh, .ref xe, .ref xf, .ref pa, .ref dr, .int 0, .int 1, .int 0, .int 0])), (pa, .inr (4, [.int 0, .int 0, .int 0, .int 0, .int 0, .int 0, .ref p_toolWidth, .ref p_told, .ref p_name, .ref p_parent, .ref p_side, .ref p_from, .ref p_width, .ref p_height, .ref p_radius, .ref p_toolSet]))] := hD
    refine lv_if_eq (tgt := 33) hx hb dX8_follow_9 (by decide) (fun c9 => ?_) (fun c9 => (c9 (by decide)).elim)
    refine lv_aload_n hx hb dX8_follow_33 rfl (lv_at hl 0 rfl) ?_
    refine lv_iconst (v := 3) hx hb dX8_follow_34 (by decide) ?_
    refine zfi (wr := [(pa, .inr (4, [.int 0, .int 0, .int 0, .int 0, .int 0, .int 0, .ref p_toolWidth, .ref p_told, .ref p_name, .ref p_parent, .ref p_side, .ref p_from, .ref p_width, .ref p_height, .ref p_radius, .ref p_toolSet]))]) (va_runV (As := [.int 3]) (rest := []) ⟨hx, hb, hml, hown, hG⟩ (kX8_refuse3 l g h0 xt xr xp xs xm xh xe xf pa dr f _) ⟨callB_of 1 hG (zGood g561) rfl rfl rfl (hG _ g202) (hG _ g558) hX8_refuse ⟨Nat.le_of_ble_eq_true rfl, Nat.le_of_ble_eq_true rfl⟩, hG _ g560, hG _ g1⟩ (zpreV (va_recv hX.1 hP (ci := 8) (q0 := 1) rfl rfl) hX hP hD hS hA [1, 0] rfl (by decide)) rfl rfl hl.1 rfl (lv_room (Nat.le_of_ble_eq_true rfl)) dX8_follow_35 ⟨Nat.le_of_ble_eq_true rfl, Nat.le_of_ble_eq_true rfl⟩) hP hD hS hA [1, 0] [2] rfl rfl (by decide) (by decide) (fun r6 u7 H locs hp hP hD hS => ?_)
    refine W.cs (cells' := 0) (slots' := 0) rfl rfl ?_
    have hq8 : r6 = (-1) := hp
    subst hq8
    have hP : va_P g.1 vwCl [(pa, .inr (4, [.int 0, .int 0, .int 0, .int 0, .int 0, .int 0, .ref p_toolWidth, .ref p_told, .ref p_name, .ref p_parent, .ref p_side, .ref p_from, .ref p_width, .ref p_height, .ref p_radius, .ref p_toolSet])), (h0, .inr (8, [.ref xt, .ref xr, .ref xp, .ref xs, .ref xm, .ref xh, .ref xe, .ref xf, .ref pa, .ref dr, .int 0, .int 1, .int 0, .int 0])), (xf, .inl (g.2.1.1, 6, .inl u7))] H := hP
    have hD : va_D A [(pa, .inr (4, [.int 0, .int 0, .int 0, .int 0, .int 0, .int 0, .ref p_toolWidth, .ref p_told, .ref p_name, .ref p_parent, .ref p_side, .ref p_from, .ref p_width, .ref p_height, .ref p_radius, .ref p_toolSet])), (h0, .inr (8, [.ref xt, .ref xr, .ref xp, .ref xs, .ref xm, .ref xh, .ref xe, .ref xf, .ref pa, .ref dr, .int 0, .int 1, .int 0, .int 0])), (xf, .inl (g.2.1.1, 6, .inl u7))] := hD
    exact zri (rm := { frames := 2, cells := 0, slots := 0, locals := 40 }) (v := (-1)) () hx hb hr hlocks (Nat.le_of_ble_eq_true rfl) (Nat.le_of_ble_eq_true rfl) (rfl) (hP.sub [] rfl) (hD.sub [] (by decide) rfl) hS dX8_follow_38
theorem dX8_allow_0 : decode cX8_allow 0 = .ok (.aload_n 0, 1) := by decide +kernel
theorem dX8_allow_1 : decode cX8_allow 1 = .ok (.getfield 67, 3) := by decide +kernel
theorem dX8_allow_4 : decode cX8_allow 4 = .ok (.invokevirtual 183, 3) := by decide +kernel
theorem dX8_allow_7 : decode cX8_allow 7 = .ok (.ifCond .eq 24, 3) := by decide +kernel
theorem dX8_allow_31 : decode cX8_allow 31 = .ok (.iconst 0, 1) := by decide +kernel
theorem dX8_allow_32 : decode cX8_allow 32 = .ok (.istore_n 3, 1) := by decide +kernel
theorem dX8_allow_33 : decode cX8_allow 33 = .ok (.iload_n 3, 1) := by decide +kernel
theorem dX8_allow_34 : decode cX8_allow 34 = .ok (.ifCond .eq 15, 3) := by decide +kernel
theorem dX8_allow_49 : decode cX8_allow 49 = .ok (.aload_n 0, 1) := by decide +kernel
theorem dX8_allow_50 : decode cX8_allow 50 = .ok (.iconst 3, 1) := by decide +kernel
theorem dX8_allow_51 : decode cX8_allow 51 = .ok (.invokevirtual 93, 3) := by decide +kernel
theorem dX8_allow_54 : decode cX8_allow 54 = .ok (.ireturn, 1) := by decide +kernel
set_option maxHeartbeats 4000000 in
set_option maxRecDepth 100000 in
theorem kX8_allow (l : Launch) (g : zL) (h0 : Nat) (x : Int32) (y : Int32) (xt : Nat) (xr : Nat) (xp : Nat) (xs : Nat) (xm : Nat) (xh : Nat) (xe : Nat) (xf : Nat) (pa : Nat) (dr : Nat) (p_toolWidth : Nat) (p_told : Nat) (p_name : Nat) (p_parent : Nat) (p_side : Nat) (p_from : Nat) (p_width : Nat) (p_height : Nat) (p_radius : Nat) (p_toolSet : Nat) (f : Nat → Int32) : zCi l g yX8_allow cX8_allow 4 (some .boolean) { frames := 2, cells := 0, slots := 0, locals := 42 } [.ref h0, .int x, .int y] [(h0, .inr (8, [.ref xt, .ref xr, .ref xp, .ref xs, .ref xm, .ref xh, .ref xe, .ref xf, .ref pa, .ref dr, .int 0, .int 1, .int 0, .int 0])), (pa, .inr (4, [.int 0, .int 0, .int 0, .int 0, .int 0, .int 0, .ref p_toolWidth, .ref p_told, .ref p_name, .ref p_parent, .ref p_side, .ref p_from, .ref p_width, .ref p_height, .ref p_radius, .ref p_toolSet])), (xf, .inl (g.2.1.1, 6, .inl f))] (fun (r : Int32) (u : Unit) => r = 0) (fun (u : Unit) => []) := by
  refine zCi.mk (by decide) (Nat.le_of_ble_eq_true rfl) ?_
  intro p e s m below meth c A hE hP hD hS ls hl
  obtain ⟨hx, hb, hr, hml, hown, hG, hlocks, hnm, hX, hA⟩ := hE
  have hown : s.vm.findClass RX8 = some m.cls := hown
  have hl : lv_has ls 4 [(0, .ref h0), (1, .int x), (2, .int y)] := hl
  refine lv_aload_n hx hb dX8_allow_0 rfl (lv_at hl 0 rfl) ?_
  refine va_get (D := g.1) (ci := 8) (v := .ref pa) (C := RX8) (T := TX8) (N := 14) hx hb hG iX8 hown hX.1 hP 0 rfl rfl 8 (by decide) (hG _ g515) (fun _ h9 => h9) rfl dX8_allow_1 ?_
  refine zfi (wr := [(h0, .inr (8, [.ref xt, .ref xr, .ref xp, .ref xs, .ref xm, .ref xh, .ref xe, .ref xf, .ref pa, .ref dr, .int 0, .int 1, .int 0, .int 0])), (xf, .inl (g.2.1.1, 6, .inl f))]) (va_runVN (As := []) (rest := []) ⟨hx, hb, hml, hown, hG⟩ (kX4_isThere l g pa p_toolWidth p_told p_name p_parent p_side p_from p_width p_height p_radius p_toolSet _) ⟨va_cnB 0 hG (zGood g861) rfl rfl rfl (hX.2.1.ml g858) (hG _ g210) hX4_isThere ⟨Nat.le_of_ble_eq_true rfl, Nat.le_of_ble_eq_true rfl⟩, hG _ g860, hG _ g45⟩ (zpreV (va_recv hX.1 hP (ci := 4) (q0 := 1) rfl rfl) hX hP hD hS hA [1] rfl (by decide)) rfl rfl hl.1 rfl (lv_room (Nat.le_of_ble_eq_true rfl)) dX8_allow_4 ⟨Nat.le_of_ble_eq_true rfl, Nat.le_of_ble_eq_true rfl⟩) hP hD hS hA [1] [0, 2] rfl rfl (by decide) (by decide) (fun r1 _ H locs hp hP hD hS => ?_)
  refine W.cs (cells' := 0) (slots' := 0) rfl rfl ?_
  have hq2 : r1 = 0 := hp
  subst hq2
  have hP : va_P g.1 vwCl [(h0, .inr (8, [.ref xt, .ref xr, .ref xp, .ref xs, .ref xm, .ref xh, .ref xe, .ref xf, .ref pa, .ref dr, .int 0, .int 1, .int 0, .int 0])), (xf, .inl (g.2.1.1, 6, .inl f)), (pa, .inr (4, [.int 0, .int 0, .int 0, .int 0, .int 0, .int 0, .ref p_toolWidth, .ref p_told, .ref p_name, .ref p_parent, .ref p_side, .ref p_from, .ref p_width, .ref p_height, .ref p_radius, .ref p_toolSet]))] H := hP
  have hD : va_D A [(h0, .inr (8, [.ref xt, .ref xr, .ref xp, .ref xs, .ref xm, .ref xh, .ref xe, .ref xf, .ref pa, .ref dr, .int 0, .int 1, .int 0, .int 0])), (xf, .inl (g.2.1.1, 6, .inl f)), (pa, .inr (4, [.int 0, .int 0, .int 0, .int 0, .int 0, .int 0, .ref p_toolWidth, .ref p_told, .ref p_name, .ref p_parent, .ref p_side, .ref p_from, .ref p_width, .ref p_height, .ref p_radius, .ref p_toolSet]))] := hD
  refine lv_if_eq (tgt := 31) hx hb dX8_allow_7 (by decide) (fun c7 => ?_) (fun c7 => (c7 (by decide)).elim)
  refine lv_iconst (v := 0) hx hb dX8_allow_31 (by decide) ?_
  refine lv_istore_n (lv' := [(3, .int 0), (0, .ref h0), (1, .int x), (2, .int y)]) hx hb dX8_allow_32 rfl hl (by decide) rfl (fun ls hl => ?_)
  refine lv_iload_n hx hb dX8_allow_33 rfl (lv_at hl 0 rfl) ?_
  refine lv_if_eq (tgt := 49) hx hb dX8_allow_34 (by decide) (fun c34 => ?_) (fun c34 => (c34 (by decide)).elim)
  refine lv_aload_n hx hb dX8_allow_49 rfl (lv_at hl 1 rfl) ?_
  refine lv_iconst (v := 3) hx hb dX8_allow_50 (by decide) ?_
  refine zfi (wr := [(pa, .inr (4, [.int 0, .int 0, .int 0, .int 0, .int 0, .int 0, .ref p_toolWidth, .ref p_told, .ref p_name, .ref p_parent, .ref p_side, .ref p_from, .ref p_width, .ref p_height, .ref p_radius, .ref p_toolSet]))]) (va_runV (As := [.int 3]) (rest := []) ⟨hx, hb, hml, hown, hG⟩ (kX8_deny3 l g h0 xt xr xp xs xm xh xe xf pa dr f _) ⟨callB_of 1 hG (zGood g573) rfl rfl rfl (hG _ g202) (hG _ g570) hX8_deny ⟨Nat.le_of_ble_eq_true rfl, Nat.le_of_ble_eq_true rfl⟩, hG _ g572, hG _ g3⟩ (zpreV (va_recv hX.1 hP (ci := 8) (q0 := 0) rfl rfl) hX hP hD hS hA [0, 1] rfl (by decide)) rfl rfl hl.1 rfl (lv_room (Nat.le_of_ble_eq_true rfl)) dX8_allow_51 ⟨Nat.le_of_ble_eq_true rfl, Nat.le_of_ble_eq_true rfl⟩) hP hD hS hA [0, 1] [2] rfl rfl (by decide) (by decide) (fun r3 u4 H locs hp hP hD hS => ?_)
  refine W.cs (cells' := 0) (slots' := 0) rfl rfl ?_
  have hq5 : r3 = 0 := hp
  subst hq5
  have hP : va_P g.1 vwCl [(pa, .inr (4, [.int 0, .int 0, .int 0, .int 0, .int 0, .int 0, .ref p_toolWidth, .ref p_told, .ref p_name, .ref p_parent, .ref p_side, .ref p_from, .ref p_width, .ref p_height, .ref p_radius, .ref p_toolSet])), (h0, .inr (8, [.ref xt, .ref xr, .ref xp, .ref xs, .ref xm, .ref xh, .ref xe, .ref xf, .ref pa, .ref dr, .int 0, .int 1, .int 0, .int 0])), (xf, .inl (g.2.1.1, 6, .inl u4))] H := hP
  have hD : va_D A [(pa, .inr (4, [.int 0, .int 0, .int 0, .int 0, .int 0, .int 0, .ref p_toolWidth, .ref p_told, .ref p_name, .ref p_parent, .ref p_side, .ref p_from, .ref p_width, .ref p_height, .ref p_radius, .ref p_toolSet])), (h0, .inr (8, [.ref xt, .ref xr, .ref xp, .ref xs, .ref xm, .ref xh, .ref xe, .ref xf, .ref pa, .ref dr, .int 0, .int 1, .int 0, .int 0])), (xf, .inl (g.2.1.1, 6, .inl u4))] := hD
  exact zrz (rm := { frames := 2, cells := 0, slots := 0, locals := 42 }) (v := 0) () hx hb hr hlocks (rfl) (Nat.le_of_ble_eq_true rfl) (Nat.le_of_ble_eq_true rfl) (rfl) (hP.sub [] rfl) (hD.sub [] (by decide) rfl) hS dX8_allow_54
theorem dX8_press_0 : decode cX8_press 0 = .ok (.aload_n 0, 1) := by decide +kernel
theorem dX8_press_1 : decode cX8_press 1 = .ok (.getfield 67, 3) := by decide +kernel
theorem dX8_press_4 : decode cX8_press 4 = .ok (.invokevirtual 183, 3) := by decide +kernel
theorem dX8_press_7 : decode cX8_press 7 = .ok (.ifCond .eq 25, 3) := by decide +kernel
theorem dX8_press_32 : decode cX8_press 32 = .ok (.aload_n 0, 1) := by decide +kernel
theorem dX8_press_33 : decode cX8_press 33 = .ok (.iconst 3, 1) := by decide +kernel
theorem dX8_press_34 : decode cX8_press 34 = .ok (.invokevirtual 93, 3) := by decide +kernel
theorem dX8_press_37 : decode cX8_press 37 = .ok (.ireturn, 1) := by decide +kernel
set_option maxHeartbeats 4000000 in
set_option maxRecDepth 100000 in
theorem kX8_press (l : Launch) (g : zL) (h0 : Nat) (x : Int32) (xt : Nat) (xr : Nat) (xp : Nat) (xs : Nat) (xm : Nat) (xh : Nat) (xe : Nat) (xf : Nat) (pa : Nat) (dr : Nat) (p_toolWidth : Nat) (p_told : Nat) (p_name : Nat) (p_parent : Nat) (p_side : Nat) (p_from : Nat) (p_width : Nat) (p_height : Nat) (p_radius : Nat) (p_toolSet : Nat) (f : Nat → Int32) : zCi l g yX8_press cX8_press 2 (some .boolean) { frames := 2, cells := 0, slots := 0, locals := 42 } [.ref h0, .int x] [(h0, .inr (8, [.ref xt, .ref xr, .ref xp, .ref xs, .ref xm, .ref xh, .ref xe, .ref xf, .ref pa, .ref dr, .int 0, .int 1, .int 0, .int 0])), (pa, .inr (4, [.int 0, .int 0, .int 0, .int 0, .int 0, .int 0, .ref p_toolWidth, .ref p_told, .ref p_name, .ref p_parent, .ref p_side, .ref p_from, .ref p_width, .ref p_height, .ref p_radius, .ref p_toolSet])), (xf, .inl (g.2.1.1, 6, .inl f))] (fun (r : Int32) (u : Unit) => r = 0) (fun (u : Unit) => []) := by
  refine zCi.mk (by decide) (Nat.le_of_ble_eq_true rfl) ?_
  intro p e s m below meth c A hE hP hD hS ls hl
  obtain ⟨hx, hb, hr, hml, hown, hG, hlocks, hnm, hX, hA⟩ := hE
  have hown : s.vm.findClass RX8 = some m.cls := hown
  have hl : lv_has ls 2 [(0, .ref h0), (1, .int x)] := hl
  refine lv_aload_n hx hb dX8_press_0 rfl (lv_at hl 0 rfl) ?_
  refine va_get (D := g.1) (ci := 8) (v := .ref pa) (C := RX8) (T := TX8) (N := 14) hx hb hG iX8 hown hX.1 hP 0 rfl rfl 8 (by decide) (hG _ g515) (fun _ h9 => h9) rfl dX8_press_1 ?_
  refine zfi (wr := [(h0, .inr (8, [.ref xt, .ref xr, .ref xp, .ref xs, .ref xm, .ref xh, .ref xe, .ref xf, .ref pa, .ref dr, .int 0, .int 1, .int 0, .int 0])), (xf, .inl (g.2.1.1, 6, .inl f))]) (va_runVN (As := []) (rest := []) ⟨hx, hb, hml, hown, hG⟩ (kX4_isThere l g pa p_toolWidth p_told p_name p_parent p_side p_from p_width p_height p_radius p_toolSet _) ⟨va_cnB 0 hG (zGood g861) rfl rfl rfl (hX.2.1.ml g858) (hG _ g210) hX4_isThere ⟨Nat.le_of_ble_eq_true rfl, Nat.le_of_ble_eq_true rfl⟩, hG _ g860, hG _ g45⟩ (zpreV (va_recv hX.1 hP (ci := 4) (q0 := 1) rfl rfl) hX hP hD hS hA [1] rfl (by decide)) rfl rfl hl.1 rfl (lv_room (Nat.le_of_ble_eq_true rfl)) dX8_press_4 ⟨Nat.le_of_ble_eq_true rfl, Nat.le_of_ble_eq_true rfl⟩) hP hD hS hA [1] [0, 2] rfl rfl (by decide) (by decide) (fun r1 _ H locs hp hP hD hS => ?_)
  refine W.cs (cells' := 0) (slots' := 0) rfl rfl ?_
  have hq2 : r1 = 0 := hp
  subst hq2
  have hP : va_P g.1 vwCl [(h0, .inr (8, [.ref xt, .ref xr, .ref xp, .ref xs, .ref xm, .ref xh, .ref xe, .ref xf, .ref pa, .ref dr, .int 0, .int 1, .int 0, .int 0])), (xf, .inl (g.2.1.1, 6, .inl f)), (pa, .inr (4, [.int 0, .int 0, .int 0, .int 0, .int 0, .int 0, .ref p_toolWidth, .ref p_told, .ref p_name, .ref p_parent, .ref p_side, .ref p_from, .ref p_width, .ref p_height, .ref p_radius, .ref p_toolSet]))] H := hP
  have hD : va_D A [(h0, .inr (8, [.ref xt, .ref xr, .ref xp, .ref xs, .ref xm, .ref xh, .ref xe, .ref xf, .ref pa, .ref dr, .int 0, .int 1, .int 0, .int 0])), (xf, .inl (g.2.1.1, 6, .inl f)), (pa, .inr (4, [.int 0, .int 0, .int 0, .int 0, .int 0, .int 0, .ref p_toolWidth, .ref p_told, .ref p_name, .ref p_parent, .ref p_side, .ref p_from, .ref p_width, .ref p_height, .ref p_radius, .ref p_toolSet]))] := hD
  refine lv_if_eq (tgt := 32) hx hb dX8_press_7 (by decide) (fun c7 => ?_) (fun c7 => (c7 (by decide)).elim)
  refine lv_aload_n hx hb dX8_press_32 rfl (lv_at hl 0 rfl) ?_
  refine lv_iconst (v := 3) hx hb dX8_press_33 (by decide) ?_
  refine zfi (wr := [(pa, .inr (4, [.int 0, .int 0, .int 0, .int 0, .int 0, .int 0, .ref p_toolWidth, .ref p_told, .ref p_name, .ref p_parent, .ref p_side, .ref p_from, .ref p_width, .ref p_height, .ref p_radius, .ref p_toolSet]))]) (va_runV (As := [.int 3]) (rest := []) ⟨hx, hb, hml, hown, hG⟩ (kX8_deny3 l g h0 xt xr xp xs xm xh xe xf pa dr f _) ⟨callB_of 1 hG (zGood g573) rfl rfl rfl (hG _ g202) (hG _ g570) hX8_deny ⟨Nat.le_of_ble_eq_true rfl, Nat.le_of_ble_eq_true rfl⟩, hG _ g572, hG _ g3⟩ (zpreV (va_recv hX.1 hP (ci := 8) (q0 := 0) rfl rfl) hX hP hD hS hA [0, 1] rfl (by decide)) rfl rfl hl.1 rfl (lv_room (Nat.le_of_ble_eq_true rfl)) dX8_press_34 ⟨Nat.le_of_ble_eq_true rfl, Nat.le_of_ble_eq_true rfl⟩) hP hD hS hA [0, 1] [2] rfl rfl (by decide) (by decide) (fun r3 u4 H locs hp hP hD hS => ?_)
  refine W.cs (cells' := 0) (slots' := 0) rfl rfl ?_
  have hq5 : r3 = 0 := hp
  subst hq5
  have hP : va_P g.1 vwCl [(pa, .inr (4, [.int 0, .int 0, .int 0, .int 0, .int 0, .int 0, .ref p_toolWidth, .ref p_told, .ref p_name, .ref p_parent, .ref p_side, .ref p_from, .ref p_width, .ref p_height, .ref p_radius, .ref p_toolSet])), (h0, .inr (8, [.ref xt, .ref xr, .ref xp, .ref xs, .ref xm, .ref xh, .ref xe, .ref xf, .ref pa, .ref dr, .int 0, .int 1, .int 0, .int 0])), (xf, .inl (g.2.1.1, 6, .inl u4))] H := hP
  have hD : va_D A [(pa, .inr (4, [.int 0, .int 0, .int 0, .int 0, .int 0, .int 0, .ref p_toolWidth, .ref p_told, .ref p_name, .ref p_parent, .ref p_side, .ref p_from, .ref p_width, .ref p_height, .ref p_radius, .ref p_toolSet])), (h0, .inr (8, [.ref xt, .ref xr, .ref xp, .ref xs, .ref xm, .ref xh, .ref xe, .ref xf, .ref pa, .ref dr, .int 0, .int 1, .int 0, .int 0])), (xf, .inl (g.2.1.1, 6, .inl u4))] := hD
  exact zrz (rm := { frames := 2, cells := 0, slots := 0, locals := 42 }) (v := 0) () hx hb hr hlocks (rfl) (Nat.le_of_ble_eq_true rfl) (Nat.le_of_ble_eq_true rfl) (rfl) (hP.sub [] rfl) (hD.sub [] (by decide) rfl) hS dX8_press_37
theorem dX8_chance_0 : decode cX8_chance 0 = .ok (.iload_n 1, 1) := by decide +kernel
theorem dX8_chance_1 : decode cX8_chance 1 = .ok (.iconst 1, 1) := by decide +kernel
theorem dX8_chance_2 : decode cX8_chance 2 = .ok (.if_icmp .lt 20, 3) := by decide +kernel
theorem dX8_chance_22 : decode cX8_chance 22 = .ok (.aload_n 0, 1) := by decide +kernel
theorem dX8_chance_23 : decode cX8_chance 23 = .ok (.iconst 3, 1) := by decide +kernel
theorem dX8_chance_24 : decode cX8_chance 24 = .ok (.invokevirtual 82, 3) := by decide +kernel
theorem dX8_chance_27 : decode cX8_chance 27 = .ok (.ireturn, 1) := by decide +kernel
theorem dX8_chance_5 : decode cX8_chance 5 = .ok (.iload_n 1, 1) := by decide +kernel
theorem dX8_chance_6 : decode cX8_chance 6 = .ok (.bipush 40, 2) := by decide +kernel
theorem dX8_chance_8 : decode cX8_chance 8 = .ok (.if_icmp .gt 14, 3) := by decide +kernel
theorem dX8_chance_11 : decode cX8_chance 11 = .ok (.aload_n 0, 1) := by decide +kernel
theorem dX8_chance_12 : decode cX8_chance 12 = .ok (.getfield 67, 3) := by decide +kernel
theorem dX8_chance_15 : decode cX8_chance 15 = .ok (.getfield 125, 3) := by decide +kernel
theorem dX8_chance_18 : decode cX8_chance 18 = .ok (.iconst 2, 1) := by decide +kernel
theorem dX8_chance_19 : decode cX8_chance 19 = .ok (.if_icmp .ge 9, 3) := by decide +kernel
set_option maxHeartbeats 4000000 in
set_option maxRecDepth 100000 in
theorem kX8_chance (l : Launch) (g : zL) (h0 : Nat) (x : Int32) (xt : Nat) (xr : Nat) (xp : Nat) (xs : Nat) (xm : Nat) (xh : Nat) (xe : Nat) (xf : Nat) (pa : Nat) (dr : Nat) (p_toolWidth : Nat) (p_told : Nat) (p_name : Nat) (p_parent : Nat) (p_side : Nat) (p_from : Nat) (p_width : Nat) (p_height : Nat) (p_radius : Nat) (p_toolSet : Nat) (f : Nat → Int32) : zCi l g yX8_chance cX8_chance 3 (some .int) { frames := 1, cells := 0, slots := 0, locals := 21 } [.ref h0, .int x] [(h0, .inr (8, [.ref xt, .ref xr, .ref xp, .ref xs, .ref xm, .ref xh, .ref xe, .ref xf, .ref pa, .ref dr, .int 0, .int 1, .int 0, .int 0])), (pa, .inr (4, [.int 0, .int 0, .int 0, .int 0, .int 0, .int 0, .ref p_toolWidth, .ref p_told, .ref p_name, .ref p_parent, .ref p_side, .ref p_from, .ref p_width, .ref p_height, .ref p_radius, .ref p_toolSet])), (xf, .inl (g.2.1.1, 6, .inl f))] (fun (r : Int32) (u : Unit) => r = (-1)) (fun (u : Unit) => []) := by
  refine zCi.mk (by decide) (Nat.le_of_ble_eq_true rfl) ?_
  intro p e s m below meth c A hE hP hD hS ls hl
  obtain ⟨hx, hb, hr, hml, hown, hG, hlocks, hnm, hX, hA⟩ := hE
  have hown : s.vm.findClass RX8 = some m.cls := hown
  have hl : lv_has ls 3 [(0, .ref h0), (1, .int x)] := hl
  refine lv_iload_n hx hb dX8_chance_0 rfl (lv_at hl 1 rfl) ?_
  refine lv_iconst (v := 1) hx hb dX8_chance_1 (by decide) ?_
  refine lv_icmp_lt (tgt := 22) hx hb dX8_chance_2 (by decide) (fun c2 => ?_) (fun c2 => ?_)
  · skip
    have c2i : x.toInt < 1 := (zc_lt (rfl : x.toInt = _) (show (1 : Int32).toInt = 1 from by decide)).mp c2
    refine lv_aload_n hx hb dX8_chance_22 rfl (lv_at hl 0 rfl) ?_
    refine lv_iconst (v := 3) hx hb dX8_chance_23 (by decide) ?_
    refine zfi (wr := [(pa, .inr (4, [.int 0, .int 0, .int 0, .int 0, .int 0, .int 0, .ref p_toolWidth, .ref p_told, .ref p_name, .ref p_parent, .ref p_side, .ref p_from, .ref p_width, .ref p_height, .ref p_radius, .ref p_toolSet]))]) (va_runV (As := [.int 3]) (rest := []) ⟨hx, hb, hml, hown, hG⟩ (kX8_refuse3 l g h0 xt xr xp xs xm xh xe xf pa dr f _) ⟨callB_of 1 hG (zGood g561) rfl rfl rfl (hG _ g202) (hG _ g558) hX8_refuse ⟨Nat.le_of_ble_eq_true rfl, Nat.le_of_ble_eq_true rfl⟩, hG _ g560, hG _ g1⟩ (zpreV (va_recv hX.1 hP (ci := 8) (q0 := 0) rfl rfl) hX hP hD hS hA [0, 2] rfl (by decide)) rfl rfl hl.1 rfl (lv_room (Nat.le_of_ble_eq_true rfl)) dX8_chance_24 ⟨Nat.le_of_ble_eq_true rfl, Nat.le_of_ble_eq_true rfl⟩) hP hD hS hA [0, 2] [1] rfl rfl (by decide) (by decide) (fun r1 u2 H locs hp hP hD hS => ?_)
    refine W.cs (cells' := 0) (slots' := 0) rfl rfl ?_
    have hq3 : r1 = (-1) := hp
    subst hq3
    have hP : va_P g.1 vwCl [(pa, .inr (4, [.int 0, .int 0, .int 0, .int 0, .int 0, .int 0, .ref p_toolWidth, .ref p_told, .ref p_name, .ref p_parent, .ref p_side, .ref p_from, .ref p_width, .ref p_height, .ref p_radius, .ref p_toolSet])), (h0, .inr (8, [.ref xt, .ref xr, .ref xp, .ref xs, .ref xm, .ref xh, .ref xe, .ref xf, .ref pa, .ref dr, .int 0, .int 1, .int 0, .int 0])), (xf, .inl (g.2.1.1, 6, .inl u2))] H := hP
    have hD : va_D A [(pa, .inr (4, [.int 0, .int 0, .int 0, .int 0, .int 0, .int 0, .ref p_toolWidth, .ref p_told, .ref p_name, .ref p_parent, .ref p_side, .ref p_from, .ref p_width, .ref p_height, .ref p_radius, .ref p_toolSet])), (h0, .inr (8, [.ref xt, .ref xr, .ref xp, .ref xs, .ref xm, .ref xh, .ref xe, .ref xf, .ref pa, .ref dr, .int 0, .int 1, .int 0, .int 0])), (xf, .inl (g.2.1.1, 6, .inl u2))] := hD
    exact zri (rm := { frames := 1, cells := 0, slots := 0, locals := 21 }) (v := (-1)) () hx hb hr hlocks (Nat.le_of_ble_eq_true rfl) (Nat.le_of_ble_eq_true rfl) (rfl) (hP.sub [] rfl) (hD.sub [] (by decide) rfl) hS dX8_chance_27
  · skip
    have c2i : ¬ x.toInt < 1 := fun q => c2 ((zc_lt (rfl : x.toInt = _) (show (1 : Int32).toInt = 1 from by decide)).mpr q)
    refine lv_iload_n hx hb dX8_chance_5 rfl (lv_at hl 1 rfl) ?_
    refine lv_bipush (v := 40) hx hb dX8_chance_6 (by decide) ?_
    refine lv_icmp_gt (tgt := 22) hx hb dX8_chance_8 (by decide) (fun c8 => ?_) (fun c8 => ?_)
    · skip
      have c8i : 40 < x.toInt := (zc_lt (show (40 : Int32).toInt = 40 from by decide) (rfl : x.toInt = _)).mp c8
      refine lv_aload_n hx hb dX8_chance_22 rfl (lv_at hl 0 rfl) ?_
      refine lv_iconst (v := 3) hx hb dX8_chance_23 (by decide) ?_
      refine zfi (wr := [(pa, .inr (4, [.int 0, .int 0, .int 0, .int 0, .int 0, .int 0, .ref p_toolWidth, .ref p_told, .ref p_name, .ref p_parent, .ref p_side, .ref p_from, .ref p_width, .ref p_height, .ref p_radius, .ref p_toolSet]))]) (va_runV (As := [.int 3]) (rest := []) ⟨hx, hb, hml, hown, hG⟩ (kX8_refuse3 l g h0 xt xr xp xs xm xh xe xf pa dr f _) ⟨callB_of 1 hG (zGood g561) rfl rfl rfl (hG _ g202) (hG _ g558) hX8_refuse ⟨Nat.le_of_ble_eq_true rfl, Nat.le_of_ble_eq_true rfl⟩, hG _ g560, hG _ g1⟩ (zpreV (va_recv hX.1 hP (ci := 8) (q0 := 0) rfl rfl) hX hP hD hS hA [0, 2] rfl (by decide)) rfl rfl hl.1 rfl (lv_room (Nat.le_of_ble_eq_true rfl)) dX8_chance_24 ⟨Nat.le_of_ble_eq_true rfl, Nat.le_of_ble_eq_true rfl⟩) hP hD hS hA [0, 2] [1] rfl rfl (by decide) (by decide) (fun r4 u5 H locs hp hP hD hS => ?_)
      refine W.cs (cells' := 0) (slots' := 0) rfl rfl ?_
      have hq6 : r4 = (-1) := hp
      subst hq6
      have hP : va_P g.1 vwCl [(pa, .inr (4, [.int 0, .int 0, .int 0, .int 0, .int 0, .int 0, .ref p_toolWidth, .ref p_told, .ref p_name, .ref p_parent, .ref p_side, .ref p_from, .ref p_width, .ref p_height, .ref p_radius, .ref p_toolSet])), (h0, .inr (8, [.ref xt, .ref xr, .ref xp, .ref xs, .ref xm, .ref xh, .ref xe, .ref xf, .ref pa, .ref dr, .int 0, .int 1, .int 0, .int 0])), (xf, .inl (g.2.1.1, 6, .inl u5))] H := hP
      have hD : va_D A [(pa, .inr (4, [.int 0, .int 0, .int 0, .int 0, .int 0, .int 0, .ref p_toolWidth, .ref p_told, .ref p_name, .ref p_parent, .ref p_side, .ref p_from, .ref p_width, .ref p_height, .ref p_radius, .ref p_toolSet])), (h0, .inr (8, [.ref xt, .ref xr, .ref xp, .ref xs, .ref xm, .ref xh, .ref xe, .ref xf, .ref pa, .ref dr, .int 0, .int 1, .int 0, .int 0])), (xf, .inl (g.2.1.1, 6, .inl u5))] := hD
      exact zri (rm := { frames := 1, cells := 0, slots := 0, locals := 21 }) (v := (-1)) () hx hb hr hlocks (Nat.le_of_ble_eq_true rfl) (Nat.le_of_ble_eq_true rfl) (rfl) (hP.sub [] rfl) (hD.sub [] (by decide) rfl) hS dX8_chance_27
    · skip
      have c8i : ¬ 40 < x.toInt := fun q => c8 ((zc_lt (show (40 : Int32).toInt = 40 from by decide) (rfl : x.toInt = _)).mpr q)
      refine lv_aload_n hx hb dX8_chance_11 rfl (lv_at hl 0 rfl) ?_
      refine va_get (D := g.1) (ci := 8) (v := .ref pa) (C := RX8) (T := TX8) (N := 14) hx hb hG iX8 hown hX.1 hP 0 rfl rfl 8 (by decide) (hG _ g515) (fun _ h9 => h9) rfl dX8_chance_12 ?_
      refine va_getN (D := g.1) (ci := 4) (v := .int 0) (C := RX4) (T := TX4) (N := 16) hx hb hG iX4 hown hX.1 hP 1 rfl rfl 0 (by decide) (hX.2.1.fl g414) (fun _ h9 => h9) rfl dX8_chance_15 ?_
      refine lv_iconst (v := 2) hx hb dX8_chance_18 (by decide) ?_
      refine lv_icmp_ge (tgt := 28) hx hb dX8_chance_19 (by decide) (fun c19 => absurd c19 (by decide)) (fun c19 => ?_)
      refine lv_aload_n hx hb dX8_chance_22 rfl (lv_at hl 0 rfl) ?_
      refine lv_iconst (v := 3) hx hb dX8_chance_23 (by decide) ?_
      refine zfi (wr := [(pa, .inr (4, [.int 0, .int 0, .int 0, .int 0, .int 0, .int 0, .ref p_toolWidth, .ref p_told, .ref p_name, .ref p_parent, .ref p_side, .ref p_from, .ref p_width, .ref p_height, .ref p_radius, .ref p_toolSet]))]) (va_runV (As := [.int 3]) (rest := []) ⟨hx, hb, hml, hown, hG⟩ (kX8_refuse3 l g h0 xt xr xp xs xm xh xe xf pa dr f _) ⟨callB_of 1 hG (zGood g561) rfl rfl rfl (hG _ g202) (hG _ g558) hX8_refuse ⟨Nat.le_of_ble_eq_true rfl, Nat.le_of_ble_eq_true rfl⟩, hG _ g560, hG _ g1⟩ (zpreV (va_recv hX.1 hP (ci := 8) (q0 := 0) rfl rfl) hX hP hD hS hA [0, 2] rfl (by decide)) rfl rfl hl.1 rfl (lv_room (Nat.le_of_ble_eq_true rfl)) dX8_chance_24 ⟨Nat.le_of_ble_eq_true rfl, Nat.le_of_ble_eq_true rfl⟩) hP hD hS hA [0, 2] [1] rfl rfl (by decide) (by decide) (fun r7 u8 H locs hp hP hD hS => ?_)
      refine W.cs (cells' := 0) (slots' := 0) rfl rfl ?_
      have hq9 : r7 = (-1) := hp
      subst hq9
      have hP : va_P g.1 vwCl [(pa, .inr (4, [.int 0, .int 0, .int 0, .int 0, .int 0, .int 0, .ref p_toolWidth, .ref p_told, .ref p_name, .ref p_parent, .ref p_side, .ref p_from, .ref p_width, .ref p_height, .ref p_radius, .ref p_toolSet])), (h0, .inr (8, [.ref xt, .ref xr, .ref xp, .ref xs, .ref xm, .ref xh, .ref xe, .ref xf, .ref pa, .ref dr, .int 0, .int 1, .int 0, .int 0])), (xf, .inl (g.2.1.1, 6, .inl u8))] H := hP
      have hD : va_D A [(pa, .inr (4, [.int 0, .int 0, .int 0, .int 0, .int 0, .int 0, .ref p_toolWidth, .ref p_told, .ref p_name, .ref p_parent, .ref p_side, .ref p_from, .ref p_width, .ref p_height, .ref p_radius, .ref p_toolSet])), (h0, .inr (8, [.ref xt, .ref xr, .ref xp, .ref xs, .ref xm, .ref xh, .ref xe, .ref xf, .ref pa, .ref dr, .int 0, .int 1, .int 0, .int 0])), (xf, .inl (g.2.1.1, 6, .inl u8))] := hD
      exact zri (rm := { frames := 1, cells := 0, slots := 0, locals := 21 }) (v := (-1)) () hx hb hr hlocks (Nat.le_of_ble_eq_true rfl) (Nat.le_of_ble_eq_true rfl) (rfl) (hP.sub [] rfl) (hD.sub [] (by decide) rfl) hS dX8_chance_27
theorem dX8_undo_0 : decode cX8_undo 0 = .ok (.aload_n 0, 1) := by decide +kernel
theorem dX8_undo_1 : decode cX8_undo 1 = .ok (.getfield 49, 3) := by decide +kernel
theorem dX8_undo_4 : decode cX8_undo 4 = .ok (.getfield 113, 3) := by decide +kernel
theorem dX8_undo_7 : decode cX8_undo 7 = .ok (.ifCond .ne 9, 3) := by decide +kernel
theorem dX8_undo_10 : decode cX8_undo 10 = .ok (.aload_n 0, 1) := by decide +kernel
theorem dX8_undo_11 : decode cX8_undo 11 = .ok (.iconst 4, 1) := by decide +kernel
theorem dX8_undo_12 : decode cX8_undo 12 = .ok (.invokevirtual 93, 3) := by decide +kernel
theorem dX8_undo_15 : decode cX8_undo 15 = .ok (.ireturn, 1) := by decide +kernel
set_option maxHeartbeats 4000000 in
set_option maxRecDepth 100000 in
theorem kX8_undo (l : Launch) (g : zL) (h0 : Nat) (xt : Nat) (xr : Nat) (xp : Nat) (xs : Nat) (xm : Nat) (xh : Nat) (xe : Nat) (xf : Nat) (pa : Nat) (dr : Nat) (hr1 : Nat) (f : Nat → Int32) : zCi l g yX8_undo cX8_undo 1 (some .boolean) { frames := 2, cells := 0, slots := 0, locals := 42 } [.ref h0] [(h0, .inr (8, [.ref xt, .ref xr, .ref xp, .ref xs, .ref xm, .ref xh, .ref xe, .ref xf, .ref pa, .ref dr, .int 0, .int 1, .int 0, .int 0])), (xh, .inr (0, [.ref hr1, .int 0, .int 0])), (xf, .inl (g.2.1.1, 6, .inl f))] (fun (r : Int32) (u : Unit) => r = 0) (fun (u : Unit) => []) := by
  refine zCi.mk (by decide) (Nat.le_of_ble_eq_true rfl) ?_
  intro p e s m below meth c A hE hP hD hS ls hl
  obtain ⟨hx, hb, hr, hml, hown, hG, hlocks, hnm, hX, hA⟩ := hE
  have hown : s.vm.findClass RX8 = some m.cls := hown
  have hl : lv_has ls 1 [(0, .ref h0)] := hl
  refine lv_aload_n hx hb dX8_undo_0 rfl (lv_at hl 0 rfl) ?_
  refine va_get (D := g.1) (ci := 8) (v := .ref xh) (C := RX8) (T := TX8) (N := 14) hx hb hG iX8 hown hX.1 hP 0 rfl rfl 5 (by decide) (hG _ g512) (fun _ h9 => h9) rfl dX8_undo_1 ?_
  refine va_getN (D := g.1) (ci := 0) (v := .int 0) (C := RX0) (T := TX0) (N := 3) hx hb hG iX0 hown hX.1 hP 1 rfl rfl 1 (by decide) (hX.2.1.fl g377) (fun _ h9 => h9) rfl dX8_undo_4 ?_
  refine lv_if_ne (tgt := 16) hx hb dX8_undo_7 (by decide) (fun c7 => (c7 (by decide)).elim) (fun c7 => ?_)
  refine lv_aload_n hx hb dX8_undo_10 rfl (lv_at hl 0 rfl) ?_
  refine lv_iconst (v := 4) hx hb dX8_undo_11 (by decide) ?_
  refine zfi (wr := [(xh, .inr (0, [.ref hr1, .int 0, .int 0]))]) (va_runV (As := [.int 4]) (rest := []) ⟨hx, hb, hml, hown, hG⟩ (kX8_deny4 l g h0 xt xr xp xs xm xh xe xf pa dr f _) ⟨callB_of 1 hG (zGood g573) rfl rfl rfl (hG _ g202) (hG _ g570) hX8_deny ⟨Nat.le_of_ble_eq_true rfl, Nat.le_of_ble_eq_true rfl⟩, hG _ g572, hG _ g3⟩ (zpreV (va_recv hX.1 hP (ci := 8) (q0 := 0) rfl rfl) hX hP hD hS hA [0, 2] rfl (by decide)) rfl rfl hl.1 rfl (lv_room (Nat.le_of_ble_eq_true rfl)) dX8_undo_12 ⟨Nat.le_of_ble_eq_true rfl, Nat.le_of_ble_eq_true rfl⟩) hP hD hS hA [0, 2] [1] rfl rfl (by decide) (by decide) (fun r1 u2 H locs hp hP hD hS => ?_)
  refine W.cs (cells' := 0) (slots' := 0) rfl rfl ?_
  have hq3 : r1 = 0 := hp
  subst hq3
  have hP : va_P g.1 vwCl [(xh, .inr (0, [.ref hr1, .int 0, .int 0])), (h0, .inr (8, [.ref xt, .ref xr, .ref xp, .ref xs, .ref xm, .ref xh, .ref xe, .ref xf, .ref pa, .ref dr, .int 0, .int 1, .int 0, .int 0])), (xf, .inl (g.2.1.1, 6, .inl u2))] H := hP
  have hD : va_D A [(xh, .inr (0, [.ref hr1, .int 0, .int 0])), (h0, .inr (8, [.ref xt, .ref xr, .ref xp, .ref xs, .ref xm, .ref xh, .ref xe, .ref xf, .ref pa, .ref dr, .int 0, .int 1, .int 0, .int 0])), (xf, .inl (g.2.1.1, 6, .inl u2))] := hD
  exact zrz (rm := { frames := 2, cells := 0, slots := 0, locals := 42 }) (v := 0) () hx hb hr hlocks (rfl) (Nat.le_of_ble_eq_true rfl) (Nat.le_of_ble_eq_true rfl) (rfl) (hP.sub [] rfl) (hD.sub [] (by decide) rfl) hS dX8_undo_15
theorem dX8_seed_0 : decode cX8_seed 0 = .ok (.iload_n 1, 1) := by decide +kernel
theorem dX8_seed_1 : decode cX8_seed 1 = .ok (.ifCond .ge 9, 3) := by decide +kernel
theorem dX8_seed_10 : decode cX8_seed 10 = .ok (.aload_n 0, 1) := by decide +kernel
theorem dX8_seed_11 : decode cX8_seed 11 = .ok (.iload_n 1, 1) := by decide +kernel
theorem dX8_seed_12 : decode cX8_seed 12 = .ok (.putfield 74, 3) := by decide +kernel
theorem dX8_seed_15 : decode cX8_seed 15 = .ok (.iconst 1, 1) := by decide +kernel
theorem dX8_seed_16 : decode cX8_seed 16 = .ok (.ireturn, 1) := by decide +kernel
theorem dX8_seed_4 : decode cX8_seed 4 = .ok (.aload_n 0, 1) := by decide +kernel
theorem dX8_seed_5 : decode cX8_seed 5 = .ok (.iconst 5, 1) := by decide +kernel
theorem dX8_seed_6 : decode cX8_seed 6 = .ok (.invokevirtual 93, 3) := by decide +kernel
theorem dX8_seed_9 : decode cX8_seed 9 = .ok (.ireturn, 1) := by decide +kernel
set_option maxHeartbeats 4000000 in
set_option maxRecDepth 100000 in
theorem kX8_seed (l : Launch) (g : zL) (h0 : Nat) (x : Int32) (xt : Nat) (xr : Nat) (xp : Nat) (xs : Nat) (xm : Nat) (xh : Nat) (xe : Nat) (xf : Nat) (pa : Nat) (dr : Nat) (f : Nat → Int32) : zCi l g yX8_seed cX8_seed 2 (some .boolean) { frames := 2, cells := 0, slots := 0, locals := 42 } [.ref h0, .int x] [(h0, .inr (8, [.ref xt, .ref xr, .ref xp, .ref xs, .ref xm, .ref xh, .ref xe, .ref xf, .ref pa, .ref dr, .int 0, .int 1, .int 0, .int 0])), (xf, .inl (g.2.1.1, 6, .inl f))] (fun (r : Int32) (u : Unit) => r = sp_seed x) (fun (u : Unit) => []) := by
  refine zCi.mk (by decide) (Nat.le_of_ble_eq_true rfl) ?_
  intro p e s m below meth c A hE hP hD hS ls hl
  obtain ⟨hx, hb, hr, hml, hown, hG, hlocks, hnm, hX, hA⟩ := hE
  have hown : s.vm.findClass RX8 = some m.cls := hown
  have hl : lv_has ls 2 [(0, .ref h0), (1, .int x)] := hl
  refine lv_iload_n hx hb dX8_seed_0 rfl (lv_at hl 1 rfl) ?_
  refine lv_if_ge (tgt := 10) hx hb dX8_seed_1 (by decide) (fun c1 => ?_) (fun c1 => ?_)
  · skip
    have c1i : 0 ≤ x.toInt := (zc_le (show (0 : Int32).toInt = 0 from by decide) (rfl : x.toInt = _)).mp c1
    refine lv_aload_n hx hb dX8_seed_10 rfl (lv_at hl 0 rfl) ?_
    refine lv_iload_n hx hb dX8_seed_11 rfl (lv_at hl 1 rfl) ?_
    refine va_put (D := g.1) (ci := 8) (v := .int x) (ty := .int) (C := RX8) (T := TX8) (N := 14) hx hb hG iX8 tyX8 tyX8_ok nmX8 hown hX.1 hP hD hS 0 rfl rfl 11 (by decide) (hG _ g518) (fun _ h9 => h9) rfl (by decide +kernel) rfl rfl (Nat.le_of_ble_eq_true rfl) dX8_seed_12 (fun H locs hP hD hS => ?_)
    have hP : va_P g.1 vwCl [(h0, .inr (8, [.ref xt, .ref xr, .ref xp, .ref xs, .ref xm, .ref xh, .ref xe, .ref xf, .ref pa, .ref dr, .int 0, .int x, .int 0, .int 0])), (xf, .inl (g.2.1.1, 6, .inl f))] H := hP
    have hD : va_D A [(h0, .inr (8, [.ref xt, .ref xr, .ref xp, .ref xs, .ref xm, .ref xh, .ref xe, .ref xf, .ref pa, .ref dr, .int 0, .int x, .int 0, .int 0])), (xf, .inl (g.2.1.1, 6, .inl f))] := hD
    refine lv_iconst (v := 1) hx hb dX8_seed_15 (by decide) ?_
    exact zrz (rm := { frames := 2, cells := 0, slots := 0, locals := 42 }) (v := 1) () hx hb hr hlocks (rfl) (Nat.le_of_ble_eq_true rfl) (Nat.le_of_ble_eq_true rfl) (by first | exact (sp_seed_t (by omega)).symm | exact (sp_seed_f (by omega)).symm) (hP.sub [] rfl) (hD.sub [] (by decide) rfl) hS dX8_seed_16
  · skip
    have c1i : ¬ 0 ≤ x.toInt := fun q => c1 ((zc_le (show (0 : Int32).toInt = 0 from by decide) (rfl : x.toInt = _)).mpr q)
    refine lv_aload_n hx hb dX8_seed_4 rfl (lv_at hl 0 rfl) ?_
    refine lv_iconst (v := 5) hx hb dX8_seed_5 (by decide) ?_
    refine zfi (wr := []) (va_runV (As := [.int 5]) (rest := []) ⟨hx, hb, hml, hown, hG⟩ (kX8_deny5 l g h0 xt xr xp xs xm xh xe xf pa dr f _) ⟨callB_of 1 hG (zGood g573) rfl rfl rfl (hG _ g202) (hG _ g570) hX8_deny ⟨Nat.le_of_ble_eq_true rfl, Nat.le_of_ble_eq_true rfl⟩, hG _ g572, hG _ g3⟩ (zpreV (va_recv hX.1 hP (ci := 8) (q0 := 0) rfl rfl) hX hP hD hS hA [0, 1] rfl (by decide)) rfl rfl hl.1 rfl (lv_room (Nat.le_of_ble_eq_true rfl)) dX8_seed_6 ⟨Nat.le_of_ble_eq_true rfl, Nat.le_of_ble_eq_true rfl⟩) hP hD hS hA [0, 1] [] rfl rfl (by decide) (by decide) (fun r1 u2 H locs hp hP hD hS => ?_)
    refine W.cs (cells' := 0) (slots' := 0) rfl rfl ?_
    have hq3 : r1 = 0 := hp
    subst hq3
    have hP : va_P g.1 vwCl [(h0, .inr (8, [.ref xt, .ref xr, .ref xp, .ref xs, .ref xm, .ref xh, .ref xe, .ref xf, .ref pa, .ref dr, .int 0, .int 1, .int 0, .int 0])), (xf, .inl (g.2.1.1, 6, .inl u2))] H := hP
    have hD : va_D A [(h0, .inr (8, [.ref xt, .ref xr, .ref xp, .ref xs, .ref xm, .ref xh, .ref xe, .ref xf, .ref pa, .ref dr, .int 0, .int 1, .int 0, .int 0])), (xf, .inl (g.2.1.1, 6, .inl u2))] := hD
    exact zrz (rm := { frames := 2, cells := 0, slots := 0, locals := 42 }) (v := 0) () hx hb hr hlocks (rfl) (Nat.le_of_ble_eq_true rfl) (Nat.le_of_ble_eq_true rfl) (by first | exact (sp_seed_t (by omega)).symm | exact (sp_seed_f (by omega)).symm) (hP.sub [] rfl) (hD.sub [] (by decide) rfl) hS dX8_seed_9
theorem dX8_status_0 : decode cX8_status 0 = .ok (.iload_n 1, 1) := by decide +kernel
theorem dX8_status_1 : decode cX8_status 1 = .ok (.ifCond .lt 9, 3) := by decide +kernel
theorem dX8_status_10 : decode cX8_status 10 = .ok (.iconst (-1), 1) := by decide +kernel
theorem dX8_status_11 : decode cX8_status 11 = .ok (.goto 9, 3) := by decide +kernel
theorem dX8_status_20 : decode cX8_status 20 = .ok (.ireturn, 1) := by decide +kernel
theorem dX8_status_4 : decode cX8_status 4 = .ok (.iload_n 1, 1) := by decide +kernel
theorem dX8_status_5 : decode cX8_status 5 = .ok (.bipush 6, 2) := by decide +kernel
theorem dX8_status_7 : decode cX8_status 7 = .ok (.if_icmp .lt 7, 3) := by decide +kernel
theorem dX8_status_14 : decode cX8_status 14 = .ok (.aload_n 0, 1) := by decide +kernel
theorem dX8_status_15 : decode cX8_status 15 = .ok (.getfield 60, 3) := by decide +kernel
theorem dX8_status_18 : decode cX8_status 18 = .ok (.iload_n 1, 1) := by decide +kernel
theorem dX8_status_19 : decode cX8_status 19 = .ok (.iaload, 1) := by decide +kernel
set_option maxHeartbeats 4000000 in
set_option maxRecDepth 100000 in
theorem kX8_status (l : Launch) (g : zL) (h0 : Nat) (x : Int32) (xt : Nat) (xr : Nat) (xp : Nat) (xs : Nat) (xm : Nat) (xh : Nat) (xe : Nat) (xf : Nat) (pa : Nat) (dr : Nat) : zCi l g yX8_status cX8_status 2 (some .int) { frames := 0, cells := 0, slots := 0, locals := 0 } [.ref h0, .int x] [(h0, .inr (8, [.ref xt, .ref xr, .ref xp, .ref xs, .ref xm, .ref xh, .ref xe, .ref xf, .ref pa, .ref dr, .int 0, .int 1, .int 0, .int 0])), (xf, .inl (g.2.1.1, 6, .inl (fun _ => 0)))] (fun (r : Int32) (u : Unit) => r = sp_status x) (fun (u : Unit) => []) := by
  refine zCi.mk (by decide) (Nat.le_of_ble_eq_true rfl) ?_
  intro p e s m below meth c A hE hP hD hS ls hl
  obtain ⟨hx, hb, hr, hml, hown, hG, hlocks, hnm, hX, hA⟩ := hE
  have hown : s.vm.findClass RX8 = some m.cls := hown
  have hl : lv_has ls 2 [(0, .ref h0), (1, .int x)] := hl
  refine lv_iload_n hx hb dX8_status_0 rfl (lv_at hl 1 rfl) ?_
  refine lv_if_lt (tgt := 10) hx hb dX8_status_1 (by decide) (fun c1 => ?_) (fun c1 => ?_)
  · skip
    have c1i : x.toInt < 0 := (zc_lt (rfl : x.toInt = _) (show (0 : Int32).toInt = 0 from by decide)).mp c1
    refine lv_iconst (v := (-1)) hx hb dX8_status_10 (by decide) ?_
    refine lv_goto (tgt := 20) hx hb dX8_status_11 (by decide) ?_
    exact zri (rm := { frames := 0, cells := 0, slots := 0, locals := 0 }) (v := (-1)) () hx hb hr hlocks (Nat.le_of_ble_eq_true rfl) (Nat.le_of_ble_eq_true rfl) (by first | exact (sp_status_a (by omega)).symm | exact (sp_status_b (by omega) (by omega)).symm | exact (sp_status_c (by omega)).symm) (hP.sub [] rfl) (hD.sub [] (by decide) rfl) hS dX8_status_20
  · skip
    have c1i : ¬ x.toInt < 0 := fun q => c1 ((zc_lt (rfl : x.toInt = _) (show (0 : Int32).toInt = 0 from by decide)).mpr q)
    refine lv_iload_n hx hb dX8_status_4 rfl (lv_at hl 1 rfl) ?_
    refine lv_bipush (v := 6) hx hb dX8_status_5 (by decide) ?_
    refine lv_icmp_lt (tgt := 14) hx hb dX8_status_7 (by decide) (fun c7 => ?_) (fun c7 => ?_)
    · skip
      have c7i : x.toInt < 6 := (zc_lt (rfl : x.toInt = _) (show (6 : Int32).toInt = 6 from by decide)).mp c7
      refine lv_aload_n hx hb dX8_status_14 rfl (lv_at hl 0 rfl) ?_
      refine va_get (D := g.1) (ci := 8) (v := .ref xf) (C := RX8) (T := TX8) (N := 14) hx hb hG iX8 hown hX.1 hP 0 rfl rfl 7 (by decide) (hG _ g514) (fun _ h9 => h9) rfl dX8_status_15 ?_
      refine lv_iload_n hx hb dX8_status_18 rfl (lv_at hl 1 rfl) ?_
      refine va_iald hx hb hX.1 hP 1 0 rfl rfl (vp_in_iff.mpr ⟨by omega, by omega⟩) dX8_status_19 ?_
      refine zt (z := 0) rfl ?_
      exact zri (rm := { frames := 0, cells := 0, slots := 0, locals := 0 }) (v := 0) () hx hb hr hlocks (Nat.le_of_ble_eq_true rfl) (Nat.le_of_ble_eq_true rfl) (by first | exact (sp_status_a (by omega)).symm | exact (sp_status_b (by omega) (by omega)).symm | exact (sp_status_c (by omega)).symm) (hP.sub [] rfl) (hD.sub [] (by decide) rfl) hS dX8_status_20
    · skip
      have c7i : ¬ x.toInt < 6 := fun q => c7 ((zc_lt (rfl : x.toInt = _) (show (6 : Int32).toInt = 6 from by decide)).mpr q)
      refine lv_iconst (v := (-1)) hx hb dX8_status_10 (by decide) ?_
      refine lv_goto (tgt := 20) hx hb dX8_status_11 (by decide) ?_
      exact zri (rm := { frames := 0, cells := 0, slots := 0, locals := 0 }) (v := (-1)) () hx hb hr hlocks (Nat.le_of_ble_eq_true rfl) (Nat.le_of_ble_eq_true rfl) (by first | exact (sp_status_a (by omega)).symm | exact (sp_status_b (by omega) (by omega)).symm | exact (sp_status_c (by omega)).symm) (hP.sub [] rfl) (hD.sub [] (by decide) rfl) hS dX8_status_20
