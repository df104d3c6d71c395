theorem dL_law_27 : decode cL_law 27 = .ok (.aload_n 0, 1) := by decide +kernel
theorem dL_law_28 : decode cL_law 28 = .ok (.iload_n 3, 1) := by decide +kernel
theorem dL_law_29 : decode cL_law 29 = .ok (.iaload, 1) := by decide +kernel
theorem dL_law_30 : decode cL_law 30 = .ok (.bipush 63, 2) := by decide +kernel
theorem dL_law_32 : decode cL_law 32 = .ok (.iand, 1) := by decide +kernel
theorem dL_law_33 : decode cL_law 33 = .ok (.tableswitch 1441 0 47 #[207, 270, 293, 306, 329, 352, 385, 418, 441, 464, 497, 520, 553, 586, 609, 642, 665, 698, 731, 764, 797, 810, 833, 856, 889, 912, 935, 968, 981, 1004, 1017, 1040, 1053, 1076, 1109, 1122, 1155, 1188, 1211, 1234, 1257, 1280, 1303, 1336, 1359, 1382, 1395, 1418], 207) := by decide +kernel
set_option maxHeartbeats 8000000 in
set_option maxRecDepth 100000 in
theorem lc_head {p : Program} {l : Launch} {e : Env} {s : State} {m : MethodId} {below : List Frame} {meth : Method} {c : Code} {b : Nat} {zs : Nat → Int32} {g : zL} {A : Nat → Prop} (C0 : zLw p s m meth c b zs g A) {h0 xt xr xp xs xm xh xe xf pa dr xb e1 e2 hr1 p_toolWidth p_told p_name p_parent p_side p_from p_width p_height p_radius p_toolSet d_toolWidth d_told d_name d_parent d_side d_from d_width d_height d_radius d_toolSet n0 m_told m_read m_now m_readNow m_kept m_tape m_refused m_ownLetters m_flats m_corner m_wayX m_wayY m_normal m_low m_high m_clear m_ways m_canBe m_lain m_fewestBy m_sortOf m_seenFlange m_seenLength : Nat} {H : Heap} {locs : List Loc} {ls : Array Slot} (hP : va_P g.1 vwCl [(h0, .inr (8, [.ref xt, .ref xr, .ref xp, .ref xs, .ref xm, .ref xh, .ref xe, .ref xf, .ref pa, .ref dr, .int 0, .int 1, .int 0, .int 0])), (xt, .inr (7, [.ref xb, .int 0])), (xb, .inl (g.2.1.2.1, 1200, .inl (fun _ => 0))), (xr, .inr (6, [.ref xt, .null, .int 0, .int 0, .int 0, .int 0, .int (-1)])), (xe, .inr (1, [.ref e1, .ref e2, .int 0])), (xh, .inr (0, [.ref hr1, .int 0, .int 0])), (xf, .inl (g.2.1.1, 6, .inl (fun _ => 0))), (pa, .inr (4, [.int 0, .int 0, .int 0, .int 0, .int 0, .int 0, .ref p_toolWidth, .ref p_told, .ref p_name, .ref p_parent, .ref p_side, .ref p_from, .ref p_width, .ref p_height, .ref p_radius, .ref p_toolSet])), (dr, .inr (4, [.int 0, .int 0, .int 0, .int 0, .int 0, .int 0, .ref d_toolWidth, .ref d_told, .ref d_name, .ref d_parent, .ref d_side, .ref d_from, .ref d_width, .ref d_height, .ref d_radius, .ref d_toolSet])), (d_told, .inl (g.2.1.1, 10, .inl (fun _ => 0))), (d_width, .inl (g.2.1.1, 9, .inl (fun _ => 0))), (d_height, .inl (g.2.1.1, 9, .inl (fun _ => 0))), (n0, .inr (9, [.ref m_told, .ref m_read, .ref m_now, .ref m_readNow, .ref m_kept, .int 0, .int 1, .int 0, .ref m_tape, .int 0, .ref m_refused, .int 0, .int (-1), .int 0, .int 0, .int 0, .int 0, .int (-1), .ref m_ownLetters, .ref m_flats, .int 0, .ref m_corner, .ref m_wayX, .ref m_wayY, .ref m_normal, .ref m_low, .ref m_high, .ref m_clear, .ref m_ways, .ref m_canBe, .ref m_lain, .int 0, .ref m_fewestBy, .ref m_sortOf, .int 0, .ref m_seenFlange, .ref m_seenLength])), (m_read, .inl (g.2.1.1, 103, .inl (fun _ => 0))), (m_readNow, .inl (g.2.1.1, 21, .inl (fun _ => 0))), (m_tape, .inl (g.2.1.1, 1200, .inl (fun _ => 0))), (m_refused, .inl (g.2.1.1, 6, .inl (fun _ => 0)))] H) (hD : va_D A [(h0, .inr (8, [.ref xt, .ref xr, .ref xp, .ref xs, .ref xm, .ref xh, .ref xe, .ref xf, .ref pa, .ref dr, .int 0, .int 1, .int 0, .int 0])), (xt, .inr (7, [.ref xb, .int 0])), (xb, .inl (g.2.1.2.1, 1200, .inl (fun _ => 0))), (xr, .inr (6, [.ref xt, .null, .int 0, .int 0, .int 0, .int 0, .int (-1)])), (xe, .inr (1, [.ref e1, .ref e2, .int 0])), (xh, .inr (0, [.ref hr1, .int 0, .int 0])), (xf, .inl (g.2.1.1, 6, .inl (fun _ => 0))), (pa, .inr (4, [.int 0, .int 0, .int 0, .int 0, .int 0, .int 0, .ref p_toolWidth, .ref p_told, .ref p_name, .ref p_parent, .ref p_side, .ref p_from, .ref p_width, .ref p_height, .ref p_radius, .ref p_toolSet])), (dr, .inr (4, [.int 0, .int 0, .int 0, .int 0, .int 0, .int 0, .ref d_toolWidth, .ref d_told, .ref d_name, .ref d_parent, .ref d_side, .ref d_from, .ref d_width, .ref d_height, .ref d_radius, .ref d_toolSet])), (d_told, .inl (g.2.1.1, 10, .inl (fun _ => 0))), (d_width, .inl (g.2.1.1, 9, .inl (fun _ => 0))), (d_height, .inl (g.2.1.1, 9, .inl (fun _ => 0))), (n0, .inr (9, [.ref m_told, .ref m_read, .ref m_now, .ref m_readNow, .ref m_kept, .int 0, .int 1, .int 0, .ref m_tape, .int 0, .ref m_refused, .int 0, .int (-1), .int 0, .int 0, .int 0, .int 0, .int (-1), .ref m_ownLetters, .ref m_flats, .int 0, .ref m_corner, .ref m_wayX, .ref m_wayY, .ref m_normal, .ref m_low, .ref m_high, .ref m_clear, .ref m_ways, .ref m_canBe, .ref m_lain, .int 0, .ref m_fewestBy, .ref m_sortOf, .int 0, .ref m_seenFlange, .ref m_seenLength])), (m_read, .inl (g.2.1.1, 103, .inl (fun _ => 0))), (m_readNow, .inl (g.2.1.1, 21, .inl (fun _ => 0))), (m_tape, .inl (g.2.1.1, 1200, .inl (fun _ => 0))), (m_refused, .inl (g.2.1.1, 6, .inl (fun _ => 0)))]) (hS : va_S A s.heap H locs) (hl : lv_has ls 4 [(0, .ref b), (1, .ref h0), (2, .ref n0), (3, .int 0)]) : W p l e room_1 s m #[Value.ref b] below meth c H locs 75 18897 (lw_Z below #[Value.ref b] s) (F0 m 18 ls []) := by
  obtain ⟨hx, hb, hr, hml, hown, hG, hlocks, hX, hA, hA2, hZ, hbl, hbA⟩ := id C0
  refine lv_iload_n hx hb dL_law_18 rfl (lv_at hl 3 rfl) ?_
  refine lv_aload_n hx hb dL_law_19 rfl (lv_at hl 0 rfl) ?_
  refine va_slen hx hb hZ hbl hbA hS dL_law_20 ?_
  refine zt (z := 6) (by decide) ?_
  refine lv_bipush (v := 6) hx hb dL_law_21 (by decide) ?_
  refine lv_isub hx hb dL_law_23 ?_
  refine zt (z := 0) (by decide) ?_
  refine lv_icmp_gt (tgt := 1480) hx hb dL_law_24 (by decide) (fun c24 => absurd c24 (by decide)) (fun c24 => ?_)
  refine lv_aload_n hx hb dL_law_27 rfl (lv_at hl 0 rfl) ?_
  refine lv_iload_n hx hb dL_law_28 rfl (lv_at hl 3 rfl) ?_
  refine va_sld hx hb hZ hbl hbA hS (vp_in_iff.mpr (by decide)) dL_law_29 ?_
  refine lv_bipush (v := 63) hx hb dL_law_30 (by decide) ?_
  refine lv_iand hx hb dL_law_32 ?_
  rcases (show ((zs (0 : Int32).toNatClampNeg) &&& 63).toInt = 0 ∨ ((zs (0 : Int32).toNatClampNeg) &&& 63).toInt = 1 ∨ ((zs (0 : Int32).toNatClampNeg) &&& 63).toInt = 2 ∨ ((zs (0 : Int32).toNatClampNeg) &&& 63).toInt = 3 ∨ ((zs (0 : Int32).toNatClampNeg) &&& 63).toInt = 4 ∨ ((zs (0 : Int32).toNatClampNeg) &&& 63).toInt = 5 ∨ ((zs (0 : Int32).toNatClampNeg) &&& 63).toInt = 6 ∨ ((zs (0 : Int32).toNatClampNeg) &&& 63).toInt = 7 ∨ ((zs (0 : Int32).toNatClampNeg) &&& 63).toInt = 8 ∨ ((zs (0 : Int32).toNatClampNeg) &&& 63).toInt = 9 ∨ ((zs (0 : Int32).toNatClampNeg) &&& 63).toInt = 10 ∨ ((zs (0 : Int32).toNatClampNeg) &&& 63).toInt = 11 ∨ ((zs (0 : Int32).toNatClampNeg) &&& 63).toInt = 12 ∨ ((zs (0 : Int32).toNatClampNeg) &&& 63).toInt = 13 ∨ ((zs (0 : Int32).toNatClampNeg) &&& 63).toInt = 14 ∨ ((zs (0 : Int32).toNatClampNeg) &&& 63).toInt = 15 ∨ ((zs (0 : Int32).toNatClampNeg) &&& 63).toInt = 16 ∨ ((zs (0 : Int32).toNatClampNeg) &&& 63).toInt = 17 ∨ ((zs (0 : Int32).toNatClampNeg) &&& 63).toInt = 18 ∨ ((zs (0 : Int32).toNatClampNeg) &&& 63).toInt = 19 ∨ ((zs (0 : Int32).toNatClampNeg) &&& 63).toInt = 20 ∨ ((zs (0 : Int32).toNatClampNeg) &&& 63).toInt = 21 ∨ ((zs (0 : Int32).toNatClampNeg) &&& 63).toInt = 22 ∨ ((zs (0 : Int32).toNatClampNeg) &&& 63).toInt = 23 ∨ ((zs (0 : Int32).toNatClampNeg) &&& 63).toInt = 24 ∨ ((zs (0 : Int32).toNatClampNeg) &&& 63).toInt = 25 ∨ ((zs (0 : Int32).toNatClampNeg) &&& 63).toInt = 26 ∨ ((zs (0 : Int32).toNatClampNeg) &&& 63).toInt = 27 ∨ ((zs (0 : Int32).toNatClampNeg) &&& 63).toInt = 28 ∨ ((zs (0 : Int32).toNatClampNeg) &&& 63).toInt = 29 ∨ ((zs (0 : Int32).toNatClampNeg) &&& 63).toInt = 30 ∨ ((zs (0 : Int32).toNatClampNeg) &&& 63).toInt = 31 ∨ ((zs (0 : Int32).toNatClampNeg) &&& 63).toInt = 32 ∨ ((zs (0 : Int32).toNatClampNeg) &&& 63).toInt = 33 ∨ ((zs (0 : Int32).toNatClampNeg) &&& 63).toInt = 34 ∨ ((zs (0 : Int32).toNatClampNeg) &&& 63).toInt = 35 ∨ ((zs (0 : Int32).toNatClampNeg) &&& 63).toInt = 36 ∨ ((zs (0 : Int32).toNatClampNeg) &&& 63).toInt = 37 ∨ ((zs (0 : Int32).toNatClampNeg) &&& 63).toInt = 38 ∨ ((zs (0 : Int32).toNatClampNeg) &&& 63).toInt = 39 ∨ ((zs (0 : Int32).toNatClampNeg) &&& 63).toInt = 40 ∨ ((zs (0 : Int32).toNatClampNeg) &&& 63).toInt = 41 ∨ ((zs (0 : Int32).toNatClampNeg) &&& 63).toInt = 42 ∨ ((zs (0 : Int32).toNatClampNeg) &&& 63).toInt = 43 ∨ ((zs (0 : Int32).toNatClampNeg) &&& 63).toInt = 44 ∨ ((zs (0 : Int32).toNatClampNeg) &&& 63).toInt = 45 ∨ ((zs (0 : Int32).toNatClampNeg) &&& 63).toInt = 46 ∨ ((zs (0 : Int32).toNatClampNeg) &&& 63).toInt = 47 ∨ (((zs (0 : Int32).toNatClampNeg) &&& 63).toInt < 0 ∨ 47 < ((zs (0 : Int32).toNatClampNeg) &&& 63).toInt) by omega) with c33 | c33 | c33 | c33 | c33 | c33 | c33 | c33 | c33 | c33 | c33 | c33 | c33 | c33 | c33 | c33 | c33 | c33 | c33 | c33 | c33 | c33 | c33 | c33 | c33 | c33 | c33 | c33 | c33 | c33 | c33 | c33 | c33 | c33 | c33 | c33 | c33 | c33 | c33 | c33 | c33 | c33 | c33 | c33 | c33 | c33 | c33 | c33 | c33
  · refine lv_tableIn (off := 207) (tgt := 240) hx hb dL_law_33 (by rw [c33]; decide) (by rw [c33]; decide) (by rw [c33]; rfl) (by decide) ?_
    exact lc_0 C0 (hP.sub [0, 1, 2, 12, 15] rfl) (hD.sub [0, 1, 2, 12, 15] (by decide) rfl) hS hl
  · refine lv_tableIn (off := 270) (tgt := 303) hx hb dL_law_33 (by rw [c33]; decide) (by rw [c33]; decide) (by rw [c33]; rfl) (by decide) ?_
    exact lc_1 C0 (hP.sub [0, 1, 6, 12, 16] rfl) (hD.sub [0, 1, 6, 12, 16] (by decide) rfl) hS hl
  · refine lv_tableIn (off := 293) (tgt := 326) hx hb dL_law_33 (by rw [c33]; decide) (by rw [c33]; decide) (by rw [c33]; rfl) (by decide) ?_
    exact lc_2 C0 (hP.sub [0, 1, 3, 6, 8, 9, 10, 11, 12, 13, 14, 16] rfl) (hD.sub [0, 1, 3, 6, 8, 9, 10, 11, 12, 13, 14, 16] (by decide) rfl) hS hl
  · refine lv_tableIn (off := 306) (tgt := 339) hx hb dL_law_33 (by rw [c33]; decide) (by rw [c33]; decide) (by rw [c33]; rfl) (by decide) ?_
    exact lc_3 C0 (hP.sub [0, 3, 12] rfl) (hD.sub [0, 3, 12] (by decide) rfl) hS hl
  · refine lv_tableIn (off := 329) (tgt := 362) hx hb dL_law_33 (by rw [c33]; decide) (by rw [c33]; decide) (by rw [c33]; rfl) (by decide) ?_
    exact lc_4 C0 (hP.sub [0, 4, 5, 7, 12] rfl) (hD.sub [0, 4, 5, 7, 12] (by decide) rfl) hS hl
  · refine lv_tableIn (off := 352) (tgt := 385) hx hb dL_law_33 (by rw [c33]; decide) (by rw [c33]; decide) (by rw [c33]; rfl) (by decide) ?_
    exact lc_5 C0 (hP.sub [0, 7, 12] rfl) (hD.sub [0, 7, 12] (by decide) rfl) hS hl
  · refine lv_tableIn (off := 385) (tgt := 418) hx hb dL_law_33 (by rw [c33]; decide) (by rw [c33]; decide) (by rw [c33]; rfl) (by decide) ?_
    exact lc_6 C0 (hP.sub [0, 7, 12] rfl) (hD.sub [0, 7, 12] (by decide) rfl) hS hl
  · refine lv_tableIn (off := 418) (tgt := 451) hx hb dL_law_33 (by rw [c33]; decide) (by rw [c33]; decide) (by rw [c33]; rfl) (by decide) ?_
    exact lc_7 C0 (hP.sub [0, 7, 12] rfl) (hD.sub [0, 7, 12] (by decide) rfl) hS hl
  · refine lv_tableIn (off := 441) (tgt := 474) hx hb dL_law_33 (by rw [c33]; decide) (by rw [c33]; decide) (by rw [c33]; rfl) (by decide) ?_
    exact lc_8 C0 (hP.sub [0, 7, 12] rfl) (hD.sub [0, 7, 12] (by decide) rfl) hS hl
  · refine lv_tableIn (off := 464) (tgt := 497) hx hb dL_law_33 (by rw [c33]; decide) (by rw [c33]; decide) (by rw [c33]; rfl) (by decide) ?_
    exact lc_9 C0 (hP.sub [0, 7, 12] rfl) (hD.sub [0, 7, 12] (by decide) rfl) hS hl
  · refine lv_tableIn (off := 497) (tgt := 530) hx hb dL_law_33 (by rw [c33]; decide) (by rw [c33]; decide) (by rw [c33]; rfl) (by decide) ?_
    exact lc_10 C0 (hP.sub [0, 7, 12] rfl) (hD.sub [0, 7, 12] (by decide) rfl) hS hl
  · refine lv_tableIn (off := 520) (tgt := 553) hx hb dL_law_33 (by rw [c33]; decide) (by rw [c33]; decide) (by rw [c33]; rfl) (by decide) ?_
    exact lc_11 C0 (hP.sub [0, 7, 12] rfl) (hD.sub [0, 7, 12] (by decide) rfl) hS hl
  · refine lv_tableIn (off := 553) (tgt := 586) hx hb dL_law_33 (by rw [c33]; decide) (by rw [c33]; decide) (by rw [c33]; rfl) (by decide) ?_
    exact lc_12 C0 (hP.sub [0, 7, 12] rfl) (hD.sub [0, 7, 12] (by decide) rfl) hS hl
  · refine lv_tableIn (off := 586) (tgt := 619) hx hb dL_law_33 (by rw [c33]; decide) (by rw [c33]; decide) (by rw [c33]; rfl) (by decide) ?_
    exact lc_13 C0 (hP.sub [0, 7, 12] rfl) (hD.sub [0, 7, 12] (by decide) rfl) hS hl
  · refine lv_tableIn (off := 609) (tgt := 642) hx hb dL_law_33 (by rw [c33]; decide) (by rw [c33]; decide) (by rw [c33]; rfl) (by decide) ?_
    exact lc_14 C0 (hP.sub [0, 7, 12] rfl) (hD.sub [0, 7, 12] (by decide) rfl) hS hl
  · refine lv_tableIn (off := 642) (tgt := 675) hx hb dL_law_33 (by rw [c33]; decide) (by rw [c33]; decide) (by rw [c33]; rfl) (by decide) ?_
    exact lc_15 C0 (hP.sub [0, 7, 12] rfl) (hD.sub [0, 7, 12] (by decide) rfl) hS hl
  · refine lv_tableIn (off := 665) (tgt := 698) hx hb dL_law_33 (by rw [c33]; decide) (by rw [c33]; decide) (by rw [c33]; rfl) (by decide) ?_
    exact lc_16 C0 (hP.sub [0, 7, 12] rfl) (hD.sub [0, 7, 12] (by decide) rfl) hS hl
  · refine lv_tableIn (off := 698) (tgt := 731) hx hb dL_law_33 (by rw [c33]; decide) (by rw [c33]; decide) (by rw [c33]; rfl) (by decide) ?_
    exact lc_17 C0 (hP.sub [0, 7, 12] rfl) (hD.sub [0, 7, 12] (by decide) rfl) hS hl
  · refine lv_tableIn (off := 731) (tgt := 764) hx hb dL_law_33 (by rw [c33]; decide) (by rw [c33]; decide) (by rw [c33]; rfl) (by decide) ?_
    exact lc_18 C0 (hP.sub [0, 7, 12] rfl) (hD.sub [0, 7, 12] (by decide) rfl) hS hl
  · refine lv_tableIn (off := 764) (tgt := 797) hx hb dL_law_33 (by rw [c33]; decide) (by rw [c33]; decide) (by rw [c33]; rfl) (by decide) ?_
    exact lc_19 C0 (hP.sub [0, 7, 12] rfl) (hD.sub [0, 7, 12] (by decide) rfl) hS hl
  · refine lv_tableIn (off := 797) (tgt := 830) hx hb dL_law_33 (by rw [c33]; decide) (by rw [c33]; decide) (by rw [c33]; rfl) (by decide) ?_
    exact lc_20 C0 (hP.sub [0, 7, 12] rfl) (hD.sub [0, 7, 12] (by decide) rfl) hS hl
  · refine lv_tableIn (off := 810) (tgt := 843) hx hb dL_law_33 (by rw [c33]; decide) (by rw [c33]; decide) (by rw [c33]; rfl) (by decide) ?_
    exact lc_21 C0 (hP.sub [0, 7, 12] rfl) (hD.sub [0, 7, 12] (by decide) rfl) hS hl
  · refine lv_tableIn (off := 833) (tgt := 866) hx hb dL_law_33 (by rw [c33]; decide) (by rw [c33]; decide) (by rw [c33]; rfl) (by decide) ?_
    exact lc_22 C0 (hP.sub [0, 7, 12] rfl) (hD.sub [0, 7, 12] (by decide) rfl) hS hl
  · refine lv_tableIn (off := 856) (tgt := 889) hx hb dL_law_33 (by rw [c33]; decide) (by rw [c33]; decide) (by rw [c33]; rfl) (by decide) ?_
    exact lc_23 C0 (hP.sub [0, 7, 12] rfl) (hD.sub [0, 7, 12] (by decide) rfl) hS hl
  · refine lv_tableIn (off := 889) (tgt := 922) hx hb dL_law_33 (by rw [c33]; decide) (by rw [c33]; decide) (by rw [c33]; rfl) (by decide) ?_
    exact lc_24 C0 (hP.sub [0, 7, 12] rfl) (hD.sub [0, 7, 12] (by decide) rfl) hS hl
  · refine lv_tableIn (off := 912) (tgt := 945) hx hb dL_law_33 (by rw [c33]; decide) (by rw [c33]; decide) (by rw [c33]; rfl) (by decide) ?_
    exact lc_25 C0 (hP.sub [0, 7, 12] rfl) (hD.sub [0, 7, 12] (by decide) rfl) hS hl
  · refine lv_tableIn (off := 935) (tgt := 968) hx hb dL_law_33 (by rw [c33]; decide) (by rw [c33]; decide) (by rw [c33]; rfl) (by decide) ?_
    exact lc_26 C0 (hP.sub [0, 7, 12] rfl) (hD.sub [0, 7, 12] (by decide) rfl) hS hl
  · refine lv_tableIn (off := 968) (tgt := 1001) hx hb dL_law_33 (by rw [c33]; decide) (by rw [c33]; decide) (by rw [c33]; rfl) (by decide) ?_
    exact lc_27 C0 (hP.sub [0, 7, 12] rfl) (hD.sub [0, 7, 12] (by decide) rfl) hS hl
  · refine lv_tableIn (off := 981) (tgt := 1014) hx hb dL_law_33 (by rw [c33]; decide) (by rw [c33]; decide) (by rw [c33]; rfl) (by decide) ?_
    exact lc_28 C0 (hP.sub [0, 7, 12] rfl) (hD.sub [0, 7, 12] (by decide) rfl) hS hl
  · refine lv_tableIn (off := 1004) (tgt := 1037) hx hb dL_law_33 (by rw [c33]; decide) (by rw [c33]; decide) (by rw [c33]; rfl) (by decide) ?_
    exact lc_29 C0 (hP.sub [0, 7, 12] rfl) (hD.sub [0, 7, 12] (by decide) rfl) hS hl
  · refine lv_tableIn (off := 1017) (tgt := 1050) hx hb dL_law_33 (by rw [c33]; decide) (by rw [c33]; decide) (by rw [c33]; rfl) (by decide) ?_
    exact lc_30 C0 (hP.sub [0, 7, 12] rfl) (hD.sub [0, 7, 12] (by decide) rfl) hS hl
  · refine lv_tableIn (off := 1040) (tgt := 1073) hx hb dL_law_33 (by rw [c33]; decide) (by rw [c33]; decide) (by rw [c33]; rfl) (by decide) ?_
    exact lc_31 C0 (hP.sub [0, 7, 12] rfl) (hD.sub [0, 7, 12] (by decide) rfl) hS hl
  · refine lv_tableIn (off := 1053) (tgt := 1086) hx hb dL_law_33 (by rw [c33]; decide) (by rw [c33]; decide) (by rw [c33]; rfl) (by decide) ?_
    exact lc_32 C0 (hP.sub [0, 7, 12] rfl) (hD.sub [0, 7, 12] (by decide) rfl) hS hl
  · refine lv_tableIn (off := 1076) (tgt := 1109) hx hb dL_law_33 (by rw [c33]; decide) (by rw [c33]; decide) (by rw [c33]; rfl) (by decide) ?_
    exact lc_33 C0 (hP.sub [0, 7, 12] rfl) (hD.sub [0, 7, 12] (by decide) rfl) hS hl
  · refine lv_tableIn (off := 1109) (tgt := 1142) hx hb dL_law_33 (by rw [c33]; decide) (by rw [c33]; decide) (by rw [c33]; rfl) (by decide) ?_
    exact lc_34 C0 (hP.sub [0, 1, 4, 6, 7, 12, 16] rfl) (hD.sub [0, 1, 4, 6, 7, 12, 16] (by decide) rfl) hS hl
  · refine lv_tableIn (off := 1122) (tgt := 1155) hx hb dL_law_33 (by rw [c33]; decide) (by rw [c33]; decide) (by rw [c33]; rfl) (by decide) ?_
    exact lc_35 C0 (hP.sub [0, 4, 12] rfl) (hD.sub [0, 4, 12] (by decide) rfl) hS hl
  · refine lv_tableIn (off := 1155) (tgt := 1188) hx hb dL_law_33 (by rw [c33]; decide) (by rw [c33]; decide) (by rw [c33]; rfl) (by decide) ?_
    exact lc_36 C0 (hP.sub [0, 4, 12] rfl) (hD.sub [0, 4, 12] (by decide) rfl) hS hl
  · refine lv_tableIn (off := 1188) (tgt := 1221) hx hb dL_law_33 (by rw [c33]; decide) (by rw [c33]; decide) (by rw [c33]; rfl) (by decide) ?_
    exact lc_37 C0 (hP.sub [0, 6, 7, 12, 16] rfl) (hD.sub [0, 6, 7, 12, 16] (by decide) rfl) hS hl
  · refine lv_tableIn (off := 1211) (tgt := 1244) hx hb dL_law_33 (by rw [c33]; decide) (by rw [c33]; decide) (by rw [c33]; rfl) (by decide) ?_
    exact lc_38 C0 (hP.sub [0, 6, 7, 12, 16] rfl) (hD.sub [0, 6, 7, 12, 16] (by decide) rfl) hS hl
  · refine lv_tableIn (off := 1234) (tgt := 1267) hx hb dL_law_33 (by rw [c33]; decide) (by rw [c33]; decide) (by rw [c33]; rfl) (by decide) ?_
    exact lc_39 C0 (hP.sub [0, 6, 7, 12, 16] rfl) (hD.sub [0, 6, 7, 12, 16] (by decide) rfl) hS hl
  · refine lv_tableIn (off := 1257) (tgt := 1290) hx hb dL_law_33 (by rw [c33]; decide) (by rw [c33]; decide) (by rw [c33]; rfl) (by decide) ?_
    exact lc_40 C0 (hP.sub [0, 6, 7, 12, 16] rfl) (hD.sub [0, 6, 7, 12, 16] (by decide) rfl) hS hl
  · refine lv_tableIn (off := 1280) (tgt := 1313) hx hb dL_law_33 (by rw [c33]; decide) (by rw [c33]; decide) (by rw [c33]; rfl) (by decide) ?_
    exact lc_41 C0 (hP.sub [0, 6, 7, 12, 16] rfl) (hD.sub [0, 6, 7, 12, 16] (by decide) rfl) hS hl
  · refine lv_tableIn (off := 1303) (tgt := 1336) hx hb dL_law_33 (by rw [c33]; decide) (by rw [c33]; decide) (by rw [c33]; rfl) (by decide) ?_
    exact lc_42 C0 (hP.sub [0, 6, 7, 12, 16] rfl) (hD.sub [0, 6, 7, 12, 16] (by decide) rfl) hS hl
  · refine lv_tableIn (off := 1336) (tgt := 1369) hx hb dL_law_33 (by rw [c33]; decide) (by rw [c33]; decide) (by rw [c33]; rfl) (by decide) ?_
    exact lc_43 C0 (hP.sub [0, 6, 7, 12, 16] rfl) (hD.sub [0, 6, 7, 12, 16] (by decide) rfl) hS hl
  · refine lv_tableIn (off := 1359) (tgt := 1392) hx hb dL_law_33 (by rw [c33]; decide) (by rw [c33]; decide) (by rw [c33]; rfl) (by decide) ?_
    exact lc_44 C0 (hP.sub [0, 6, 7, 12, 16] rfl) (hD.sub [0, 6, 7, 12, 16] (by decide) rfl) hS hl
  · refine lv_tableIn (off := 1382) (tgt := 1415) hx hb dL_law_33 (by rw [c33]; decide) (by rw [c33]; decide) (by rw [c33]; rfl) (by decide) ?_
    exact lc_45 C0 (hP.sub [0, 5, 6, 12, 16] rfl) (hD.sub [0, 5, 6, 12, 16] (by decide) rfl) hS hl
  · refine lv_tableIn (off := 1395) (tgt := 1428) hx hb dL_law_33 (by rw [c33]; decide) (by rw [c33]; decide) (by rw [c33]; rfl) (by decide) ?_
    exact lc_46 C0 (hP.sub [0, 6, 12, 16] rfl) (hD.sub [0, 6, 12, 16] (by decide) rfl) hS hl
  · refine lv_tableIn (off := 1418) (tgt := 1451) hx hb dL_law_33 (by rw [c33]; decide) (by rw [c33]; decide) (by rw [c33]; rfl) (by decide) ?_
    exact lc_47 C0 (hP.sub [0, 6, 12, 16] rfl) (hD.sub [0, 6, 12, 16] (by decide) rfl) hS hl
  · refine lv_tableOut (tgt := 1474) hx hb dL_law_33 c33 (by decide) ?_
    exact lc_end C0 (Nat.le_of_ble_eq_true rfl) (Nat.le_of_ble_eq_true rfl) hS (lv_sub hl [0, 3] rfl)
theorem dL_law_0 : decode cL_law 0 = .ok (.new 7, 3) := by decide +kernel
theorem dL_law_3 : decode cL_law 3 = .ok (.dup, 1) := by decide +kernel
theorem dL_law_4 : decode cL_law 4 = .ok (.invokespecial 9, 3) := by decide +kernel
theorem dL_law_7 : decode cL_law 7 = .ok (.astore_n 1, 1) := by decide +kernel
theorem dL_law_8 : decode cL_law 8 = .ok (.new 10, 3) := by decide +kernel
theorem dL_law_11 : decode cL_law 11 = .ok (.dup, 1) := by decide +kernel
theorem dL_law_12 : decode cL_law 12 = .ok (.invokespecial 12, 3) := by decide +kernel
theorem dL_law_15 : decode cL_law 15 = .ok (.astore_n 2, 1) := by decide +kernel
theorem dL_law_16 : decode cL_law 16 = .ok (.iconst 0, 1) := by decide +kernel
theorem dL_law_17 : decode cL_law 17 = .ok (.istore_n 3, 1) := by decide +kernel
set_option maxHeartbeats 8000000 in
set_option maxRecDepth 100000 in
/-- THE LAW, from its entry, for every script of at most 6 ints -/
theorem whole_start {p : Program} {e : Env} {s : State} {m : MethodId} {below : List Frame} {meth : Method} {c : Code} (l : Launch) (hflags : l.flags = flags0) {b L : Nat} {zs : Nat → Int32} (hL : L ≤ 6) (C0 : lw_At p s m meth c b L zs) : W p l e room_1 s m #[Value.ref b] below meth c s.heap [] 0 0 (lw_Z below #[Value.ref b] s) (entryFrame m ([Value.ref b] : List Value).toArray 4) := by
  obtain ⟨hx, hb, hr, hml, hown, hts, hZ, hbl, hlocks, hgv⟩ := id C0
  obtain ⟨g, hX⟩ := z_start hts hgv
  have hG : ∀ w ∈ zG, w.before #[Value.ref b] s = true := fun w hw => hts w (zG_tbl hw)
  have hown : s.vm.findClass RL = some m.cls := hown
  generalize hAe : (fun q : Nat => s.heap.size ≤ q) = A at hX
  have hA : ∀ q : Nat, s.heap.size ≤ q → A q := fun q h => by rw [← hAe]; exact h
  have hbA : ¬ A b := by rw [← hAe]; exact Nat.not_le.mpr hbl
  have hS : va_S A s.heap s.heap [] := va_S.rf
  have hP : va_P g.1 vwCl [] s.heap := fun k q h => by simp at h
  have hD : va_D A [] := ⟨fun i j p q h => by simp at h, fun k q h => by simp at h⟩
  have hl := lv_entry ([.ref b]) (n := 4) (Nat.le_of_ble_eq_true rfl)
  rw [lg_entry_eq]
  generalize (lg_sl ([.ref b]) ++ List.replicate (4 - (lg_sl ([.ref b])).length) Slot.unset).toArray = ls at hl ⊢
  have hl : lv_has ls 4 [(0, .ref b)] := hl
  refine va_new (ci := 8) (fs := [.null, .null, .null, .null, .null, .null, .null, .null, .null, .null, .int 0, .int 0, .int 0, .int 0]) (C := RX8) (T := TX8) (N := 14) hx hb hG iX8 tyX8 tyX8_ok hown (hG _ g220) (hG _ g221) (hG _ g202) hX.1 hP hD hS hA rfl (fun j hj => by rcases (show j = 0 ∨ j = 1 ∨ j = 2 ∨ j = 3 ∨ j = 4 ∨ j = 5 ∨ j = 6 ∨ j = 7 ∨ j = 8 ∨ j = 9 ∨ j = 10 ∨ j = 11 ∨ j = 12 ∨ j = 13 by omega) with rfl | rfl | rfl | rfl | rfl | rfl | rfl | rfl | rfl | rfl | rfl | rfl | rfl | rfl <;> rfl) (Nat.le_of_ble_eq_true rfl) (Nat.le_of_ble_eq_true rfl) dL_law_0 (fun q1 H hP hD hS => ?_)
  refine W.cs (cells' := 1) (slots' := 14) rfl rfl ?_
  have hP : va_P g.1 vwCl [(q1, .inr (8, [.null, .null, .null, .null, .null, .null, .null, .null, .null, .null, .int 0, .int 0, .int 0, .int 0]))] H := hP
  have hD : va_D A [(q1, .inr (8, [.null, .null, .null, .null, .null, .null, .null, .null, .null, .null, .int 0, .int 0, .int 0, .int 0]))] := hD
  refine lv_dup hx hb dL_law_3 rfl ?_
  refine zfv (wr := []) (va_runI (As := []) (rest := [.ref q1]) ⟨hx, hb, hml, hown, hG⟩ (kX8_init l g q1 _) ⟨callB_of 0 hG (zGood g224) rfl rfl rfl (hG _ g202) (hG _ g222) hX8_init ⟨Nat.le_of_ble_eq_true rfl, Nat.le_of_ble_eq_true rfl⟩, rfl, hG _ g223⟩ (zpreS hX hP hD hS hA [0] rfl (by decide)) rfl rfl hl.1 rfl (lv_room (Nat.le_of_ble_eq_true rfl)) dL_law_4 ⟨Nat.le_of_ble_eq_true rfl, Nat.le_of_ble_eq_true rfl⟩) hP hD hS hA [0] [] rfl rfl (by decide) (by decide) (fun z37 H locs hp hP hD hS => ?_)
  refine W.cs (cells' := 51) (slots' := 7041) rfl rfl ?_
  have hP : va_P g.1 vwCl [(q1, .inr (8, [.ref (z37 0), .ref (z37 1), .ref (z37 2), .ref (z37 3), .ref (z37 4), .ref (z37 5), .ref (z37 6), .ref (z37 7), .ref (z37 8), .ref (z37 9), .int 0, .int 1, .int 0, .int 0])), ((z37 0), .inr (7, [.ref (z37 10), .int 0])), ((z37 10), .inl (g.2.1.2.1, 1200, .inl (fun _ => 0))), ((z37 1), .inr (6, [.ref (z37 0), .null, .int 0, .int 0, .int 0, .int 0, .int (-1)])), ((z37 6), .inr (1, [.ref (z37 11), .ref (z37 12), .int 0])), ((z37 5), .inr (0, [.ref (z37 13), .int 0, .int 0])), ((z37 7), .inl (g.2.1.1, 6, .inl (fun _ => 0))), ((z37 8), .inr (4, [.int 0, .int 0, .int 0, .int 0, .int 0, .int 0, .ref (z37 14), .ref (z37 15), .ref (z37 16), .ref (z37 17), .ref (z37 18), .ref (z37 19), .ref (z37 20), .ref (z37 21), .ref (z37 22), .ref (z37 23)])), ((z37 9), .inr (4, [.int 0, .int 0, .int 0, .int 0, .int 0, .int 0, .ref (z37 24), .ref (z37 25), .ref (z37 26), .ref (z37 27), .ref (z37 28), .ref (z37 29), .ref (z37 30), .ref (z37 31), .ref (z37 32), .ref (z37 33)])), ((z37 25), .inl (g.2.1.1, 10, .inl (fun _ => 0))), ((z37 30), .inl (g.2.1.1, 9, .inl (fun _ => 0))), ((z37 31), .inl (g.2.1.1, 9, .inl (fun _ => 0)))] H := hP
  have hD : va_D A [(q1, .inr (8, [.ref (z37 0), .ref (z37 1), .ref (z37 2), .ref (z37 3), .ref (z37 4), .ref (z37 5), .ref (z37 6), .ref (z37 7), .ref (z37 8), .ref (z37 9), .int 0, .int 1, .int 0, .int 0])), ((z37 0), .inr (7, [.ref (z37 10), .int 0])), ((z37 10), .inl (g.2.1.2.1, 1200, .inl (fun _ => 0))), ((z37 1), .inr (6, [.ref (z37 0), .null, .int 0, .int 0, .int 0, .int 0, .int (-1)])), ((z37 6), .inr (1, [.ref (z37 11), .ref (z37 12), .int 0])), ((z37 5), .inr (0, [.ref (z37 13), .int 0, .int 0])), ((z37 7), .inl (g.2.1.1, 6, .inl (fun _ => 0))), ((z37 8), .inr (4, [.int 0, .int 0, .int 0, .int 0, .int 0, .int 0, .ref (z37 14), .ref (z37 15), .ref (z37 16), .ref (z37 17), .ref (z37 18), .ref (z37 19), .ref (z37 20), .ref (z37 21), .ref (z37 22), .ref (z37 23)])), ((z37 9), .inr (4, [.int 0, .int 0, .int 0, .int 0, .int 0, .int 0, .ref (z37 24), .ref (z37 25), .ref (z37 26), .ref (z37 27), .ref (z37 28), .ref (z37 29), .ref (z37 30), .ref (z37 31), .ref (z37 32), .ref (z37 33)])), ((z37 25), .inl (g.2.1.1, 10, .inl (fun _ => 0))), ((z37 30), .inl (g.2.1.1, 9, .inl (fun _ => 0))), ((z37 31), .inl (g.2.1.1, 9, .inl (fun _ => 0)))] := hD
  refine lv_astore_n (lv' := [(1, .ref q1), (0, .ref b)]) hx hb dL_law_7 rfl hl (by decide) rfl (fun ls hl => ?_)
  refine va_new (ci := 9) (fs := [.null, .null, .null, .null, .null, .int 0, .int 0, .int 0, .null, .int 0, .null, .int 0, .int 0, .int 0, .int 0, .int 0, .int 0, .int 0, .null, .null, .int 0, .null, .null, .null, .null, .null, .null, .null, .null, .null, .null, .int 0, .null, .null, .int 0, .null, .null]) (C := RX9) (T := TX9) (N := 37) hx hb hG iX9 tyX9 tyX9_ok hown (hG _ g1411) (hG _ g1412) (hG _ g211) hX.1 hP hD hS hA rfl (fun j hj => by rcases (show j = 0 ∨ j = 1 ∨ j = 2 ∨ j = 3 ∨ j = 4 ∨ j = 5 ∨ j = 6 ∨ j = 7 ∨ j = 8 ∨ j = 9 ∨ j = 10 ∨ j = 11 ∨ j = 12 ∨ j = 13 ∨ j = 14 ∨ j = 15 ∨ j = 16 ∨ j = 17 ∨ j = 18 ∨ j = 19 ∨ j = 20 ∨ j = 21 ∨ j = 22 ∨ j = 23 ∨ j = 24 ∨ j = 25 ∨ j = 26 ∨ j = 27 ∨ j = 28 ∨ j = 29 ∨ j = 30 ∨ j = 31 ∨ j = 32 ∨ j = 33 ∨ j = 34 ∨ j = 35 ∨ j = 36 by omega) with rfl | rfl | rfl | rfl | rfl | rfl | rfl | rfl | rfl | rfl | rfl | rfl | rfl | rfl | rfl | rfl | rfl | rfl | rfl | rfl | rfl | rfl | rfl | rfl | rfl | rfl | rfl | rfl | rfl | rfl | rfl | rfl | rfl | rfl | rfl | rfl | rfl <;> rfl) (Nat.le_of_ble_eq_true rfl) (Nat.le_of_ble_eq_true rfl) dL_law_8 (fun q38 H hP hD hS => ?_)
  refine W.cs (cells' := 52) (slots' := 7078) rfl rfl ?_
  have hP : va_P g.1 vwCl [(q1, .inr (8, [.ref (z37 0), .ref (z37 1), .ref (z37 2), .ref (z37 3), .ref (z37 4), .ref (z37 5), .ref (z37 6), .ref (z37 7), .ref (z37 8), .ref (z37 9), .int 0, .int 1, .int 0, .int 0])), ((z37 0), .inr (7, [.ref (z37 10), .int 0])), ((z37 10), .inl (g.2.1.2.1, 1200, .inl (fun _ => 0))), ((z37 1), .inr (6, [.ref (z37 0), .null, .int 0, .int 0, .int 0, .int 0, .int (-1)])), ((z37 6), .inr (1, [.ref (z37 11), .ref (z37 12), .int 0])), ((z37 5), .inr (0, [.ref (z37 13), .int 0, .int 0])), ((z37 7), .inl (g.2.1.1, 6, .inl (fun _ => 0))), ((z37 8), .inr (4, [.int 0, .int 0, .int 0, .int 0, .int 0, .int 0, .ref (z37 14), .ref (z37 15), .ref (z37 16), .ref (z37 17), .ref (z37 18), .ref (z37 19), .ref (z37 20), .ref (z37 21), .ref (z37 22), .ref (z37 23)])), ((z37 9), .inr (4, [.int 0, .int 0, .int 0, .int 0, .int 0, .int 0, .ref (z37 24), .ref (z37 25), .ref (z37 26), .ref (z37 27), .ref (z37 28), .ref (z37 29), .ref (z37 30), .ref (z37 31), .ref (z37 32), .ref (z37 33)])), ((z37 25), .inl (g.2.1.1, 10, .inl (fun _ => 0))), ((z37 30), .inl (g.2.1.1, 9, .inl (fun _ => 0))), ((z37 31), .inl (g.2.1.1, 9, .inl (fun _ => 0))), (q38, .inr (9, [.null, .null, .null, .null, .null, .int 0, .int 0, .int 0, .null, .int 0, .null, .int 0, .int 0, .int 0, .int 0, .int 0, .int 0, .int 0, .null, .null, .int 0, .null, .null, .null, .null, .null, .null, .null, .null, .null, .null, .int 0, .null, .null, .int 0, .null, .null]))] H := hP
  have hD : va_D A [(q1, .inr (8, [.ref (z37 0), .ref (z37 1), .ref (z37 2), .ref (z37 3), .ref (z37 4), .ref (z37 5), .ref (z37 6), .ref (z37 7), .ref (z37 8), .ref (z37 9), .int 0, .int 1, .int 0, .int 0])), ((z37 0), .inr (7, [.ref (z37 10), .int 0])), ((z37 10), .inl (g.2.1.2.1, 1200, .inl (fun _ => 0))), ((z37 1), .inr (6, [.ref (z37 0), .null, .int 0, .int 0, .int 0, .int 0, .int (-1)])), ((z37 6), .inr (1, [.ref (z37 11), .ref (z37 12), .int 0])), ((z37 5), .inr (0, [.ref (z37 13), .int 0, .int 0])), ((z37 7), .inl (g.2.1.1, 6, .inl (fun _ => 0))), ((z37 8), .inr (4, [.int 0, .int 0, .int 0, .int 0, .int 0, .int 0, .ref (z37 14), .ref (z37 15), .ref (z37 16), .ref (z37 17), .ref (z37 18), .ref (z37 19), .ref (z37 20), .ref (z37 21), .ref (z37 22), .ref (z37 23)])), ((z37 9), .inr (4, [.int 0, .int 0, .int 0, .int 0, .int 0, .int 0, .ref (z37 24), .ref (z37 25), .ref (z37 26), .ref (z37 27), .ref (z37 28), .ref (z37 29), .ref (z37 30), .ref (z37 31), .ref (z37 32), .ref (z37 33)])), ((z37 25), .inl (g.2.1.1, 10, .inl (fun _ => 0))), ((z37 30), .inl (g.2.1.1, 9, .inl (fun _ => 0))), ((z37 31), .inl (g.2.1.1, 9, .inl (fun _ => 0))), (q38, .inr (9, [.null, .null, .null, .null, .null, .int 0, .int 0, .int 0, .null, .int 0, .null, .int 0, .int 0, .int 0, .int 0, .int 0, .int 0, .int 0, .null, .null, .int 0, .null, .null, .null, .null, .null, .null, .null, .null, .null, .null, .int 0, .null, .null, .int 0, .null, .null]))] := hD
  refine lv_dup hx hb dL_law_11 rfl ?_
  refine zfv (wr := [(q1, .inr (8, [.ref (z37 0), .ref (z37 1), .ref (z37 2), .ref (z37 3), .ref (z37 4), .ref (z37 5), .ref (z37 6), .ref (z37 7), .ref (z37 8), .ref (z37 9), .int 0, .int 1, .int 0, .int 0])), ((z37 0), .inr (7, [.ref (z37 10), .int 0])), ((z37 10), .inl (g.2.1.2.1, 1200, .inl (fun _ => 0))), ((z37 1), .inr (6, [.ref (z37 0), .null, .int 0, .int 0, .int 0, .int 0, .int (-1)])), ((z37 6), .inr (1, [.ref (z37 11), .ref (z37 12), .int 0])), ((z37 5), .inr (0, [.ref (z37 13), .int 0, .int 0])), ((z37 7), .inl (g.2.1.1, 6, .inl (fun _ => 0))), ((z37 8), .inr (4, [.int 0, .int 0, .int 0, .int 0, .int 0, .int 0, .ref (z37 14), .ref (z37 15), .ref (z37 16), .ref (z37 17), .ref (z37 18), .ref (z37 19), .ref (z37 20), .ref (z37 21), .ref (z37 22), .ref (z37 23)])), ((z37 9), .inr (4, [.int 0, .int 0, .int 0, .int 0, .int 0, .int 0, .ref (z37 24), .ref (z37 25), .ref (z37 26), .ref (z37 27), .ref (z37 28), .ref (z37 29), .ref (z37 30), .ref (z37 31), .ref (z37 32), .ref (z37 33)])), ((z37 25), .inl (g.2.1.1, 10, .inl (fun _ => 0))), ((z37 30), .inl (g.2.1.1, 9, .inl (fun _ => 0))), ((z37 31), .inl (g.2.1.1, 9, .inl (fun _ => 0)))]) (va_runI (As := []) (rest := [.ref q38]) ⟨hx, hb, hml, hown, hG⟩ (kX9_init l g q38 _) ⟨callB_of 0 hG (zGood g1415) rfl rfl rfl (hG _ g211) (hG _ g1413) hX9_init ⟨Nat.le_of_ble_eq_true rfl, Nat.le_of_ble_eq_true rfl⟩, rfl, hG _ g1414⟩ (zpreS hX hP hD hS hA [12] rfl (by decide)) rfl rfl hl.1 rfl (lv_room (Nat.le_of_ble_eq_true rfl)) dL_law_12 ⟨Nat.le_of_ble_eq_true rfl, Nat.le_of_ble_eq_true rfl⟩) hP hD hS hA [12] [0, 1, 2, 3, 4, 5, 6, 7, 8, 9, 10, 11] rfl rfl (by decide) (by decide) (fun z63 H locs hp hP hD hS => ?_)
  refine W.cs (cells' := 75) (slots' := 18897) rfl rfl ?_
  have hP : va_P g.1 vwCl [(q1, .inr (8, [.ref (z37 0), .ref (z37 1), .ref (z37 2), .ref (z37 3), .ref (z37 4), .ref (z37 5), .ref (z37 6), .ref (z37 7), .ref (z37 8), .ref (z37 9), .int 0, .int 1, .int 0, .int 0])), ((z37 0), .inr (7, [.ref (z37 10), .int 0])), ((z37 10), .inl (g.2.1.2.1, 1200, .inl (fun _ => 0))), ((z37 1), .inr (6, [.ref (z37 0), .null, .int 0, .int 0, .int 0, .int 0, .int (-1)])), ((z37 6), .inr (1, [.ref (z37 11), .ref (z37 12), .int 0])), ((z37 5), .inr (0, [.ref (z37 13), .int 0, .int 0])), ((z37 7), .inl (g.2.1.1, 6, .inl (fun _ => 0))), ((z37 8), .inr (4, [.int 0, .int 0, .int 0, .int 0, .int 0, .int 0, .ref (z37 14), .ref (z37 15), .ref (z37 16), .ref (z37 17), .ref (z37 18), .ref (z37 19), .ref (z37 20), .ref (z37 21), .ref (z37 22), .ref (z37 23)])), ((z37 9), .inr (4, [.int 0, .int 0, .int 0, .int 0, .int 0, .int 0, .ref (z37 24), .ref (z37 25), .ref (z37 26), .ref (z37 27), .ref (z37 28), .ref (z37 29), .ref (z37 30), .ref (z37 31), .ref (z37 32), .ref (z37 33)])), ((z37 25), .inl (g.2.1.1, 10, .inl (fun _ => 0))), ((z37 30), .inl (g.2.1.1, 9, .inl (fun _ => 0))), ((z37 31), .inl (g.2.1.1, 9, .inl (fun _ => 0))), (q38, .inr (9, [.ref (z63 0), .ref (z63 1), .ref (z63 2), .ref (z63 3), .ref (z63 4), .int 0, .int 1, .int 0, .ref (z63 5), .int 0, .ref (z63 6), .int 0, .int (-1), .int 0, .int 0, .int 0, .int 0, .int (-1), .ref (z63 7), .ref (z63 8), .int 0, .ref (z63 9), .ref (z63 10), .ref (z63 11), .ref (z63 12), .ref (z63 13), .ref (z63 14), .ref (z63 15), .ref (z63 16), .ref (z63 17), .ref (z63 18), .int 0, .ref (z63 19), .ref (z63 20), .int 0, .ref (z63 21), .ref (z63 22)])), ((z63 1), .inl (g.2.1.1, 103, .inl (fun _ => 0))), ((z63 3), .inl (g.2.1.1, 21, .inl (fun _ => 0))), ((z63 5), .inl (g.2.1.1, 1200, .inl (fun _ => 0))), ((z63 6), .inl (g.2.1.1, 6, .inl (fun _ => 0)))] H := hP
  have hD : va_D A [(q1, .inr (8, [.ref (z37 0), .ref (z37 1), .ref (z37 2), .ref (z37 3), .ref (z37 4), .ref (z37 5), .ref (z37 6), .ref (z37 7), .ref (z37 8), .ref (z37 9), .int 0, .int 1, .int 0, .int 0])), ((z37 0), .inr (7, [.ref (z37 10), .int 0])), ((z37 10), .inl (g.2.1.2.1, 1200, .inl (fun _ => 0))), ((z37 1), .inr (6, [.ref (z37 0), .null, .int 0, .int 0, .int 0, .int 0, .int (-1)])), ((z37 6), .inr (1, [.ref (z37 11), .ref (z37 12), .int 0])), ((z37 5), .inr (0, [.ref (z37 13), .int 0, .int 0])), ((z37 7), .inl (g.2.1.1, 6, .inl (fun _ => 0))), ((z37 8), .inr (4, [.int 0, .int 0, .int 0, .int 0, .int 0, .int 0, .ref (z37 14), .ref (z37 15), .ref (z37 16), .ref (z37 17), .ref (z37 18), .ref (z37 19), .ref (z37 20), .ref (z37 21), .ref (z37 22), .ref (z37 23)])), ((z37 9), .inr (4, [.int 0, .int 0, .int 0, .int 0, .int 0, .int 0, .ref (z37 24), .ref (z37 25), .ref (z37 26), .ref (z37 27), .ref (z37 28), .ref (z37 29), .ref (z37 30), .ref (z37 31), .ref (z37 32), .ref (z37 33)])), ((z37 25), .inl (g.2.1.1, 10, .inl (fun _ => 0))), ((z37 30), .inl (g.2.1.1, 9, .inl (fun _ => 0))), ((z37 31), .inl (g.2.1.1, 9, .inl (fun _ => 0))), (q38, .inr (9, [.ref (z63 0), .ref (z63 1), .ref (z63 2), .ref (z63 3), .ref (z63 4), .int 0, .int 1, .int 0, .ref (z63 5), .int 0, .ref (z63 6), .int 0, .int (-1), .int 0, .int 0, .int 0, .int 0, .int (-1), .ref (z63 7), .ref (z63 8), .int 0, .ref (z63 9), .ref (z63 10), .ref (z63 11), .ref (z63 12), .ref (z63 13), .ref (z63 14), .ref (z63 15), .ref (z63 16), .ref (z63 17), .ref (z63 18), .int 0, .ref (z63 19), .ref (z63 20), .int 0, .ref (z63 21), .ref (z63 22)])), ((z63 1), .inl (g.2.1.1, 103, .inl (fun _ => 0))), ((z63 3), .inl (g.2.1.1, 21, .inl (fun _ => 0))), ((z63 5), .inl (g.2.1.1, 1200, .inl (fun _ => 0))), ((z63 6), .inl (g.2.1.1, 6, .inl (fun _ => 0)))] := hD
  refine lv_astore_n (lv' := [(2, .ref q38), (1, .ref q1), (0, .ref b)]) hx hb dL_law_15 rfl hl (by decide) rfl (fun ls hl => ?_)
  refine lv_iconst (v := 0) hx hb dL_law_16 (by decide) ?_
  refine lv_istore_n (lv' := [(3, .int 0), (2, .ref q38), (1, .ref q1), (0, .ref b)]) hx hb dL_law_17 rfl hl (by decide) rfl (fun ls hl => ?_)
  rcases Nat.lt_or_ge L 6 with hlt | hge
  · refine lv_iload_n hx hb dL_law_18 rfl (lv_at hl 0 rfl) ?_
    refine lv_aload_n hx hb dL_law_19 rfl (lv_at hl 3 rfl) ?_
    refine va_slen hx hb hZ hbl hbA hS dL_law_20 ?_
    refine lv_bipush (v := 6) hx hb dL_law_21 (by decide) ?_
    refine lv_isub hx hb dL_law_23 ?_
    refine lv_icmp_gt (tgt := 1480) hx hb dL_law_24 (by decide) (fun c9 => ?_) (fun c9 => (c9 (pk_sneg (a := L) (b := 6) (by decide) hlt)).elim)
    refine lv_iconst (v := 1) hx hb dL_law_1480 (by decide) ?_
    refine va_forget (fun q hq => by have h9 := hS.2.2 q hq; rw [← hAe] at h9; exact h9) ?_
    refine W.widen (k := 600000) (n := 7302250) (Nat.le_of_ble_eq_true rfl) (Nat.le_of_ble_eq_true rfl) ?_
    exact lw_ret hx hb hr hlocks dL_law_1481
  · have h6 : L = 6 := Nat.le_antisymm hL hge
    subst h6
    have C1 : zLw p s m meth c b zs g A := ⟨hx, hb, hr, hml, hown, hG, hlocks, hX, hA, fun q h => (by rw [← hAe] at h; exact h), hZ, hbl, hbA⟩
    exact lc_head C1 (hP.sub [0, 1, 2, 3, 4, 5, 6, 7, 8, 9, 10, 11, 12, 13, 14, 15, 16] rfl) (hD.sub [0, 1, 2, 3, 4, 5, 6, 7, 8, 9, 10, 11, 12, 13, 14, 15, 16] (by decide) rfl) hS (lv_sub hl [3, 2, 1, 0] rfl)
-- ===== YOUR PART ENDS =====
set_option maxHeartbeats 4000000 in
theorem lw_walk (l : Launch) (hflags : l.flags = flags0) (b : Addr) (xs : List Int32) : MetFree l x (headSpec (Jvm.Cond.code x code maxLocals ret :: tables_1) room_1) (lw_P b xs) (fun _ _ _ _ _ => True) lw_Q := by
  refine MetFree.of_bodyS (code := code) (maxLocals := maxLocals) (ret := ret) (by decide) ?_ ?_
  · intro args s m h hn
    obtain ⟨meth, c, h1, h2, h3, h4, h5, h6, -, -⟩ := Cond.code_spec hn (atoms_spec (ws := Jvm.Cond.code x code maxLocals ret :: tables_1) h _ List.mem_cons_self)
    exact ⟨meth, c, h1, h2, h3, h4, h5, h6⟩
  · intro p e s m args below meth c s₁ B hml0 hP _
    obtain ⟨rfl, hx, hbd, hgv⟩ := hP
    obtain ⟨scr, harrAt, hlist, hof, hsmall⟩ := hx
    obtain ⟨hcb, hkn, -, -⟩ := State.arrayAt?_spec harrAt
    have hown : s.vm.findClass R_law = some m.cls := findClass_of_methodNamed B.named
    have hts0 : ∀ c ∈ (Jvm.Cond.code x code maxLocals ret :: tables_1), c.before #[Value.ref b] s = true := atoms_spec (ws := Jvm.Cond.code x code maxLocals ret :: tables_1) B.pre
    have hts : ∀ w ∈ lw_tbl, w.before #[Value.ref b] s = true := k2_hts_sels lw_privs (fun w hw => hts0 w (List.mem_cons_of_mem _ hw)) lw_privs_ok
    have hml : c.maxLocals = 4 := B.maxLocals_eq (hts0 _ List.mem_cons_self)
    have X₀ : Stand p l e room_1 s m #[Value.ref b] below meth c s₁ [] 0 0 := Stand.of_body B
    have hh0 : s₁.heap = s.heap := by rw [B.state]; rfl
    have hsz : scr.slots.size = xs.length := by rw [← Array.length_toList, hlist, List.length_map]
    have hval : ∀ j : Nat, j < xs.length → scr.slots[j]? = some (.int (xs.getD j 0)) := fun j hj => by
      rw [← Array.getElem?_toList, hlist]
      simp [hj]
    have hbl : b < s.heap.size := (Array.getElem?_eq_some_iff.mp hcb).1
    have hX : va_X b xs.length (fun j => xs.getD j 0) s s.heap := ⟨scr, hcb, hof, hkn, hsz, hval⟩
    have K : W p l e room_1 s m #[Value.ref b] below meth c s₁.heap [] 0 0 (lw_Z below #[Value.ref b] s) (entryFrame m ([Value.ref b] : List Value).toArray 4) := by
      rw [hh0]
      exact whole_start l hflags hbd ⟨B.exec, B.bytes, B.returns, hml, hown, hts, hX, hbl, B.notSynchronized, hgv⟩
    obtain ⟨t, a1, o, b1, b2, b3⟩ := K s₁ rfl X₀
    exact ⟨t, o, a1, b1, b2, b3⟩
theorem lw_pre_spec {args : Array Value} {s : State} (h : (Jvm.Cond.and given_1 narrow_1).before args s = true) (hr : rest_1_c.before args s = true) : ∃ (b : Addr) (xs : List Int32), lw_P b xs args s := by
  have hs := flat_of_before _ h
  have hq := flat_of_before _ hr
  have hc : (Cond.count 1).before args s = true := hs _ (by decide +kernel)
  have harr : (Cond.arrayOf (.arg 0) .int).before args s = true := hs _ (by decide +kernel)
  have hle : (Cond.le (.length (.arg 0)) (.int 6)).before args s = true := hs _ (by decide +kernel)
  have hlen : (Cond.isInt (.length (.arg 0))).before args s = true := hq _ (by decide +kernel)
  have hall : (Cond.all (.arg 0) (.isInt (.elem (.arg 0) (.index 0)))).before args s = true := hq _ (by decide +kernel)
  obtain ⟨b, xs, hb, hx⟩ := State.ints_of_pre rfl harr hlen hall
  have hsm : xs.length < 2 ^ 31 := hx.choose_spec.2.2.2
  have hev : (Term.length (.arg 0)).eval args s none [] s = some (.int xs.length.toInt32) := hx.length_eval hb
  have hv := Cond.le_ints hev (show (Term.int 6).eval args s none [] s = some (.int 6) from rfl)
  have hd : xs.length.toInt32 ≤ 6 := by
    simpa [Cond.before, Cond.holds, hv] using hle
  have hN : xs.length ≤ 6 := (Int32.ofNat_le_ofNat hsm (by decide)).mp (show Int32.ofNat xs.length ≤ Int32.ofNat 6 from hd)
  exact ⟨b, xs, Cond.one_arg hc (show args[0]? = some (.ref b) from hb), hx, hN, h⟩
theorem lw_comes (l : Launch) (hflags : l.flags = flags0) : Comes l x (Jvm.Cond.code x code maxLocals ret :: tables_1) room_1 (fun tb e args s => Calls_1 tb e args s ∧ rest_1 tb e args s ∧ Pre_1 tb e args s)
    (fun _ _ args s o t => lw_Q args s o t) := by
  intro p e ha hc hk s m args below hf hfit hheap happ hpre
  obtain ⟨b, xs, hP⟩ := lw_pre_spec hpre.2.2 hpre.2.1
  obtain ⟨k, o, h1, h2, h3, hQ⟩ := lw_walk l hflags b xs p e ha hc hk s m args below hf ((Spec.applies_iff_loose hf).mp happ).1 hP trivial
  exact ⟨k, o, h1, h2, h3, hQ⟩
theorem lw_frame {s t : State} {o : Outcome} {args : Array Value} (h : Framed s o t [] 600000 7302250) :
    Framed s o t (fieldLocs frame_1_writes args s ++ arrayLocs frame_1_arrays args s ++ staticLocs frame_1_statics s) 600000 7302250 := h
theorem lw_limb (L : Cond) (hL : ∀ (args : Array Value) (s t : State), L.after args s (.returned (some (.int 1))) t = true) :
    ArmFor flags0 classFile x code maxLocals ret World_1 tables_1 room_1 Calls_1 rest_1 Pre_1
      (fun tb e a s o t => postC L tb e a s o t ∧ Framed s o t (fieldLocs frame_1_writes a s ++ arrayLocs frame_1_arrays a s ++ staticLocs frame_1_statics s) 600000 7302250) := by
  intro l hflags _ _ p e ha hc hk s m args below hf hfit hheap happ hpre
  obtain ⟨k, o, h1, h2, h3, rfl, hF⟩ := lw_comes l hflags p e ha hc hk s m args below hf hfit hheap happ hpre
  exact ⟨k, _, h1, h2, h3, hL args s _, lw_frame hF⟩
theorem i_vc : Claimed_1_1 ∧ Claimed_1_2 := ⟨lw_limb limb_1_1 (fun args s t => by simp [limb_1_1, Cond.after, Cond.holds, Cond.value]), lw_limb limb_1_2 (fun args s t => Cond.after_iff.mpr (by
  first | (rw [show limb_1_2 = Cond.eq .result (.int 1) from rfl, Cond.eq_ints (x := 1) (y := 1) rfl rfl]; simp; done) | (simp [limb_1_2, Cond.value, Term.eval]; done)))⟩
