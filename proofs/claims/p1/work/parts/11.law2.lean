theorem dL_law_922 : decode cL_law 922 = .ok (.aload_n 1, 1) := by decide +kernel
theorem dL_law_923 : decode cL_law 923 = .ok (.aload_n 0, 1) := by decide +kernel
theorem dL_law_924 : decode cL_law 924 = .ok (.iload_n 3, 1) := by decide +kernel
theorem dL_law_925 : decode cL_law 925 = .ok (.iconst 1, 1) := by decide +kernel
theorem dL_law_926 : decode cL_law 926 = .ok (.iadd, 1) := by decide +kernel
theorem dL_law_927 : decode cL_law 927 = .ok (.iaload, 1) := by decide +kernel
theorem dL_law_928 : decode cL_law 928 = .ok (.invokevirtual 114, 3) := by decide +kernel
theorem dL_law_931 : decode cL_law 931 = .ok (.aload_n 2, 1) := by decide +kernel
theorem dL_law_932 : decode cL_law 932 = .ok (.aload_n 0, 1) := by decide +kernel
theorem dL_law_933 : decode cL_law 933 = .ok (.iload_n 3, 1) := by decide +kernel
theorem dL_law_934 : decode cL_law 934 = .ok (.iconst 1, 1) := by decide +kernel
theorem dL_law_935 : decode cL_law 935 = .ok (.iadd, 1) := by decide +kernel
theorem dL_law_936 : decode cL_law 936 = .ok (.iaload, 1) := by decide +kernel
theorem dL_law_937 : decode cL_law 937 = .ok (.invokevirtual 117, 3) := by decide +kernel
theorem dL_law_940 : decode cL_law 940 = .ok (.if_icmp .eq 534, 3) := by decide +kernel
set_option maxHeartbeats 4000000 in
set_option maxRecDepth 100000 in
theorem lc_24 {p : Program} {l : Launch} {e : Env} {s : State} {m : MethodId} {below : List Frame} {meth : Method} {c : Code} {b : Nat} {zs : Nat → Int32} {g : zL} {A : Nat → Prop} (C0 : zLw p s m meth c b zs g A) {h0 xt xr xp xs xm xh xe xf pa dr p_toolWidth p_told p_name p_parent p_side p_from p_width p_height p_radius p_toolSet n0 m_told m_read m_now m_readNow m_kept m_tape m_refused m_ownLetters m_flats m_corner m_wayX m_wayY m_normal m_low m_high m_clear m_ways m_canBe m_lain m_fewestBy m_sortOf m_seenFlange m_seenLength : Nat} {H : Heap} {locs : List Loc} {ls : Array Slot} (hP : va_P g.1 vwCl [(h0, .inr (8, [.ref xt, .ref xr, .ref xp, .ref xs, .ref xm, .ref xh, .ref xe, .ref xf, .ref pa, .ref dr, .int 0, .int 1, .int 0, .int 0])), (pa, .inr (4, [.int 0, .int 0, .int 0, .int 0, .int 0, .int 0, .ref p_toolWidth, .ref p_told, .ref p_name, .ref p_parent, .ref p_side, .ref p_from, .ref p_width, .ref p_height, .ref p_radius, .ref p_toolSet])), (n0, .inr (9, [.ref m_told, .ref m_read, .ref m_now, .ref m_readNow, .ref m_kept, .int 0, .int 1, .int 0, .ref m_tape, .int 0, .ref m_refused, .int 0, .int (-1), .int 0, .int 0, .int 0, .int 0, .int (-1), .ref m_ownLetters, .ref m_flats, .int 0, .ref m_corner, .ref m_wayX, .ref m_wayY, .ref m_normal, .ref m_low, .ref m_high, .ref m_clear, .ref m_ways, .ref m_canBe, .ref m_lain, .int 0, .ref m_fewestBy, .ref m_sortOf, .int 0, .ref m_seenFlange, .ref m_seenLength]))] H) (hD : va_D A [(h0, .inr (8, [.ref xt, .ref xr, .ref xp, .ref xs, .ref xm, .ref xh, .ref xe, .ref xf, .ref pa, .ref dr, .int 0, .int 1, .int 0, .int 0])), (pa, .inr (4, [.int 0, .int 0, .int 0, .int 0, .int 0, .int 0, .ref p_toolWidth, .ref p_told, .ref p_name, .ref p_parent, .ref p_side, .ref p_from, .ref p_width, .ref p_height, .ref p_radius, .ref p_toolSet])), (n0, .inr (9, [.ref m_told, .ref m_read, .ref m_now, .ref m_readNow, .ref m_kept, .int 0, .int 1, .int 0, .ref m_tape, .int 0, .ref m_refused, .int 0, .int (-1), .int 0, .int 0, .int 0, .int 0, .int (-1), .ref m_ownLetters, .ref m_flats, .int 0, .ref m_corner, .ref m_wayX, .ref m_wayY, .ref m_normal, .ref m_low, .ref m_high, .ref m_clear, .ref m_ways, .ref m_canBe, .ref m_lain, .int 0, .ref m_fewestBy, .ref m_sortOf, .int 0, .ref m_seenFlange, .ref m_seenLength]))]) (hS : va_S A s.heap H locs) (hl : lv_has ls 4 [(0, .ref b), (1, .ref h0), (2, .ref n0), (3, .int 0)]) : W p l e room_1 s m #[Value.ref b] below meth c H locs 75 18897 (lw_Z below #[Value.ref b] s) (F0 m 922 ls []) := by
  obtain ⟨hx, hb, hr, hml, hown, hG, hlocks, hX, hA, hA2, hZ, hbl, hbA⟩ := id C0
  refine lv_aload_n hx hb dL_law_922 rfl (lv_at hl 1 rfl) ?_
  refine lv_aload_n hx hb dL_law_923 rfl (lv_at hl 0 rfl) ?_
  refine lv_iload_n hx hb dL_law_924 rfl (lv_at hl 3 rfl) ?_
  refine lv_iconst (v := 1) hx hb dL_law_925 (by decide) ?_
  refine lv_iadd hx hb dL_law_926 ?_
  refine zt (z := 1) (by decide) ?_
  refine va_sld hx hb hZ hbl hbA hS (vp_in_iff.mpr (by decide)) dL_law_927 ?_
  refine zfi (wr := [(n0, .inr (9, [.ref m_told, .ref m_read, .ref m_now, .ref m_readNow, .ref m_kept, .int 0, .int 1, .int 0, .ref m_tape, .int 0, .ref m_refused, .int 0, .int (-1), .int 0, .int 0, .int 0, .int 0, .int (-1), .ref m_ownLetters, .ref m_flats, .int 0, .ref m_corner, .ref m_wayX, .ref m_wayY, .ref m_normal, .ref m_low, .ref m_high, .ref m_clear, .ref m_ways, .ref m_canBe, .ref m_lain, .int 0, .ref m_fewestBy, .ref m_sortOf, .int 0, .ref m_seenFlange, .ref m_seenLength]))]) (va_runV (As := [.int (zs (1 : Int32).toNatClampNeg)]) (rest := []) ⟨hx, hb, hml, hown, hG⟩ (kX8_reached l g h0 (zs (1 : Int32).toNatClampNeg) xt xr xp xs xm xh xe xf pa dr p_toolWidth p_told p_name p_parent p_side p_from p_width p_height p_radius p_toolSet _) ⟨callB_of 1 hG (zGood g1150) rfl rfl rfl (hG _ g202) (hG _ g1147) hX8_reached ⟨Nat.le_of_ble_eq_true rfl, Nat.le_of_ble_eq_true rfl⟩, hG _ g1148, hG _ g1149⟩ (zpreV (va_recv hX.1 hP (ci := 8) (q0 := 0) rfl rfl) hX hP hD hS hA [0, 1] rfl (by decide)) rfl rfl hl.1 rfl (lv_room (Nat.le_of_ble_eq_true rfl)) dL_law_928 ⟨Nat.le_of_ble_eq_true rfl, Nat.le_of_ble_eq_true rfl⟩) hP hD hS hA [0, 1] [2] rfl rfl (by decide) (by decide) (fun r1 _ H locs hp hP hD hS => ?_)
  refine W.cs (cells' := 75) (slots' := 18897) rfl rfl ?_
  have hq2 : r1 = (-1) := hp
  subst hq2
  have hP : va_P g.1 vwCl [(n0, .inr (9, [.ref m_told, .ref m_read, .ref m_now, .ref m_readNow, .ref m_kept, .int 0, .int 1, .int 0, .ref m_tape, .int 0, .ref m_refused, .int 0, .int (-1), .int 0, .int 0, .int 0, .int 0, .int (-1), .ref m_ownLetters, .ref m_flats, .int 0, .ref m_corner, .ref m_wayX, .ref m_wayY, .ref m_normal, .ref m_low, .ref m_high, .ref m_clear, .ref m_ways, .ref m_canBe, .ref m_lain, .int 0, .ref m_fewestBy, .ref m_sortOf, .int 0, .ref m_seenFlange, .ref m_seenLength]))] H := hP
  have hD : va_D A [(n0, .inr (9, [.ref m_told, .ref m_read, .ref m_now, .ref m_readNow, .ref m_kept, .int 0, .int 1, .int 0, .ref m_tape, .int 0, .ref m_refused, .int 0, .int (-1), .int 0, .int 0, .int 0, .int 0, .int (-1), .ref m_ownLetters, .ref m_flats, .int 0, .ref m_corner, .ref m_wayX, .ref m_wayY, .ref m_normal, .ref m_low, .ref m_high, .ref m_clear, .ref m_ways, .ref m_canBe, .ref m_lain, .int 0, .ref m_fewestBy, .ref m_sortOf, .int 0, .ref m_seenFlange, .ref m_seenLength]))] := hD
  refine lv_aload_n hx hb dL_law_931 rfl (lv_at hl 2 rfl) ?_
  refine lv_aload_n hx hb dL_law_932 rfl (lv_at hl 0 rfl) ?_
  refine lv_iload_n hx hb dL_law_933 rfl (lv_at hl 3 rfl) ?_
  refine lv_iconst (v := 1) hx hb dL_law_934 (by decide) ?_
  refine lv_iadd hx hb dL_law_935 ?_
  refine zt (z := 1) (by decide) ?_
  refine va_sld hx hb hZ hbl hbA hS (vp_in_iff.mpr (by decide)) dL_law_936 ?_
  refine zfi (wr := []) (va_runV (As := [.int (zs (1 : Int32).toNatClampNeg)]) (rest := [.int (-1)]) ⟨hx, hb, hml, hown, hG⟩ (kX9_reached l g n0 (zs (1 : Int32).toNatClampNeg) m_told m_read m_now m_readNow m_kept m_tape m_refused m_ownLetters m_flats m_corner m_wayX m_wayY m_normal m_low m_high m_clear m_ways m_canBe m_lain m_fewestBy m_sortOf m_seenFlange m_seenLength _) ⟨callB_of 1 hG (zGood g1923) rfl rfl rfl (hG _ g211) (hG _ g1920) hX9_reached ⟨Nat.le_of_ble_eq_true rfl, Nat.le_of_ble_eq_true rfl⟩, hG _ g1921, hG _ g1922⟩ (zpreV (va_recv hX.1 hP (ci := 9) (q0 := 0) rfl rfl) hX hP hD hS hA [0] rfl (by decide)) rfl rfl hl.1 rfl (lv_room (Nat.le_of_ble_eq_true rfl)) dL_law_937 ⟨Nat.le_of_ble_eq_true rfl, Nat.le_of_ble_eq_true rfl⟩) hP hD hS hA [0] [] rfl rfl (by decide) (by decide) (fun r3 _ H locs hp hP hD hS => ?_)
  refine W.cs (cells' := 75) (slots' := 18897) rfl rfl ?_
  have hq4 : r3 = (-1) := hp
  subst hq4
  have hP : va_P g.1 vwCl [] H := hP
  have hD : va_D A [] := hD
  refine lv_icmp_eq (tgt := 1474) hx hb dL_law_940 (by decide) (fun c9 => ?_) (fun c9 => (c9 rfl).elim)
  exact lc_end C0 (Nat.le_of_ble_eq_true rfl) (Nat.le_of_ble_eq_true rfl) hS (lv_sub hl [0, 3] rfl)
theorem dL_law_945 : decode cL_law 945 = .ok (.aload_n 1, 1) := by decide +kernel
theorem dL_law_946 : decode cL_law 946 = .ok (.aload_n 0, 1) := by decide +kernel
theorem dL_law_947 : decode cL_law 947 = .ok (.iload_n 3, 1) := by decide +kernel
theorem dL_law_948 : decode cL_law 948 = .ok (.iconst 1, 1) := by decide +kernel
theorem dL_law_949 : decode cL_law 949 = .ok (.iadd, 1) := by decide +kernel
theorem dL_law_950 : decode cL_law 950 = .ok (.iaload, 1) := by decide +kernel
theorem dL_law_951 : decode cL_law 951 = .ok (.invokevirtual 118, 3) := by decide +kernel
theorem dL_law_954 : decode cL_law 954 = .ok (.aload_n 2, 1) := by decide +kernel
theorem dL_law_955 : decode cL_law 955 = .ok (.aload_n 0, 1) := by decide +kernel
theorem dL_law_956 : decode cL_law 956 = .ok (.iload_n 3, 1) := by decide +kernel
theorem dL_law_957 : decode cL_law 957 = .ok (.iconst 1, 1) := by decide +kernel
theorem dL_law_958 : decode cL_law 958 = .ok (.iadd, 1) := by decide +kernel
theorem dL_law_959 : decode cL_law 959 = .ok (.iaload, 1) := by decide +kernel
theorem dL_law_960 : decode cL_law 960 = .ok (.invokevirtual 121, 3) := by decide +kernel
theorem dL_law_963 : decode cL_law 963 = .ok (.if_icmp .eq 511, 3) := by decide +kernel
set_option maxHeartbeats 4000000 in
set_option maxRecDepth 100000 in
theorem lc_25 {p : Program} {l : Launch} {e : Env} {s : State} {m : MethodId} {below : List Frame} {meth : Method} {c : Code} {b : Nat} {zs : Nat → Int32} {g : zL} {A : Nat → Prop} (C0 : zLw p s m meth c b zs g A) {h0 xt xr xp xs xm xh xe xf pa dr p_toolWidth p_told p_name p_parent p_side p_from p_width p_height p_radius p_toolSet n0 m_told m_read m_now m_readNow m_kept m_tape m_refused m_ownLetters m_flats m_corner m_wayX m_wayY m_normal m_low m_high m_clear m_ways m_canBe m_lain m_fewestBy m_sortOf m_seenFlange m_seenLength : Nat} {H : Heap} {locs : List Loc} {ls : Array Slot} (hP : va_P g.1 vwCl [(h0, .inr (8, [.ref xt, .ref xr, .ref xp, .ref xs, .ref xm, .ref xh, .ref xe, .ref xf, .ref pa, .ref dr, .int 0, .int 1, .int 0, .int 0])), (pa, .inr (4, [.int 0, .int 0, .int 0, .int 0, .int 0, .int 0, .ref p_toolWidth, .ref p_told, .ref p_name, .ref p_parent, .ref p_side, .ref p_from, .ref p_width, .ref p_height, .ref p_radius, .ref p_toolSet])), (n0, .inr (9, [.ref m_told, .ref m_read, .ref m_now, .ref m_readNow, .ref m_kept, .int 0, .int 1, .int 0, .ref m_tape, .int 0, .ref m_refused, .int 0, .int (-1), .int 0, .int 0, .int 0, .int 0, .int (-1), .ref m_ownLetters, .ref m_flats, .int 0, .ref m_corner, .ref m_wayX, .ref m_wayY, .ref m_normal, .ref m_low, .ref m_high, .ref m_clear, .ref m_ways, .ref m_canBe, .ref m_lain, .int 0, .ref m_fewestBy, .ref m_sortOf, .int 0, .ref m_seenFlange, .ref m_seenLength]))] H) (hD : va_D A [(h0, .inr (8, [.ref xt, .ref xr, .ref xp, .ref xs, .ref xm, .ref xh, .ref xe, .ref xf, .ref pa, .ref dr, .int 0, .int 1, .int 0, .int 0])), (pa, .inr (4, [.int 0, .int 0, .int 0, .int 0, .int 0, .int 0, .ref p_toolWidth, .ref p_told, .ref p_name, .ref p_parent, .ref p_side, .ref p_from, .ref p_width, .ref p_height, .ref p_radius, .ref p_toolSet])), (n0, .inr (9, [.ref m_told, .ref m_read, .ref m_now, .ref m_readNow, .ref m_kept, .int 0, .int 1, .int 0, .ref m_tape, .int 0, .ref m_refused, .int 0, .int (-1), .int 0, .int 0, .int 0, .int 0, .int (-1), .ref m_ownLetters, .ref m_flats, .int 0, .ref m_corner, .ref m_wayX, .ref m_wayY, .ref m_normal, .ref m_low, .ref m_high, .ref m_clear, .ref m_ways, .ref m_canBe, .ref m_lain, .int 0, .ref m_fewestBy, .ref m_sortOf, .int 0, .ref m_seenFlange, .ref m_seenLength]))]) (hS : va_S A s.heap H locs) (hl : lv_has ls 4 [(0, .ref b), (1, .ref h0), (2, .ref n0), (3, .int 0)]) : W p l e room_1 s m #[Value.ref b] below meth c H locs 75 18897 (lw_Z below #[Value.ref b] s) (F0 m 945 ls []) := by
  obtain ⟨hx, hb, hr, hml, hown, hG, hlocks, hX, hA, hA2, hZ, hbl, hbA⟩ := id C0
  refine lv_aload_n hx hb dL_law_945 rfl (lv_at hl 1 rfl) ?_
  refine lv_aload_n hx hb dL_law_946 rfl (lv_at hl 0 rfl) ?_
  refine lv_iload_n hx hb dL_law_947 rfl (lv_at hl 3 rfl) ?_
  refine lv_iconst (v := 1) hx hb dL_law_948 (by decide) ?_
  refine lv_iadd hx hb dL_law_949 ?_
  refine zt (z := 1) (by decide) ?_
  refine va_sld hx hb hZ hbl hbA hS (vp_in_iff.mpr (by decide)) dL_law_950 ?_
  refine zfi (wr := [(n0, .inr (9, [.ref m_told, .ref m_read, .ref m_now, .ref m_readNow, .ref m_kept, .int 0, .int 1, .int 0, .ref m_tape, .int 0, .ref m_refused, .int 0, .int (-1), .int 0, .int 0, .int 0, .int 0, .int (-1), .ref m_ownLetters, .ref m_flats, .int 0, .ref m_corner, .ref m_wayX, .ref m_wayY, .ref m_normal, .ref m_low, .ref m_high, .ref m_clear, .ref m_ways, .ref m_canBe, .ref m_lain, .int 0, .ref m_fewestBy, .ref m_sortOf, .int 0, .ref m_seenFlange, .ref m_seenLength]))]) (va_runV (As := [.int (zs (1 : Int32).toNatClampNeg)]) (rest := []) ⟨hx, hb, hml, hown, hG⟩ (kX8_fewest l g h0 (zs (1 : Int32).toNatClampNeg) xt xr xp xs xm xh xe xf pa dr p_toolWidth p_told p_name p_parent p_side p_from p_width p_height p_radius p_toolSet _) ⟨callB_of 1 hG (zGood g1179) rfl rfl rfl (hG _ g202) (hG _ g1176) hX8_fewest ⟨Nat.le_of_ble_eq_true rfl, Nat.le_of_ble_eq_true rfl⟩, hG _ g1177, hG _ g1178⟩ (zpreV (va_recv hX.1 hP (ci := 8) (q0 := 0) rfl rfl) hX hP hD hS hA [0, 1] rfl (by decide)) rfl rfl hl.1 rfl (lv_room (Nat.le_of_ble_eq_true rfl)) dL_law_951 ⟨Nat.le_of_ble_eq_true rfl, Nat.le_of_ble_eq_true rfl⟩) hP hD hS hA [0, 1] [2] rfl rfl (by decide) (by decide) (fun r1 _ H locs hp hP hD hS => ?_)
  refine W.cs (cells' := 75) (slots' := 18897) rfl rfl ?_
  have hq2 : r1 = (-1) := hp
  subst hq2
  have hP : va_P g.1 vwCl [(n0, .inr (9, [.ref m_told, .ref m_read, .ref m_now, .ref m_readNow, .ref m_kept, .int 0, .int 1, .int 0, .ref m_tape, .int 0, .ref m_refused, .int 0, .int (-1), .int 0, .int 0, .int 0, .int 0, .int (-1), .ref m_ownLetters, .ref m_flats, .int 0, .ref m_corner, .ref m_wayX, .ref m_wayY, .ref m_normal, .ref m_low, .ref m_high, .ref m_clear, .ref m_ways, .ref m_canBe, .ref m_lain, .int 0, .ref m_fewestBy, .ref m_sortOf, .int 0, .ref m_seenFlange, .ref m_seenLength]))] H := hP
  have hD : va_D A [(n0, .inr (9, [.ref m_told, .ref m_read, .ref m_now, .ref m_readNow, .ref m_kept, .int 0, .int 1, .int 0, .ref m_tape, .int 0, .ref m_refused, .int 0, .int (-1), .int 0, .int 0, .int 0, .int 0, .int (-1), .ref m_ownLetters, .ref m_flats, .int 0, .ref m_corner, .ref m_wayX, .ref m_wayY, .ref m_normal, .ref m_low, .ref m_high, .ref m_clear, .ref m_ways, .ref m_canBe, .ref m_lain, .int 0, .ref m_fewestBy, .ref m_sortOf, .int 0, .ref m_seenFlange, .ref m_seenLength]))] := hD
  refine lv_aload_n hx hb dL_law_954 rfl (lv_at hl 2 rfl) ?_
  refine lv_aload_n hx hb dL_law_955 rfl (lv_at hl 0 rfl) ?_
  refine lv_iload_n hx hb dL_law_956 rfl (lv_at hl 3 rfl) ?_
  refine lv_iconst (v := 1) hx hb dL_law_957 (by decide) ?_
  refine lv_iadd hx hb dL_law_958 ?_
  refine zt (z := 1) (by decide) ?_
  refine va_sld hx hb hZ hbl hbA hS (vp_in_iff.mpr (by decide)) dL_law_959 ?_
  refine zfi (wr := []) (va_runV (As := [.int (zs (1 : Int32).toNatClampNeg)]) (rest := [.int (-1)]) ⟨hx, hb, hml, hown, hG⟩ (kX9_fewest l g n0 (zs (1 : Int32).toNatClampNeg) m_told m_read m_now m_readNow m_kept m_tape m_refused m_ownLetters m_flats m_corner m_wayX m_wayY m_normal m_low m_high m_clear m_ways m_canBe m_lain m_fewestBy m_sortOf m_seenFlange m_seenLength _) ⟨callB_of 1 hG (zGood g1931) rfl rfl rfl (hG _ g211) (hG _ g1928) hX9_fewest ⟨Nat.le_of_ble_eq_true rfl, Nat.le_of_ble_eq_true rfl⟩, hG _ g1929, hG _ g1930⟩ (zpreV (va_recv hX.1 hP (ci := 9) (q0 := 0) rfl rfl) hX hP hD hS hA [0] rfl (by decide)) rfl rfl hl.1 rfl (lv_room (Nat.le_of_ble_eq_true rfl)) dL_law_960 ⟨Nat.le_of_ble_eq_true rfl, Nat.le_of_ble_eq_true rfl⟩) hP hD hS hA [0] [] rfl rfl (by decide) (by decide) (fun r3 _ H locs hp hP hD hS => ?_)
  refine W.cs (cells' := 75) (slots' := 18897) rfl rfl ?_
  have hq4 : r3 = (-1) := hp
  subst hq4
  have hP : va_P g.1 vwCl [(n0, .inr (9, [.ref m_told, .ref m_read, .ref m_now, .ref m_readNow, .ref m_kept, .int 0, .int 1, .int 0, .ref m_tape, .int 0, .ref m_refused, .int 0, .int (-1), .int 0, .int 0, .int 0, .int 0, .int (-1), .ref m_ownLetters, .ref m_flats, .int 0, .ref m_corner, .ref m_wayX, .ref m_wayY, .ref m_normal, .ref m_low, .ref m_high, .ref m_clear, .ref m_ways, .ref m_canBe, .ref m_lain, .int 0, .ref m_fewestBy, .ref m_sortOf, .int 0, .ref m_seenFlange, .ref m_seenLength]))] H := hP
  have hD : va_D A [(n0, .inr (9, [.ref m_told, .ref m_read, .ref m_now, .ref m_readNow, .ref m_kept, .int 0, .int 1, .int 0, .ref m_tape, .int 0, .ref m_refused, .int 0, .int (-1), .int 0, .int 0, .int 0, .int 0, .int (-1), .ref m_ownLetters, .ref m_flats, .int 0, .ref m_corner, .ref m_wayX, .ref m_wayY, .ref m_normal, .ref m_low, .ref m_high, .ref m_clear, .ref m_ways, .ref m_canBe, .ref m_lain, .int 0, .ref m_fewestBy, .ref m_sortOf, .int 0, .ref m_seenFlange, .ref m_seenLength]))] := hD
  refine lv_icmp_eq (tgt := 1474) hx hb dL_law_963 (by decide) (fun c9 => ?_) (fun c9 => (c9 rfl).elim)
  exact lc_end C0 (Nat.le_of_ble_eq_true rfl) (Nat.le_of_ble_eq_true rfl) hS (lv_sub hl [0, 3] rfl)
theorem dL_law_968 : decode cL_law 968 = .ok (.aload_n 1, 1) := by decide +kernel
theorem dL_law_969 : decode cL_law 969 = .ok (.aload_n 0, 1) := by decide +kernel
theorem dL_law_970 : decode cL_law 970 = .ok (.iload_n 3, 1) := by decide +kernel
theorem dL_law_971 : decode cL_law 971 = .ok (.iconst 1, 1) := by decide +kernel
theorem dL_law_972 : decode cL_law 972 = .ok (.iadd, 1) := by decide +kernel
theorem dL_law_973 : decode cL_law 973 = .ok (.iaload, 1) := by decide +kernel
theorem dL_law_974 : decode cL_law 974 = .ok (.aload_n 0, 1) := by decide +kernel
theorem dL_law_975 : decode cL_law 975 = .ok (.iload_n 3, 1) := by decide +kernel
theorem dL_law_976 : decode cL_law 976 = .ok (.iconst 2, 1) := by decide +kernel
theorem dL_law_977 : decode cL_law 977 = .ok (.iadd, 1) := by decide +kernel
theorem dL_law_978 : decode cL_law 978 = .ok (.iaload, 1) := by decide +kernel
theorem dL_law_979 : decode cL_law 979 = .ok (.invokevirtual 122, 3) := by decide +kernel
theorem dL_law_982 : decode cL_law 982 = .ok (.aload_n 2, 1) := by decide +kernel
theorem dL_law_983 : decode cL_law 983 = .ok (.aload_n 0, 1) := by decide +kernel
theorem dL_law_984 : decode cL_law 984 = .ok (.iload_n 3, 1) := by decide +kernel
theorem dL_law_985 : decode cL_law 985 = .ok (.iconst 1, 1) := by decide +kernel
theorem dL_law_986 : decode cL_law 986 = .ok (.iadd, 1) := by decide +kernel
theorem dL_law_987 : decode cL_law 987 = .ok (.iaload, 1) := by decide +kernel
theorem dL_law_988 : decode cL_law 988 = .ok (.aload_n 0, 1) := by decide +kernel
theorem dL_law_989 : decode cL_law 989 = .ok (.iload_n 3, 1) := by decide +kernel
theorem dL_law_990 : decode cL_law 990 = .ok (.iconst 2, 1) := by decide +kernel
theorem dL_law_991 : decode cL_law 991 = .ok (.iadd, 1) := by decide +kernel
theorem dL_law_992 : decode cL_law 992 = .ok (.iaload, 1) := by decide +kernel
theorem dL_law_993 : decode cL_law 993 = .ok (.invokevirtual 125, 3) := by decide +kernel
theorem dL_law_996 : decode cL_law 996 = .ok (.if_icmp .eq 478, 3) := by decide +kernel
set_option maxHeartbeats 4000000 in
set_option maxRecDepth 100000 in
theorem lc_26 {p : Program} {l : Launch} {e : Env} {s : State} {m : MethodId} {below : List Frame} {meth : Method} {c : Code} {b : Nat} {zs : Nat → Int32} {g : zL} {A : Nat → Prop} (C0 : zLw p s m meth c b zs g A) {h0 xt xr xp xs xm xh xe xf pa dr p_toolWidth p_told p_name p_parent p_side p_from p_width p_height p_radius p_toolSet n0 m_told m_read m_now m_readNow m_kept m_tape m_refused m_ownLetters m_flats m_corner m_wayX m_wayY m_normal m_low m_high m_clear m_ways m_canBe m_lain m_fewestBy m_sortOf m_seenFlange m_seenLength : Nat} {H : Heap} {locs : List Loc} {ls : Array Slot} (hP : va_P g.1 vwCl [(h0, .inr (8, [.ref xt, .ref xr, .ref xp, .ref xs, .ref xm, .ref xh, .ref xe, .ref xf, .ref pa, .ref dr, .int 0, .int 1, .int 0, .int 0])), (pa, .inr (4, [.int 0, .int 0, .int 0, .int 0, .int 0, .int 0, .ref p_toolWidth, .ref p_told, .ref p_name, .ref p_parent, .ref p_side, .ref p_from, .ref p_width, .ref p_height, .ref p_radius, .ref p_toolSet])), (n0, .inr (9, [.ref m_told, .ref m_read, .ref m_now, .ref m_readNow, .ref m_kept, .int 0, .int 1, .int 0, .ref m_tape, .int 0, .ref m_refused, .int 0, .int (-1), .int 0, .int 0, .int 0, .int 0, .int (-1), .ref m_ownLetters, .ref m_flats, .int 0, .ref m_corner, .ref m_wayX, .ref m_wayY, .ref m_normal, .ref m_low, .ref m_high, .ref m_clear, .ref m_ways, .ref m_canBe, .ref m_lain, .int 0, .ref m_fewestBy, .ref m_sortOf, .int 0, .ref m_seenFlange, .ref m_seenLength]))] H) (hD : va_D A [(h0, .inr (8, [.ref xt, .ref xr, .ref xp, .ref xs, .ref xm, .ref xh, .ref xe, .ref xf, .ref pa, .ref dr, .int 0, .int 1, .int 0, .int 0])), (pa, .inr (4, [.int 0, .int 0, .int 0, .int 0, .int 0, .int 0, .ref p_toolWidth, .ref p_told, .ref p_name, .ref p_parent, .ref p_side, .ref p_from, .ref p_width, .ref p_height, .ref p_radius, .ref p_toolSet])), (n0, .inr (9, [.ref m_told, .ref m_read, .ref m_now, .ref m_readNow, .ref m_kept, .int 0, .int 1, .int 0, .ref m_tape, .int 0, .ref m_refused, .int 0, .int (-1), .int 0, .int 0, .int 0, .int 0, .int (-1), .ref m_ownLetters, .ref m_flats, .int 0, .ref m_corner, .ref m_wayX, .ref m_wayY, .ref m_normal, .ref m_low, .ref m_high, .ref m_clear, .ref m_ways, .ref m_canBe, .ref m_lain, .int 0, .ref m_fewestBy, .ref m_sortOf, .int 0, .ref m_seenFlange, .ref m_seenLength]))]) (hS : va_S A s.heap H locs) (hl : lv_has ls 4 [(0, .ref b), (1, .ref h0), (2, .ref n0), (3, .int 0)]) : W p l e room_1 s m #[Value.ref b] below meth c H locs 75 18897 (lw_Z below #[Value.ref b] s) (F0 m 968 ls []) := by
  obtain ⟨hx, hb, hr, hml, hown, hG, hlocks, hX, hA, hA2, hZ, hbl, hbA⟩ := id C0
  refine lv_aload_n hx hb dL_law_968 rfl (lv_at hl 1 rfl) ?_
  refine lv_aload_n hx hb dL_law_969 rfl (lv_at hl 0 rfl) ?_
  refine lv_iload_n hx hb dL_law_970 rfl (lv_at hl 3 rfl) ?_
  refine lv_iconst (v := 1) hx hb dL_law_971 (by decide) ?_
  refine lv_iadd hx hb dL_law_972 ?_
  refine zt (z := 1) (by decide) ?_
  refine va_sld hx hb hZ hbl hbA hS (vp_in_iff.mpr (by decide)) dL_law_973 ?_
  refine lv_aload_n hx hb dL_law_974 rfl (lv_at hl 0 rfl) ?_
  refine lv_iload_n hx hb dL_law_975 rfl (lv_at hl 3 rfl) ?_
  refine lv_iconst (v := 2) hx hb dL_law_976 (by decide) ?_
  refine lv_iadd hx hb dL_law_977 ?_
  refine zt (z := 2) (by decide) ?_
  refine va_sld hx hb hZ hbl hbA hS (vp_in_iff.mpr (by decide)) dL_law_978 ?_
  refine zfi (wr := [(n0, .inr (9, [.ref m_told, .ref m_read, .ref m_now, .ref m_readNow, .ref m_kept, .int 0, .int 1, .int 0, .ref m_tape, .int 0, .ref m_refused, .int 0, .int (-1), .int 0, .int 0, .int 0, .int 0, .int (-1), .ref m_ownLetters, .ref m_flats, .int 0, .ref m_corner, .ref m_wayX, .ref m_wayY, .ref m_normal, .ref m_low, .ref m_high, .ref m_clear, .ref m_ways, .ref m_canBe, .ref m_lain, .int 0, .ref m_fewestBy, .ref m_sortOf, .int 0, .ref m_seenFlange, .ref m_seenLength]))]) (va_runV (As := [.int (zs (1 : Int32).toNatClampNeg), .int (zs (2 : Int32).toNatClampNeg)]) (rest := []) ⟨hx, hb, hml, hown, hG⟩ (kX8_thrifty l g h0 (zs (1 : Int32).toNatClampNeg) (zs (2 : Int32).toNatClampNeg) xt xr xp xs xm xh xe xf pa dr p_toolWidth p_told p_name p_parent p_side p_from p_width p_height p_radius p_toolSet _) ⟨callB_of 2 hG (zGood g1197) rfl rfl rfl (hG _ g202) (hG _ g1194) hX8_thrifty ⟨Nat.le_of_ble_eq_true rfl, Nat.le_of_ble_eq_true rfl⟩, hG _ g1195, hG _ g1196⟩ (zpreV (va_recv hX.1 hP (ci := 8) (q0 := 0) rfl rfl) hX hP hD hS hA [0, 1] rfl (by decide)) rfl rfl hl.1 rfl (lv_room (Nat.le_of_ble_eq_true rfl)) dL_law_979 ⟨Nat.le_of_ble_eq_true rfl, Nat.le_of_ble_eq_true rfl⟩) hP hD hS hA [0, 1] [2] rfl rfl (by decide) (by decide) (fun r1 _ H locs hp hP hD hS => ?_)
  refine W.cs (cells' := 75) (slots' := 18897) rfl rfl ?_
  have hq2 : r1 = (-1) := hp
  subst hq2
  have hP : va_P g.1 vwCl [(n0, .inr (9, [.ref m_told, .ref m_read, .ref m_now, .ref m_readNow, .ref m_kept, .int 0, .int 1, .int 0, .ref m_tape, .int 0, .ref m_refused, .int 0, .int (-1), .int 0, .int 0, .int 0, .int 0, .int (-1), .ref m_ownLetters, .ref m_flats, .int 0, .ref m_corner, .ref m_wayX, .ref m_wayY, .ref m_normal, .ref m_low, .ref m_high, .ref m_clear, .ref m_ways, .ref m_canBe, .ref m_lain, .int 0, .ref m_fewestBy, .ref m_sortOf, .int 0, .ref m_seenFlange, .ref m_seenLength]))] H := hP
  have hD : va_D A [(n0, .inr (9, [.ref m_told, .ref m_read, .ref m_now, .ref m_readNow, .ref m_kept, .int 0, .int 1, .int 0, .ref m_tape, .int 0, .ref m_refused, .int 0, .int (-1), .int 0, .int 0, .int 0, .int 0, .int (-1), .ref m_ownLetters, .ref m_flats, .int 0, .ref m_corner, .ref m_wayX, .ref m_wayY, .ref m_normal, .ref m_low, .ref m_high, .ref m_clear, .ref m_ways, .ref m_canBe, .ref m_lain, .int 0, .ref m_fewestBy, .ref m_sortOf, .int 0, .ref m_seenFlange, .ref m_seenLength]))] := hD
  refine lv_aload_n hx hb dL_law_982 rfl (lv_at hl 2 rfl) ?_
  refine lv_aload_n hx hb dL_law_983 rfl (lv_at hl 0 rfl) ?_
  refine lv_iload_n hx hb dL_law_984 rfl (lv_at hl 3 rfl) ?_
  refine lv_iconst (v := 1) hx hb dL_law_985 (by decide) ?_
  refine lv_iadd hx hb dL_law_986 ?_
  refine zt (z := 1) (by decide) ?_
  refine va_sld hx hb hZ hbl hbA hS (vp_in_iff.mpr (by decide)) dL_law_987 ?_
  refine lv_aload_n hx hb dL_law_988 rfl (lv_at hl 0 rfl) ?_
  refine lv_iload_n hx hb dL_law_989 rfl (lv_at hl 3 rfl) ?_
  refine lv_iconst (v := 2) hx hb dL_law_990 (by decide) ?_
  refine lv_iadd hx hb dL_law_991 ?_
  refine zt (z := 2) (by decide) ?_
  refine va_sld hx hb hZ hbl hbA hS (vp_in_iff.mpr (by decide)) dL_law_992 ?_
  refine zfi (wr := []) (va_runV (As := [.int (zs (1 : Int32).toNatClampNeg), .int (zs (2 : Int32).toNatClampNeg)]) (rest := [.int (-1)]) ⟨hx, hb, hml, hown, hG⟩ (kX9_thrifty l g n0 (zs (1 : Int32).toNatClampNeg) (zs (2 : Int32).toNatClampNeg) m_told m_read m_now m_readNow m_kept m_tape m_refused m_ownLetters m_flats m_corner m_wayX m_wayY m_normal m_low m_high m_clear m_ways m_canBe m_lain m_fewestBy m_sortOf m_seenFlange m_seenLength _) ⟨callB_of 2 hG (zGood g1943) rfl rfl rfl (hG _ g211) (hG _ g1940) hX9_thrifty ⟨Nat.le_of_ble_eq_true rfl, Nat.le_of_ble_eq_true rfl⟩, hG _ g1941, hG _ g1942⟩ (zpreV (va_recv hX.1 hP (ci := 9) (q0 := 0) rfl rfl) hX hP hD hS hA [0] rfl (by decide)) rfl rfl hl.1 rfl (lv_room (Nat.le_of_ble_eq_true rfl)) dL_law_993 ⟨Nat.le_of_ble_eq_true rfl, Nat.le_of_ble_eq_true rfl⟩) hP hD hS hA [0] [] rfl rfl (by decide) (by decide) (fun r3 _ H locs hp hP hD hS => ?_)
  refine W.cs (cells' := 75) (slots' := 18897) rfl rfl ?_
  have hq4 : r3 = (-1) := hp
  subst hq4
  have hP : va_P g.1 vwCl [] H := hP
  have hD : va_D A [] := hD
  refine lv_icmp_eq (tgt := 1474) hx hb dL_law_996 (by decide) (fun c9 => ?_) (fun c9 => (c9 rfl).elim)
  exact lc_end C0 (Nat.le_of_ble_eq_true rfl) (Nat.le_of_ble_eq_true rfl) hS (lv_sub hl [0, 3] rfl)
theorem dL_law_1001 : decode cL_law 1001 = .ok (.aload_n 1, 1) := by decide +kernel
theorem dL_law_1002 : decode cL_law 1002 = .ok (.invokevirtual 126, 3) := by decide +kernel
theorem dL_law_1005 : decode cL_law 1005 = .ok (.aload_n 2, 1) := by decide +kernel
theorem dL_law_1006 : decode cL_law 1006 = .ok (.invokevirtual 129, 3) := by decide +kernel
theorem dL_law_1009 : decode cL_law 1009 = .ok (.if_icmp .eq 465, 3) := by decide +kernel
set_option maxHeartbeats 4000000 in
set_option maxRecDepth 100000 in
theorem lc_27 {p : Program} {l : Launch} {e : Env} {s : State} {m : MethodId} {below : List Frame} {meth : Method} {c : Code} {b : Nat} {zs : Nat → Int32} {g : zL} {A : Nat → Prop} (C0 : zLw p s m meth c b zs g A) {h0 xt xr xp xs xm xh xe xf pa dr p_toolWidth p_told p_name p_parent p_side p_from p_width p_height p_radius p_toolSet n0 m_told m_read m_now m_readNow m_kept m_tape m_refused m_ownLetters m_flats m_corner m_wayX m_wayY m_normal m_low m_high m_clear m_ways m_canBe m_lain m_fewestBy m_sortOf m_seenFlange m_seenLength : Nat} {H : Heap} {locs : List Loc} {ls : Array Slot} (hP : va_P g.1 vwCl [(h0, .inr (8, [.ref xt, .ref xr, .ref xp, .ref xs, .ref xm, .ref xh, .ref xe, .ref xf, .ref pa, .ref dr, .int 0, .int 1, .int 0, .int 0])), (pa, .inr (4, [.int 0, .int 0, .int 0, .int 0, .int 0, .int 0, .ref p_toolWidth, .ref p_told, .ref p_name, .ref p_parent, .ref p_side, .ref p_from, .ref p_width, .ref p_height, .ref p_radius, .ref p_toolSet])), (n0, .inr (9, [.ref m_told, .ref m_read, .ref m_now, .ref m_readNow, .ref m_kept, .int 0, .int 1, .int 0, .ref m_tape, .int 0, .ref m_refused, .int 0, .int (-1), .int 0, .int 0, .int 0, .int 0, .int (-1), .ref m_ownLetters, .ref m_flats, .int 0, .ref m_corner, .ref m_wayX, .ref m_wayY, .ref m_normal, .ref m_low, .ref m_high, .ref m_clear, .ref m_ways, .ref m_canBe, .ref m_lain, .int 0, .ref m_fewestBy, .ref m_sortOf, .int 0, .ref m_seenFlange, .ref m_seenLength]))] H) (hD : va_D A [(h0, .inr (8, [.ref xt, .ref xr, .ref xp, .ref xs, .ref xm, .ref xh, .ref xe, .ref xf, .ref pa, .ref dr, .int 0, .int 1, .int 0, .int 0])), (pa, .inr (4, [.int 0, .int 0, .int 0, .int 0, .int 0, .int 0, .ref p_toolWidth, .ref p_told, .ref p_name, .ref p_parent, .ref p_side, .ref p_from, .ref p_width, .ref p_height, .ref p_radius, .ref p_toolSet])), (n0, .inr (9, [.ref m_told, .ref m_read, .ref m_now, .ref m_readNow, .ref m_kept, .int 0, .int 1, .int 0, .ref m_tape, .int 0, .ref m_refused, .int 0, .int (-1), .int 0, .int 0, .int 0, .int 0, .int (-1), .ref m_ownLetters, .ref m_flats, .int 0, .ref m_corner, .ref m_wayX, .ref m_wayY, .ref m_normal, .ref m_low, .ref m_high, .ref m_clear, .ref m_ways, .ref m_canBe, .ref m_lain, .int 0, .ref m_fewestBy, .ref m_sortOf, .int 0, .ref m_seenFlange, .ref m_seenLength]))]) (hS : va_S A s.heap H locs) (hl : lv_has ls 4 [(0, .ref b), (1, .ref h0), (2, .ref n0), (3, .int 0)]) : W p l e room_1 s m #[Value.ref b] below meth c H locs 75 18897 (lw_Z below #[Value.ref b] s) (F0 m 1001 ls []) := by
  obtain ⟨hx, hb, hr, hml, hown, hG, hlocks, hX, hA, hA2, hZ, hbl, hbA⟩ := id C0
  refine lv_aload_n hx hb dL_law_1001 rfl (lv_at hl 1 rfl) ?_
  refine zfi (wr := [(n0, .inr (9, [.ref m_told, .ref m_read, .ref m_now, .ref m_readNow, .ref m_kept, .int 0, .int 1, .int 0, .ref m_tape, .int 0, .ref m_refused, .int 0, .int (-1), .int 0, .int 0, .int 0, .int 0, .int (-1), .ref m_ownLetters, .ref m_flats, .int 0, .ref m_corner, .ref m_wayX, .ref m_wayY, .ref m_normal, .ref m_low, .ref m_high, .ref m_clear, .ref m_ways, .ref m_canBe, .ref m_lain, .int 0, .ref m_fewestBy, .ref m_sortOf, .int 0, .ref m_seenFlange, .ref m_seenLength]))]) (va_runV (As := []) (rest := []) ⟨hx, hb, hml, hown, hG⟩ (kX8_tallest l g h0 xt xr xp xs xm xh xe xf pa dr p_toolWidth p_told p_name p_parent p_side p_from p_width p_height p_radius p_toolSet _) ⟨callB_of 0 hG (zGood g1209) rfl rfl rfl (hG _ g202) (hG _ g1206) hX8_tallest ⟨Nat.le_of_ble_eq_true rfl, Nat.le_of_ble_eq_true rfl⟩, hG _ g1207, hG _ g1208⟩ (zpreV (va_recv hX.1 hP (ci := 8) (q0 := 0) rfl rfl) hX hP hD hS hA [0, 1] rfl (by decide)) rfl rfl hl.1 rfl (lv_room (Nat.le_of_ble_eq_true rfl)) dL_law_1002 ⟨Nat.le_of_ble_eq_true rfl, Nat.le_of_ble_eq_true rfl⟩) hP hD hS hA [0, 1] [2] rfl rfl (by decide) (by decide) (fun r1 _ H locs hp hP hD hS => ?_)
  refine W.cs (cells' := 75) (slots' := 18897) rfl rfl ?_
  have hq2 : r1 = (-1) := hp
  subst hq2
  have hP : va_P g.1 vwCl [(n0, .inr (9, [.ref m_told, .ref m_read, .ref m_now, .ref m_readNow, .ref m_kept, .int 0, .int 1, .int 0, .ref m_tape, .int 0, .ref m_refused, .int 0, .int (-1), .int 0, .int 0, .int 0, .int 0, .int (-1), .ref m_ownLetters, .ref m_flats, .int 0, .ref m_corner, .ref m_wayX, .ref m_wayY, .ref m_normal, .ref m_low, .ref m_high, .ref m_clear, .ref m_ways, .ref m_canBe, .ref m_lain, .int 0, .ref m_fewestBy, .ref m_sortOf, .int 0, .ref m_seenFlange, .ref m_seenLength]))] H := hP
  have hD : va_D A [(n0, .inr (9, [.ref m_told, .ref m_read, .ref m_now, .ref m_readNow, .ref m_kept, .int 0, .int 1, .int 0, .ref m_tape, .int 0, .ref m_refused, .int 0, .int (-1), .int 0, .int 0, .int 0, .int 0, .int (-1), .ref m_ownLetters, .ref m_flats, .int 0, .ref m_corner, .ref m_wayX, .ref m_wayY, .ref m_normal, .ref m_low, .ref m_high, .ref m_clear, .ref m_ways, .ref m_canBe, .ref m_lain, .int 0, .ref m_fewestBy, .ref m_sortOf, .int 0, .ref m_seenFlange, .ref m_seenLength]))] := hD
  refine lv_aload_n hx hb dL_law_1005 rfl (lv_at hl 2 rfl) ?_
  refine zfi (wr := []) (va_runV (As := []) (rest := [.int (-1)]) ⟨hx, hb, hml, hown, hG⟩ (kX9_tallest l g n0 m_told m_read m_now m_readNow m_kept m_tape m_refused m_ownLetters m_flats m_corner m_wayX m_wayY m_normal m_low m_high m_clear m_ways m_canBe m_lain m_fewestBy m_sortOf m_seenFlange m_seenLength _) ⟨callB_of 0 hG (zGood g1948) rfl rfl rfl (hG _ g211) (hG _ g1945) hX9_tallest ⟨Nat.le_of_ble_eq_true rfl, Nat.le_of_ble_eq_true rfl⟩, hG _ g1946, hG _ g1947⟩ (zpreV (va_recv hX.1 hP (ci := 9) (q0 := 0) rfl rfl) hX hP hD hS hA [0] rfl (by decide)) rfl rfl hl.1 rfl (lv_room (Nat.le_of_ble_eq_true rfl)) dL_law_1006 ⟨Nat.le_of_ble_eq_true rfl, Nat.le_of_ble_eq_true rfl⟩) hP hD hS hA [0] [] rfl rfl (by decide) (by decide) (fun r3 _ H locs hp hP hD hS => ?_)
  refine W.cs (cells' := 75) (slots' := 18897) rfl rfl ?_
  have hq4 : r3 = (-1) := hp
  subst hq4
  have hP : va_P g.1 vwCl [] H := hP
  have hD : va_D A [] := hD
  refine lv_icmp_eq (tgt := 1474) hx hb dL_law_1009 (by decide) (fun c9 => ?_) (fun c9 => (c9 rfl).elim)
  exact lc_end C0 (Nat.le_of_ble_eq_true rfl) (Nat.le_of_ble_eq_true rfl) hS (lv_sub hl [0, 3] rfl)
theorem dL_law_1014 : decode cL_law 1014 = .ok (.aload_n 1, 1) := by decide +kernel
theorem dL_law_1015 : decode cL_law 1015 = .ok (.aload_n 0, 1) := by decide +kernel
theorem dL_law_1016 : decode cL_law 1016 = .ok (.iload_n 3, 1) := by decide +kernel
theorem dL_law_1017 : decode cL_law 1017 = .ok (.iconst 1, 1) := by decide +kernel
theorem dL_law_1018 : decode cL_law 1018 = .ok (.iadd, 1) := by decide +kernel
theorem dL_law_1019 : decode cL_law 1019 = .ok (.iaload, 1) := by decide +kernel
theorem dL_law_1020 : decode cL_law 1020 = .ok (.invokevirtual 130, 3) := by decide +kernel
theorem dL_law_1023 : decode cL_law 1023 = .ok (.aload_n 2, 1) := by decide +kernel
theorem dL_law_1024 : decode cL_law 1024 = .ok (.aload_n 0, 1) := by decide +kernel
theorem dL_law_1025 : decode cL_law 1025 = .ok (.iload_n 3, 1) := by decide +kernel
theorem dL_law_1026 : decode cL_law 1026 = .ok (.iconst 1, 1) := by decide +kernel
theorem dL_law_1027 : decode cL_law 1027 = .ok (.iadd, 1) := by decide +kernel
theorem dL_law_1028 : decode cL_law 1028 = .ok (.iaload, 1) := by decide +kernel
theorem dL_law_1029 : decode cL_law 1029 = .ok (.invokevirtual 133, 3) := by decide +kernel
theorem dL_law_1032 : decode cL_law 1032 = .ok (.if_icmp .eq 442, 3) := by decide +kernel
set_option maxHeartbeats 4000000 in
set_option maxRecDepth 100000 in
theorem lc_28 {p : Program} {l : Launch} {e : Env} {s : State} {m : MethodId} {below : List Frame} {meth : Method} {c : Code} {b : Nat} {zs : Nat → Int32} {g : zL} {A : Nat → Prop} (C0 : zLw p s m meth c b zs g A) {h0 xt xr xp xs xm xh xe xf pa dr p_toolWidth p_told p_name p_parent p_side p_from p_width p_height p_radius p_toolSet n0 m_told m_read m_now m_readNow m_kept m_tape m_refused m_ownLetters m_flats m_corner m_wayX m_wayY m_normal m_low m_high m_clear m_ways m_canBe m_lain m_fewestBy m_sortOf m_seenFlange m_seenLength : Nat} {H : Heap} {locs : List Loc} {ls : Array Slot} (hP : va_P g.1 vwCl [(h0, .inr (8, [.ref xt, .ref xr, .ref xp, .ref xs, .ref xm, .ref xh, .ref xe, .ref xf, .ref pa, .ref dr, .int 0, .int 1, .int 0, .int 0])), (pa, .inr (4, [.int 0, .int 0, .int 0, .int 0, .int 0, .int 0, .ref p_toolWidth, .ref p_told, .ref p_name, .ref p_parent, .ref p_side, .ref p_from, .ref p_width, .ref p_height, .ref p_radius, .ref p_toolSet])), (n0, .inr (9, [.ref m_told, .ref m_read, .ref m_now, .ref m_readNow, .ref m_kept, .int 0, .int 1, .int 0, .ref m_tape, .int 0, .ref m_refused, .int 0, .int (-1), .int 0, .int 0, .int 0, .int 0, .int (-1), .ref m_ownLetters, .ref m_flats, .int 0, .ref m_corner, .ref m_wayX, .ref m_wayY, .ref m_normal, .ref m_low, .ref m_high, .ref m_clear, .ref m_ways, .ref m_canBe, .ref m_lain, .int 0, .ref m_fewestBy, .ref m_sortOf, .int 0, .ref m_seenFlange, .ref m_seenLength]))] H) (hD : va_D A [(h0, .inr (8, [.ref xt, .ref xr, .ref xp, .ref xs, .ref xm, .ref xh, .ref xe, .ref xf, .ref pa, .ref dr, .int 0, .int 1, .int 0, .int 0])), (pa, .inr (4, [.int 0, .int 0, .int 0, .int 0, .int 0, .int 0, .ref p_toolWidth, .ref p_told, .ref p_name, .ref p_parent, .ref p_side, .ref p_from, .ref p_width, .ref p_height, .ref p_radius, .ref p_toolSet])), (n0, .inr (9, [.ref m_told, .ref m_read, .ref m_now, .ref m_readNow, .ref m_kept, .int 0, .int 1, .int 0, .ref m_tape, .int 0, .ref m_refused, .int 0, .int (-1), .int 0, .int 0, .int 0, .int 0, .int (-1), .ref m_ownLetters, .ref m_flats, .int 0, .ref m_corner, .ref m_wayX, .ref m_wayY, .ref m_normal, .ref m_low, .ref m_high, .ref m_clear, .ref m_ways, .ref m_canBe, .ref m_lain, .int 0, .ref m_fewestBy, .ref m_sortOf, .int 0, .ref m_seenFlange, .ref m_seenLength]))]) (hS : va_S A s.heap H locs) (hl : lv_has ls 4 [(0, .ref b), (1, .ref h0), (2, .ref n0), (3, .int 0)]) : W p l e room_1 s m #[Value.ref b] below meth c H locs 75 18897 (lw_Z below #[Value.ref b] s) (F0 m 1014 ls []) := by
  obtain ⟨hx, hb, hr, hml, hown, hG, hlocks, hX, hA, hA2, hZ, hbl, hbA⟩ := id C0
  refine lv_aload_n hx hb dL_law_1014 rfl (lv_at hl 1 rfl) ?_
  refine lv_aload_n hx hb dL_law_1015 rfl (lv_at hl 0 rfl) ?_
  refine lv_iload_n hx hb dL_law_1016 rfl (lv_at hl 3 rfl) ?_
  refine lv_iconst (v := 1) hx hb dL_law_1017 (by decide) ?_
  refine lv_iadd hx hb dL_law_1018 ?_
  refine zt (z := 1) (by decide) ?_
  refine va_sld hx hb hZ hbl hbA hS (vp_in_iff.mpr (by decide)) dL_law_1019 ?_
  refine zfi (wr := [(n0, .inr (9, [.ref m_told, .ref m_read, .ref m_now, .ref m_readNow, .ref m_kept, .int 0, .int 1, .int 0, .ref m_tape, .int 0, .ref m_refused, .int 0, .int (-1), .int 0, .int 0, .int 0, .int 0, .int (-1), .ref m_ownLetters, .ref m_flats, .int 0, .ref m_corner, .ref m_wayX, .ref m_wayY, .ref m_normal, .ref m_low, .ref m_high, .ref m_clear, .ref m_ways, .ref m_canBe, .ref m_lain, .int 0, .ref m_fewestBy, .ref m_sortOf, .int 0, .ref m_seenFlange, .ref m_seenLength]))]) (va_runV (As := [.int (zs (1 : Int32).toNatClampNeg)]) (rest := []) ⟨hx, hb, hml, hown, hG⟩ (kX8_turned l g h0 (zs (1 : Int32).toNatClampNeg) xt xr xp xs xm xh xe xf pa dr p_toolWidth p_told p_name p_parent p_side p_from p_width p_height p_radius p_toolSet _) ⟨callB_of 1 hG (zGood g1217) rfl rfl rfl (hG _ g202) (hG _ g1214) hX8_turned ⟨Nat.le_of_ble_eq_true rfl, Nat.le_of_ble_eq_true rfl⟩, hG _ g1215, hG _ g1216⟩ (zpreV (va_recv hX.1 hP (ci := 8) (q0 := 0) rfl rfl) hX hP hD hS hA [0, 1] rfl (by decide)) rfl rfl hl.1 rfl (lv_room (Nat.le_of_ble_eq_true rfl)) dL_law_1020 ⟨Nat.le_of_ble_eq_true rfl, Nat.le_of_ble_eq_true rfl⟩) hP hD hS hA [0, 1] [2] rfl rfl (by decide) (by decide) (fun r1 _ H locs hp hP hD hS => ?_)
  refine W.cs (cells' := 75) (slots' := 18897) rfl rfl ?_
  have hq2 : r1 = (-1) := hp
  subst hq2
  have hP : va_P g.1 vwCl [(n0, .inr (9, [.ref m_told, .ref m_read, .ref m_now, .ref m_readNow, .ref m_kept, .int 0, .int 1, .int 0, .ref m_tape, .int 0, .ref m_refused, .int 0, .int (-1), .int 0, .int 0, .int 0, .int 0, .int (-1), .ref m_ownLetters, .ref m_flats, .int 0, .ref m_corner, .ref m_wayX, .ref m_wayY, .ref m_normal, .ref m_low, .ref m_high, .ref m_clear, .ref m_ways, .ref m_canBe, .ref m_lain, .int 0, .ref m_fewestBy, .ref m_sortOf, .int 0, .ref m_seenFlange, .ref m_seenLength]))] H := hP
  have hD : va_D A [(n0, .inr (9, [.ref m_told, .ref m_read, .ref m_now, .ref m_readNow, .ref m_kept, .int 0, .int 1, .int 0, .ref m_tape, .int 0, .ref m_refused, .int 0, .int (-1), .int 0, .int 0, .int 0, .int 0, .int (-1), .ref m_ownLetters, .ref m_flats, .int 0, .ref m_corner, .ref m_wayX, .ref m_wayY, .ref m_normal, .ref m_low, .ref m_high, .ref m_clear, .ref m_ways, .ref m_canBe, .ref m_lain, .int 0, .ref m_fewestBy, .ref m_sortOf, .int 0, .ref m_seenFlange, .ref m_seenLength]))] := hD
  refine lv_aload_n hx hb dL_law_1023 rfl (lv_at hl 2 rfl) ?_
  refine lv_aload_n hx hb dL_law_1024 rfl (lv_at hl 0 rfl) ?_
  refine lv_iload_n hx hb dL_law_1025 rfl (lv_at hl 3 rfl) ?_
  refine lv_iconst (v := 1) hx hb dL_law_1026 (by decide) ?_
  refine lv_iadd hx hb dL_law_1027 ?_
  refine zt (z := 1) (by decide) ?_
  refine va_sld hx hb hZ hbl hbA hS (vp_in_iff.mpr (by decide)) dL_law_1028 ?_
  refine zfi (wr := []) (va_runV (As := [.int (zs (1 : Int32).toNatClampNeg)]) (rest := [.int (-1)]) ⟨hx, hb, hml, hown, hG⟩ (kX9_turned l g n0 (zs (1 : Int32).toNatClampNeg) m_told m_read m_now m_readNow m_kept m_tape m_refused m_ownLetters m_flats m_corner m_wayX m_wayY m_normal m_low m_high m_clear m_ways m_canBe m_lain m_fewestBy m_sortOf m_seenFlange m_seenLength _) ⟨callB_of 1 hG (zGood g1956) rfl rfl rfl (hG _ g211) (hG _ g1953) hX9_turned ⟨Nat.le_of_ble_eq_true rfl, Nat.le_of_ble_eq_true rfl⟩, hG _ g1954, hG _ g1955⟩ (zpreV (va_recv hX.1 hP (ci := 9) (q0 := 0) rfl rfl) hX hP hD hS hA [0] rfl (by decide)) rfl rfl hl.1 rfl (lv_room (Nat.le_of_ble_eq_true rfl)) dL_law_1029 ⟨Nat.le_of_ble_eq_true rfl, Nat.le_of_ble_eq_true rfl⟩) hP hD hS hA [0] [] rfl rfl (by decide) (by decide) (fun r3 _ H locs hp hP hD hS => ?_)
  refine W.cs (cells' := 75) (slots' := 18897) rfl rfl ?_
  have hq4 : r3 = (-1) := hp
  subst hq4
  have hP : va_P g.1 vwCl [] H := hP
  have hD : va_D A [] := hD
  refine lv_icmp_eq (tgt := 1474) hx hb dL_law_1032 (by decide) (fun c9 => ?_) (fun c9 => (c9 rfl).elim)
  exact lc_end C0 (Nat.le_of_ble_eq_true rfl) (Nat.le_of_ble_eq_true rfl) hS (lv_sub hl [0, 3] rfl)
theorem dL_law_1037 : decode cL_law 1037 = .ok (.aload_n 1, 1) := by decide +kernel
theorem dL_law_1038 : decode cL_law 1038 = .ok (.invokevirtual 134, 3) := by decide +kernel
theorem dL_law_1041 : decode cL_law 1041 = .ok (.aload_n 2, 1) := by decide +kernel
theorem dL_law_1042 : decode cL_law 1042 = .ok (.invokevirtual 137, 3) := by decide +kernel
theorem dL_law_1045 : decode cL_law 1045 = .ok (.if_icmp .eq 429, 3) := by decide +kernel
set_option maxHeartbeats 4000000 in
set_option maxRecDepth 100000 in
theorem lc_29 {p : Program} {l : Launch} {e : Env} {s : State} {m : MethodId} {below : List Frame} {meth : Method} {c : Code} {b : Nat} {zs : Nat → Int32} {g : zL} {A : Nat → Prop} (C0 : zLw p s m meth c b zs g A) {h0 xt xr xp xs xm xh xe xf pa dr p_toolWidth p_told p_name p_parent p_side p_from p_width p_height p_radius p_toolSet n0 m_told m_read m_now m_readNow m_kept m_tape m_refused m_ownLetters m_flats m_corner m_wayX m_wayY m_normal m_low m_high m_clear m_ways m_canBe m_lain m_fewestBy m_sortOf m_seenFlange m_seenLength : Nat} {H : Heap} {locs : List Loc} {ls : Array Slot} (hP : va_P g.1 vwCl [(h0, .inr (8, [.ref xt, .ref xr, .ref xp, .ref xs, .ref xm, .ref xh, .ref xe, .ref xf, .ref pa, .ref dr, .int 0, .int 1, .int 0, .int 0])), (pa, .inr (4, [.int 0, .int 0, .int 0, .int 0, .int 0, .int 0, .ref p_toolWidth, .ref p_told, .ref p_name, .ref p_parent, .ref p_side, .ref p_from, .ref p_width, .ref p_height, .ref p_radius, .ref p_toolSet])), (n0, .inr (9, [.ref m_told, .ref m_read, .ref m_now, .ref m_readNow, .ref m_kept, .int 0, .int 1, .int 0, .ref m_tape, .int 0, .ref m_refused, .int 0, .int (-1), .int 0, .int 0, .int 0, .int 0, .int (-1), .ref m_ownLetters, .ref m_flats, .int 0, .ref m_corner, .ref m_wayX, .ref m_wayY, .ref m_normal, .ref m_low, .ref m_high, .ref m_clear, .ref m_ways, .ref m_canBe, .ref m_lain, .int 0, .ref m_fewestBy, .ref m_sortOf, .int 0, .ref m_seenFlange, .ref m_seenLength]))] H) (hD : va_D A [(h0, .inr (8, [.ref xt, .ref xr, .ref xp, .ref xs, .ref xm, .ref xh, .ref xe, .ref xf, .ref pa, .ref dr, .int 0, .int 1, .int 0, .int 0])), (pa, .inr (4, [.int 0, .int 0, .int 0, .int 0, .int 0, .int 0, .ref p_toolWidth, .ref p_told, .ref p_name, .ref p_parent, .ref p_side, .ref p_from, .ref p_width, .ref p_height, .ref p_radius, .ref p_toolSet])), (n0, .inr (9, [.ref m_told, .ref m_read, .ref m_now, .ref m_readNow, .ref m_kept, .int 0, .int 1, .int 0, .ref m_tape, .int 0, .ref m_refused, .int 0, .int (-1), .int 0, .int 0, .int 0, .int 0, .int (-1), .ref m_ownLetters, .ref m_flats, .int 0, .ref m_corner, .ref m_wayX, .ref m_wayY, .ref m_normal, .ref m_low, .ref m_high, .ref m_clear, .ref m_ways, .ref m_canBe, .ref m_lain, .int 0, .ref m_fewestBy, .ref m_sortOf, .int 0, .ref m_seenFlange, .ref m_seenLength]))]) (hS : va_S A s.heap H locs) (hl : lv_has ls 4 [(0, .ref b), (1, .ref h0), (2, .ref n0), (3, .int 0)]) : W p l e room_1 s m #[Value.ref b] below meth c H locs 75 18897 (lw_Z below #[Value.ref b] s) (F0 m 1037 ls []) := by
  obtain ⟨hx, hb, hr, hml, hown, hG, hlocks, hX, hA, hA2, hZ, hbl, hbA⟩ := id C0
  refine lv_aload_n hx hb dL_law_1037 rfl (lv_at hl 1 rfl) ?_
  refine zfi (wr := [(n0, .inr (9, [.ref m_told, .ref m_read, .ref m_now, .ref m_readNow, .ref m_kept, .int 0, .int 1, .int 0, .ref m_tape, .int 0, .ref m_refused, .int 0, .int (-1), .int 0, .int 0, .int 0, .int 0, .int (-1), .ref m_ownLetters, .ref m_flats, .int 0, .ref m_corner, .ref m_wayX, .ref m_wayY, .ref m_normal, .ref m_low, .ref m_high, .ref m_clear, .ref m_ways, .ref m_canBe, .ref m_lain, .int 0, .ref m_fewestBy, .ref m_sortOf, .int 0, .ref m_seenFlange, .ref m_seenLength]))]) (va_runV (As := []) (rest := []) ⟨hx, hb, hml, hown, hG⟩ (kX8_mends l g h0 xt xr xp xs xm xh xe xf pa dr p_toolWidth p_told p_name p_parent p_side p_from p_width p_height p_radius p_toolSet _) ⟨callB_of 0 hG (zGood g1221) rfl rfl rfl (hG _ g202) (hG _ g1218) hX8_mends ⟨Nat.le_of_ble_eq_true rfl, Nat.le_of_ble_eq_true rfl⟩, hG _ g1219, hG _ g1220⟩ (zpreV (va_recv hX.1 hP (ci := 8) (q0 := 0) rfl rfl) hX hP hD hS hA [0, 1] rfl (by decide)) rfl rfl hl.1 rfl (lv_room (Nat.le_of_ble_eq_true rfl)) dL_law_1038 ⟨Nat.le_of_ble_eq_true rfl, Nat.le_of_ble_eq_true rfl⟩) hP hD hS hA [0, 1] [2] rfl rfl (by decide) (by decide) (fun r1 _ H locs hp hP hD hS => ?_)
  refine W.cs (cells' := 75) (slots' := 18897) rfl rfl ?_
  have hq2 : r1 = (-1) := hp
  subst hq2
  have hP : va_P g.1 vwCl [(n0, .inr (9, [.ref m_told, .ref m_read, .ref m_now, .ref m_readNow, .ref m_kept, .int 0, .int 1, .int 0, .ref m_tape, .int 0, .ref m_refused, .int 0, .int (-1), .int 0, .int 0, .int 0, .int 0, .int (-1), .ref m_ownLetters, .ref m_flats, .int 0, .ref m_corner, .ref m_wayX, .ref m_wayY, .ref m_normal, .ref m_low, .ref m_high, .ref m_clear, .ref m_ways, .ref m_canBe, .ref m_lain, .int 0, .ref m_fewestBy, .ref m_sortOf, .int 0, .ref m_seenFlange, .ref m_seenLength]))] H := hP
  have hD : va_D A [(n0, .inr (9, [.ref m_told, .ref m_read, .ref m_now, .ref m_readNow, .ref m_kept, .int 0, .int 1, .int 0, .ref m_tape, .int 0, .ref m_refused, .int 0, .int (-1), .int 0, .int 0, .int 0, .int 0, .int (-1), .ref m_ownLetters, .ref m_flats, .int 0, .ref m_corner, .ref m_wayX, .ref m_wayY, .ref m_normal, .ref m_low, .ref m_high, .ref m_clear, .ref m_ways, .ref m_canBe, .ref m_lain, .int 0, .ref m_fewestBy, .ref m_sortOf, .int 0, .ref m_seenFlange, .ref m_seenLength]))] := hD
  refine lv_aload_n hx hb dL_law_1041 rfl (lv_at hl 2 rfl) ?_
  refine zfi (wr := []) (va_runV (As := []) (rest := [.int (-1)]) ⟨hx, hb, hml, hown, hG⟩ (kX9_mends l g n0 m_told m_read m_now m_readNow m_kept m_tape m_refused m_ownLetters m_flats m_corner m_wayX m_wayY m_normal m_low m_high m_clear m_ways m_canBe m_lain m_fewestBy m_sortOf m_seenFlange m_seenLength _) ⟨callB_of 0 hG (zGood g1964) rfl rfl rfl (hG _ g211) (hG _ g1961) hX9_mends ⟨Nat.le_of_ble_eq_true rfl, Nat.le_of_ble_eq_true rfl⟩, hG _ g1962, hG _ g1963⟩ (zpreV (va_recv hX.1 hP (ci := 9) (q0 := 0) rfl rfl) hX hP hD hS hA [0] rfl (by decide)) rfl rfl hl.1 rfl (lv_room (Nat.le_of_ble_eq_true rfl)) dL_law_1042 ⟨Nat.le_of_ble_eq_true rfl, Nat.le_of_ble_eq_true rfl⟩) hP hD hS hA [0] [] rfl rfl (by decide) (by decide) (fun r3 _ H locs hp hP hD hS => ?_)
  refine W.cs (cells' := 75) (slots' := 18897) rfl rfl ?_
  have hq4 : r3 = (-1) := hp
  subst hq4
  have hP : va_P g.1 vwCl [] H := hP
  have hD : va_D A [] := hD
  refine lv_icmp_eq (tgt := 1474) hx hb dL_law_1045 (by decide) (fun c9 => ?_) (fun c9 => (c9 rfl).elim)
  exact lc_end C0 (Nat.le_of_ble_eq_true rfl) (Nat.le_of_ble_eq_true rfl) hS (lv_sub hl [0, 3] rfl)
theorem dL_law_1050 : decode cL_law 1050 = .ok (.aload_n 1, 1) := by decide +kernel
theorem dL_law_1051 : decode cL_law 1051 = .ok (.aload_n 0, 1) := by decide +kernel
theorem dL_law_1052 : decode cL_law 1052 = .ok (.iload_n 3, 1) := by decide +kernel
theorem dL_law_1053 : decode cL_law 1053 = .ok (.iconst 1, 1) := by decide +kernel
theorem dL_law_1054 : decode cL_law 1054 = .ok (.iadd, 1) := by decide +kernel
theorem dL_law_1055 : decode cL_law 1055 = .ok (.iaload, 1) := by decide +kernel
theorem dL_law_1056 : decode cL_law 1056 = .ok (.invokevirtual 138, 3) := by decide +kernel
theorem dL_law_1059 : decode cL_law 1059 = .ok (.aload_n 2, 1) := by decide +kernel
theorem dL_law_1060 : decode cL_law 1060 = .ok (.aload_n 0, 1) := by decide +kernel
theorem dL_law_1061 : decode cL_law 1061 = .ok (.iload_n 3, 1) := by decide +kernel
theorem dL_law_1062 : decode cL_law 1062 = .ok (.iconst 1, 1) := by decide +kernel
theorem dL_law_1063 : decode cL_law 1063 = .ok (.iadd, 1) := by decide +kernel
theorem dL_law_1064 : decode cL_law 1064 = .ok (.iaload, 1) := by decide +kernel
theorem dL_law_1065 : decode cL_law 1065 = .ok (.invokevirtual 141, 3) := by decide +kernel
theorem dL_law_1068 : decode cL_law 1068 = .ok (.if_icmp .eq 406, 3) := by decide +kernel
set_option maxHeartbeats 4000000 in
set_option maxRecDepth 100000 in
theorem lc_30 {p : Program} {l : Launch} {e : Env} {s : State} {m : MethodId} {below : List Frame} {meth : Method} {c : Code} {b : Nat} {zs : Nat → Int32} {g : zL} {A : Nat → Prop} (C0 : zLw p s m meth c b zs g A) {h0 xt xr xp xs xm xh xe xf pa dr p_toolWidth p_told p_name p_parent p_side p_from p_width p_height p_radius p_toolSet n0 m_told m_read m_now m_readNow m_kept m_tape m_refused m_ownLetters m_flats m_corner m_wayX m_wayY m_normal m_low m_high m_clear m_ways m_canBe m_lain m_fewestBy m_sortOf m_seenFlange m_seenLength : Nat} {H : Heap} {locs : List Loc} {ls : Array Slot} (hP : va_P g.1 vwCl [(h0, .inr (8, [.ref xt, .ref xr, .ref xp, .ref xs, .ref xm, .ref xh, .ref xe, .ref xf, .ref pa, .ref dr, .int 0, .int 1, .int 0, .int 0])), (pa, .inr (4, [.int 0, .int 0, .int 0, .int 0, .int 0, .int 0, .ref p_toolWidth, .ref p_told, .ref p_name, .ref p_parent, .ref p_side, .ref p_from, .ref p_width, .ref p_height, .ref p_radius, .ref p_toolSet])), (n0, .inr (9, [.ref m_told, .ref m_read, .ref m_now, .ref m_readNow, .ref m_kept, .int 0, .int 1, .int 0, .ref m_tape, .int 0, .ref m_refused, .int 0, .int (-1), .int 0, .int 0, .int 0, .int 0, .int (-1), .ref m_ownLetters, .ref m_flats, .int 0, .ref m_corner, .ref m_wayX, .ref m_wayY, .ref m_normal, .ref m_low, .ref m_high, .ref m_clear, .ref m_ways, .ref m_canBe, .ref m_lain, .int 0, .ref m_fewestBy, .ref m_sortOf, .int 0, .ref m_seenFlange, .ref m_seenLength]))] H) (hD : va_D A [(h0, .inr (8, [.ref xt, .ref xr, .ref xp, .ref xs, .ref xm, .ref xh, .ref xe, .ref xf, .ref pa, .ref dr, .int 0, .int 1, .int 0, .int 0])), (pa, .inr (4, [.int 0, .int 0, .int 0, .int 0, .int 0, .int 0, .ref p_toolWidth, .ref p_told, .ref p_name, .ref p_parent, .ref p_side, .ref p_from, .ref p_width, .ref p_height, .ref p_radius, .ref p_toolSet])), (n0, .inr (9, [.ref m_told, .ref m_read, .ref m_now, .ref m_readNow, .ref m_kept, .int 0, .int 1, .int 0, .ref m_tape, .int 0, .ref m_refused, .int 0, .int (-1), .int 0, .int 0, .int 0, .int 0, .int (-1), .ref m_ownLetters, .ref m_flats, .int 0, .ref m_corner, .ref m_wayX, .ref m_wayY, .ref m_normal, .ref m_low, .ref m_high, .ref m_clear, .ref m_ways, .ref m_canBe, .ref m_lain, .int 0, .ref m_fewestBy, .ref m_sortOf, .int 0, .ref m_seenFlange, .ref m_seenLength]))]) (hS : va_S A s.heap H locs) (hl : lv_has ls 4 [(0, .ref b), (1, .ref h0), (2, .ref n0), (3, .int 0)]) : W p l e room_1 s m #[Value.ref b] below meth c H locs 75 18897 (lw_Z below #[Value.ref b] s) (F0 m 1050 ls []) := by
  obtain ⟨hx, hb, hr, hml, hown, hG, hlocks, hX, hA, hA2, hZ, hbl, hbA⟩ := id C0
  refine lv_aload_n hx hb dL_law_1050 rfl (lv_at hl 1 rfl) ?_
  refine lv_aload_n hx hb dL_law_1051 rfl (lv_at hl 0 rfl) ?_
  refine lv_iload_n hx hb dL_law_1052 rfl (lv_at hl 3 rfl) ?_
  refine lv_iconst (v := 1) hx hb dL_law_1053 (by decide) ?_
  refine lv_iadd hx hb dL_law_1054 ?_
  refine zt (z := 1) (by decide) ?_
  refine va_sld hx hb hZ hbl hbA hS (vp_in_iff.mpr (by decide)) dL_law_1055 ?_
  refine zfi (wr := [(n0, .inr (9, [.ref m_told, .ref m_read, .ref m_now, .ref m_readNow, .ref m_kept, .int 0, .int 1, .int 0, .ref m_tape, .int 0, .ref m_refused, .int 0, .int (-1), .int 0, .int 0, .int 0, .int 0, .int (-1), .ref m_ownLetters, .ref m_flats, .int 0, .ref m_corner, .ref m_wayX, .ref m_wayY, .ref m_normal, .ref m_low, .ref m_high, .ref m_clear, .ref m_ways, .ref m_canBe, .ref m_lain, .int 0, .ref m_fewestBy, .ref m_sortOf, .int 0, .ref m_seenFlange, .ref m_seenLength]))]) (va_runV (As := [.int (zs (1 : Int32).toNatClampNeg)]) (rest := []) ⟨hx, hb, hml, hown, hG⟩ (kX8_lacks l g h0 (zs (1 : Int32).toNatClampNeg) xt xr xp xs xm xh xe xf pa dr p_toolWidth p_told p_name p_parent p_side p_from p_width p_height p_radius p_toolSet _) ⟨callB_of 1 hG (zGood g1260) rfl rfl rfl (hG _ g202) (hG _ g1257) hX8_lacks ⟨Nat.le_of_ble_eq_true rfl, Nat.le_of_ble_eq_true rfl⟩, hG _ g1258, hG _ g1259⟩ (zpreV (va_recv hX.1 hP (ci := 8) (q0 := 0) rfl rfl) hX hP hD hS hA [0, 1] rfl (by decide)) rfl rfl hl.1 rfl (lv_room (Nat.le_of_ble_eq_true rfl)) dL_law_1056 ⟨Nat.le_of_ble_eq_true rfl, Nat.le_of_ble_eq_true rfl⟩) hP hD hS hA [0, 1] [2] rfl rfl (by decide) (by decide) (fun r1 _ H locs hp hP hD hS => ?_)
  refine W.cs (cells' := 75) (slots' := 18897) rfl rfl ?_
  have hq2 : r1 = (-1) := hp
  subst hq2
  have hP : va_P g.1 vwCl [(n0, .inr (9, [.ref m_told, .ref m_read, .ref m_now, .ref m_readNow, .ref m_kept, .int 0, .int 1, .int 0, .ref m_tape, .int 0, .ref m_refused, .int 0, .int (-1), .int 0, .int 0, .int 0, .int 0, .int (-1), .ref m_ownLetters, .ref m_flats, .int 0, .ref m_corner, .ref m_wayX, .ref m_wayY, .ref m_normal, .ref m_low, .ref m_high, .ref m_clear, .ref m_ways, .ref m_canBe, .ref m_lain, .int 0, .ref m_fewestBy, .ref m_sortOf, .int 0, .ref m_seenFlange, .ref m_seenLength]))] H := hP
  have hD : va_D A [(n0, .inr (9, [.ref m_told, .ref m_read, .ref m_now, .ref m_readNow, .ref m_kept, .int 0, .int 1, .int 0, .ref m_tape, .int 0, .ref m_refused, .int 0, .int (-1), .int 0, .int 0, .int 0, .int 0, .int (-1), .ref m_ownLetters, .ref m_flats, .int 0, .ref m_corner, .ref m_wayX, .ref m_wayY, .ref m_normal, .ref m_low, .ref m_high, .ref m_clear, .ref m_ways, .ref m_canBe, .ref m_lain, .int 0, .ref m_fewestBy, .ref m_sortOf, .int 0, .ref m_seenFlange, .ref m_seenLength]))] := hD
  refine lv_aload_n hx hb dL_law_1059 rfl (lv_at hl 2 rfl) ?_
  refine lv_aload_n hx hb dL_law_1060 rfl (lv_at hl 0 rfl) ?_
  refine lv_iload_n hx hb dL_law_1061 rfl (lv_at hl 3 rfl) ?_
  refine lv_iconst (v := 1) hx hb dL_law_1062 (by decide) ?_
  refine lv_iadd hx hb dL_law_1063 ?_
  refine zt (z := 1) (by decide) ?_
  refine va_sld hx hb hZ hbl hbA hS (vp_in_iff.mpr (by decide)) dL_law_1064 ?_
  refine zfi (wr := []) (va_runV (As := [.int (zs (1 : Int32).toNatClampNeg)]) (rest := [.int (-1)]) ⟨hx, hb, hml, hown, hG⟩ (kX9_lacks l g n0 (zs (1 : Int32).toNatClampNeg) m_told m_read m_now m_readNow m_kept m_tape m_refused m_ownLetters m_flats m_corner m_wayX m_wayY m_normal m_low m_high m_clear m_ways m_canBe m_lain m_fewestBy m_sortOf m_seenFlange m_seenLength _) ⟨callB_of 1 hG (zGood g1968) rfl rfl rfl (hG _ g211) (hG _ g1965) hX9_lacks ⟨Nat.le_of_ble_eq_true rfl, Nat.le_of_ble_eq_true rfl⟩, hG _ g1966, hG _ g1967⟩ (zpreV (va_recv hX.1 hP (ci := 9) (q0 := 0) rfl rfl) hX hP hD hS hA [0] rfl (by decide)) rfl rfl hl.1 rfl (lv_room (Nat.le_of_ble_eq_true rfl)) dL_law_1065 ⟨Nat.le_of_ble_eq_true rfl, Nat.le_of_ble_eq_true rfl⟩) hP hD hS hA [0] [] rfl rfl (by decide) (by decide) (fun r3 _ H locs hp hP hD hS => ?_)
  refine W.cs (cells' := 75) (slots' := 18897) rfl rfl ?_
  have hq4 : r3 = (-1) := hp
  subst hq4
  have hP : va_P g.1 vwCl [] H := hP
  have hD : va_D A [] := hD
  refine lv_icmp_eq (tgt := 1474) hx hb dL_law_1068 (by decide) (fun c9 => ?_) (fun c9 => (c9 rfl).elim)
  exact lc_end C0 (Nat.le_of_ble_eq_true rfl) (Nat.le_of_ble_eq_true rfl) hS (lv_sub hl [0, 3] rfl)
theorem dL_law_1073 : decode cL_law 1073 = .ok (.aload_n 1, 1) := by decide +kernel
theorem dL_law_1074 : decode cL_law 1074 = .ok (.invokevirtual 142, 3) := by decide +kernel
theorem dL_law_1077 : decode cL_law 1077 = .ok (.aload_n 2, 1) := by decide +kernel
theorem dL_law_1078 : decode cL_law 1078 = .ok (.invokevirtual 145, 3) := by decide +kernel
theorem dL_law_1081 : decode cL_law 1081 = .ok (.if_icmp .eq 393, 3) := by decide +kernel
set_option maxHeartbeats 4000000 in
set_option maxRecDepth 100000 in
theorem lc_31 {p : Program} {l : Launch} {e : Env} {s : State} {m : MethodId} {below : List Frame} {meth : Method} {c : Code} {b : Nat} {zs : Nat → Int32} {g : zL} {A : Nat → Prop} (C0 : zLw p s m meth c b zs g A) {h0 xt xr xp xs xm xh xe xf pa dr p_toolWidth p_told p_name p_parent p_side p_from p_width p_height p_radius p_toolSet n0 m_told m_read m_now m_readNow m_kept m_tape m_refused m_ownLetters m_flats m_corner m_wayX m_wayY m_normal m_low m_high m_clear m_ways m_canBe m_lain m_fewestBy m_sortOf m_seenFlange m_seenLength : Nat} {H : Heap} {locs : List Loc} {ls : Array Slot} (hP : va_P g.1 vwCl [(h0, .inr (8, [.ref xt, .ref xr, .ref xp, .ref xs, .ref xm, .ref xh, .ref xe, .ref xf, .ref pa, .ref dr, .int 0, .int 1, .int 0, .int 0])), (pa, .inr (4, [.int 0, .int 0, .int 0, .int 0, .int 0, .int 0, .ref p_toolWidth, .ref p_told, .ref p_name, .ref p_parent, .ref p_side, .ref p_from, .ref p_width, .ref p_height, .ref p_radius, .ref p_toolSet])), (n0, .inr (9, [.ref m_told, .ref m_read, .ref m_now, .ref m_readNow, .ref m_kept, .int 0, .int 1, .int 0, .ref m_tape, .int 0, .ref m_refused, .int 0, .int (-1), .int 0, .int 0, .int 0, .int 0, .int (-1), .ref m_ownLetters, .ref m_flats, .int 0, .ref m_corner, .ref m_wayX, .ref m_wayY, .ref m_normal, .ref m_low, .ref m_high, .ref m_clear, .ref m_ways, .ref m_canBe, .ref m_lain, .int 0, .ref m_fewestBy, .ref m_sortOf, .int 0, .ref m_seenFlange, .ref m_seenLength]))] H) (hD : va_D A [(h0, .inr (8, [.ref xt, .ref xr, .ref xp, .ref xs, .ref xm, .ref xh, .ref xe, .ref xf, .ref pa, .ref dr, .int 0, .int 1, .int 0, .int 0])), (pa, .inr (4, [.int 0, .int 0, .int 0, .int 0, .int 0, .int 0, .ref p_toolWidth, .ref p_told, .ref p_name, .ref p_parent, .ref p_side, .ref p_from, .ref p_width, .ref p_height, .ref p_radius, .ref p_toolSet])), (n0, .inr (9, [.ref m_told, .ref m_read, .ref m_now, .ref m_readNow, .ref m_kept, .int 0, .int 1, .int 0, .ref m_tape, .int 0, .ref m_refused, .int 0, .int (-1), .int 0, .int 0, .int 0, .int 0, .int (-1), .ref m_ownLetters, .ref m_flats, .int 0, .ref m_corner, .ref m_wayX, .ref m_wayY, .ref m_normal, .ref m_low, .ref m_high, .ref m_clear, .ref m_ways, .ref m_canBe, .ref m_lain, .int 0, .ref m_fewestBy, .ref m_sortOf, .int 0, .ref m_seenFlange, .ref m_seenLength]))]) (hS : va_S A s.heap H locs) (hl : lv_has ls 4 [(0, .ref b), (1, .ref h0), (2, .ref n0), (3, .int 0)]) : W p l e room_1 s m #[Value.ref b] below meth c H locs 75 18897 (lw_Z below #[Value.ref b] s) (F0 m 1073 ls []) := by
  obtain ⟨hx, hb, hr, hml, hown, hG, hlocks, hX, hA, hA2, hZ, hbl, hbA⟩ := id C0
  refine lv_aload_n hx hb dL_law_1073 rfl (lv_at hl 1 rfl) ?_
  refine zfi (wr := [(n0, .inr (9, [.ref m_told, .ref m_read, .ref m_now, .ref m_readNow, .ref m_kept, .int 0, .int 1, .int 0, .ref m_tape, .int 0, .ref m_refused, .int 0, .int (-1), .int 0, .int 0, .int 0, .int 0, .int (-1), .ref m_ownLetters, .ref m_flats, .int 0, .ref m_corner, .ref m_wayX, .ref m_wayY, .ref m_normal, .ref m_low, .ref m_high, .ref m_clear, .ref m_ways, .ref m_canBe, .ref m_lain, .int 0, .ref m_fewestBy, .ref m_sortOf, .int 0, .ref m_seenFlange, .ref m_seenLength]))]) (va_runV (As := []) (rest := []) ⟨hx, hb, hml, hown, hG⟩ (kX8_opens l g h0 xt xr xp xs xm xh xe xf pa dr p_toolWidth p_told p_name p_parent p_side p_from p_width p_height p_radius p_toolSet _) ⟨callB_of 0 hG (zGood g1272) rfl rfl rfl (hG _ g202) (hG _ g1269) hX8_opens ⟨Nat.le_of_ble_eq_true rfl, Nat.le_of_ble_eq_true rfl⟩, hG _ g1270, hG _ g1271⟩ (zpreV (va_recv hX.1 hP (ci := 8) (q0 := 0) rfl rfl) hX hP hD hS hA [0, 1] rfl (by decide)) rfl rfl hl.1 rfl (lv_room (Nat.le_of_ble_eq_true rfl)) dL_law_1074 ⟨Nat.le_of_ble_eq_true rfl, Nat.le_of_ble_eq_true rfl⟩) hP hD hS hA [0, 1] [2] rfl rfl (by decide) (by decide) (fun r1 _ H locs hp hP hD hS => ?_)
  refine W.cs (cells' := 75) (slots' := 18897) rfl rfl ?_
  have hq2 : r1 = (-1) := hp
  subst hq2
  have hP : va_P g.1 vwCl [(n0, .inr (9, [.ref m_told, .ref m_read, .ref m_now, .ref m_readNow, .ref m_kept, .int 0, .int 1, .int 0, .ref m_tape, .int 0, .ref m_refused, .int 0, .int (-1), .int 0, .int 0, .int 0, .int 0, .int (-1), .ref m_ownLetters, .ref m_flats, .int 0, .ref m_corner, .ref m_wayX, .ref m_wayY, .ref m_normal, .ref m_low, .ref m_high, .ref m_clear, .ref m_ways, .ref m_canBe, .ref m_lain, .int 0, .ref m_fewestBy, .ref m_sortOf, .int 0, .ref m_seenFlange, .ref m_seenLength]))] H := hP
  have hD : va_D A [(n0, .inr (9, [.ref m_told, .ref m_read, .ref m_now, .ref m_readNow, .ref m_kept, .int 0, .int 1, .int 0, .ref m_tape, .int 0, .ref m_refused, .int 0, .int (-1), .int 0, .int 0, .int 0, .int 0, .int (-1), .ref m_ownLetters, .ref m_flats, .int 0, .ref m_corner, .ref m_wayX, .ref m_wayY, .ref m_normal, .ref m_low, .ref m_high, .ref m_clear, .ref m_ways, .ref m_canBe, .ref m_lain, .int 0, .ref m_fewestBy, .ref m_sortOf, .int 0, .ref m_seenFlange, .ref m_seenLength]))] := hD
  refine lv_aload_n hx hb dL_law_1077 rfl (lv_at hl 2 rfl) ?_
  refine zfi (wr := []) (va_runV (As := []) (rest := [.int (-1)]) ⟨hx, hb, hml, hown, hG⟩ (kX9_opens l g n0 m_told m_read m_now m_readNow m_kept m_tape m_refused m_ownLetters m_flats m_corner m_wayX m_wayY m_normal m_low m_high m_clear m_ways m_canBe m_lain m_fewestBy m_sortOf m_seenFlange m_seenLength _) ⟨callB_of 0 hG (zGood g2005) rfl rfl rfl (hG _ g211) (hG _ g2002) hX9_opens ⟨Nat.le_of_ble_eq_true rfl, Nat.le_of_ble_eq_true rfl⟩, hG _ g2003, hG _ g2004⟩ (zpreV (va_recv hX.1 hP (ci := 9) (q0 := 0) rfl rfl) hX hP hD hS hA [0] rfl (by decide)) rfl rfl hl.1 rfl (lv_room (Nat.le_of_ble_eq_true rfl)) dL_law_1078 ⟨Nat.le_of_ble_eq_true rfl, Nat.le_of_ble_eq_true rfl⟩) hP hD hS hA [0] [] rfl rfl (by decide) (by decide) (fun r3 _ H locs hp hP hD hS => ?_)
  refine W.cs (cells' := 75) (slots' := 18897) rfl rfl ?_
  have hq4 : r3 = (-1) := hp
  subst hq4
  have hP : va_P g.1 vwCl [] H := hP
  have hD : va_D A [] := hD
  refine lv_icmp_eq (tgt := 1474) hx hb dL_law_1081 (by decide) (fun c9 => ?_) (fun c9 => (c9 rfl).elim)
  exact lc_end C0 (Nat.le_of_ble_eq_true rfl) (Nat.le_of_ble_eq_true rfl) hS (lv_sub hl [0, 3] rfl)
theorem dL_law_1086 : decode cL_law 1086 = .ok (.aload_n 1, 1) := by decide +kernel
theorem dL_law_1087 : decode cL_law 1087 = .ok (.aload_n 0, 1) := by decide +kernel
theorem dL_law_1088 : decode cL_law 1088 = .ok (.iload_n 3, 1) := by decide +kernel
theorem dL_law_1089 : decode cL_law 1089 = .ok (.iconst 1, 1) := by decide +kernel
theorem dL_law_1090 : decode cL_law 1090 = .ok (.iadd, 1) := by decide +kernel
theorem dL_law_1091 : decode cL_law 1091 = .ok (.iaload, 1) := by decide +kernel
theorem dL_law_1092 : decode cL_law 1092 = .ok (.invokevirtual 146, 3) := by decide +kernel
theorem dL_law_1095 : decode cL_law 1095 = .ok (.aload_n 2, 1) := by decide +kernel
theorem dL_law_1096 : decode cL_law 1096 = .ok (.aload_n 0, 1) := by decide +kernel
theorem dL_law_1097 : decode cL_law 1097 = .ok (.iload_n 3, 1) := by decide +kernel
theorem dL_law_1098 : decode cL_law 1098 = .ok (.iconst 1, 1) := by decide +kernel
theorem dL_law_1099 : decode cL_law 1099 = .ok (.iadd, 1) := by decide +kernel
theorem dL_law_1100 : decode cL_law 1100 = .ok (.iaload, 1) := by decide +kernel
theorem dL_law_1101 : decode cL_law 1101 = .ok (.invokevirtual 149, 3) := by decide +kernel
theorem dL_law_1104 : decode cL_law 1104 = .ok (.if_icmp .eq 370, 3) := by decide +kernel
set_option maxHeartbeats 4000000 in
set_option maxRecDepth 100000 in
theorem lc_32 {p : Program} {l : Launch} {e : Env} {s : State} {m : MethodId} {below : List Frame} {meth : Method} {c : Code} {b : Nat} {zs : Nat → Int32} {g : zL} {A : Nat → Prop} (C0 : zLw p s m meth c b zs g A) {h0 xt xr xp xs xm xh xe xf pa dr p_toolWidth p_told p_name p_parent p_side p_from p_width p_height p_radius p_toolSet n0 m_told m_read m_now m_readNow m_kept m_tape m_refused m_ownLetters m_flats m_corner m_wayX m_wayY m_normal m_low m_high m_clear m_ways m_canBe m_lain m_fewestBy m_sortOf m_seenFlange m_seenLength : Nat} {H : Heap} {locs : List Loc} {ls : Array Slot} (hP : va_P g.1 vwCl [(h0, .inr (8, [.ref xt, .ref xr, .ref xp, .ref xs, .ref xm, .ref xh, .ref xe, .ref xf, .ref pa, .ref dr, .int 0, .int 1, .int 0, .int 0])), (pa, .inr (4, [.int 0, .int 0, .int 0, .int 0, .int 0, .int 0, .ref p_toolWidth, .ref p_told, .ref p_name, .ref p_parent, .ref p_side, .ref p_from, .ref p_width, .ref p_height, .ref p_radius, .ref p_toolSet])), (n0, .inr (9, [.ref m_told, .ref m_read, .ref m_now, .ref m_readNow, .ref m_kept, .int 0, .int 1, .int 0, .ref m_tape, .int 0, .ref m_refused, .int 0, .int (-1), .int 0, .int 0, .int 0, .int 0, .int (-1), .ref m_ownLetters, .ref m_flats, .int 0, .ref m_corner, .ref m_wayX, .ref m_wayY, .ref m_normal, .ref m_low, .ref m_high, .ref m_clear, .ref m_ways, .ref m_canBe, .ref m_lain, .int 0, .ref m_fewestBy, .ref m_sortOf, .int 0, .ref m_seenFlange, .ref m_seenLength]))] H) (hD : va_D A [(h0, .inr (8, [.ref xt, .ref xr, .ref xp, .ref xs, .ref xm, .ref xh, .ref xe, .ref xf, .ref pa, .ref dr, .int 0, .int 1, .int 0, .int 0])), (pa, .inr (4, [.int 0, .int 0, .int 0, .int 0, .int 0, .int 0, .ref p_toolWidth, .ref p_told, .ref p_name, .ref p_parent, .ref p_side, .ref p_from, .ref p_width, .ref p_height, .ref p_radius, .ref p_toolSet])), (n0, .inr (9, [.ref m_told, .ref m_read, .ref m_now, .ref m_readNow, .ref m_kept, .int 0, .int 1, .int 0, .ref m_tape, .int 0, .ref m_refused, .int 0, .int (-1), .int 0, .int 0, .int 0, .int 0, .int (-1), .ref m_ownLetters, .ref m_flats, .int 0, .ref m_corner, .ref m_wayX, .ref m_wayY, .ref m_normal, .ref m_low, .ref m_high, .ref m_clear, .ref m_ways, .ref m_canBe, .ref m_lain, .int 0, .ref m_fewestBy, .ref m_sortOf, .int 0, .ref m_seenFlange, .ref m_seenLength]))]) (hS : va_S A s.heap H locs) (hl : lv_has ls 4 [(0, .ref b), (1, .ref h0), (2, .ref n0), (3, .int 0)]) : W p l e room_1 s m #[Value.ref b] below meth c H locs 75 18897 (lw_Z below #[Value.ref b] s) (F0 m 1086 ls []) := by
  obtain ⟨hx, hb, hr, hml, hown, hG, hlocks, hX, hA, hA2, hZ, hbl, hbA⟩ := id C0
  refine lv_aload_n hx hb dL_law_1086 rfl (lv_at hl 1 rfl) ?_
  refine lv_aload_n hx hb dL_law_1087 rfl (lv_at hl 0 rfl) ?_
  refine lv_iload_n hx hb dL_law_1088 rfl (lv_at hl 3 rfl) ?_
  refine lv_iconst (v := 1) hx hb dL_law_1089 (by decide) ?_
  refine lv_iadd hx hb dL_law_1090 ?_
  refine zt (z := 1) (by decide) ?_
  refine va_sld hx hb hZ hbl hbA hS (vp_in_iff.mpr (by decide)) dL_law_1091 ?_
  refine zfi (wr := [(n0, .inr (9, [.ref m_told, .ref m_read, .ref m_now, .ref m_readNow, .ref m_kept, .int 0, .int 1, .int 0, .ref m_tape, .int 0, .ref m_refused, .int 0, .int (-1), .int 0, .int 0, .int 0, .int 0, .int (-1), .ref m_ownLetters, .ref m_flats, .int 0, .ref m_corner, .ref m_wayX, .ref m_wayY, .ref m_normal, .ref m_low, .ref m_high, .ref m_clear, .ref m_ways, .ref m_canBe, .ref m_lain, .int 0, .ref m_fewestBy, .ref m_sortOf, .int 0, .ref m_seenFlange, .ref m_seenLength]))]) (va_runV (As := [.int (zs (1 : Int32).toNatClampNeg)]) (rest := []) ⟨hx, hb, hml, hown, hG⟩ (kX8_smallest l g h0 (zs (1 : Int32).toNatClampNeg) xt xr xp xs xm xh xe xf pa dr p_toolWidth p_told p_name p_parent p_side p_from p_width p_height p_radius p_toolSet _) ⟨callB_of 1 hG (zGood g1276) rfl rfl rfl (hG _ g202) (hG _ g1273) hX8_smallest ⟨Nat.le_of_ble_eq_true rfl, Nat.le_of_ble_eq_true rfl⟩, hG _ g1274, hG _ g1275⟩ (zpreV (va_recv hX.1 hP (ci := 8) (q0 := 0) rfl rfl) hX hP hD hS hA [0, 1] rfl (by decide)) rfl rfl hl.1 rfl (lv_room (Nat.le_of_ble_eq_true rfl)) dL_law_1092 ⟨Nat.le_of_ble_eq_true rfl, Nat.le_of_ble_eq_true rfl⟩) hP hD hS hA [0, 1] [2] rfl rfl (by decide) (by decide) (fun r1 _ H locs hp hP hD hS => ?_)
  refine W.cs (cells' := 75) (slots' := 18897) rfl rfl ?_
  have hq2 : r1 = (-1) := hp
  subst hq2
  have hP : va_P g.1 vwCl [(n0, .inr (9, [.ref m_told, .ref m_read, .ref m_now, .ref m_readNow, .ref m_kept, .int 0, .int 1, .int 0, .ref m_tape, .int 0, .ref m_refused, .int 0, .int (-1), .int 0, .int 0, .int 0, .int 0, .int (-1), .ref m_ownLetters, .ref m_flats, .int 0, .ref m_corner, .ref m_wayX, .ref m_wayY, .ref m_normal, .ref m_low, .ref m_high, .ref m_clear, .ref m_ways, .ref m_canBe, .ref m_lain, .int 0, .ref m_fewestBy, .ref m_sortOf, .int 0, .ref m_seenFlange, .ref m_seenLength]))] H := hP
  have hD : va_D A [(n0, .inr (9, [.ref m_told, .ref m_read, .ref m_now, .ref m_readNow, .ref m_kept, .int 0, .int 1, .int 0, .ref m_tape, .int 0, .ref m_refused, .int 0, .int (-1), .int 0, .int 0, .int 0, .int 0, .int (-1), .ref m_ownLetters, .ref m_flats, .int 0, .ref m_corner, .ref m_wayX, .ref m_wayY, .ref m_normal, .ref m_low, .ref m_high, .ref m_clear, .ref m_ways, .ref m_canBe, .ref m_lain, .int 0, .ref m_fewestBy, .ref m_sortOf, .int 0, .ref m_seenFlange, .ref m_seenLength]))] := hD
  refine lv_aload_n hx hb dL_law_1095 rfl (lv_at hl 2 rfl) ?_
  refine lv_aload_n hx hb dL_law_1096 rfl (lv_at hl 0 rfl) ?_
  refine lv_iload_n hx hb dL_law_1097 rfl (lv_at hl 3 rfl) ?_
  refine lv_iconst (v := 1) hx hb dL_law_1098 (by decide) ?_
  refine lv_iadd hx hb dL_law_1099 ?_
  refine zt (z := 1) (by decide) ?_
  refine va_sld hx hb hZ hbl hbA hS (vp_in_iff.mpr (by decide)) dL_law_1100 ?_
  refine zfi (wr := []) (va_runV (As := [.int (zs (1 : Int32).toNatClampNeg)]) (rest := [.int (-1)]) ⟨hx, hb, hml, hown, hG⟩ (kX9_smallest l g n0 (zs (1 : Int32).toNatClampNeg) m_told m_read m_now m_readNow m_kept m_tape m_refused m_ownLetters m_flats m_corner m_wayX m_wayY m_normal m_low m_high m_clear m_ways m_canBe m_lain m_fewestBy m_sortOf m_seenFlange m_seenLength _) ⟨callB_of 1 hG (zGood g1785) rfl rfl rfl (hG _ g211) (hG _ g1782) hX9_smallest ⟨Nat.le_of_ble_eq_true rfl, Nat.le_of_ble_eq_true rfl⟩, hG _ g1783, hG _ g1784⟩ (zpreV (va_recv hX.1 hP (ci := 9) (q0 := 0) rfl rfl) hX hP hD hS hA [0] rfl (by decide)) rfl rfl hl.1 rfl (lv_room (Nat.le_of_ble_eq_true rfl)) dL_law_1101 ⟨Nat.le_of_ble_eq_true rfl, Nat.le_of_ble_eq_true rfl⟩) hP hD hS hA [0] [] rfl rfl (by decide) (by decide) (fun r3 _ H locs hp hP hD hS => ?_)
  refine W.cs (cells' := 75) (slots' := 18897) rfl rfl ?_
  have hq4 : r3 = (-1) := hp
  subst hq4
  have hP : va_P g.1 vwCl [] H := hP
  have hD : va_D A [] := hD
  refine lv_icmp_eq (tgt := 1474) hx hb dL_law_1104 (by decide) (fun c9 => ?_) (fun c9 => (c9 rfl).elim)
  exact lc_end C0 (Nat.le_of_ble_eq_true rfl) (Nat.le_of_ble_eq_true rfl) hS (lv_sub hl [0, 3] rfl)
theorem dL_law_1109 : decode cL_law 1109 = .ok (.aload_n 1, 1) := by decide +kernel
theorem dL_law_1110 : decode cL_law 1110 = .ok (.aload_n 0, 1) := by decide +kernel
theorem dL_law_1111 : decode cL_law 1111 = .ok (.iload_n 3, 1) := by decide +kernel
theorem dL_law_1112 : decode cL_law 1112 = .ok (.iconst 1, 1) := by decide +kernel
theorem dL_law_1113 : decode cL_law 1113 = .ok (.iadd, 1) := by decide +kernel
theorem dL_law_1114 : decode cL_law 1114 = .ok (.iaload, 1) := by decide +kernel
theorem dL_law_1115 : decode cL_law 1115 = .ok (.aload_n 0, 1) := by decide +kernel
theorem dL_law_1116 : decode cL_law 1116 = .ok (.iload_n 3, 1) := by decide +kernel
theorem dL_law_1117 : decode cL_law 1117 = .ok (.iconst 2, 1) := by decide +kernel
theorem dL_law_1118 : decode cL_law 1118 = .ok (.iadd, 1) := by decide +kernel
theorem dL_law_1119 : decode cL_law 1119 = .ok (.iaload, 1) := by decide +kernel
theorem dL_law_1120 : decode cL_law 1120 = .ok (.invokevirtual 150, 3) := by decide +kernel
theorem dL_law_1123 : decode cL_law 1123 = .ok (.aload_n 2, 1) := by decide +kernel
theorem dL_law_1124 : decode cL_law 1124 = .ok (.aload_n 0, 1) := by decide +kernel
theorem dL_law_1125 : decode cL_law 1125 = .ok (.iload_n 3, 1) := by decide +kernel
theorem dL_law_1126 : decode cL_law 1126 = .ok (.iconst 1, 1) := by decide +kernel
theorem dL_law_1127 : decode cL_law 1127 = .ok (.iadd, 1) := by decide +kernel
theorem dL_law_1128 : decode cL_law 1128 = .ok (.iaload, 1) := by decide +kernel
theorem dL_law_1129 : decode cL_law 1129 = .ok (.aload_n 0, 1) := by decide +kernel
theorem dL_law_1130 : decode cL_law 1130 = .ok (.iload_n 3, 1) := by decide +kernel
theorem dL_law_1131 : decode cL_law 1131 = .ok (.iconst 2, 1) := by decide +kernel
theorem dL_law_1132 : decode cL_law 1132 = .ok (.iadd, 1) := by decide +kernel
theorem dL_law_1133 : decode cL_law 1133 = .ok (.iaload, 1) := by decide +kernel
theorem dL_law_1134 : decode cL_law 1134 = .ok (.invokevirtual 153, 3) := by decide +kernel
theorem dL_law_1137 : decode cL_law 1137 = .ok (.if_icmp .eq 337, 3) := by decide +kernel
set_option maxHeartbeats 4000000 in
set_option maxRecDepth 100000 in
theorem lc_33 {p : Program} {l : Launch} {e : Env} {s : State} {m : MethodId} {below : List Frame} {meth : Method} {c : Code} {b : Nat} {zs : Nat → Int32} {g : zL} {A : Nat → Prop} (C0 : zLw p s m meth c b zs g A) {h0 xt xr xp xs xm xh xe xf pa dr p_toolWidth p_told p_name p_parent p_side p_from p_width p_height p_radius p_toolSet n0 m_told m_read m_now m_readNow m_kept m_tape m_refused m_ownLetters m_flats m_corner m_wayX m_wayY m_normal m_low m_high m_clear m_ways m_canBe m_lain m_fewestBy m_sortOf m_seenFlange m_seenLength : Nat} {H : Heap} {locs : List Loc} {ls : Array Slot} (hP : va_P g.1 vwCl [(h0, .inr (8, [.ref xt, .ref xr, .ref xp, .ref xs, .ref xm, .ref xh, .ref xe, .ref xf, .ref pa, .ref dr, .int 0, .int 1, .int 0, .int 0])), (pa, .inr (4, [.int 0, .int 0, .int 0, .int 0, .int 0, .int 0, .ref p_toolWidth, .ref p_told, .ref p_name, .ref p_parent, .ref p_side, .ref p_from, .ref p_width, .ref p_height, .ref p_radius, .ref p_toolSet])), (n0, .inr (9, [.ref m_told, .ref m_read, .ref m_now, .ref m_readNow, .ref m_kept, .int 0, .int 1, .int 0, .ref m_tape, .int 0, .ref m_refused, .int 0, .int (-1), .int 0, .int 0, .int 0, .int 0, .int (-1), .ref m_ownLetters, .ref m_flats, .int 0, .ref m_corner, .ref m_wayX, .ref m_wayY, .ref m_normal, .ref m_low, .ref m_high, .ref m_clear, .ref m_ways, .ref m_canBe, .ref m_lain, .int 0, .ref m_fewestBy, .ref m_sortOf, .int 0, .ref m_seenFlange, .ref m_seenLength]))] H) (hD : va_D A [(h0, .inr (8, [.ref xt, .ref xr, .ref xp, .ref xs, .ref xm, .ref xh, .ref xe, .ref xf, .ref pa, .ref dr, .int 0, .int 1, .int 0, .int 0])), (pa, .inr (4, [.int 0, .int 0, .int 0, .int 0, .int 0, .int 0, .ref p_toolWidth, .ref p_told, .ref p_name, .ref p_parent, .ref p_side, .ref p_from, .ref p_width, .ref p_height, .ref p_radius, .ref p_toolSet])), (n0, .inr (9, [.ref m_told, .ref m_read, .ref m_now, .ref m_readNow, .ref m_kept, .int 0, .int 1, .int 0, .ref m_tape, .int 0, .ref m_refused, .int 0, .int (-1), .int 0, .int 0, .int 0, .int 0, .int (-1), .ref m_ownLetters, .ref m_flats, .int 0, .ref m_corner, .ref m_wayX, .ref m_wayY, .ref m_normal, .ref m_low, .ref m_high, .ref m_clear, .ref m_ways, .ref m_canBe, .ref m_lain, .int 0, .ref m_fewestBy, .ref m_sortOf, .int 0, .ref m_seenFlange, .ref m_seenLength]))]) (hS : va_S A s.heap H locs) (hl : lv_has ls 4 [(0, .ref b), (1, .ref h0), (2, .ref n0), (3, .int 0)]) : W p l e room_1 s m #[Value.ref b] below meth c H locs 75 18897 (lw_Z below #[Value.ref b] s) (F0 m 1109 ls []) := by
  obtain ⟨hx, hb, hr, hml, hown, hG, hlocks, hX, hA, hA2, hZ, hbl, hbA⟩ := id C0
  refine lv_aload_n hx hb dL_law_1109 rfl (lv_at hl 1 rfl) ?_
  refine lv_aload_n hx hb dL_law_1110 rfl (lv_at hl 0 rfl) ?_
  refine lv_iload_n hx hb dL_law_1111 rfl (lv_at hl 3 rfl) ?_
  refine lv_iconst (v := 1) hx hb dL_law_1112 (by decide) ?_
  refine lv_iadd hx hb dL_law_1113 ?_
  refine zt (z := 1) (by decide) ?_
  refine va_sld hx hb hZ hbl hbA hS (vp_in_iff.mpr (by decide)) dL_law_1114 ?_
  refine lv_aload_n hx hb dL_law_1115 rfl (lv_at hl 0 rfl) ?_
  refine lv_iload_n hx hb dL_law_1116 rfl (lv_at hl 3 rfl) ?_
  refine lv_iconst (v := 2) hx hb dL_law_1117 (by decide) ?_
  refine lv_iadd hx hb dL_law_1118 ?_
  refine zt (z := 2) (by decide) ?_
  refine va_sld hx hb hZ hbl hbA hS (vp_in_iff.mpr (by decide)) dL_law_1119 ?_
  refine zfi (wr := [(n0, .inr (9, [.ref m_told, .ref m_read, .ref m_now, .ref m_readNow, .ref m_kept, .int 0, .int 1, .int 0, .ref m_tape, .int 0, .ref m_refused, .int 0, .int (-1), .int 0, .int 0, .int 0, .int 0, .int (-1), .ref m_ownLetters, .ref m_flats, .int 0, .ref m_corner, .ref m_wayX, .ref m_wayY, .ref m_normal, .ref m_low, .ref m_high, .ref m_clear, .ref m_ways, .ref m_canBe, .ref m_lain, .int 0, .ref m_fewestBy, .ref m_sortOf, .int 0, .ref m_seenFlange, .ref m_seenLength]))]) (va_runV (As := [.int (zs (1 : Int32).toNatClampNeg), .int (zs (2 : Int32).toNatClampNeg)]) (rest := []) ⟨hx, hb, hml, hown, hG⟩ (kX8_between l g h0 (zs (1 : Int32).toNatClampNeg) (zs (2 : Int32).toNatClampNeg) xt xr xp xs xm xh xe xf pa dr p_toolWidth p_told p_name p_parent p_side p_from p_width p_height p_radius p_toolSet _) ⟨callB_of 2 hG (zGood g1287) rfl rfl rfl (hG _ g202) (hG _ g1284) hX8_between ⟨Nat.le_of_ble_eq_true rfl, Nat.le_of_ble_eq_true rfl⟩, hG _ g1285, hG _ g1286⟩ (zpreV (va_recv hX.1 hP (ci := 8) (q0 := 0) rfl rfl) hX hP hD hS hA [0, 1] rfl (by decide)) rfl rfl hl.1 rfl (lv_room (Nat.le_of_ble_eq_true rfl)) dL_law_1120 ⟨Nat.le_of_ble_eq_true rfl, Nat.le_of_ble_eq_true rfl⟩) hP hD hS hA [0, 1] [2] rfl rfl (by decide) (by decide) (fun r1 _ H locs hp hP hD hS => ?_)
  refine W.cs (cells' := 75) (slots' := 18897) rfl rfl ?_
  have hq2 : r1 = (-1) := hp
  subst hq2
  have hP : va_P g.1 vwCl [(n0, .inr (9, [.ref m_told, .ref m_read, .ref m_now, .ref m_readNow, .ref m_kept, .int 0, .int 1, .int 0, .ref m_tape, .int 0, .ref m_refused, .int 0, .int (-1), .int 0, .int 0, .int 0, .int 0, .int (-1), .ref m_ownLetters, .ref m_flats, .int 0, .ref m_corner, .ref m_wayX, .ref m_wayY, .ref m_normal, .ref m_low, .ref m_high, .ref m_clear, .ref m_ways, .ref m_canBe, .ref m_lain, .int 0, .ref m_fewestBy, .ref m_sortOf, .int 0, .ref m_seenFlange, .ref m_seenLength]))] H := hP
  have hD : va_D A [(n0, .inr (9, [.ref m_told, .ref m_read, .ref m_now, .ref m_readNow, .ref m_kept, .int 0, .int 1, .int 0, .ref m_tape, .int 0, .ref m_refused, .int 0, .int (-1), .int 0, .int 0, .int 0, .int 0, .int (-1), .ref m_ownLetters, .ref m_flats, .int 0, .ref m_corner, .ref m_wayX, .ref m_wayY, .ref m_normal, .ref m_low, .ref m_high, .ref m_clear, .ref m_ways, .ref m_canBe, .ref m_lain, .int 0, .ref m_fewestBy, .ref m_sortOf, .int 0, .ref m_seenFlange, .ref m_seenLength]))] := hD
  refine lv_aload_n hx hb dL_law_1123 rfl (lv_at hl 2 rfl) ?_
  refine lv_aload_n hx hb dL_law_1124 rfl (lv_at hl 0 rfl) ?_
  refine lv_iload_n hx hb dL_law_1125 rfl (lv_at hl 3 rfl) ?_
  refine lv_iconst (v := 1) hx hb dL_law_1126 (by decide) ?_
  refine lv_iadd hx hb dL_law_1127 ?_
  refine zt (z := 1) (by decide) ?_
  refine va_sld hx hb hZ hbl hbA hS (vp_in_iff.mpr (by decide)) dL_law_1128 ?_
  refine lv_aload_n hx hb dL_law_1129 rfl (lv_at hl 0 rfl) ?_
  refine lv_iload_n hx hb dL_law_1130 rfl (lv_at hl 3 rfl) ?_
  refine lv_iconst (v := 2) hx hb dL_law_1131 (by decide) ?_
  refine lv_iadd hx hb dL_law_1132 ?_
  refine zt (z := 2) (by decide) ?_
  refine va_sld hx hb hZ hbl hbA hS (vp_in_iff.mpr (by decide)) dL_law_1133 ?_
  refine zfi (wr := []) (va_runV (As := [.int (zs (1 : Int32).toNatClampNeg), .int (zs (2 : Int32).toNatClampNeg)]) (rest := [.int (-1)]) ⟨hx, hb, hml, hown, hG⟩ (kX9_between l g n0 (zs (1 : Int32).toNatClampNeg) (zs (2 : Int32).toNatClampNeg) m_told m_read m_now m_readNow m_kept m_tape m_refused m_ownLetters m_flats m_corner m_wayX m_wayY m_normal m_low m_high m_clear m_ways m_canBe m_lain m_fewestBy m_sortOf m_seenFlange m_seenLength _) ⟨callB_of 2 hG (zGood g1858) rfl rfl rfl (hG _ g211) (hG _ g1855) hX9_between ⟨Nat.le_of_ble_eq_true rfl, Nat.le_of_ble_eq_true rfl⟩, hG _ g1856, hG _ g1857⟩ (zpreV (va_recv hX.1 hP (ci := 9) (q0 := 0) rfl rfl) hX hP hD hS hA [0] rfl (by decide)) rfl rfl hl.1 rfl (lv_room (Nat.le_of_ble_eq_true rfl)) dL_law_1134 ⟨Nat.le_of_ble_eq_true rfl, Nat.le_of_ble_eq_true rfl⟩) hP hD hS hA [0] [] rfl rfl (by decide) (by decide) (fun r3 _ H locs hp hP hD hS => ?_)
  refine W.cs (cells' := 75) (slots' := 18897) rfl rfl ?_
  have hq4 : r3 = (-1) := hp
  subst hq4
  have hP : va_P g.1 vwCl [] H := hP
  have hD : va_D A [] := hD
  refine lv_icmp_eq (tgt := 1474) hx hb dL_law_1137 (by decide) (fun c9 => ?_) (fun c9 => (c9 rfl).elim)
  exact lc_end C0 (Nat.le_of_ble_eq_true rfl) (Nat.le_of_ble_eq_true rfl) hS (lv_sub hl [0, 3] rfl)
theorem dL_law_1142 : decode cL_law 1142 = .ok (.aload_n 1, 1) := by decide +kernel
theorem dL_law_1143 : decode cL_law 1143 = .ok (.invokevirtual 154, 3) := by decide +kernel
theorem dL_law_1146 : decode cL_law 1146 = .ok (.aload_n 2, 1) := by decide +kernel
theorem dL_law_1147 : decode cL_law 1147 = .ok (.invokevirtual 157, 3) := by decide +kernel
theorem dL_law_1150 : decode cL_law 1150 = .ok (.if_icmp .eq 324, 3) := by decide +kernel
set_option maxHeartbeats 4000000 in
set_option maxRecDepth 100000 in
theorem lc_34 {p : Program} {l : Launch} {e : Env} {s : State} {m : MethodId} {below : List Frame} {meth : Method} {c : Code} {b : Nat} {zs : Nat → Int32} {g : zL} {A : Nat → Prop} (C0 : zLw p s m meth c b zs g A) {h0 xt xr xp xs xm xh xe xf pa dr xb e1 e2 p_toolWidth p_told p_name p_parent p_side p_from p_width p_height p_radius p_toolSet n0 m_told m_read m_now m_readNow m_kept m_tape m_refused m_ownLetters m_flats m_corner m_wayX m_wayY m_normal m_low m_high m_clear m_ways m_canBe m_lain m_fewestBy m_sortOf m_seenFlange m_seenLength : Nat} {H : Heap} {locs : List Loc} {ls : Array Slot} (hP : va_P g.1 vwCl [(h0, .inr (8, [.ref xt, .ref xr, .ref xp, .ref xs, .ref xm, .ref xh, .ref xe, .ref xf, .ref pa, .ref dr, .int 0, .int 1, .int 0, .int 0])), (xt, .inr (7, [.ref xb, .int 0])), (xe, .inr (1, [.ref e1, .ref e2, .int 0])), (xf, .inl (g.2.1.1, 6, .inl (fun _ => 0))), (pa, .inr (4, [.int 0, .int 0, .int 0, .int 0, .int 0, .int 0, .ref p_toolWidth, .ref p_told, .ref p_name, .ref p_parent, .ref p_side, .ref p_from, .ref p_width, .ref p_height, .ref p_radius, .ref p_toolSet])), (n0, .inr (9, [.ref m_told, .ref m_read, .ref m_now, .ref m_readNow, .ref m_kept, .int 0, .int 1, .int 0, .ref m_tape, .int 0, .ref m_refused, .int 0, .int (-1), .int 0, .int 0, .int 0, .int 0, .int (-1), .ref m_ownLetters, .ref m_flats, .int 0, .ref m_corner, .ref m_wayX, .ref m_wayY, .ref m_normal, .ref m_low, .ref m_high, .ref m_clear, .ref m_ways, .ref m_canBe, .ref m_lain, .int 0, .ref m_fewestBy, .ref m_sortOf, .int 0, .ref m_seenFlange, .ref m_seenLength])), (m_refused, .inl (g.2.1.1, 6, .inl (fun _ => 0)))] H) (hD : va_D A [(h0, .inr (8, [.ref xt, .ref xr, .ref xp, .ref xs, .ref xm, .ref xh, .ref xe, .ref xf, .ref pa, .ref dr, .int 0, .int 1, .int 0, .int 0])), (xt, .inr (7, [.ref xb, .int 0])), (xe, .inr (1, [.ref e1, .ref e2, .int 0])), (xf, .inl (g.2.1.1, 6, .inl (fun _ => 0))), (pa, .inr (4, [.int 0, .int 0, .int 0, .int 0, .int 0, .int 0, .ref p_toolWidth, .ref p_told, .ref p_name, .ref p_parent, .ref p_side, .ref p_from, .ref p_width, .ref p_height, .ref p_radius, .ref p_toolSet])), (n0, .inr (9, [.ref m_told, .ref m_read, .ref m_now, .ref m_readNow, .ref m_kept, .int 0, .int 1, .int 0, .ref m_tape, .int 0, .ref m_refused, .int 0, .int (-1), .int 0, .int 0, .int 0, .int 0, .int (-1), .ref m_ownLetters, .ref m_flats, .int 0, .ref m_corner, .ref m_wayX, .ref m_wayY, .ref m_normal, .ref m_low, .ref m_high, .ref m_clear, .ref m_ways, .ref m_canBe, .ref m_lain, .int 0, .ref m_fewestBy, .ref m_sortOf, .int 0, .ref m_seenFlange, .ref m_seenLength])), (m_refused, .inl (g.2.1.1, 6, .inl (fun _ => 0)))]) (hS : va_S A s.heap H locs) (hl : lv_has ls 4 [(0, .ref b), (1, .ref h0), (2, .ref n0), (3, .int 0)]) : W p l e room_1 s m #[Value.ref b] below meth c H locs 75 18897 (lw_Z below #[Value.ref b] s) (F0 m 1142 ls []) := by
  obtain ⟨hx, hb, hr, hml, hown, hG, hlocks, hX, hA, hA2, hZ, hbl, hbA⟩ := id C0
  refine lv_aload_n hx hb dL_law_1142 rfl (lv_at hl 1 rfl) ?_
  refine zfi (wr := [(n0, .inr (9, [.ref m_told, .ref m_read, .ref m_now, .ref m_readNow, .ref m_kept, .int 0, .int 1, .int 0, .ref m_tape, .int 0, .ref m_refused, .int 0, .int (-1), .int 0, .int 0, .int 0, .int 0, .int (-1), .ref m_ownLetters, .ref m_flats, .int 0, .ref m_corner, .ref m_wayX, .ref m_wayY, .ref m_normal, .ref m_low, .ref m_high, .ref m_clear, .ref m_ways, .ref m_canBe, .ref m_lain, .int 0, .ref m_fewestBy, .ref m_sortOf, .int 0, .ref m_seenFlange, .ref m_seenLength])), (m_refused, .inl (g.2.1.1, 6, .inl (fun _ => 0)))]) (va_runV (As := []) (rest := []) ⟨hx, hb, hml, hown, hG⟩ (kX8_see l g h0 xt xr xp xs xm xh xe xf pa dr p_toolWidth p_told p_name p_parent p_side p_from p_width p_height p_radius p_toolSet e1 e2 xb (fun _ => 0) _) ⟨callB_of 0 hG (zGood g1295) rfl rfl rfl (hG _ g202) (hG _ g1292) hX8_see ⟨Nat.le_of_ble_eq_true rfl, Nat.le_of_ble_eq_true rfl⟩, hG _ g1293, hG _ g1294⟩ (zpreV (va_recv hX.1 hP (ci := 8) (q0 := 0) rfl rfl) hX hP hD hS hA [0, 4, 2, 1, 3] rfl (by decide)) rfl rfl hl.1 rfl (lv_room (Nat.le_of_ble_eq_true rfl)) dL_law_1143 ⟨Nat.le_of_ble_eq_true rfl, Nat.le_of_ble_eq_true rfl⟩) hP hD hS hA [0, 4, 2, 1, 3] [5, 6] rfl rfl (by decide) (by decide) (fun r1 _ H locs hp hP hD hS => ?_)
  refine W.cs (cells' := 75) (slots' := 18897) rfl rfl ?_
  have hq2 : r1 = (-1) := hp
  subst hq2
  have hP : va_P g.1 vwCl [(n0, .inr (9, [.ref m_told, .ref m_read, .ref m_now, .ref m_readNow, .ref m_kept, .int 0, .int 1, .int 0, .ref m_tape, .int 0, .ref m_refused, .int 0, .int (-1), .int 0, .int 0, .int 0, .int 0, .int (-1), .ref m_ownLetters, .ref m_flats, .int 0, .ref m_corner, .ref m_wayX, .ref m_wayY, .ref m_normal, .ref m_low, .ref m_high, .ref m_clear, .ref m_ways, .ref m_canBe, .ref m_lain, .int 0, .ref m_fewestBy, .ref m_sortOf, .int 0, .ref m_seenFlange, .ref m_seenLength])), (m_refused, .inl (g.2.1.1, 6, .inl (fun _ => 0)))] H := hP
  have hD : va_D A [(n0, .inr (9, [.ref m_told, .ref m_read, .ref m_now, .ref m_readNow, .ref m_kept, .int 0, .int 1, .int 0, .ref m_tape, .int 0, .ref m_refused, .int 0, .int (-1), .int 0, .int 0, .int 0, .int 0, .int (-1), .ref m_ownLetters, .ref m_flats, .int 0, .ref m_corner, .ref m_wayX, .ref m_wayY, .ref m_normal, .ref m_low, .ref m_high, .ref m_clear, .ref m_ways, .ref m_canBe, .ref m_lain, .int 0, .ref m_fewestBy, .ref m_sortOf, .int 0, .ref m_seenFlange, .ref m_seenLength])), (m_refused, .inl (g.2.1.1, 6, .inl (fun _ => 0)))] := hD
  refine lv_aload_n hx hb dL_law_1146 rfl (lv_at hl 2 rfl) ?_
  refine zfi (wr := []) (va_runV (As := []) (rest := [.int (-1)]) ⟨hx, hb, hml, hown, hG⟩ (kX9_see l g n0 m_told m_read m_now m_readNow m_kept m_tape m_refused m_ownLetters m_flats m_corner m_wayX m_wayY m_normal m_low m_high m_clear m_ways m_canBe m_lain m_fewestBy m_sortOf m_seenFlange m_seenLength (fun _ => 0) _) ⟨callB_of 0 hG (zGood g1972) rfl rfl rfl (hG _ g211) (hG _ g1969) hX9_see ⟨Nat.le_of_ble_eq_true rfl, Nat.le_of_ble_eq_true rfl⟩, hG _ g1970, hG _ g1971⟩ (zpreV (va_recv hX.1 hP (ci := 9) (q0 := 0) rfl rfl) hX hP hD hS hA [0, 1] rfl (by decide)) rfl rfl hl.1 rfl (lv_room (Nat.le_of_ble_eq_true rfl)) dL_law_1147 ⟨Nat.le_of_ble_eq_true rfl, Nat.le_of_ble_eq_true rfl⟩) hP hD hS hA [0, 1] [] rfl rfl (by decide) (by decide) (fun r3 _ H locs hp hP hD hS => ?_)
  refine W.cs (cells' := 75) (slots' := 18897) rfl rfl ?_
  have hq4 : r3 = (-1) := hp
  subst hq4
  have hP : va_P g.1 vwCl [] H := hP
  have hD : va_D A [] := hD
  refine lv_icmp_eq (tgt := 1474) hx hb dL_law_1150 (by decide) (fun c9 => ?_) (fun c9 => (c9 rfl).elim)
  exact lc_end C0 (Nat.le_of_ble_eq_true rfl) (Nat.le_of_ble_eq_true rfl) hS (lv_sub hl [0, 3] rfl)
theorem dL_law_1155 : decode cL_law 1155 = .ok (.aload_n 1, 1) := by decide +kernel
theorem dL_law_1156 : decode cL_law 1156 = .ok (.aload_n 0, 1) := by decide +kernel
theorem dL_law_1157 : decode cL_law 1157 = .ok (.iload_n 3, 1) := by decide +kernel
theorem dL_law_1158 : decode cL_law 1158 = .ok (.iconst 1, 1) := by decide +kernel
theorem dL_law_1159 : decode cL_law 1159 = .ok (.iadd, 1) := by decide +kernel
theorem dL_law_1160 : decode cL_law 1160 = .ok (.iaload, 1) := by decide +kernel
theorem dL_law_1161 : decode cL_law 1161 = .ok (.aload_n 0, 1) := by decide +kernel
theorem dL_law_1162 : decode cL_law 1162 = .ok (.iload_n 3, 1) := by decide +kernel
theorem dL_law_1163 : decode cL_law 1163 = .ok (.iconst 2, 1) := by decide +kernel
theorem dL_law_1164 : decode cL_law 1164 = .ok (.iadd, 1) := by decide +kernel
theorem dL_law_1165 : decode cL_law 1165 = .ok (.iaload, 1) := by decide +kernel
theorem dL_law_1166 : decode cL_law 1166 = .ok (.invokevirtual 158, 3) := by decide +kernel
theorem dL_law_1169 : decode cL_law 1169 = .ok (.aload_n 2, 1) := by decide +kernel
theorem dL_law_1170 : decode cL_law 1170 = .ok (.aload_n 0, 1) := by decide +kernel
theorem dL_law_1171 : decode cL_law 1171 = .ok (.iload_n 3, 1) := by decide +kernel
theorem dL_law_1172 : decode cL_law 1172 = .ok (.iconst 1, 1) := by decide +kernel
theorem dL_law_1173 : decode cL_law 1173 = .ok (.iadd, 1) := by decide +kernel
theorem dL_law_1174 : decode cL_law 1174 = .ok (.iaload, 1) := by decide +kernel
theorem dL_law_1175 : decode cL_law 1175 = .ok (.aload_n 0, 1) := by decide +kernel
theorem dL_law_1176 : decode cL_law 1176 = .ok (.iload_n 3, 1) := by decide +kernel
theorem dL_law_1177 : decode cL_law 1177 = .ok (.iconst 2, 1) := by decide +kernel
theorem dL_law_1178 : decode cL_law 1178 = .ok (.iadd, 1) := by decide +kernel
theorem dL_law_1179 : decode cL_law 1179 = .ok (.iaload, 1) := by decide +kernel
theorem dL_law_1180 : decode cL_law 1180 = .ok (.invokevirtual 161, 3) := by decide +kernel
theorem dL_law_1183 : decode cL_law 1183 = .ok (.if_icmp .eq 291, 3) := by decide +kernel
set_option maxHeartbeats 4000000 in
set_option maxRecDepth 100000 in
theorem lc_35 {p : Program} {l : Launch} {e : Env} {s : State} {m : MethodId} {below : List Frame} {meth : Method} {c : Code} {b : Nat} {zs : Nat → Int32} {g : zL} {A : Nat → Prop} (C0 : zLw p s m meth c b zs g A) {h0 xt xr xp xs xm xh xe xf pa dr e1 e2 n0 m_told m_read m_now m_readNow m_kept m_tape m_refused m_ownLetters m_flats m_corner m_wayX m_wayY m_normal m_low m_high m_clear m_ways m_canBe m_lain m_fewestBy m_sortOf m_seenFlange m_seenLength : Nat} {H : Heap} {locs : List Loc} {ls : Array Slot} (hP : va_P g.1 vwCl [(h0, .inr (8, [.ref xt, .ref xr, .ref xp, .ref xs, .ref xm, .ref xh, .ref xe, .ref xf, .ref pa, .ref dr, .int 0, .int 1, .int 0, .int 0])), (xe, .inr (1, [.ref e1, .ref e2, .int 0])), (n0, .inr (9, [.ref m_told, .ref m_read, .ref m_now, .ref m_readNow, .ref m_kept, .int 0, .int 1, .int 0, .ref m_tape, .int 0, .ref m_refused, .int 0, .int (-1), .int 0, .int 0, .int 0, .int 0, .int (-1), .ref m_ownLetters, .ref m_flats, .int 0, .ref m_corner, .ref m_wayX, .ref m_wayY, .ref m_normal, .ref m_low, .ref m_high, .ref m_clear, .ref m_ways, .ref m_canBe, .ref m_lain, .int 0, .ref m_fewestBy, .ref m_sortOf, .int 0, .ref m_seenFlange, .ref m_seenLength]))] H) (hD : va_D A [(h0, .inr (8, [.ref xt, .ref xr, .ref xp, .ref xs, .ref xm, .ref xh, .ref xe, .ref xf, .ref pa, .ref dr, .int 0, .int 1, .int 0, .int 0])), (xe, .inr (1, [.ref e1, .ref e2, .int 0])), (n0, .inr (9, [.ref m_told, .ref m_read, .ref m_now, .ref m_readNow, .ref m_kept, .int 0, .int 1, .int 0, .ref m_tape, .int 0, .ref m_refused, .int 0, .int (-1), .int 0, .int 0, .int 0, .int 0, .int (-1), .ref m_ownLetters, .ref m_flats, .int 0, .ref m_corner, .ref m_wayX, .ref m_wayY, .ref m_normal, .ref m_low, .ref m_high, .ref m_clear, .ref m_ways, .ref m_canBe, .ref m_lain, .int 0, .ref m_fewestBy, .ref m_sortOf, .int 0, .ref m_seenFlange, .ref m_seenLength]))]) (hS : va_S A s.heap H locs) (hl : lv_has ls 4 [(0, .ref b), (1, .ref h0), (2, .ref n0), (3, .int 0)]) : W p l e room_1 s m #[Value.ref b] below meth c H locs 75 18897 (lw_Z below #[Value.ref b] s) (F0 m 1155 ls []) := by
  obtain ⟨hx, hb, hr, hml, hown, hG, hlocks, hX, hA, hA2, hZ, hbl, hbA⟩ := id C0
  refine lv_aload_n hx hb dL_law_1155 rfl (lv_at hl 1 rfl) ?_
  refine lv_aload_n hx hb dL_law_1156 rfl (lv_at hl 0 rfl) ?_
  refine lv_iload_n hx hb dL_law_1157 rfl (lv_at hl 3 rfl) ?_
  refine lv_iconst (v := 1) hx hb dL_law_1158 (by decide) ?_
  refine lv_iadd hx hb dL_law_1159 ?_
  refine zt (z := 1) (by decide) ?_
  refine va_sld hx hb hZ hbl hbA hS (vp_in_iff.mpr (by decide)) dL_law_1160 ?_
  refine lv_aload_n hx hb dL_law_1161 rfl (lv_at hl 0 rfl) ?_
  refine lv_iload_n hx hb dL_law_1162 rfl (lv_at hl 3 rfl) ?_
  refine lv_iconst (v := 2) hx hb dL_law_1163 (by decide) ?_
  refine lv_iadd hx hb dL_law_1164 ?_
  refine zt (z := 2) (by decide) ?_
  refine va_sld hx hb hZ hbl hbA hS (vp_in_iff.mpr (by decide)) dL_law_1165 ?_
  refine zfi (wr := [(n0, .inr (9, [.ref m_told, .ref m_read, .ref m_now, .ref m_readNow, .ref m_kept, .int 0, .int 1, .int 0, .ref m_tape, .int 0, .ref m_refused, .int 0, .int (-1), .int 0, .int 0, .int 0, .int 0, .int (-1), .ref m_ownLetters, .ref m_flats, .int 0, .ref m_corner, .ref m_wayX, .ref m_wayY, .ref m_normal, .ref m_low, .ref m_high, .ref m_clear, .ref m_ways, .ref m_canBe, .ref m_lain, .int 0, .ref m_fewestBy, .ref m_sortOf, .int 0, .ref m_seenFlange, .ref m_seenLength]))]) (va_runV (As := [.int (zs (1 : Int32).toNatClampNeg), .int (zs (2 : Int32).toNatClampNeg)]) (rest := []) ⟨hx, hb, hml, hown, hG⟩ (kX8_fits l g h0 (zs (1 : Int32).toNatClampNeg) (zs (2 : Int32).toNatClampNeg) xt xr xp xs xm xh xe xf pa dr e1 e2 _) ⟨callB_of 2 hG (zGood g1305) rfl rfl rfl (hG _ g202) (hG _ g1302) hX8_fits ⟨Nat.le_of_ble_eq_true rfl, Nat.le_of_ble_eq_true rfl⟩, hG _ g1303, hG _ g1304⟩ (zpreV (va_recv hX.1 hP (ci := 8) (q0 := 0) rfl rfl) hX hP hD hS hA [0, 1] rfl (by decide)) rfl rfl hl.1 rfl (lv_room (Nat.le_of_ble_eq_true rfl)) dL_law_1166 ⟨Nat.le_of_ble_eq_true rfl, Nat.le_of_ble_eq_true rfl⟩) hP hD hS hA [0, 1] [2] rfl rfl (by decide) (by decide) (fun r1 _ H locs hp hP hD hS => ?_)
  refine W.cs (cells' := 75) (slots' := 18897) rfl rfl ?_
  have hq2 : r1 = (-1) := hp
  subst hq2
  have hP : va_P g.1 vwCl [(n0, .inr (9, [.ref m_told, .ref m_read, .ref m_now, .ref m_readNow, .ref m_kept, .int 0, .int 1, .int 0, .ref m_tape, .int 0, .ref m_refused, .int 0, .int (-1), .int 0, .int 0, .int 0, .int 0, .int (-1), .ref m_ownLetters, .ref m_flats, .int 0, .ref m_corner, .ref m_wayX, .ref m_wayY, .ref m_normal, .ref m_low, .ref m_high, .ref m_clear, .ref m_ways, .ref m_canBe, .ref m_lain, .int 0, .ref m_fewestBy, .ref m_sortOf, .int 0, .ref m_seenFlange, .ref m_seenLength]))] H := hP
  have hD : va_D A [(n0, .inr (9, [.ref m_told, .ref m_read, .ref m_now, .ref m_readNow, .ref m_kept, .int 0, .int 1, .int 0, .ref m_tape, .int 0, .ref m_refused, .int 0, .int (-1), .int 0, .int 0, .int 0, .int 0, .int (-1), .ref m_ownLetters, .ref m_flats, .int 0, .ref m_corner, .ref m_wayX, .ref m_wayY, .ref m_normal, .ref m_low, .ref m_high, .ref m_clear, .ref m_ways, .ref m_canBe, .ref m_lain, .int 0, .ref m_fewestBy, .ref m_sortOf, .int 0, .ref m_seenFlange, .ref m_seenLength]))] := hD
  refine lv_aload_n hx hb dL_law_1169 rfl (lv_at hl 2 rfl) ?_
  refine lv_aload_n hx hb dL_law_1170 rfl (lv_at hl 0 rfl) ?_
  refine lv_iload_n hx hb dL_law_1171 rfl (lv_at hl 3 rfl) ?_
  refine lv_iconst (v := 1) hx hb dL_law_1172 (by decide) ?_
  refine lv_iadd hx hb dL_law_1173 ?_
  refine zt (z := 1) (by decide) ?_
  refine va_sld hx hb hZ hbl hbA hS (vp_in_iff.mpr (by decide)) dL_law_1174 ?_
  refine lv_aload_n hx hb dL_law_1175 rfl (lv_at hl 0 rfl) ?_
  refine lv_iload_n hx hb dL_law_1176 rfl (lv_at hl 3 rfl) ?_
  refine lv_iconst (v := 2) hx hb dL_law_1177 (by decide) ?_
  refine lv_iadd hx hb dL_law_1178 ?_
  refine zt (z := 2) (by decide) ?_
  refine va_sld hx hb hZ hbl hbA hS (vp_in_iff.mpr (by decide)) dL_law_1179 ?_
  refine zfi (wr := []) (va_runV (As := [.int (zs (1 : Int32).toNatClampNeg), .int (zs (2 : Int32).toNatClampNeg)]) (rest := [.int (-1)]) ⟨hx, hb, hml, hown, hG⟩ (kX9_fits l g n0 (zs (1 : Int32).toNatClampNeg) (zs (2 : Int32).toNatClampNeg) m_told m_read m_now m_readNow m_kept m_tape m_refused m_ownLetters m_flats m_corner m_wayX m_wayY m_normal m_low m_high m_clear m_ways m_canBe m_lain m_fewestBy m_sortOf m_seenFlange m_seenLength _) ⟨callB_of 2 hG (zGood g1976) rfl rfl rfl (hG _ g211) (hG _ g1973) hX9_fits ⟨Nat.le_of_ble_eq_true rfl, Nat.le_of_ble_eq_true rfl⟩, hG _ g1974, hG _ g1975⟩ (zpreV (va_recv hX.1 hP (ci := 9) (q0 := 0) rfl rfl) hX hP hD hS hA [0] rfl (by decide)) rfl rfl hl.1 rfl (lv_room (Nat.le_of_ble_eq_true rfl)) dL_law_1180 ⟨Nat.le_of_ble_eq_true rfl, Nat.le_of_ble_eq_true rfl⟩) hP hD hS hA [0] [] rfl rfl (by decide) (by decide) (fun r3 _ H locs hp hP hD hS => ?_)
  refine W.cs (cells' := 75) (slots' := 18897) rfl rfl ?_
  have hq4 : r3 = (-1) := hp
  subst hq4
  have hP : va_P g.1 vwCl [(n0, .inr (9, [.ref m_told, .ref m_read, .ref m_now, .ref m_readNow, .ref m_kept, .int 0, .int 1, .int 0, .ref m_tape, .int 0, .ref m_refused, .int 0, .int (-1), .int 0, .int 0, .int 0, .int 0, .int (-1), .ref m_ownLetters, .ref m_flats, .int 0, .ref m_corner, .ref m_wayX, .ref m_wayY, .ref m_normal, .ref m_low, .ref m_high, .ref m_clear, .ref m_ways, .ref m_canBe, .ref m_lain, .int 0, .ref m_fewestBy, .ref m_sortOf, .int 0, .ref m_seenFlange, .ref m_seenLength]))] H := hP
  have hD : va_D A [(n0, .inr (9, [.ref m_told, .ref m_read, .ref m_now, .ref m_readNow, .ref m_kept, .int 0, .int 1, .int 0, .ref m_tape, .int 0, .ref m_refused, .int 0, .int (-1), .int 0, .int 0, .int 0, .int 0, .int (-1), .ref m_ownLetters, .ref m_flats, .int 0, .ref m_corner, .ref m_wayX, .ref m_wayY, .ref m_normal, .ref m_low, .ref m_high, .ref m_clear, .ref m_ways, .ref m_canBe, .ref m_lain, .int 0, .ref m_fewestBy, .ref m_sortOf, .int 0, .ref m_seenFlange, .ref m_seenLength]))] := hD
  refine lv_icmp_eq (tgt := 1474) hx hb dL_law_1183 (by decide) (fun c9 => ?_) (fun c9 => (c9 rfl).elim)
  exact lc_end C0 (Nat.le_of_ble_eq_true rfl) (Nat.le_of_ble_eq_true rfl) hS (lv_sub hl [0, 3] rfl)
theorem dL_law_1188 : decode cL_law 1188 = .ok (.aload_n 1, 1) := by decide +kernel
theorem dL_law_1189 : decode cL_law 1189 = .ok (.aload_n 0, 1) := by decide +kernel
theorem dL_law_1190 : decode cL_law 1190 = .ok (.iload_n 3, 1) := by decide +kernel
theorem dL_law_1191 : decode cL_law 1191 = .ok (.iconst 1, 1) := by decide +kernel
theorem dL_law_1192 : decode cL_law 1192 = .ok (.iadd, 1) := by decide +kernel
theorem dL_law_1193 : decode cL_law 1193 = .ok (.iaload, 1) := by decide +kernel
theorem dL_law_1194 : decode cL_law 1194 = .ok (.aload_n 0, 1) := by decide +kernel
theorem dL_law_1195 : decode cL_law 1195 = .ok (.iload_n 3, 1) := by decide +kernel
theorem dL_law_1196 : decode cL_law 1196 = .ok (.iconst 2, 1) := by decide +kernel
theorem dL_law_1197 : decode cL_law 1197 = .ok (.iadd, 1) := by decide +kernel
theorem dL_law_1198 : decode cL_law 1198 = .ok (.iaload, 1) := by decide +kernel
theorem dL_law_1199 : decode cL_law 1199 = .ok (.invokevirtual 162, 3) := by decide +kernel
theorem dL_law_1202 : decode cL_law 1202 = .ok (.aload_n 2, 1) := by decide +kernel
theorem dL_law_1203 : decode cL_law 1203 = .ok (.aload_n 0, 1) := by decide +kernel
theorem dL_law_1204 : decode cL_law 1204 = .ok (.iload_n 3, 1) := by decide +kernel
theorem dL_law_1205 : decode cL_law 1205 = .ok (.iconst 1, 1) := by decide +kernel
theorem dL_law_1206 : decode cL_law 1206 = .ok (.iadd, 1) := by decide +kernel
theorem dL_law_1207 : decode cL_law 1207 = .ok (.iaload, 1) := by decide +kernel
theorem dL_law_1208 : decode cL_law 1208 = .ok (.aload_n 0, 1) := by decide +kernel
theorem dL_law_1209 : decode cL_law 1209 = .ok (.iload_n 3, 1) := by decide +kernel
theorem dL_law_1210 : decode cL_law 1210 = .ok (.iconst 2, 1) := by decide +kernel
theorem dL_law_1211 : decode cL_law 1211 = .ok (.iadd, 1) := by decide +kernel
theorem dL_law_1212 : decode cL_law 1212 = .ok (.iaload, 1) := by decide +kernel
theorem dL_law_1213 : decode cL_law 1213 = .ok (.invokevirtual 165, 3) := by decide +kernel
theorem dL_law_1216 : decode cL_law 1216 = .ok (.if_icmp .eq 258, 3) := by decide +kernel
set_option maxHeartbeats 4000000 in
set_option maxRecDepth 100000 in
theorem lc_36 {p : Program} {l : Launch} {e : Env} {s : State} {m : MethodId} {below : List Frame} {meth : Method} {c : Code} {b : Nat} {zs : Nat → Int32} {g : zL} {A : Nat → Prop} (C0 : zLw p s m meth c b zs g A) {h0 xt xr xp xs xm xh xe xf pa dr e1 e2 n0 m_told m_read m_now m_readNow m_kept m_tape m_refused m_ownLetters m_flats m_corner m_wayX m_wayY m_normal m_low m_high m_clear m_ways m_canBe m_lain m_fewestBy m_sortOf m_seenFlange m_seenLength : Nat} {H : Heap} {locs : List Loc} {ls : Array Slot} (hP : va_P g.1 vwCl [(h0, .inr (8, [.ref xt, .ref xr, .ref xp, .ref xs, .ref xm, .ref xh, .ref xe, .ref xf, .ref pa, .ref dr, .int 0, .int 1, .int 0, .int 0])), (xe, .inr (1, [.ref e1, .ref e2, .int 0])), (n0, .inr (9, [.ref m_told, .ref m_read, .ref m_now, .ref m_readNow, .ref m_kept, .int 0, .int 1, .int 0, .ref m_tape, .int 0, .ref m_refused, .int 0, .int (-1), .int 0, .int 0, .int 0, .int 0, .int (-1), .ref m_ownLetters, .ref m_flats, .int 0, .ref m_corner, .ref m_wayX, .ref m_wayY, .ref m_normal, .ref m_low, .ref m_high, .ref m_clear, .ref m_ways, .ref m_canBe, .ref m_lain, .int 0, .ref m_fewestBy, .ref m_sortOf, .int 0, .ref m_seenFlange, .ref m_seenLength]))] H) (hD : va_D A [(h0, .inr (8, [.ref xt, .ref xr, .ref xp, .ref xs, .ref xm, .ref xh, .ref xe, .ref xf, .ref pa, .ref dr, .int 0, .int 1, .int 0, .int 0])), (xe, .inr (1, [.ref e1, .ref e2, .int 0])), (n0, .inr (9, [.ref m_told, .ref m_read, .ref m_now, .ref m_readNow, .ref m_kept, .int 0, .int 1, .int 0, .ref m_tape, .int 0, .ref m_refused, .int 0, .int (-1), .int 0, .int 0, .int 0, .int 0, .int (-1), .ref m_ownLetters, .ref m_flats, .int 0, .ref m_corner, .ref m_wayX, .ref m_wayY, .ref m_normal, .ref m_low, .ref m_high, .ref m_clear, .ref m_ways, .ref m_canBe, .ref m_lain, .int 0, .ref m_fewestBy, .ref m_sortOf, .int 0, .ref m_seenFlange, .ref m_seenLength]))]) (hS : va_S A s.heap H locs) (hl : lv_has ls 4 [(0, .ref b), (1, .ref h0), (2, .ref n0), (3, .int 0)]) : W p l e room_1 s m #[Value.ref b] below meth c H locs 75 18897 (lw_Z below #[Value.ref b] s) (F0 m 1188 ls []) := by
  obtain ⟨hx, hb, hr, hml, hown, hG, hlocks, hX, hA, hA2, hZ, hbl, hbA⟩ := id C0
  refine lv_aload_n hx hb dL_law_1188 rfl (lv_at hl 1 rfl) ?_
  refine lv_aload_n hx hb dL_law_1189 rfl (lv_at hl 0 rfl) ?_
  refine lv_iload_n hx hb dL_law_1190 rfl (lv_at hl 3 rfl) ?_
  refine lv_iconst (v := 1) hx hb dL_law_1191 (by decide) ?_
  refine lv_iadd hx hb dL_law_1192 ?_
  refine zt (z := 1) (by decide) ?_
  refine va_sld hx hb hZ hbl hbA hS (vp_in_iff.mpr (by decide)) dL_law_1193 ?_
  refine lv_aload_n hx hb dL_law_1194 rfl (lv_at hl 0 rfl) ?_
  refine lv_iload_n hx hb dL_law_1195 rfl (lv_at hl 3 rfl) ?_
  refine lv_iconst (v := 2) hx hb dL_law_1196 (by decide) ?_
  refine lv_iadd hx hb dL_law_1197 ?_
  refine zt (z := 2) (by decide) ?_
  refine va_sld hx hb hZ hbl hbA hS (vp_in_iff.mpr (by decide)) dL_law_1198 ?_
  refine zfi (wr := [(n0, .inr (9, [.ref m_told, .ref m_read, .ref m_now, .ref m_readNow, .ref m_kept, .int 0, .int 1, .int 0, .ref m_tape, .int 0, .ref m_refused, .int 0, .int (-1), .int 0, .int 0, .int 0, .int 0, .int (-1), .ref m_ownLetters, .ref m_flats, .int 0, .ref m_corner, .ref m_wayX, .ref m_wayY, .ref m_normal, .ref m_low, .ref m_high, .ref m_clear, .ref m_ways, .ref m_canBe, .ref m_lain, .int 0, .ref m_fewestBy, .ref m_sortOf, .int 0, .ref m_seenFlange, .ref m_seenLength]))]) (va_runV (As := [.int (zs (1 : Int32).toNatClampNeg), .int (zs (2 : Int32).toNatClampNeg)]) (rest := []) ⟨hx, hb, hml, hown, hG⟩ (kX8_tells l g h0 (zs (1 : Int32).toNatClampNeg) (zs (2 : Int32).toNatClampNeg) xt xr xp xs xm xh xe xf pa dr e1 e2 _) ⟨callB_of 2 hG (zGood g1323) rfl rfl rfl (hG _ g202) (hG _ g1320) hX8_tells ⟨Nat.le_of_ble_eq_true rfl, Nat.le_of_ble_eq_true rfl⟩, hG _ g1321, hG _ g1322⟩ (zpreV (va_recv hX.1 hP (ci := 8) (q0 := 0) rfl rfl) hX hP hD hS hA [0, 1] rfl (by decide)) rfl rfl hl.1 rfl (lv_room (Nat.le_of_ble_eq_true rfl)) dL_law_1199 ⟨Nat.le_of_ble_eq_true rfl, Nat.le_of_ble_eq_true rfl⟩) hP hD hS hA [0, 1] [2] rfl rfl (by decide) (by decide) (fun r1 _ H locs hp hP hD hS => ?_)
  refine W.cs (cells' := 75) (slots' := 18897) rfl rfl ?_
  have hq2 : r1 = (-1) := hp
  subst hq2
  have hP : va_P g.1 vwCl [(n0, .inr (9, [.ref m_told, .ref m_read, .ref m_now, .ref m_readNow, .ref m_kept, .int 0, .int 1, .int 0, .ref m_tape, .int 0, .ref m_refused, .int 0, .int (-1), .int 0, .int 0, .int 0, .int 0, .int (-1), .ref m_ownLetters, .ref m_flats, .int 0, .ref m_corner, .ref m_wayX, .ref m_wayY, .ref m_normal, .ref m_low, .ref m_high, .ref m_clear, .ref m_ways, .ref m_canBe, .ref m_lain, .int 0, .ref m_fewestBy, .ref m_sortOf, .int 0, .ref m_seenFlange, .ref m_seenLength]))] H := hP
  have hD : va_D A [(n0, .inr (9, [.ref m_told, .ref m_read, .ref m_now, .ref m_readNow, .ref m_kept, .int 0, .int 1, .int 0, .ref m_tape, .int 0, .ref m_refused, .int 0, .int (-1), .int 0, .int 0, .int 0, .int 0, .int (-1), .ref m_ownLetters, .ref m_flats, .int 0, .ref m_corner, .ref m_wayX, .ref m_wayY, .ref m_normal, .ref m_low, .ref m_high, .ref m_clear, .ref m_ways, .ref m_canBe, .ref m_lain, .int 0, .ref m_fewestBy, .ref m_sortOf, .int 0, .ref m_seenFlange, .ref m_seenLength]))] := hD
  refine lv_aload_n hx hb dL_law_1202 rfl (lv_at hl 2 rfl) ?_
  refine lv_aload_n hx hb dL_law_1203 rfl (lv_at hl 0 rfl) ?_
  refine lv_iload_n hx hb dL_law_1204 rfl (lv_at hl 3 rfl) ?_
  refine lv_iconst (v := 1) hx hb dL_law_1205 (by decide) ?_
  refine lv_iadd hx hb dL_law_1206 ?_
  refine zt (z := 1) (by decide) ?_
  refine va_sld hx hb hZ hbl hbA hS (vp_in_iff.mpr (by decide)) dL_law_1207 ?_
  refine lv_aload_n hx hb dL_law_1208 rfl (lv_at hl 0 rfl) ?_
  refine lv_iload_n hx hb dL_law_1209 rfl (lv_at hl 3 rfl) ?_
  refine lv_iconst (v := 2) hx hb dL_law_1210 (by decide) ?_
  refine lv_iadd hx hb dL_law_1211 ?_
  refine zt (z := 2) (by decide) ?_
  refine va_sld hx hb hZ hbl hbA hS (vp_in_iff.mpr (by decide)) dL_law_1212 ?_
  refine zfi (wr := []) (va_runV (As := [.int (zs (1 : Int32).toNatClampNeg), .int (zs (2 : Int32).toNatClampNeg)]) (rest := [.int (-1)]) ⟨hx, hb, hml, hown, hG⟩ (kX9_tells l g n0 (zs (1 : Int32).toNatClampNeg) (zs (2 : Int32).toNatClampNeg) m_told m_read m_now m_readNow m_kept m_tape m_refused m_ownLetters m_flats m_corner m_wayX m_wayY m_normal m_low m_high m_clear m_ways m_canBe m_lain m_fewestBy m_sortOf m_seenFlange m_seenLength _) ⟨callB_of 2 hG (zGood g1988) rfl rfl rfl (hG _ g211) (hG _ g1985) hX9_tells ⟨Nat.le_of_ble_eq_true rfl, Nat.le_of_ble_eq_true rfl⟩, hG _ g1986, hG _ g1987⟩ (zpreV (va_recv hX.1 hP (ci := 9) (q0 := 0) rfl rfl) hX hP hD hS hA [0] rfl (by decide)) rfl rfl hl.1 rfl (lv_room (Nat.le_of_ble_eq_true rfl)) dL_law_1213 ⟨Nat.le_of_ble_eq_true rfl, Nat.le_of_ble_eq_true rfl⟩) hP hD hS hA [0] [] rfl rfl (by decide) (by decide) (fun r3 _ H locs hp hP hD hS => ?_)
  refine W.cs (cells' := 75) (slots' := 18897) rfl rfl ?_
  have hq4 : r3 = (-1) := hp
  subst hq4
  have hP : va_P g.1 vwCl [] H := hP
  have hD : va_D A [] := hD
  refine lv_icmp_eq (tgt := 1474) hx hb dL_law_1216 (by decide) (fun c9 => ?_) (fun c9 => (c9 rfl).elim)
  exact lc_end C0 (Nat.le_of_ble_eq_true rfl) (Nat.le_of_ble_eq_true rfl) hS (lv_sub hl [0, 3] rfl)
theorem dL_law_1221 : decode cL_law 1221 = .ok (.aload_n 1, 1) := by decide +kernel
theorem dL_law_1222 : decode cL_law 1222 = .ok (.aload_n 0, 1) := by decide +kernel
theorem dL_law_1223 : decode cL_law 1223 = .ok (.iload_n 3, 1) := by decide +kernel
theorem dL_law_1224 : decode cL_law 1224 = .ok (.iconst 1, 1) := by decide +kernel
theorem dL_law_1225 : decode cL_law 1225 = .ok (.iadd, 1) := by decide +kernel
theorem dL_law_1226 : decode cL_law 1226 = .ok (.iaload, 1) := by decide +kernel
theorem dL_law_1227 : decode cL_law 1227 = .ok (.invokevirtual 166, 3) := by decide +kernel
theorem dL_law_1230 : decode cL_law 1230 = .ok (.aload_n 2, 1) := by decide +kernel
theorem dL_law_1231 : decode cL_law 1231 = .ok (.aload_n 0, 1) := by decide +kernel
theorem dL_law_1232 : decode cL_law 1232 = .ok (.iload_n 3, 1) := by decide +kernel
theorem dL_law_1233 : decode cL_law 1233 = .ok (.iconst 1, 1) := by decide +kernel
theorem dL_law_1234 : decode cL_law 1234 = .ok (.iadd, 1) := by decide +kernel
theorem dL_law_1235 : decode cL_law 1235 = .ok (.iaload, 1) := by decide +kernel
theorem dL_law_1236 : decode cL_law 1236 = .ok (.invokevirtual 169, 3) := by decide +kernel
theorem dL_law_1239 : decode cL_law 1239 = .ok (.if_icmp .eq 235, 3) := by decide +kernel
set_option maxHeartbeats 4000000 in
set_option maxRecDepth 100000 in
theorem lc_37 {p : Program} {l : Launch} {e : Env} {s : State} {m : MethodId} {below : List Frame} {meth : Method} {c : Code} {b : Nat} {zs : Nat → Int32} {g : zL} {A : Nat → Prop} (C0 : zLw p s m meth c b zs g A) {h0 xt xr xp xs xm xh xe xf pa dr p_toolWidth p_told p_name p_parent p_side p_from p_width p_height p_radius p_toolSet n0 m_told m_read m_now m_readNow m_kept m_tape m_refused m_ownLetters m_flats m_corner m_wayX m_wayY m_normal m_low m_high m_clear m_ways m_canBe m_lain m_fewestBy m_sortOf m_seenFlange m_seenLength : Nat} {H : Heap} {locs : List Loc} {ls : Array Slot} (hP : va_P g.1 vwCl [(h0, .inr (8, [.ref xt, .ref xr, .ref xp, .ref xs, .ref xm, .ref xh, .ref xe, .ref xf, .ref pa, .ref dr, .int 0, .int 1, .int 0, .int 0])), (xf, .inl (g.2.1.1, 6, .inl (fun _ => 0))), (pa, .inr (4, [.int 0, .int 0, .int 0, .int 0, .int 0, .int 0, .ref p_toolWidth, .ref p_told, .ref p_name, .ref p_parent, .ref p_side, .ref p_from, .ref p_width, .ref p_height, .ref p_radius, .ref p_toolSet])), (n0, .inr (9, [.ref m_told, .ref m_read, .ref m_now, .ref m_readNow, .ref m_kept, .int 0, .int 1, .int 0, .ref m_tape, .int 0, .ref m_refused, .int 0, .int (-1), .int 0, .int 0, .int 0, .int 0, .int (-1), .ref m_ownLetters, .ref m_flats, .int 0, .ref m_corner, .ref m_wayX, .ref m_wayY, .ref m_normal, .ref m_low, .ref m_high, .ref m_clear, .ref m_ways, .ref m_canBe, .ref m_lain, .int 0, .ref m_fewestBy, .ref m_sortOf, .int 0, .ref m_seenFlange, .ref m_seenLength])), (m_refused, .inl (g.2.1.1, 6, .inl (fun _ => 0)))] H) (hD : va_D A [(h0, .inr (8, [.ref xt, .ref xr, .ref xp, .ref xs, .ref xm, .ref xh, .ref xe, .ref xf, .ref pa, .ref dr, .int 0, .int 1, .int 0, .int 0])), (xf, .inl (g.2.1.1, 6, .inl (fun _ => 0))), (pa, .inr (4, [.int 0, .int 0, .int 0, .int 0, .int 0, .int 0, .ref p_toolWidth, .ref p_told, .ref p_name, .ref p_parent, .ref p_side, .ref p_from, .ref p_width, .ref p_height, .ref p_radius, .ref p_toolSet])), (n0, .inr (9, [.ref m_told, .ref m_read, .ref m_now, .ref m_readNow, .ref m_kept, .int 0, .int 1, .int 0, .ref m_tape, .int 0, .ref m_refused, .int 0, .int (-1), .int 0, .int 0, .int 0, .int 0, .int (-1), .ref m_ownLetters, .ref m_flats, .int 0, .ref m_corner, .ref m_wayX, .ref m_wayY, .ref m_normal, .ref m_low, .ref m_high, .ref m_clear, .ref m_ways, .ref m_canBe, .ref m_lain, .int 0, .ref m_fewestBy, .ref m_sortOf, .int 0, .ref m_seenFlange, .ref m_seenLength])), (m_refused, .inl (g.2.1.1, 6, .inl (fun _ => 0)))]) (hS : va_S A s.heap H locs) (hl : lv_has ls 4 [(0, .ref b), (1, .ref h0), (2, .ref n0), (3, .int 0)]) : W p l e room_1 s m #[Value.ref b] below meth c H locs 75 18897 (lw_Z below #[Value.ref b] s) (F0 m 1221 ls []) := by
  obtain ⟨hx, hb, hr, hml, hown, hG, hlocks, hX, hA, hA2, hZ, hbl, hbA⟩ := id C0
  refine lv_aload_n hx hb dL_law_1221 rfl (lv_at hl 1 rfl) ?_
  refine lv_aload_n hx hb dL_law_1222 rfl (lv_at hl 0 rfl) ?_
  refine lv_iload_n hx hb dL_law_1223 rfl (lv_at hl 3 rfl) ?_
  refine lv_iconst (v := 1) hx hb dL_law_1224 (by decide) ?_
  refine lv_iadd hx hb dL_law_1225 ?_
  refine zt (z := 1) (by decide) ?_
  refine va_sld hx hb hZ hbl hbA hS (vp_in_iff.mpr (by decide)) dL_law_1226 ?_
  refine zfi (wr := [(n0, .inr (9, [.ref m_told, .ref m_read, .ref m_now, .ref m_readNow, .ref m_kept, .int 0, .int 1, .int 0, .ref m_tape, .int 0, .ref m_refused, .int 0, .int (-1), .int 0, .int 0, .int 0, .int 0, .int (-1), .ref m_ownLetters, .ref m_flats, .int 0, .ref m_corner, .ref m_wayX, .ref m_wayY, .ref m_normal, .ref m_low, .ref m_high, .ref m_clear, .ref m_ways, .ref m_canBe, .ref m_lain, .int 0, .ref m_fewestBy, .ref m_sortOf, .int 0, .ref m_seenFlange, .ref m_seenLength])), (m_refused, .inl (g.2.1.1, 6, .inl (fun _ => 0)))]) (va_runV (As := [.int (zs (1 : Int32).toNatClampNeg)]) (rest := []) ⟨hx, hb, hml, hown, hG⟩ (kX8_bend l g h0 (zs (1 : Int32).toNatClampNeg) xt xr xp xs xm xh xe xf pa dr p_toolWidth p_told p_name p_parent p_side p_from p_width p_height p_radius p_toolSet (fun _ => 0) _) ⟨callB_of 1 hG (zGood g1336) rfl rfl rfl (hG _ g202) (hG _ g1333) hX8_bend ⟨Nat.le_of_ble_eq_true rfl, Nat.le_of_ble_eq_true rfl⟩, hG _ g1334, hG _ g1335⟩ (zpreV (va_recv hX.1 hP (ci := 8) (q0 := 0) rfl rfl) hX hP hD hS hA [0, 2, 1] rfl (by decide)) rfl rfl hl.1 rfl (lv_room (Nat.le_of_ble_eq_true rfl)) dL_law_1227 ⟨Nat.le_of_ble_eq_true rfl, Nat.le_of_ble_eq_true rfl⟩) hP hD hS hA [0, 2, 1] [3, 4] rfl rfl (by decide) (by decide) (fun r1 _ H locs hp hP hD hS => ?_)
  refine W.cs (cells' := 75) (slots' := 18897) rfl rfl ?_
  have hq2 : r1 = (-1) := hp
  subst hq2
  have hP : va_P g.1 vwCl [(n0, .inr (9, [.ref m_told, .ref m_read, .ref m_now, .ref m_readNow, .ref m_kept, .int 0, .int 1, .int 0, .ref m_tape, .int 0, .ref m_refused, .int 0, .int (-1), .int 0, .int 0, .int 0, .int 0, .int (-1), .ref m_ownLetters, .ref m_flats, .int 0, .ref m_corner, .ref m_wayX, .ref m_wayY, .ref m_normal, .ref m_low, .ref m_high, .ref m_clear, .ref m_ways, .ref m_canBe, .ref m_lain, .int 0, .ref m_fewestBy, .ref m_sortOf, .int 0, .ref m_seenFlange, .ref m_seenLength])), (m_refused, .inl (g.2.1.1, 6, .inl (fun _ => 0)))] H := hP
  have hD : va_D A [(n0, .inr (9, [.ref m_told, .ref m_read, .ref m_now, .ref m_readNow, .ref m_kept, .int 0, .int 1, .int 0, .ref m_tape, .int 0, .ref m_refused, .int 0, .int (-1), .int 0, .int 0, .int 0, .int 0, .int (-1), .ref m_ownLetters, .ref m_flats, .int 0, .ref m_corner, .ref m_wayX, .ref m_wayY, .ref m_normal, .ref m_low, .ref m_high, .ref m_clear, .ref m_ways, .ref m_canBe, .ref m_lain, .int 0, .ref m_fewestBy, .ref m_sortOf, .int 0, .ref m_seenFlange, .ref m_seenLength])), (m_refused, .inl (g.2.1.1, 6, .inl (fun _ => 0)))] := hD
  refine lv_aload_n hx hb dL_law_1230 rfl (lv_at hl 2 rfl) ?_
  refine lv_aload_n hx hb dL_law_1231 rfl (lv_at hl 0 rfl) ?_
  refine lv_iload_n hx hb dL_law_1232 rfl (lv_at hl 3 rfl) ?_
  refine lv_iconst (v := 1) hx hb dL_law_1233 (by decide) ?_
  refine lv_iadd hx hb dL_law_1234 ?_
  refine zt (z := 1) (by decide) ?_
  refine va_sld hx hb hZ hbl hbA hS (vp_in_iff.mpr (by decide)) dL_law_1235 ?_
  refine zfi (wr := []) (va_runV (As := [.int (zs (1 : Int32).toNatClampNeg)]) (rest := [.int (-1)]) ⟨hx, hb, hml, hown, hG⟩ (kX9_bend l g n0 (zs (1 : Int32).toNatClampNeg) m_told m_read m_now m_readNow m_kept m_tape m_refused m_ownLetters m_flats m_corner m_wayX m_wayY m_normal m_low m_high m_clear m_ways m_canBe m_lain m_fewestBy m_sortOf m_seenFlange m_seenLength (fun _ => 0) _) ⟨callB_of 1 hG (zGood g1997) rfl rfl rfl (hG _ g211) (hG _ g1994) hX9_bend ⟨Nat.le_of_ble_eq_true rfl, Nat.le_of_ble_eq_true rfl⟩, hG _ g1995, hG _ g1996⟩ (zpreV (va_recv hX.1 hP (ci := 9) (q0 := 0) rfl rfl) hX hP hD hS hA [0, 1] rfl (by decide)) rfl rfl hl.1 rfl (lv_room (Nat.le_of_ble_eq_true rfl)) dL_law_1236 ⟨Nat.le_of_ble_eq_true rfl, Nat.le_of_ble_eq_true rfl⟩) hP hD hS hA [0, 1] [] rfl rfl (by decide) (by decide) (fun r3 _ H locs hp hP hD hS => ?_)
  refine W.cs (cells' := 75) (slots' := 18897) rfl rfl ?_
  have hq4 : r3 = (-1) := hp
  subst hq4
  have hP : va_P g.1 vwCl [] H := hP
  have hD : va_D A [] := hD
  refine lv_icmp_eq (tgt := 1474) hx hb dL_law_1239 (by decide) (fun c9 => ?_) (fun c9 => (c9 rfl).elim)
  exact lc_end C0 (Nat.le_of_ble_eq_true rfl) (Nat.le_of_ble_eq_true rfl) hS (lv_sub hl [0, 3] rfl)
theorem dL_law_1244 : decode cL_law 1244 = .ok (.aload_n 1, 1) := by decide +kernel
theorem dL_law_1245 : decode cL_law 1245 = .ok (.aload_n 0, 1) := by decide +kernel
theorem dL_law_1246 : decode cL_law 1246 = .ok (.iload_n 3, 1) := by decide +kernel
theorem dL_law_1247 : decode cL_law 1247 = .ok (.iconst 1, 1) := by decide +kernel
theorem dL_law_1248 : decode cL_law 1248 = .ok (.iadd, 1) := by decide +kernel
theorem dL_law_1249 : decode cL_law 1249 = .ok (.iaload, 1) := by decide +kernel
theorem dL_law_1250 : decode cL_law 1250 = .ok (.invokevirtual 170, 3) := by decide +kernel
theorem dL_law_1253 : decode cL_law 1253 = .ok (.aload_n 2, 1) := by decide +kernel
theorem dL_law_1254 : decode cL_law 1254 = .ok (.aload_n 0, 1) := by decide +kernel
theorem dL_law_1255 : decode cL_law 1255 = .ok (.iload_n 3, 1) := by decide +kernel
theorem dL_law_1256 : decode cL_law 1256 = .ok (.iconst 1, 1) := by decide +kernel
theorem dL_law_1257 : decode cL_law 1257 = .ok (.iadd, 1) := by decide +kernel
theorem dL_law_1258 : decode cL_law 1258 = .ok (.iaload, 1) := by decide +kernel
theorem dL_law_1259 : decode cL_law 1259 = .ok (.invokevirtual 173, 3) := by decide +kernel
theorem dL_law_1262 : decode cL_law 1262 = .ok (.if_icmp .eq 212, 3) := by decide +kernel
set_option maxHeartbeats 4000000 in
set_option maxRecDepth 100000 in
theorem lc_38 {p : Program} {l : Launch} {e : Env} {s : State} {m : MethodId} {below : List Frame} {meth : Method} {c : Code} {b : Nat} {zs : Nat → Int32} {g : zL} {A : Nat → Prop} (C0 : zLw p s m meth c b zs g A) {h0 xt xr xp xs xm xh xe xf pa dr p_toolWidth p_told p_name p_parent p_side p_from p_width p_height p_radius p_toolSet n0 m_told m_read m_now m_readNow m_kept m_tape m_refused m_ownLetters m_flats m_corner m_wayX m_wayY m_normal m_low m_high m_clear m_ways m_canBe m_lain m_fewestBy m_sortOf m_seenFlange m_seenLength : Nat} {H : Heap} {locs : List Loc} {ls : Array Slot} (hP : va_P g.1 vwCl [(h0, .inr (8, [.ref xt, .ref xr, .ref xp, .ref xs, .ref xm, .ref xh, .ref xe, .ref xf, .ref pa, .ref dr, .int 0, .int 1, .int 0, .int 0])), (xf, .inl (g.2.1.1, 6, .inl (fun _ => 0))), (pa, .inr (4, [.int 0, .int 0, .int 0, .int 0, .int 0, .int 0, .ref p_toolWidth, .ref p_told, .ref p_name, .ref p_parent, .ref p_side, .ref p_from, .ref p_width, .ref p_height, .ref p_radius, .ref p_toolSet])), (n0, .inr (9, [.ref m_told, .ref m_read, .ref m_now, .ref m_readNow, .ref m_kept, .int 0, .int 1, .int 0, .ref m_tape, .int 0, .ref m_refused, .int 0, .int (-1), .int 0, .int 0, .int 0, .int 0, .int (-1), .ref m_ownLetters, .ref m_flats, .int 0, .ref m_corner, .ref m_wayX, .ref m_wayY, .ref m_normal, .ref m_low, .ref m_high, .ref m_clear, .ref m_ways, .ref m_canBe, .ref m_lain, .int 0, .ref m_fewestBy, .ref m_sortOf, .int 0, .ref m_seenFlange, .ref m_seenLength])), (m_refused, .inl (g.2.1.1, 6, .inl (fun _ => 0)))] H) (hD : va_D A [(h0, .inr (8, [.ref xt, .ref xr, .ref xp, .ref xs, .ref xm, .ref xh, .ref xe, .ref xf, .ref pa, .ref dr, .int 0, .int 1, .int 0, .int 0])), (xf, .inl (g.2.1.1, 6, .inl (fun _ => 0))), (pa, .inr (4, [.int 0, .int 0, .int 0, .int 0, .int 0, .int 0, .ref p_toolWidth, .ref p_told, .ref p_name, .ref p_parent, .ref p_side, .ref p_from, .ref p_width, .ref p_height, .ref p_radius, .ref p_toolSet])), (n0, .inr (9, [.ref m_told, .ref m_read, .ref m_now, .ref m_readNow, .ref m_kept, .int 0, .int 1, .int 0, .ref m_tape, .int 0, .ref m_refused, .int 0, .int (-1), .int 0, .int 0, .int 0, .int 0, .int (-1), .ref m_ownLetters, .ref m_flats, .int 0, .ref m_corner, .ref m_wayX, .ref m_wayY, .ref m_normal, .ref m_low, .ref m_high, .ref m_clear, .ref m_ways, .ref m_canBe, .ref m_lain, .int 0, .ref m_fewestBy, .ref m_sortOf, .int 0, .ref m_seenFlange, .ref m_seenLength])), (m_refused, .inl (g.2.1.1, 6, .inl (fun _ => 0)))]) (hS : va_S A s.heap H locs) (hl : lv_has ls 4 [(0, .ref b), (1, .ref h0), (2, .ref n0), (3, .int 0)]) : W p l e room_1 s m #[Value.ref b] below meth c H locs 75 18897 (lw_Z below #[Value.ref b] s) (F0 m 1244 ls []) := by
  obtain ⟨hx, hb, hr, hml, hown, hG, hlocks, hX, hA, hA2, hZ, hbl, hbA⟩ := id C0
  refine lv_aload_n hx hb dL_law_1244 rfl (lv_at hl 1 rfl) ?_
  refine lv_aload_n hx hb dL_law_1245 rfl (lv_at hl 0 rfl) ?_
  refine lv_iload_n hx hb dL_law_1246 rfl (lv_at hl 3 rfl) ?_
  refine lv_iconst (v := 1) hx hb dL_law_1247 (by decide) ?_
  refine lv_iadd hx hb dL_law_1248 ?_
  refine zt (z := 1) (by decide) ?_
  refine va_sld hx hb hZ hbl hbA hS (vp_in_iff.mpr (by decide)) dL_law_1249 ?_
  refine zfi (wr := [(n0, .inr (9, [.ref m_told, .ref m_read, .ref m_now, .ref m_readNow, .ref m_kept, .int 0, .int 1, .int 0, .ref m_tape, .int 0, .ref m_refused, .int 0, .int (-1), .int 0, .int 0, .int 0, .int 0, .int (-1), .ref m_ownLetters, .ref m_flats, .int 0, .ref m_corner, .ref m_wayX, .ref m_wayY, .ref m_normal, .ref m_low, .ref m_high, .ref m_clear, .ref m_ways, .ref m_canBe, .ref m_lain, .int 0, .ref m_fewestBy, .ref m_sortOf, .int 0, .ref m_seenFlange, .ref m_seenLength])), (m_refused, .inl (g.2.1.1, 6, .inl (fun _ => 0)))]) (va_runV (As := [.int (zs (1 : Int32).toNatClampNeg)]) (rest := []) ⟨hx, hb, hml, hown, hG⟩ (kX8_open l g h0 (zs (1 : Int32).toNatClampNeg) xt xr xp xs xm xh xe xf pa dr p_toolWidth p_told p_name p_parent p_side p_from p_width p_height p_radius p_toolSet (fun _ => 0) _) ⟨callB_of 1 hG (zGood g1354) rfl rfl rfl (hG _ g202) (hG _ g1351) hX8_open ⟨Nat.le_of_ble_eq_true rfl, Nat.le_of_ble_eq_true rfl⟩, hG _ g1352, hG _ g1353⟩ (zpreV (va_recv hX.1 hP (ci := 8) (q0 := 0) rfl rfl) hX hP hD hS hA [0, 2, 1] rfl (by decide)) rfl rfl hl.1 rfl (lv_room (Nat.le_of_ble_eq_true rfl)) dL_law_1250 ⟨Nat.le_of_ble_eq_true rfl, Nat.le_of_ble_eq_true rfl⟩) hP hD hS hA [0, 2, 1] [3, 4] rfl rfl (by decide) (by decide) (fun r1 _ H locs hp hP hD hS => ?_)
  refine W.cs (cells' := 75) (slots' := 18897) rfl rfl ?_
  have hq2 : r1 = 0 := hp
  subst hq2
  have hP : va_P g.1 vwCl [(n0, .inr (9, [.ref m_told, .ref m_read, .ref m_now, .ref m_readNow, .ref m_kept, .int 0, .int 1, .int 0, .ref m_tape, .int 0, .ref m_refused, .int 0, .int (-1), .int 0, .int 0, .int 0, .int 0, .int (-1), .ref m_ownLetters, .ref m_flats, .int 0, .ref m_corner, .ref m_wayX, .ref m_wayY, .ref m_normal, .ref m_low, .ref m_high, .ref m_clear, .ref m_ways, .ref m_canBe, .ref m_lain, .int 0, .ref m_fewestBy, .ref m_sortOf, .int 0, .ref m_seenFlange, .ref m_seenLength])), (m_refused, .inl (g.2.1.1, 6, .inl (fun _ => 0)))] H := hP
  have hD : va_D A [(n0, .inr (9, [.ref m_told, .ref m_read, .ref m_now, .ref m_readNow, .ref m_kept, .int 0, .int 1, .int 0, .ref m_tape, .int 0, .ref m_refused, .int 0, .int (-1), .int 0, .int 0, .int 0, .int 0, .int (-1), .ref m_ownLetters, .ref m_flats, .int 0, .ref m_corner, .ref m_wayX, .ref m_wayY, .ref m_normal, .ref m_low, .ref m_high, .ref m_clear, .ref m_ways, .ref m_canBe, .ref m_lain, .int 0, .ref m_fewestBy, .ref m_sortOf, .int 0, .ref m_seenFlange, .ref m_seenLength])), (m_refused, .inl (g.2.1.1, 6, .inl (fun _ => 0)))] := hD
  refine lv_aload_n hx hb dL_law_1253 rfl (lv_at hl 2 rfl) ?_
  refine lv_aload_n hx hb dL_law_1254 rfl (lv_at hl 0 rfl) ?_
  refine lv_iload_n hx hb dL_law_1255 rfl (lv_at hl 3 rfl) ?_
  refine lv_iconst (v := 1) hx hb dL_law_1256 (by decide) ?_
  refine lv_iadd hx hb dL_law_1257 ?_
  refine zt (z := 1) (by decide) ?_
  refine va_sld hx hb hZ hbl hbA hS (vp_in_iff.mpr (by decide)) dL_law_1258 ?_
  refine zfi (wr := []) (va_runV (As := [.int (zs (1 : Int32).toNatClampNeg)]) (rest := [.int 0]) ⟨hx, hb, hml, hown, hG⟩ (kX9_open l g n0 (zs (1 : Int32).toNatClampNeg) m_told m_read m_now m_readNow m_kept m_tape m_refused m_ownLetters m_flats m_corner m_wayX m_wayY m_normal m_low m_high m_clear m_ways m_canBe m_lain m_fewestBy m_sortOf m_seenFlange m_seenLength (fun _ => 0) _) ⟨callB_of 1 hG (zGood g2013) rfl rfl rfl (hG _ g211) (hG _ g2010) hX9_open ⟨Nat.le_of_ble_eq_true rfl, Nat.le_of_ble_eq_true rfl⟩, hG _ g2011, hG _ g2012⟩ (zpreV (va_recv hX.1 hP (ci := 9) (q0 := 0) rfl rfl) hX hP hD hS hA [0, 1] rfl (by decide)) rfl rfl hl.1 rfl (lv_room (Nat.le_of_ble_eq_true rfl)) dL_law_1259 ⟨Nat.le_of_ble_eq_true rfl, Nat.le_of_ble_eq_true rfl⟩) hP hD hS hA [0, 1] [] rfl rfl (by decide) (by decide) (fun r3 _ H locs hp hP hD hS => ?_)
  refine W.cs (cells' := 75) (slots' := 18897) rfl rfl ?_
  have hq4 : r3 = 0 := hp
  subst hq4
  have hP : va_P g.1 vwCl [] H := hP
  have hD : va_D A [] := hD
  refine lv_icmp_eq (tgt := 1474) hx hb dL_law_1262 (by decide) (fun c9 => ?_) (fun c9 => (c9 rfl).elim)
  exact lc_end C0 (Nat.le_of_ble_eq_true rfl) (Nat.le_of_ble_eq_true rfl) hS (lv_sub hl [0, 3] rfl)
theorem dL_law_1267 : decode cL_law 1267 = .ok (.aload_n 1, 1) := by decide +kernel
theorem dL_law_1268 : decode cL_law 1268 = .ok (.aload_n 0, 1) := by decide +kernel
theorem dL_law_1269 : decode cL_law 1269 = .ok (.iload_n 3, 1) := by decide +kernel
theorem dL_law_1270 : decode cL_law 1270 = .ok (.iconst 1, 1) := by decide +kernel
theorem dL_law_1271 : decode cL_law 1271 = .ok (.iadd, 1) := by decide +kernel
theorem dL_law_1272 : decode cL_law 1272 = .ok (.iaload, 1) := by decide +kernel
theorem dL_law_1273 : decode cL_law 1273 = .ok (.invokevirtual 174, 3) := by decide +kernel
theorem dL_law_1276 : decode cL_law 1276 = .ok (.aload_n 2, 1) := by decide +kernel
theorem dL_law_1277 : decode cL_law 1277 = .ok (.aload_n 0, 1) := by decide +kernel
theorem dL_law_1278 : decode cL_law 1278 = .ok (.iload_n 3, 1) := by decide +kernel
theorem dL_law_1279 : decode cL_law 1279 = .ok (.iconst 1, 1) := by decide +kernel
theorem dL_law_1280 : decode cL_law 1280 = .ok (.iadd, 1) := by decide +kernel
theorem dL_law_1281 : decode cL_law 1281 = .ok (.iaload, 1) := by decide +kernel
theorem dL_law_1282 : decode cL_law 1282 = .ok (.invokevirtual 177, 3) := by decide +kernel
theorem dL_law_1285 : decode cL_law 1285 = .ok (.if_icmp .eq 189, 3) := by decide +kernel
set_option maxHeartbeats 4000000 in
set_option maxRecDepth 100000 in
theorem lc_39 {p : Program} {l : Launch} {e : Env} {s : State} {m : MethodId} {below : List Frame} {meth : Method} {c : Code} {b : Nat} {zs : Nat → Int32} {g : zL} {A : Nat → Prop} (C0 : zLw p s m meth c b zs g A) {h0 xt xr xp xs xm xh xe xf pa dr p_toolWidth p_told p_name p_parent p_side p_from p_width p_height p_radius p_toolSet n0 m_told m_read m_now m_readNow m_kept m_tape m_refused m_ownLetters m_flats m_corner m_wayX m_wayY m_normal m_low m_high m_clear m_ways m_canBe m_lain m_fewestBy m_sortOf m_seenFlange m_seenLength : Nat} {H : Heap} {locs : List Loc} {ls : Array Slot} (hP : va_P g.1 vwCl [(h0, .inr (8, [.ref xt, .ref xr, .ref xp, .ref xs, .ref xm, .ref xh, .ref xe, .ref xf, .ref pa, .ref dr, .int 0, .int 1, .int 0, .int 0])), (xf, .inl (g.2.1.1, 6, .inl (fun _ => 0))), (pa, .inr (4, [.int 0, .int 0, .int 0, .int 0, .int 0, .int 0, .ref p_toolWidth, .ref p_told, .ref p_name, .ref p_parent, .ref p_side, .ref p_from, .ref p_width, .ref p_height, .ref p_radius, .ref p_toolSet])), (n0, .inr (9, [.ref m_told, .ref m_read, .ref m_now, .ref m_readNow, .ref m_kept, .int 0, .int 1, .int 0, .ref m_tape, .int 0, .ref m_refused, .int 0, .int (-1), .int 0, .int 0, .int 0, .int 0, .int (-1), .ref m_ownLetters, .ref m_flats, .int 0, .ref m_corner, .ref m_wayX, .ref m_wayY, .ref m_normal, .ref m_low, .ref m_high, .ref m_clear, .ref m_ways, .ref m_canBe, .ref m_lain, .int 0, .ref m_fewestBy, .ref m_sortOf, .int 0, .ref m_seenFlange, .ref m_seenLength])), (m_refused, .inl (g.2.1.1, 6, .inl (fun _ => 0)))] H) (hD : va_D A [(h0, .inr (8, [.ref xt, .ref xr, .ref xp, .ref xs, .ref xm, .ref xh, .ref xe, .ref xf, .ref pa, .ref dr, .int 0, .int 1, .int 0, .int 0])), (xf, .inl (g.2.1.1, 6, .inl (fun _ => 0))), (pa, .inr (4, [.int 0, .int 0, .int 0, .int 0, .int 0, .int 0, .ref p_toolWidth, .ref p_told, .ref p_name, .ref p_parent, .ref p_side, .ref p_from, .ref p_width, .ref p_height, .ref p_radius, .ref p_toolSet])), (n0, .inr (9, [.ref m_told, .ref m_read, .ref m_now, .ref m_readNow, .ref m_kept, .int 0, .int 1, .int 0, .ref m_tape, .int 0, .ref m_refused, .int 0, .int (-1), .int 0, .int 0, .int 0, .int 0, .int (-1), .ref m_ownLetters, .ref m_flats, .int 0, .ref m_corner, .ref m_wayX, .ref m_wayY, .ref m_normal, .ref m_low, .ref m_high, .ref m_clear, .ref m_ways, .ref m_canBe, .ref m_lain, .int 0, .ref m_fewestBy, .ref m_sortOf, .int 0, .ref m_seenFlange, .ref m_seenLength])), (m_refused, .inl (g.2.1.1, 6, .inl (fun _ => 0)))]) (hS : va_S A s.heap H locs) (hl : lv_has ls 4 [(0, .ref b), (1, .ref h0), (2, .ref n0), (3, .int 0)]) : W p l e room_1 s m #[Value.ref b] below meth c H locs 75 18897 (lw_Z below #[Value.ref b] s) (F0 m 1267 ls []) := by
  obtain ⟨hx, hb, hr, hml, hown, hG, hlocks, hX, hA, hA2, hZ, hbl, hbA⟩ := id C0
  refine lv_aload_n hx hb dL_law_1267 rfl (lv_at hl 1 rfl) ?_
  refine lv_aload_n hx hb dL_law_1268 rfl (lv_at hl 0 rfl) ?_
  refine lv_iload_n hx hb dL_law_1269 rfl (lv_at hl 3 rfl) ?_
  refine lv_iconst (v := 1) hx hb dL_law_1270 (by decide) ?_
  refine lv_iadd hx hb dL_law_1271 ?_
  refine zt (z := 1) (by decide) ?_
  refine va_sld hx hb hZ hbl hbA hS (vp_in_iff.mpr (by decide)) dL_law_1272 ?_
  refine zfi (wr := [(n0, .inr (9, [.ref m_told, .ref m_read, .ref m_now, .ref m_readNow, .ref m_kept, .int 0, .int 1, .int 0, .ref m_tape, .int 0, .ref m_refused, .int 0, .int (-1), .int 0, .int 0, .int 0, .int 0, .int (-1), .ref m_ownLetters, .ref m_flats, .int 0, .ref m_corner, .ref m_wayX, .ref m_wayY, .ref m_normal, .ref m_low, .ref m_high, .ref m_clear, .ref m_ways, .ref m_canBe, .ref m_lain, .int 0, .ref m_fewestBy, .ref m_sortOf, .int 0, .ref m_seenFlange, .ref m_seenLength])), (m_refused, .inl (g.2.1.1, 6, .inl (fun _ => 0)))]) (va_runV (As := [.int (zs (1 : Int32).toNatClampNeg)]) (rest := []) ⟨hx, hb, hml, hown, hG⟩ (kX8_turn l g h0 (zs (1 : Int32).toNatClampNeg) xt xr xp xs xm xh xe xf pa dr p_toolWidth p_told p_name p_parent p_side p_from p_width p_height p_radius p_toolSet (fun _ => 0) _) ⟨callB_of 1 hG (zGood g1358) rfl rfl rfl (hG _ g202) (hG _ g1355) hX8_turn ⟨Nat.le_of_ble_eq_true rfl, Nat.le_of_ble_eq_true rfl⟩, hG _ g1356, hG _ g1357⟩ (zpreV (va_recv hX.1 hP (ci := 8) (q0 := 0) rfl rfl) hX hP hD hS hA [0, 2, 1] rfl (by decide)) rfl rfl hl.1 rfl (lv_room (Nat.le_of_ble_eq_true rfl)) dL_law_1273 ⟨Nat.le_of_ble_eq_true rfl, Nat.le_of_ble_eq_true rfl⟩) hP hD hS hA [0, 2, 1] [3, 4] rfl rfl (by decide) (by decide) (fun r1 _ H locs hp hP hD hS => ?_)
  refine W.cs (cells' := 75) (slots' := 18897) rfl rfl ?_
  have hq2 : r1 = 0 := hp
  subst hq2
  have hP : va_P g.1 vwCl [(n0, .inr (9, [.ref m_told, .ref m_read, .ref m_now, .ref m_readNow, .ref m_kept, .int 0, .int 1, .int 0, .ref m_tape, .int 0, .ref m_refused, .int 0, .int (-1), .int 0, .int 0, .int 0, .int 0, .int (-1), .ref m_ownLetters, .ref m_flats, .int 0, .ref m_corner, .ref m_wayX, .ref m_wayY, .ref m_normal, .ref m_low, .ref m_high, .ref m_clear, .ref m_ways, .ref m_canBe, .ref m_lain, .int 0, .ref m_fewestBy, .ref m_sortOf, .int 0, .ref m_seenFlange, .ref m_seenLength])), (m_refused, .inl (g.2.1.1, 6, .inl (fun _ => 0)))] H := hP
  have hD : va_D A [(n0, .inr (9, [.ref m_told, .ref m_read, .ref m_now, .ref m_readNow, .ref m_kept, .int 0, .int 1, .int 0, .ref m_tape, .int 0, .ref m_refused, .int 0, .int (-1), .int 0, .int 0, .int 0, .int 0, .int (-1), .ref m_ownLetters, .ref m_flats, .int 0, .ref m_corner, .ref m_wayX, .ref m_wayY, .ref m_normal, .ref m_low, .ref m_high, .ref m_clear, .ref m_ways, .ref m_canBe, .ref m_lain, .int 0, .ref m_fewestBy, .ref m_sortOf, .int 0, .ref m_seenFlange, .ref m_seenLength])), (m_refused, .inl (g.2.1.1, 6, .inl (fun _ => 0)))] := hD
  refine lv_aload_n hx hb dL_law_1276 rfl (lv_at hl 2 rfl) ?_
  refine lv_aload_n hx hb dL_law_1277 rfl (lv_at hl 0 rfl) ?_
  refine lv_iload_n hx hb dL_law_1278 rfl (lv_at hl 3 rfl) ?_
  refine lv_iconst (v := 1) hx hb dL_law_1279 (by decide) ?_
  refine lv_iadd hx hb dL_law_1280 ?_
  refine zt (z := 1) (by decide) ?_
  refine va_sld hx hb hZ hbl hbA hS (vp_in_iff.mpr (by decide)) dL_law_1281 ?_
  refine zfi (wr := []) (va_runV (As := [.int (zs (1 : Int32).toNatClampNeg)]) (rest := [.int 0]) ⟨hx, hb, hml, hown, hG⟩ (kX9_turn l g n0 (zs (1 : Int32).toNatClampNeg) m_told m_read m_now m_readNow m_kept m_tape m_refused m_ownLetters m_flats m_corner m_wayX m_wayY m_normal m_low m_high m_clear m_ways m_canBe m_lain m_fewestBy m_sortOf m_seenFlange m_seenLength (fun _ => 0) _) ⟨callB_of 1 hG (zGood g2017) rfl rfl rfl (hG _ g211) (hG _ g2014) hX9_turn ⟨Nat.le_of_ble_eq_true rfl, Nat.le_of_ble_eq_true rfl⟩, hG _ g2015, hG _ g2016⟩ (zpreV (va_recv hX.1 hP (ci := 9) (q0 := 0) rfl rfl) hX hP hD hS hA [0, 1] rfl (by decide)) rfl rfl hl.1 rfl (lv_room (Nat.le_of_ble_eq_true rfl)) dL_law_1282 ⟨Nat.le_of_ble_eq_true rfl, Nat.le_of_ble_eq_true rfl⟩) hP hD hS hA [0, 1] [] rfl rfl (by decide) (by decide) (fun r3 _ H locs hp hP hD hS => ?_)
  refine W.cs (cells' := 75) (slots' := 18897) rfl rfl ?_
  have hq4 : r3 = 0 := hp
  subst hq4
  have hP : va_P g.1 vwCl [] H := hP
  have hD : va_D A [] := hD
  refine lv_icmp_eq (tgt := 1474) hx hb dL_law_1285 (by decide) (fun c9 => ?_) (fun c9 => (c9 rfl).elim)
  exact lc_end C0 (Nat.le_of_ble_eq_true rfl) (Nat.le_of_ble_eq_true rfl) hS (lv_sub hl [0, 3] rfl)
theorem dL_law_1290 : decode cL_law 1290 = .ok (.aload_n 1, 1) := by decide +kernel
theorem dL_law_1291 : decode cL_law 1291 = .ok (.aload_n 0, 1) := by decide +kernel
theorem dL_law_1292 : decode cL_law 1292 = .ok (.iload_n 3, 1) := by decide +kernel
theorem dL_law_1293 : decode cL_law 1293 = .ok (.iconst 1, 1) := by decide +kernel
theorem dL_law_1294 : decode cL_law 1294 = .ok (.iadd, 1) := by decide +kernel
theorem dL_law_1295 : decode cL_law 1295 = .ok (.iaload, 1) := by decide +kernel
theorem dL_law_1296 : decode cL_law 1296 = .ok (.invokevirtual 178, 3) := by decide +kernel
theorem dL_law_1299 : decode cL_law 1299 = .ok (.aload_n 2, 1) := by decide +kernel
theorem dL_law_1300 : decode cL_law 1300 = .ok (.aload_n 0, 1) := by decide +kernel
theorem dL_law_1301 : decode cL_law 1301 = .ok (.iload_n 3, 1) := by decide +kernel
theorem dL_law_1302 : decode cL_law 1302 = .ok (.iconst 1, 1) := by decide +kernel
theorem dL_law_1303 : decode cL_law 1303 = .ok (.iadd, 1) := by decide +kernel
theorem dL_law_1304 : decode cL_law 1304 = .ok (.iaload, 1) := by decide +kernel
theorem dL_law_1305 : decode cL_law 1305 = .ok (.invokevirtual 181, 3) := by decide +kernel
theorem dL_law_1308 : decode cL_law 1308 = .ok (.if_icmp .eq 166, 3) := by decide +kernel
set_option maxHeartbeats 4000000 in
set_option maxRecDepth 100000 in
theorem lc_40 {p : Program} {l : Launch} {e : Env} {s : State} {m : MethodId} {below : List Frame} {meth : Method} {c : Code} {b : Nat} {zs : Nat → Int32} {g : zL} {A : Nat → Prop} (C0 : zLw p s m meth c b zs g A) {h0 xt xr xp xs xm xh xe xf pa dr p_toolWidth p_told p_name p_parent p_side p_from p_width p_height p_radius p_toolSet n0 m_told m_read m_now m_readNow m_kept m_tape m_refused m_ownLetters m_flats m_corner m_wayX m_wayY m_normal m_low m_high m_clear m_ways m_canBe m_lain m_fewestBy m_sortOf m_seenFlange m_seenLength : Nat} {H : Heap} {locs : List Loc} {ls : Array Slot} (hP : va_P g.1 vwCl [(h0, .inr (8, [.ref xt, .ref xr, .ref xp, .ref xs, .ref xm, .ref xh, .ref xe, .ref xf, .ref pa, .ref dr, .int 0, .int 1, .int 0, .int 0])), (xf, .inl (g.2.1.1, 6, .inl (fun _ => 0))), (pa, .inr (4, [.int 0, .int 0, .int 0, .int 0, .int 0, .int 0, .ref p_toolWidth, .ref p_told, .ref p_name, .ref p_parent, .ref p_side, .ref p_from, .ref p_width, .ref p_height, .ref p_radius, .ref p_toolSet])), (n0, .inr (9, [.ref m_told, .ref m_read, .ref m_now, .ref m_readNow, .ref m_kept, .int 0, .int 1, .int 0, .ref m_tape, .int 0, .ref m_refused, .int 0, .int (-1), .int 0, .int 0, .int 0, .int 0, .int (-1), .ref m_ownLetters, .ref m_flats, .int 0, .ref m_corner, .ref m_wayX, .ref m_wayY, .ref m_normal, .ref m_low, .ref m_high, .ref m_clear, .ref m_ways, .ref m_canBe, .ref m_lain, .int 0, .ref m_fewestBy, .ref m_sortOf, .int 0, .ref m_seenFlange, .ref m_seenLength])), (m_refused, .inl (g.2.1.1, 6, .inl (fun _ => 0)))] H) (hD : va_D A [(h0, .inr (8, [.ref xt, .ref xr, .ref xp, .ref xs, .ref xm, .ref xh, .ref xe, .ref xf, .ref pa, .ref dr, .int 0, .int 1, .int 0, .int 0])), (xf, .inl (g.2.1.1, 6, .inl (fun _ => 0))), (pa, .inr (4, [.int 0, .int 0, .int 0, .int 0, .int 0, .int 0, .ref p_toolWidth, .ref p_told, .ref p_name, .ref p_parent, .ref p_side, .ref p_from, .ref p_width, .ref p_height, .ref p_radius, .ref p_toolSet])), (n0, .inr (9, [.ref m_told, .ref m_read, .ref m_now, .ref m_readNow, .ref m_kept, .int 0, .int 1, .int 0, .ref m_tape, .int 0, .ref m_refused, .int 0, .int (-1), .int 0, .int 0, .int 0, .int 0, .int (-1), .ref m_ownLetters, .ref m_flats, .int 0, .ref m_corner, .ref m_wayX, .ref m_wayY, .ref m_normal, .ref m_low, .ref m_high, .ref m_clear, .ref m_ways, .ref m_canBe, .ref m_lain, .int 0, .ref m_fewestBy, .ref m_sortOf, .int 0, .ref m_seenFlange, .ref m_seenLength])), (m_refused, .inl (g.2.1.1, 6, .inl (fun _ => 0)))]) (hS : va_S A s.heap H locs) (hl : lv_has ls 4 [(0, .ref b), (1, .ref h0), (2, .ref n0), (3, .int 0)]) : W p l e room_1 s m #[Value.ref b] below meth c H locs 75 18897 (lw_Z below #[Value.ref b] s) (F0 m 1290 ls []) := by
  obtain ⟨hx, hb, hr, hml, hown, hG, hlocks, hX, hA, hA2, hZ, hbl, hbA⟩ := id C0
  refine lv_aload_n hx hb dL_law_1290 rfl (lv_at hl 1 rfl) ?_
  refine lv_aload_n hx hb dL_law_1291 rfl (lv_at hl 0 rfl) ?_
  refine lv_iload_n hx hb dL_law_1292 rfl (lv_at hl 3 rfl) ?_
  refine lv_iconst (v := 1) hx hb dL_law_1293 (by decide) ?_
  refine lv_iadd hx hb dL_law_1294 ?_
  refine zt (z := 1) (by decide) ?_
  refine va_sld hx hb hZ hbl hbA hS (vp_in_iff.mpr (by decide)) dL_law_1295 ?_
  refine zfi (wr := [(n0, .inr (9, [.ref m_told, .ref m_read, .ref m_now, .ref m_readNow, .ref m_kept, .int 0, .int 1, .int 0, .ref m_tape, .int 0, .ref m_refused, .int 0, .int (-1), .int 0, .int 0, .int 0, .int 0, .int (-1), .ref m_ownLetters, .ref m_flats, .int 0, .ref m_corner, .ref m_wayX, .ref m_wayY, .ref m_normal, .ref m_low, .ref m_high, .ref m_clear, .ref m_ways, .ref m_canBe, .ref m_lain, .int 0, .ref m_fewestBy, .ref m_sortOf, .int 0, .ref m_seenFlange, .ref m_seenLength])), (m_refused, .inl (g.2.1.1, 6, .inl (fun _ => 0)))]) (va_runV (As := [.int (zs (1 : Int32).toNatClampNeg)]) (rest := []) ⟨hx, hb, hml, hown, hG⟩ (kX8_lay l g h0 (zs (1 : Int32).toNatClampNeg) xt xr xp xs xm xh xe xf pa dr p_toolWidth p_told p_name p_parent p_side p_from p_width p_height p_radius p_toolSet (fun _ => 0) _) ⟨callB_of 1 hG (zGood g1362) rfl rfl rfl (hG _ g202) (hG _ g1359) hX8_lay ⟨Nat.le_of_ble_eq_true rfl, Nat.le_of_ble_eq_true rfl⟩, hG _ g1360, hG _ g1361⟩ (zpreV (va_recv hX.1 hP (ci := 8) (q0 := 0) rfl rfl) hX hP hD hS hA [0, 2, 1] rfl (by decide)) rfl rfl hl.1 rfl (lv_room (Nat.le_of_ble_eq_true rfl)) dL_law_1296 ⟨Nat.le_of_ble_eq_true rfl, Nat.le_of_ble_eq_true rfl⟩) hP hD hS hA [0, 2, 1] [3, 4] rfl rfl (by decide) (by decide) (fun r1 _ H locs hp hP hD hS => ?_)
  refine W.cs (cells' := 75) (slots' := 18897) rfl rfl ?_
  have hq2 : r1 = 0 := hp
  subst hq2
  have hP : va_P g.1 vwCl [(n0, .inr (9, [.ref m_told, .ref m_read, .ref m_now, .ref m_readNow, .ref m_kept, .int 0, .int 1, .int 0, .ref m_tape, .int 0, .ref m_refused, .int 0, .int (-1), .int 0, .int 0, .int 0, .int 0, .int (-1), .ref m_ownLetters, .ref m_flats, .int 0, .ref m_corner, .ref m_wayX, .ref m_wayY, .ref m_normal, .ref m_low, .ref m_high, .ref m_clear, .ref m_ways, .ref m_canBe, .ref m_lain, .int 0, .ref m_fewestBy, .ref m_sortOf, .int 0, .ref m_seenFlange, .ref m_seenLength])), (m_refused, .inl (g.2.1.1, 6, .inl (fun _ => 0)))] H := hP
  have hD : va_D A [(n0, .inr (9, [.ref m_told, .ref m_read, .ref m_now, .ref m_readNow, .ref m_kept, .int 0, .int 1, .int 0, .ref m_tape, .int 0, .ref m_refused, .int 0, .int (-1), .int 0, .int 0, .int 0, .int 0, .int (-1), .ref m_ownLetters, .ref m_flats, .int 0, .ref m_corner, .ref m_wayX, .ref m_wayY, .ref m_normal, .ref m_low, .ref m_high, .ref m_clear, .ref m_ways, .ref m_canBe, .ref m_lain, .int 0, .ref m_fewestBy, .ref m_sortOf, .int 0, .ref m_seenFlange, .ref m_seenLength])), (m_refused, .inl (g.2.1.1, 6, .inl (fun _ => 0)))] := hD
  refine lv_aload_n hx hb dL_law_1299 rfl (lv_at hl 2 rfl) ?_
  refine lv_aload_n hx hb dL_law_1300 rfl (lv_at hl 0 rfl) ?_
  refine lv_iload_n hx hb dL_law_1301 rfl (lv_at hl 3 rfl) ?_
  refine lv_iconst (v := 1) hx hb dL_law_1302 (by decide) ?_
  refine lv_iadd hx hb dL_law_1303 ?_
  refine zt (z := 1) (by decide) ?_
  refine va_sld hx hb hZ hbl hbA hS (vp_in_iff.mpr (by decide)) dL_law_1304 ?_
  refine zfi (wr := []) (va_runV (As := [.int (zs (1 : Int32).toNatClampNeg)]) (rest := [.int 0]) ⟨hx, hb, hml, hown, hG⟩ (kX9_lay l g n0 (zs (1 : Int32).toNatClampNeg) m_told m_read m_now m_readNow m_kept m_tape m_refused m_ownLetters m_flats m_corner m_wayX m_wayY m_normal m_low m_high m_clear m_ways m_canBe m_lain m_fewestBy m_sortOf m_seenFlange m_seenLength (fun _ => 0) _) ⟨callB_of 1 hG (zGood g2021) rfl rfl rfl (hG _ g211) (hG _ g2018) hX9_lay ⟨Nat.le_of_ble_eq_true rfl, Nat.le_of_ble_eq_true rfl⟩, hG _ g2019, hG _ g2020⟩ (zpreV (va_recv hX.1 hP (ci := 9) (q0 := 0) rfl rfl) hX hP hD hS hA [0, 1] rfl (by decide)) rfl rfl hl.1 rfl (lv_room (Nat.le_of_ble_eq_true rfl)) dL_law_1305 ⟨Nat.le_of_ble_eq_true rfl, Nat.le_of_ble_eq_true rfl⟩) hP hD hS hA [0, 1] [] rfl rfl (by decide) (by decide) (fun r3 _ H locs hp hP hD hS => ?_)
  refine W.cs (cells' := 75) (slots' := 18897) rfl rfl ?_
  have hq4 : r3 = 0 := hp
  subst hq4
  have hP : va_P g.1 vwCl [] H := hP
  have hD : va_D A [] := hD
  refine lv_icmp_eq (tgt := 1474) hx hb dL_law_1308 (by decide) (fun c9 => ?_) (fun c9 => (c9 rfl).elim)
  exact lc_end C0 (Nat.le_of_ble_eq_true rfl) (Nat.le_of_ble_eq_true rfl) hS (lv_sub hl [0, 3] rfl)
theorem dL_law_1313 : decode cL_law 1313 = .ok (.aload_n 1, 1) := by decide +kernel
theorem dL_law_1314 : decode cL_law 1314 = .ok (.aload_n 0, 1) := by decide +kernel
theorem dL_law_1315 : decode cL_law 1315 = .ok (.iload_n 3, 1) := by decide +kernel
theorem dL_law_1316 : decode cL_law 1316 = .ok (.iconst 1, 1) := by decide +kernel
theorem dL_law_1317 : decode cL_law 1317 = .ok (.iadd, 1) := by decide +kernel
theorem dL_law_1318 : decode cL_law 1318 = .ok (.iaload, 1) := by decide +kernel
theorem dL_law_1319 : decode cL_law 1319 = .ok (.invokevirtual 182, 3) := by decide +kernel
theorem dL_law_1322 : decode cL_law 1322 = .ok (.aload_n 2, 1) := by decide +kernel
theorem dL_law_1323 : decode cL_law 1323 = .ok (.aload_n 0, 1) := by decide +kernel
theorem dL_law_1324 : decode cL_law 1324 = .ok (.iload_n 3, 1) := by decide +kernel
theorem dL_law_1325 : decode cL_law 1325 = .ok (.iconst 1, 1) := by decide +kernel
theorem dL_law_1326 : decode cL_law 1326 = .ok (.iadd, 1) := by decide +kernel
theorem dL_law_1327 : decode cL_law 1327 = .ok (.iaload, 1) := by decide +kernel
theorem dL_law_1328 : decode cL_law 1328 = .ok (.invokevirtual 185, 3) := by decide +kernel
theorem dL_law_1331 : decode cL_law 1331 = .ok (.if_icmp .eq 143, 3) := by decide +kernel
set_option maxHeartbeats 4000000 in
set_option maxRecDepth 100000 in
theorem lc_41 {p : Program} {l : Launch} {e : Env} {s : State} {m : MethodId} {below : List Frame} {meth : Method} {c : Code} {b : Nat} {zs : Nat → Int32} {g : zL} {A : Nat → Prop} (C0 : zLw p s m meth c b zs g A) {h0 xt xr xp xs xm xh xe xf pa dr p_toolWidth p_told p_name p_parent p_side p_from p_width p_height p_radius p_toolSet n0 m_told m_read m_now m_readNow m_kept m_tape m_refused m_ownLetters m_flats m_corner m_wayX m_wayY m_normal m_low m_high m_clear m_ways m_canBe m_lain m_fewestBy m_sortOf m_seenFlange m_seenLength : Nat} {H : Heap} {locs : List Loc} {ls : Array Slot} (hP : va_P g.1 vwCl [(h0, .inr (8, [.ref xt, .ref xr, .ref xp, .ref xs, .ref xm, .ref xh, .ref xe, .ref xf, .ref pa, .ref dr, .int 0, .int 1, .int 0, .int 0])), (xf, .inl (g.2.1.1, 6, .inl (fun _ => 0))), (pa, .inr (4, [.int 0, .int 0, .int 0, .int 0, .int 0, .int 0, .ref p_toolWidth, .ref p_told, .ref p_name, .ref p_parent, .ref p_side, .ref p_from, .ref p_width, .ref p_height, .ref p_radius, .ref p_toolSet])), (n0, .inr (9, [.ref m_told, .ref m_read, .ref m_now, .ref m_readNow, .ref m_kept, .int 0, .int 1, .int 0, .ref m_tape, .int 0, .ref m_refused, .int 0, .int (-1), .int 0, .int 0, .int 0, .int 0, .int (-1), .ref m_ownLetters, .ref m_flats, .int 0, .ref m_corner, .ref m_wayX, .ref m_wayY, .ref m_normal, .ref m_low, .ref m_high, .ref m_clear, .ref m_ways, .ref m_canBe, .ref m_lain, .int 0, .ref m_fewestBy, .ref m_sortOf, .int 0, .ref m_seenFlange, .ref m_seenLength])), (m_refused, .inl (g.2.1.1, 6, .inl (fun _ => 0)))] H) (hD : va_D A [(h0, .inr (8, [.ref xt, .ref xr, .ref xp, .ref xs, .ref xm, .ref xh, .ref xe, .ref xf, .ref pa, .ref dr, .int 0, .int 1, .int 0, .int 0])), (xf, .inl (g.2.1.1, 6, .inl (fun _ => 0))), (pa, .inr (4, [.int 0, .int 0, .int 0, .int 0, .int 0, .int 0, .ref p_toolWidth, .ref p_told, .ref p_name, .ref p_parent, .ref p_side, .ref p_from, .ref p_width, .ref p_height, .ref p_radius, .ref p_toolSet])), (n0, .inr (9, [.ref m_told, .ref m_read, .ref m_now, .ref m_readNow, .ref m_kept, .int 0, .int 1, .int 0, .ref m_tape, .int 0, .ref m_refused, .int 0, .int (-1), .int 0, .int 0, .int 0, .int 0, .int (-1), .ref m_ownLetters, .ref m_flats, .int 0, .ref m_corner, .ref m_wayX, .ref m_wayY, .ref m_normal, .ref m_low, .ref m_high, .ref m_clear, .ref m_ways, .ref m_canBe, .ref m_lain, .int 0, .ref m_fewestBy, .ref m_sortOf, .int 0, .ref m_seenFlange, .ref m_seenLength])), (m_refused, .inl (g.2.1.1, 6, .inl (fun _ => 0)))]) (hS : va_S A s.heap H locs) (hl : lv_has ls 4 [(0, .ref b), (1, .ref h0), (2, .ref n0), (3, .int 0)]) : W p l e room_1 s m #[Value.ref b] below meth c H locs 75 18897 (lw_Z below #[Value.ref b] s) (F0 m 1313 ls []) := by
  obtain ⟨hx, hb, hr, hml, hown, hG, hlocks, hX, hA, hA2, hZ, hbl, hbA⟩ := id C0
  refine lv_aload_n hx hb dL_law_1313 rfl (lv_at hl 1 rfl) ?_
  refine lv_aload_n hx hb dL_law_1314 rfl (lv_at hl 0 rfl) ?_
  refine lv_iload_n hx hb dL_law_1315 rfl (lv_at hl 3 rfl) ?_
  refine lv_iconst (v := 1) hx hb dL_law_1316 (by decide) ?_
  refine lv_iadd hx hb dL_law_1317 ?_
  refine zt (z := 1) (by decide) ?_
  refine va_sld hx hb hZ hbl hbA hS (vp_in_iff.mpr (by decide)) dL_law_1318 ?_
  refine zfi (wr := [(n0, .inr (9, [.ref m_told, .ref m_read, .ref m_now, .ref m_readNow, .ref m_kept, .int 0, .int 1, .int 0, .ref m_tape, .int 0, .ref m_refused, .int 0, .int (-1), .int 0, .int 0, .int 0, .int 0, .int (-1), .ref m_ownLetters, .ref m_flats, .int 0, .ref m_corner, .ref m_wayX, .ref m_wayY, .ref m_normal, .ref m_low, .ref m_high, .ref m_clear, .ref m_ways, .ref m_canBe, .ref m_lain, .int 0, .ref m_fewestBy, .ref m_sortOf, .int 0, .ref m_seenFlange, .ref m_seenLength])), (m_refused, .inl (g.2.1.1, 6, .inl (fun _ => 0)))]) (va_runV (As := [.int (zs (1 : Int32).toNatClampNeg)]) (rest := []) ⟨hx, hb, hml, hown, hG⟩ (kX8_follow l g h0 (zs (1 : Int32).toNatClampNeg) xt xr xp xs xm xh xe xf pa dr p_toolWidth p_told p_name p_parent p_side p_from p_width p_height p_radius p_toolSet (fun _ => 0) _) ⟨callB_of 1 hG (zGood g1366) rfl rfl rfl (hG _ g202) (hG _ g1363) hX8_follow ⟨Nat.le_of_ble_eq_true rfl, Nat.le_of_ble_eq_true rfl⟩, hG _ g1364, hG _ g1365⟩ (zpreV (va_recv hX.1 hP (ci := 8) (q0 := 0) rfl rfl) hX hP hD hS hA [0, 2, 1] rfl (by decide)) rfl rfl hl.1 rfl (lv_room (Nat.le_of_ble_eq_true rfl)) dL_law_1319 ⟨Nat.le_of_ble_eq_true rfl, Nat.le_of_ble_eq_true rfl⟩) hP hD hS hA [0, 2, 1] [3, 4] rfl rfl (by decide) (by decide) (fun r1 _ H locs hp hP hD hS => ?_)
  refine W.cs (cells' := 75) (slots' := 18897) rfl rfl ?_
  have hq2 : r1 = (-1) := hp
  subst hq2
  have hP : va_P g.1 vwCl [(n0, .inr (9, [.ref m_told, .ref m_read, .ref m_now, .ref m_readNow, .ref m_kept, .int 0, .int 1, .int 0, .ref m_tape, .int 0, .ref m_refused, .int 0, .int (-1), .int 0, .int 0, .int 0, .int 0, .int (-1), .ref m_ownLetters, .ref m_flats, .int 0, .ref m_corner, .ref m_wayX, .ref m_wayY, .ref m_normal, .ref m_low, .ref m_high, .ref m_clear, .ref m_ways, .ref m_canBe, .ref m_lain, .int 0, .ref m_fewestBy, .ref m_sortOf, .int 0, .ref m_seenFlange, .ref m_seenLength])), (m_refused, .inl (g.2.1.1, 6, .inl (fun _ => 0)))] H := hP
  have hD : va_D A [(n0, .inr (9, [.ref m_told, .ref m_read, .ref m_now, .ref m_readNow, .ref m_kept, .int 0, .int 1, .int 0, .ref m_tape, .int 0, .ref m_refused, .int 0, .int (-1), .int 0, .int 0, .int 0, .int 0, .int (-1), .ref m_ownLetters, .ref m_flats, .int 0, .ref m_corner, .ref m_wayX, .ref m_wayY, .ref m_normal, .ref m_low, .ref m_high, .ref m_clear, .ref m_ways, .ref m_canBe, .ref m_lain, .int 0, .ref m_fewestBy, .ref m_sortOf, .int 0, .ref m_seenFlange, .ref m_seenLength])), (m_refused, .inl (g.2.1.1, 6, .inl (fun _ => 0)))] := hD
  refine lv_aload_n hx hb dL_law_1322 rfl (lv_at hl 2 rfl) ?_
  refine lv_aload_n hx hb dL_law_1323 rfl (lv_at hl 0 rfl) ?_
  refine lv_iload_n hx hb dL_law_1324 rfl (lv_at hl 3 rfl) ?_
  refine lv_iconst (v := 1) hx hb dL_law_1325 (by decide) ?_
  refine lv_iadd hx hb dL_law_1326 ?_
  refine zt (z := 1) (by decide) ?_
  refine va_sld hx hb hZ hbl hbA hS (vp_in_iff.mpr (by decide)) dL_law_1327 ?_
  refine zfi (wr := []) (va_runV (As := [.int (zs (1 : Int32).toNatClampNeg)]) (rest := [.int (-1)]) ⟨hx, hb, hml, hown, hG⟩ (kX9_follow l g n0 (zs (1 : Int32).toNatClampNeg) m_told m_read m_now m_readNow m_kept m_tape m_refused m_ownLetters m_flats m_corner m_wayX m_wayY m_normal m_low m_high m_clear m_ways m_canBe m_lain m_fewestBy m_sortOf m_seenFlange m_seenLength (fun _ => 0) _) ⟨callB_of 1 hG (zGood g2025) rfl rfl rfl (hG _ g211) (hG _ g2022) hX9_follow ⟨Nat.le_of_ble_eq_true rfl, Nat.le_of_ble_eq_true rfl⟩, hG _ g2023, hG _ g2024⟩ (zpreV (va_recv hX.1 hP (ci := 9) (q0 := 0) rfl rfl) hX hP hD hS hA [0, 1] rfl (by decide)) rfl rfl hl.1 rfl (lv_room (Nat.le_of_ble_eq_true rfl)) dL_law_1328 ⟨Nat.le_of_ble_eq_true rfl, Nat.le_of_ble_eq_true rfl⟩) hP hD hS hA [0, 1] [] rfl rfl (by decide) (by decide) (fun r3 _ H locs hp hP hD hS => ?_)
  refine W.cs (cells' := 75) (slots' := 18897) rfl rfl ?_
  have hq4 : r3 = (-1) := hp
  subst hq4
  have hP : va_P g.1 vwCl [] H := hP
  have hD : va_D A [] := hD
  refine lv_icmp_eq (tgt := 1474) hx hb dL_law_1331 (by decide) (fun c9 => ?_) (fun c9 => (c9 rfl).elim)
  exact lc_end C0 (Nat.le_of_ble_eq_true rfl) (Nat.le_of_ble_eq_true rfl) hS (lv_sub hl [0, 3] rfl)
theorem dL_law_1336 : decode cL_law 1336 = .ok (.aload_n 1, 1) := by decide +kernel
theorem dL_law_1337 : decode cL_law 1337 = .ok (.aload_n 0, 1) := by decide +kernel
theorem dL_law_1338 : decode cL_law 1338 = .ok (.iload_n 3, 1) := by decide +kernel
theorem dL_law_1339 : decode cL_law 1339 = .ok (.iconst 1, 1) := by decide +kernel
theorem dL_law_1340 : decode cL_law 1340 = .ok (.iadd, 1) := by decide +kernel
theorem dL_law_1341 : decode cL_law 1341 = .ok (.iaload, 1) := by decide +kernel
theorem dL_law_1342 : decode cL_law 1342 = .ok (.aload_n 0, 1) := by decide +kernel
theorem dL_law_1343 : decode cL_law 1343 = .ok (.iload_n 3, 1) := by decide +kernel
theorem dL_law_1344 : decode cL_law 1344 = .ok (.iconst 2, 1) := by decide +kernel
theorem dL_law_1345 : decode cL_law 1345 = .ok (.iadd, 1) := by decide +kernel
theorem dL_law_1346 : decode cL_law 1346 = .ok (.iaload, 1) := by decide +kernel
theorem dL_law_1347 : decode cL_law 1347 = .ok (.invokevirtual 186, 3) := by decide +kernel
theorem dL_law_1350 : decode cL_law 1350 = .ok (.aload_n 2, 1) := by decide +kernel
theorem dL_law_1351 : decode cL_law 1351 = .ok (.aload_n 0, 1) := by decide +kernel
theorem dL_law_1352 : decode cL_law 1352 = .ok (.iload_n 3, 1) := by decide +kernel
theorem dL_law_1353 : decode cL_law 1353 = .ok (.iconst 1, 1) := by decide +kernel
theorem dL_law_1354 : decode cL_law 1354 = .ok (.iadd, 1) := by decide +kernel
theorem dL_law_1355 : decode cL_law 1355 = .ok (.iaload, 1) := by decide +kernel
theorem dL_law_1356 : decode cL_law 1356 = .ok (.aload_n 0, 1) := by decide +kernel
theorem dL_law_1357 : decode cL_law 1357 = .ok (.iload_n 3, 1) := by decide +kernel
theorem dL_law_1358 : decode cL_law 1358 = .ok (.iconst 2, 1) := by decide +kernel
theorem dL_law_1359 : decode cL_law 1359 = .ok (.iadd, 1) := by decide +kernel
theorem dL_law_1360 : decode cL_law 1360 = .ok (.iaload, 1) := by decide +kernel
theorem dL_law_1361 : decode cL_law 1361 = .ok (.invokevirtual 190, 3) := by decide +kernel
theorem dL_law_1364 : decode cL_law 1364 = .ok (.if_icmp .eq 110, 3) := by decide +kernel
set_option maxHeartbeats 4000000 in
set_option maxRecDepth 100000 in
theorem lc_42 {p : Program} {l : Launch} {e : Env} {s : State} {m : MethodId} {below : List Frame} {meth : Method} {c : Code} {b : Nat} {zs : Nat → Int32} {g : zL} {A : Nat → Prop} (C0 : zLw p s m meth c b zs g A) {h0 xt xr xp xs xm xh xe xf pa dr p_toolWidth p_told p_name p_parent p_side p_from p_width p_height p_radius p_toolSet n0 m_told m_read m_now m_readNow m_kept m_tape m_refused m_ownLetters m_flats m_corner m_wayX m_wayY m_normal m_low m_high m_clear m_ways m_canBe m_lain m_fewestBy m_sortOf m_seenFlange m_seenLength : Nat} {H : Heap} {locs : List Loc} {ls : Array Slot} (hP : va_P g.1 vwCl [(h0, .inr (8, [.ref xt, .ref xr, .ref xp, .ref xs, .ref xm, .ref xh, .ref xe, .ref xf, .ref pa, .ref dr, .int 0, .int 1, .int 0, .int 0])), (xf, .inl (g.2.1.1, 6, .inl (fun _ => 0))), (pa, .inr (4, [.int 0, .int 0, .int 0, .int 0, .int 0, .int 0, .ref p_toolWidth, .ref p_told, .ref p_name, .ref p_parent, .ref p_side, .ref p_from, .ref p_width, .ref p_height, .ref p_radius, .ref p_toolSet])), (n0, .inr (9, [.ref m_told, .ref m_read, .ref m_now, .ref m_readNow, .ref m_kept, .int 0, .int 1, .int 0, .ref m_tape, .int 0, .ref m_refused, .int 0, .int (-1), .int 0, .int 0, .int 0, .int 0, .int (-1), .ref m_ownLetters, .ref m_flats, .int 0, .ref m_corner, .ref m_wayX, .ref m_wayY, .ref m_normal, .ref m_low, .ref m_high, .ref m_clear, .ref m_ways, .ref m_canBe, .ref m_lain, .int 0, .ref m_fewestBy, .ref m_sortOf, .int 0, .ref m_seenFlange, .ref m_seenLength])), (m_refused, .inl (g.2.1.1, 6, .inl (fun _ => 0)))] H) (hD : va_D A [(h0, .inr (8, [.ref xt, .ref xr, .ref xp, .ref xs, .ref xm, .ref xh, .ref xe, .ref xf, .ref pa, .ref dr, .int 0, .int 1, .int 0, .int 0])), (xf, .inl (g.2.1.1, 6, .inl (fun _ => 0))), (pa, .inr (4, [.int 0, .int 0, .int 0, .int 0, .int 0, .int 0, .ref p_toolWidth, .ref p_told, .ref p_name, .ref p_parent, .ref p_side, .ref p_from, .ref p_width, .ref p_height, .ref p_radius, .ref p_toolSet])), (n0, .inr (9, [.ref m_told, .ref m_read, .ref m_now, .ref m_readNow, .ref m_kept, .int 0, .int 1, .int 0, .ref m_tape, .int 0, .ref m_refused, .int 0, .int (-1), .int 0, .int 0, .int 0, .int 0, .int (-1), .ref m_ownLetters, .ref m_flats, .int 0, .ref m_corner, .ref m_wayX, .ref m_wayY, .ref m_normal, .ref m_low, .ref m_high, .ref m_clear, .ref m_ways, .ref m_canBe, .ref m_lain, .int 0, .ref m_fewestBy, .ref m_sortOf, .int 0, .ref m_seenFlange, .ref m_seenLength])), (m_refused, .inl (g.2.1.1, 6, .inl (fun _ => 0)))]) (hS : va_S A s.heap H locs) (hl : lv_has ls 4 [(0, .ref b), (1, .ref h0), (2, .ref n0), (3, .int 0)]) : W p l e room_1 s m #[Value.ref b] below meth c H locs 75 18897 (lw_Z below #[Value.ref b] s) (F0 m 1336 ls []) := by
  obtain ⟨hx, hb, hr, hml, hown, hG, hlocks, hX, hA, hA2, hZ, hbl, hbA⟩ := id C0
  refine lv_aload_n hx hb dL_law_1336 rfl (lv_at hl 1 rfl) ?_
  refine lv_aload_n hx hb dL_law_1337 rfl (lv_at hl 0 rfl) ?_
  refine lv_iload_n hx hb dL_law_1338 rfl (lv_at hl 3 rfl) ?_
  refine lv_iconst (v := 1) hx hb dL_law_1339 (by decide) ?_
  refine lv_iadd hx hb dL_law_1340 ?_
  refine zt (z := 1) (by decide) ?_
  refine va_sld hx hb hZ hbl hbA hS (vp_in_iff.mpr (by decide)) dL_law_1341 ?_
  refine lv_aload_n hx hb dL_law_1342 rfl (lv_at hl 0 rfl) ?_
  refine lv_iload_n hx hb dL_law_1343 rfl (lv_at hl 3 rfl) ?_
  refine lv_iconst (v := 2) hx hb dL_law_1344 (by decide) ?_
  refine lv_iadd hx hb dL_law_1345 ?_
  refine zt (z := 2) (by decide) ?_
  refine va_sld hx hb hZ hbl hbA hS (vp_in_iff.mpr (by decide)) dL_law_1346 ?_
  refine zfi (wr := [(n0, .inr (9, [.ref m_told, .ref m_read, .ref m_now, .ref m_readNow, .ref m_kept, .int 0, .int 1, .int 0, .ref m_tape, .int 0, .ref m_refused, .int 0, .int (-1), .int 0, .int 0, .int 0, .int 0, .int (-1), .ref m_ownLetters, .ref m_flats, .int 0, .ref m_corner, .ref m_wayX, .ref m_wayY, .ref m_normal, .ref m_low, .ref m_high, .ref m_clear, .ref m_ways, .ref m_canBe, .ref m_lain, .int 0, .ref m_fewestBy, .ref m_sortOf, .int 0, .ref m_seenFlange, .ref m_seenLength])), (m_refused, .inl (g.2.1.1, 6, .inl (fun _ => 0)))]) (va_runV (As := [.int (zs (1 : Int32).toNatClampNeg), .int (zs (2 : Int32).toNatClampNeg)]) (rest := []) ⟨hx, hb, hml, hown, hG⟩ (kX8_allow l g h0 (zs (1 : Int32).toNatClampNeg) (zs (2 : Int32).toNatClampNeg) xt xr xp xs xm xh xe xf pa dr p_toolWidth p_told p_name p_parent p_side p_from p_width p_height p_radius p_toolSet (fun _ => 0) _) ⟨callB_of 2 hG (zGood g1374) rfl rfl rfl (hG _ g202) (hG _ g1371) hX8_allow ⟨Nat.le_of_ble_eq_true rfl, Nat.le_of_ble_eq_true rfl⟩, hG _ g1372, hG _ g1373⟩ (zpreV (va_recv hX.1 hP (ci := 8) (q0 := 0) rfl rfl) hX hP hD hS hA [0, 2, 1] rfl (by decide)) rfl rfl hl.1 rfl (lv_room (Nat.le_of_ble_eq_true rfl)) dL_law_1347 ⟨Nat.le_of_ble_eq_true rfl, Nat.le_of_ble_eq_true rfl⟩) hP hD hS hA [0, 2, 1] [3, 4] rfl rfl (by decide) (by decide) (fun r1 _ H locs hp hP hD hS => ?_)
  refine W.cs (cells' := 75) (slots' := 18897) rfl rfl ?_
  have hq2 : r1 = 0 := hp
  subst hq2
  have hP : va_P g.1 vwCl [(n0, .inr (9, [.ref m_told, .ref m_read, .ref m_now, .ref m_readNow, .ref m_kept, .int 0, .int 1, .int 0, .ref m_tape, .int 0, .ref m_refused, .int 0, .int (-1), .int 0, .int 0, .int 0, .int 0, .int (-1), .ref m_ownLetters, .ref m_flats, .int 0, .ref m_corner, .ref m_wayX, .ref m_wayY, .ref m_normal, .ref m_low, .ref m_high, .ref m_clear, .ref m_ways, .ref m_canBe, .ref m_lain, .int 0, .ref m_fewestBy, .ref m_sortOf, .int 0, .ref m_seenFlange, .ref m_seenLength])), (m_refused, .inl (g.2.1.1, 6, .inl (fun _ => 0)))] H := hP
  have hD : va_D A [(n0, .inr (9, [.ref m_told, .ref m_read, .ref m_now, .ref m_readNow, .ref m_kept, .int 0, .int 1, .int 0, .ref m_tape, .int 0, .ref m_refused, .int 0, .int (-1), .int 0, .int 0, .int 0, .int 0, .int (-1), .ref m_ownLetters, .ref m_flats, .int 0, .ref m_corner, .ref m_wayX, .ref m_wayY, .ref m_normal, .ref m_low, .ref m_high, .ref m_clear, .ref m_ways, .ref m_canBe, .ref m_lain, .int 0, .ref m_fewestBy, .ref m_sortOf, .int 0, .ref m_seenFlange, .ref m_seenLength])), (m_refused, .inl (g.2.1.1, 6, .inl (fun _ => 0)))] := hD
  refine lv_aload_n hx hb dL_law_1350 rfl (lv_at hl 2 rfl) ?_
  refine lv_aload_n hx hb dL_law_1351 rfl (lv_at hl 0 rfl) ?_
  refine lv_iload_n hx hb dL_law_1352 rfl (lv_at hl 3 rfl) ?_
  refine lv_iconst (v := 1) hx hb dL_law_1353 (by decide) ?_
  refine lv_iadd hx hb dL_law_1354 ?_
  refine zt (z := 1) (by decide) ?_
  refine va_sld hx hb hZ hbl hbA hS (vp_in_iff.mpr (by decide)) dL_law_1355 ?_
  refine lv_aload_n hx hb dL_law_1356 rfl (lv_at hl 0 rfl) ?_
  refine lv_iload_n hx hb dL_law_1357 rfl (lv_at hl 3 rfl) ?_
  refine lv_iconst (v := 2) hx hb dL_law_1358 (by decide) ?_
  refine lv_iadd hx hb dL_law_1359 ?_
  refine zt (z := 2) (by decide) ?_
  refine va_sld hx hb hZ hbl hbA hS (vp_in_iff.mpr (by decide)) dL_law_1360 ?_
  refine zfi (wr := []) (va_runV (As := [.int (zs (1 : Int32).toNatClampNeg), .int (zs (2 : Int32).toNatClampNeg)]) (rest := [.int 0]) ⟨hx, hb, hml, hown, hG⟩ (kX9_allow l g n0 (zs (1 : Int32).toNatClampNeg) (zs (2 : Int32).toNatClampNeg) m_told m_read m_now m_readNow m_kept m_tape m_refused m_ownLetters m_flats m_corner m_wayX m_wayY m_normal m_low m_high m_clear m_ways m_canBe m_lain m_fewestBy m_sortOf m_seenFlange m_seenLength (fun _ => 0) _) ⟨callB_of 2 hG (zGood g2030) rfl rfl rfl (hG _ g211) (hG _ g2027) hX9_allow ⟨Nat.le_of_ble_eq_true rfl, Nat.le_of_ble_eq_true rfl⟩, hG _ g2028, hG _ g2029⟩ (zpreV (va_recv hX.1 hP (ci := 9) (q0 := 0) rfl rfl) hX hP hD hS hA [0, 1] rfl (by decide)) rfl rfl hl.1 rfl (lv_room (Nat.le_of_ble_eq_true rfl)) dL_law_1361 ⟨Nat.le_of_ble_eq_true rfl, Nat.le_of_ble_eq_true rfl⟩) hP hD hS hA [0, 1] [] rfl rfl (by decide) (by decide) (fun r3 _ H locs hp hP hD hS => ?_)
  refine W.cs (cells' := 75) (slots' := 18897) rfl rfl ?_
  have hq4 : r3 = 0 := hp
  subst hq4
  have hP : va_P g.1 vwCl [] H := hP
  have hD : va_D A [] := hD
  refine lv_icmp_eq (tgt := 1474) hx hb dL_law_1364 (by decide) (fun c9 => ?_) (fun c9 => (c9 rfl).elim)
  exact lc_end C0 (Nat.le_of_ble_eq_true rfl) (Nat.le_of_ble_eq_true rfl) hS (lv_sub hl [0, 3] rfl)
theorem dL_law_1369 : decode cL_law 1369 = .ok (.aload_n 1, 1) := by decide +kernel
theorem dL_law_1370 : decode cL_law 1370 = .ok (.aload_n 0, 1) := by decide +kernel
theorem dL_law_1371 : decode cL_law 1371 = .ok (.iload_n 3, 1) := by decide +kernel
theorem dL_law_1372 : decode cL_law 1372 = .ok (.iconst 1, 1) := by decide +kernel
theorem dL_law_1373 : decode cL_law 1373 = .ok (.iadd, 1) := by decide +kernel
theorem dL_law_1374 : decode cL_law 1374 = .ok (.iaload, 1) := by decide +kernel
theorem dL_law_1375 : decode cL_law 1375 = .ok (.invokevirtual 191, 3) := by decide +kernel
theorem dL_law_1378 : decode cL_law 1378 = .ok (.aload_n 2, 1) := by decide +kernel
theorem dL_law_1379 : decode cL_law 1379 = .ok (.aload_n 0, 1) := by decide +kernel
theorem dL_law_1380 : decode cL_law 1380 = .ok (.iload_n 3, 1) := by decide +kernel
theorem dL_law_1381 : decode cL_law 1381 = .ok (.iconst 1, 1) := by decide +kernel
theorem dL_law_1382 : decode cL_law 1382 = .ok (.iadd, 1) := by decide +kernel
theorem dL_law_1383 : decode cL_law 1383 = .ok (.iaload, 1) := by decide +kernel
theorem dL_law_1384 : decode cL_law 1384 = .ok (.invokevirtual 194, 3) := by decide +kernel
theorem dL_law_1387 : decode cL_law 1387 = .ok (.if_icmp .eq 87, 3) := by decide +kernel
set_option maxHeartbeats 4000000 in
set_option maxRecDepth 100000 in
theorem lc_43 {p : Program} {l : Launch} {e : Env} {s : State} {m : MethodId} {below : List Frame} {meth : Method} {c : Code} {b : Nat} {zs : Nat → Int32} {g : zL} {A : Nat → Prop} (C0 : zLw p s m meth c b zs g A) {h0 xt xr xp xs xm xh xe xf pa dr p_toolWidth p_told p_name p_parent p_side p_from p_width p_height p_radius p_toolSet n0 m_told m_read m_now m_readNow m_kept m_tape m_refused m_ownLetters m_flats m_corner m_wayX m_wayY m_normal m_low m_high m_clear m_ways m_canBe m_lain m_fewestBy m_sortOf m_seenFlange m_seenLength : Nat} {H : Heap} {locs : List Loc} {ls : Array Slot} (hP : va_P g.1 vwCl [(h0, .inr (8, [.ref xt, .ref xr, .ref xp, .ref xs, .ref xm, .ref xh, .ref xe, .ref xf, .ref pa, .ref dr, .int 0, .int 1, .int 0, .int 0])), (xf, .inl (g.2.1.1, 6, .inl (fun _ => 0))), (pa, .inr (4, [.int 0, .int 0, .int 0, .int 0, .int 0, .int 0, .ref p_toolWidth, .ref p_told, .ref p_name, .ref p_parent, .ref p_side, .ref p_from, .ref p_width, .ref p_height, .ref p_radius, .ref p_toolSet])), (n0, .inr (9, [.ref m_told, .ref m_read, .ref m_now, .ref m_readNow, .ref m_kept, .int 0, .int 1, .int 0, .ref m_tape, .int 0, .ref m_refused, .int 0, .int (-1), .int 0, .int 0, .int 0, .int 0, .int (-1), .ref m_ownLetters, .ref m_flats, .int 0, .ref m_corner, .ref m_wayX, .ref m_wayY, .ref m_normal, .ref m_low, .ref m_high, .ref m_clear, .ref m_ways, .ref m_canBe, .ref m_lain, .int 0, .ref m_fewestBy, .ref m_sortOf, .int 0, .ref m_seenFlange, .ref m_seenLength])), (m_refused, .inl (g.2.1.1, 6, .inl (fun _ => 0)))] H) (hD : va_D A [(h0, .inr (8, [.ref xt, .ref xr, .ref xp, .ref xs, .ref xm, .ref xh, .ref xe, .ref xf, .ref pa, .ref dr, .int 0, .int 1, .int 0, .int 0])), (xf, .inl (g.2.1.1, 6, .inl (fun _ => 0))), (pa, .inr (4, [.int 0, .int 0, .int 0, .int 0, .int 0, .int 0, .ref p_toolWidth, .ref p_told, .ref p_name, .ref p_parent, .ref p_side, .ref p_from, .ref p_width, .ref p_height, .ref p_radius, .ref p_toolSet])), (n0, .inr (9, [.ref m_told, .ref m_read, .ref m_now, .ref m_readNow, .ref m_kept, .int 0, .int 1, .int 0, .ref m_tape, .int 0, .ref m_refused, .int 0, .int (-1), .int 0, .int 0, .int 0, .int 0, .int (-1), .ref m_ownLetters, .ref m_flats, .int 0, .ref m_corner, .ref m_wayX, .ref m_wayY, .ref m_normal, .ref m_low, .ref m_high, .ref m_clear, .ref m_ways, .ref m_canBe, .ref m_lain, .int 0, .ref m_fewestBy, .ref m_sortOf, .int 0, .ref m_seenFlange, .ref m_seenLength])), (m_refused, .inl (g.2.1.1, 6, .inl (fun _ => 0)))]) (hS : va_S A s.heap H locs) (hl : lv_has ls 4 [(0, .ref b), (1, .ref h0), (2, .ref n0), (3, .int 0)]) : W p l e room_1 s m #[Value.ref b] below meth c H locs 75 18897 (lw_Z below #[Value.ref b] s) (F0 m 1369 ls []) := by
  obtain ⟨hx, hb, hr, hml, hown, hG, hlocks, hX, hA, hA2, hZ, hbl, hbA⟩ := id C0
  refine lv_aload_n hx hb dL_law_1369 rfl (lv_at hl 1 rfl) ?_
  refine lv_aload_n hx hb dL_law_1370 rfl (lv_at hl 0 rfl) ?_
  refine lv_iload_n hx hb dL_law_1371 rfl (lv_at hl 3 rfl) ?_
  refine lv_iconst (v := 1) hx hb dL_law_1372 (by decide) ?_
  refine lv_iadd hx hb dL_law_1373 ?_
  refine zt (z := 1) (by decide) ?_
  refine va_sld hx hb hZ hbl hbA hS (vp_in_iff.mpr (by decide)) dL_law_1374 ?_
  refine zfi (wr := [(n0, .inr (9, [.ref m_told, .ref m_read, .ref m_now, .ref m_readNow, .ref m_kept, .int 0, .int 1, .int 0, .ref m_tape, .int 0, .ref m_refused, .int 0, .int (-1), .int 0, .int 0, .int 0, .int 0, .int (-1), .ref m_ownLetters, .ref m_flats, .int 0, .ref m_corner, .ref m_wayX, .ref m_wayY, .ref m_normal, .ref m_low, .ref m_high, .ref m_clear, .ref m_ways, .ref m_canBe, .ref m_lain, .int 0, .ref m_fewestBy, .ref m_sortOf, .int 0, .ref m_seenFlange, .ref m_seenLength])), (m_refused, .inl (g.2.1.1, 6, .inl (fun _ => 0)))]) (va_runV (As := [.int (zs (1 : Int32).toNatClampNeg)]) (rest := []) ⟨hx, hb, hml, hown, hG⟩ (kX8_press l g h0 (zs (1 : Int32).toNatClampNeg) xt xr xp xs xm xh xe xf pa dr p_toolWidth p_told p_name p_parent p_side p_from p_width p_height p_radius p_toolSet (fun _ => 0) _) ⟨callB_of 1 hG (zGood g1378) rfl rfl rfl (hG _ g202) (hG _ g1375) hX8_press ⟨Nat.le_of_ble_eq_true rfl, Nat.le_of_ble_eq_true rfl⟩, hG _ g1376, hG _ g1377⟩ (zpreV (va_recv hX.1 hP (ci := 8) (q0 := 0) rfl rfl) hX hP hD hS hA [0, 2, 1] rfl (by decide)) rfl rfl hl.1 rfl (lv_room (Nat.le_of_ble_eq_true rfl)) dL_law_1375 ⟨Nat.le_of_ble_eq_true rfl, Nat.le_of_ble_eq_true rfl⟩) hP hD hS hA [0, 2, 1] [3, 4] rfl rfl (by decide) (by decide) (fun r1 _ H locs hp hP hD hS => ?_)
  refine W.cs (cells' := 75) (slots' := 18897) rfl rfl ?_
  have hq2 : r1 = 0 := hp
  subst hq2
  have hP : va_P g.1 vwCl [(n0, .inr (9, [.ref m_told, .ref m_read, .ref m_now, .ref m_readNow, .ref m_kept, .int 0, .int 1, .int 0, .ref m_tape, .int 0, .ref m_refused, .int 0, .int (-1), .int 0, .int 0, .int 0, .int 0, .int (-1), .ref m_ownLetters, .ref m_flats, .int 0, .ref m_corner, .ref m_wayX, .ref m_wayY, .ref m_normal, .ref m_low, .ref m_high, .ref m_clear, .ref m_ways, .ref m_canBe, .ref m_lain, .int 0, .ref m_fewestBy, .ref m_sortOf, .int 0, .ref m_seenFlange, .ref m_seenLength])), (m_refused, .inl (g.2.1.1, 6, .inl (fun _ => 0)))] H := hP
  have hD : va_D A [(n0, .inr (9, [.ref m_told, .ref m_read, .ref m_now, .ref m_readNow, .ref m_kept, .int 0, .int 1, .int 0, .ref m_tape, .int 0, .ref m_refused, .int 0, .int (-1), .int 0, .int 0, .int 0, .int 0, .int (-1), .ref m_ownLetters, .ref m_flats, .int 0, .ref m_corner, .ref m_wayX, .ref m_wayY, .ref m_normal, .ref m_low, .ref m_high, .ref m_clear, .ref m_ways, .ref m_canBe, .ref m_lain, .int 0, .ref m_fewestBy, .ref m_sortOf, .int 0, .ref m_seenFlange, .ref m_seenLength])), (m_refused, .inl (g.2.1.1, 6, .inl (fun _ => 0)))] := hD
  refine lv_aload_n hx hb dL_law_1378 rfl (lv_at hl 2 rfl) ?_
  refine lv_aload_n hx hb dL_law_1379 rfl (lv_at hl 0 rfl) ?_
  refine lv_iload_n hx hb dL_law_1380 rfl (lv_at hl 3 rfl) ?_
  refine lv_iconst (v := 1) hx hb dL_law_1381 (by decide) ?_
  refine lv_iadd hx hb dL_law_1382 ?_
  refine zt (z := 1) (by decide) ?_
  refine va_sld hx hb hZ hbl hbA hS (vp_in_iff.mpr (by decide)) dL_law_1383 ?_
  refine zfi (wr := []) (va_runV (As := [.int (zs (1 : Int32).toNatClampNeg)]) (rest := [.int 0]) ⟨hx, hb, hml, hown, hG⟩ (kX9_press l g n0 (zs (1 : Int32).toNatClampNeg) m_told m_read m_now m_readNow m_kept m_tape m_refused m_ownLetters m_flats m_corner m_wayX m_wayY m_normal m_low m_high m_clear m_ways m_canBe m_lain m_fewestBy m_sortOf m_seenFlange m_seenLength (fun _ => 0) _) ⟨callB_of 1 hG (zGood g2034) rfl rfl rfl (hG _ g211) (hG _ g2031) hX9_press ⟨Nat.le_of_ble_eq_true rfl, Nat.le_of_ble_eq_true rfl⟩, hG _ g2032, hG _ g2033⟩ (zpreV (va_recv hX.1 hP (ci := 9) (q0 := 0) rfl rfl) hX hP hD hS hA [0, 1] rfl (by decide)) rfl rfl hl.1 rfl (lv_room (Nat.le_of_ble_eq_true rfl)) dL_law_1384 ⟨Nat.le_of_ble_eq_true rfl, Nat.le_of_ble_eq_true rfl⟩) hP hD hS hA [0, 1] [] rfl rfl (by decide) (by decide) (fun r3 _ H locs hp hP hD hS => ?_)
  refine W.cs (cells' := 75) (slots' := 18897) rfl rfl ?_
  have hq4 : r3 = 0 := hp
  subst hq4
  have hP : va_P g.1 vwCl [] H := hP
  have hD : va_D A [] := hD
  refine lv_icmp_eq (tgt := 1474) hx hb dL_law_1387 (by decide) (fun c9 => ?_) (fun c9 => (c9 rfl).elim)
  exact lc_end C0 (Nat.le_of_ble_eq_true rfl) (Nat.le_of_ble_eq_true rfl) hS (lv_sub hl [0, 3] rfl)
theorem dL_law_1392 : decode cL_law 1392 = .ok (.aload_n 1, 1) := by decide +kernel
theorem dL_law_1393 : decode cL_law 1393 = .ok (.aload_n 0, 1) := by decide +kernel
theorem dL_law_1394 : decode cL_law 1394 = .ok (.iload_n 3, 1) := by decide +kernel
theorem dL_law_1395 : decode cL_law 1395 = .ok (.iconst 1, 1) := by decide +kernel
theorem dL_law_1396 : decode cL_law 1396 = .ok (.iadd, 1) := by decide +kernel
theorem dL_law_1397 : decode cL_law 1397 = .ok (.iaload, 1) := by decide +kernel
theorem dL_law_1398 : decode cL_law 1398 = .ok (.invokevirtual 195, 3) := by decide +kernel
theorem dL_law_1401 : decode cL_law 1401 = .ok (.aload_n 2, 1) := by decide +kernel
theorem dL_law_1402 : decode cL_law 1402 = .ok (.aload_n 0, 1) := by decide +kernel
theorem dL_law_1403 : decode cL_law 1403 = .ok (.iload_n 3, 1) := by decide +kernel
theorem dL_law_1404 : decode cL_law 1404 = .ok (.iconst 1, 1) := by decide +kernel
theorem dL_law_1405 : decode cL_law 1405 = .ok (.iadd, 1) := by decide +kernel
theorem dL_law_1406 : decode cL_law 1406 = .ok (.iaload, 1) := by decide +kernel
theorem dL_law_1407 : decode cL_law 1407 = .ok (.invokevirtual 198, 3) := by decide +kernel
theorem dL_law_1410 : decode cL_law 1410 = .ok (.if_icmp .eq 64, 3) := by decide +kernel
set_option maxHeartbeats 4000000 in
set_option maxRecDepth 100000 in
theorem lc_44 {p : Program} {l : Launch} {e : Env} {s : State} {m : MethodId} {below : List Frame} {meth : Method} {c : Code} {b : Nat} {zs : Nat → Int32} {g : zL} {A : Nat → Prop} (C0 : zLw p s m meth c b zs g A) {h0 xt xr xp xs xm xh xe xf pa dr p_toolWidth p_told p_name p_parent p_side p_from p_width p_height p_radius p_toolSet n0 m_told m_read m_now m_readNow m_kept m_tape m_refused m_ownLetters m_flats m_corner m_wayX m_wayY m_normal m_low m_high m_clear m_ways m_canBe m_lain m_fewestBy m_sortOf m_seenFlange m_seenLength : Nat} {H : Heap} {locs : List Loc} {ls : Array Slot} (hP : va_P g.1 vwCl [(h0, .inr (8, [.ref xt, .ref xr, .ref xp, .ref xs, .ref xm, .ref xh, .ref xe, .ref xf, .ref pa, .ref dr, .int 0, .int 1, .int 0, .int 0])), (xf, .inl (g.2.1.1, 6, .inl (fun _ => 0))), (pa, .inr (4, [.int 0, .int 0, .int 0, .int 0, .int 0, .int 0, .ref p_toolWidth, .ref p_told, .ref p_name, .ref p_parent, .ref p_side, .ref p_from, .ref p_width, .ref p_height, .ref p_radius, .ref p_toolSet])), (n0, .inr (9, [.ref m_told, .ref m_read, .ref m_now, .ref m_readNow, .ref m_kept, .int 0, .int 1, .int 0, .ref m_tape, .int 0, .ref m_refused, .int 0, .int (-1), .int 0, .int 0, .int 0, .int 0, .int (-1), .ref m_ownLetters, .ref m_flats, .int 0, .ref m_corner, .ref m_wayX, .ref m_wayY, .ref m_normal, .ref m_low, .ref m_high, .ref m_clear, .ref m_ways, .ref m_canBe, .ref m_lain, .int 0, .ref m_fewestBy, .ref m_sortOf, .int 0, .ref m_seenFlange, .ref m_seenLength])), (m_refused, .inl (g.2.1.1, 6, .inl (fun _ => 0)))] H) (hD : va_D A [(h0, .inr (8, [.ref xt, .ref xr, .ref xp, .ref xs, .ref xm, .ref xh, .ref xe, .ref xf, .ref pa, .ref dr, .int 0, .int 1, .int 0, .int 0])), (xf, .inl (g.2.1.1, 6, .inl (fun _ => 0))), (pa, .inr (4, [.int 0, .int 0, .int 0, .int 0, .int 0, .int 0, .ref p_toolWidth, .ref p_told, .ref p_name, .ref p_parent, .ref p_side, .ref p_from, .ref p_width, .ref p_height, .ref p_radius, .ref p_toolSet])), (n0, .inr (9, [.ref m_told, .ref m_read, .ref m_now, .ref m_readNow, .ref m_kept, .int 0, .int 1, .int 0, .ref m_tape, .int 0, .ref m_refused, .int 0, .int (-1), .int 0, .int 0, .int 0, .int 0, .int (-1), .ref m_ownLetters, .ref m_flats, .int 0, .ref m_corner, .ref m_wayX, .ref m_wayY, .ref m_normal, .ref m_low, .ref m_high, .ref m_clear, .ref m_ways, .ref m_canBe, .ref m_lain, .int 0, .ref m_fewestBy, .ref m_sortOf, .int 0, .ref m_seenFlange, .ref m_seenLength])), (m_refused, .inl (g.2.1.1, 6, .inl (fun _ => 0)))]) (hS : va_S A s.heap H locs) (hl : lv_has ls 4 [(0, .ref b), (1, .ref h0), (2, .ref n0), (3, .int 0)]) : W p l e room_1 s m #[Value.ref b] below meth c H locs 75 18897 (lw_Z below #[Value.ref b] s) (F0 m 1392 ls []) := by
  obtain ⟨hx, hb, hr, hml, hown, hG, hlocks, hX, hA, hA2, hZ, hbl, hbA⟩ := id C0
  refine lv_aload_n hx hb dL_law_1392 rfl (lv_at hl 1 rfl) ?_
  refine lv_aload_n hx hb dL_law_1393 rfl (lv_at hl 0 rfl) ?_
  refine lv_iload_n hx hb dL_law_1394 rfl (lv_at hl 3 rfl) ?_
  refine lv_iconst (v := 1) hx hb dL_law_1395 (by decide) ?_
  refine lv_iadd hx hb dL_law_1396 ?_
  refine zt (z := 1) (by decide) ?_
  refine va_sld hx hb hZ hbl hbA hS (vp_in_iff.mpr (by decide)) dL_law_1397 ?_
  refine zfi (wr := [(n0, .inr (9, [.ref m_told, .ref m_read, .ref m_now, .ref m_readNow, .ref m_kept, .int 0, .int 1, .int 0, .ref m_tape, .int 0, .ref m_refused, .int 0, .int (-1), .int 0, .int 0, .int 0, .int 0, .int (-1), .ref m_ownLetters, .ref m_flats, .int 0, .ref m_corner, .ref m_wayX, .ref m_wayY, .ref m_normal, .ref m_low, .ref m_high, .ref m_clear, .ref m_ways, .ref m_canBe, .ref m_lain, .int 0, .ref m_fewestBy, .ref m_sortOf, .int 0, .ref m_seenFlange, .ref m_seenLength])), (m_refused, .inl (g.2.1.1, 6, .inl (fun _ => 0)))]) (va_runV (As := [.int (zs (1 : Int32).toNatClampNeg)]) (rest := []) ⟨hx, hb, hml, hown, hG⟩ (kX8_chance l g h0 (zs (1 : Int32).toNatClampNeg) xt xr xp xs xm xh xe xf pa dr p_toolWidth p_told p_name p_parent p_side p_from p_width p_height p_radius p_toolSet (fun _ => 0) _) ⟨callB_of 1 hG (zGood g1382) rfl rfl rfl (hG _ g202) (hG _ g1379) hX8_chance ⟨Nat.le_of_ble_eq_true rfl, Nat.le_of_ble_eq_true rfl⟩, hG _ g1380, hG _ g1381⟩ (zpreV (va_recv hX.1 hP (ci := 8) (q0 := 0) rfl rfl) hX hP hD hS hA [0, 2, 1] rfl (by decide)) rfl rfl hl.1 rfl (lv_room (Nat.le_of_ble_eq_true rfl)) dL_law_1398 ⟨Nat.le_of_ble_eq_true rfl, Nat.le_of_ble_eq_true rfl⟩) hP hD hS hA [0, 2, 1] [3, 4] rfl rfl (by decide) (by decide) (fun r1 _ H locs hp hP hD hS => ?_)
  refine W.cs (cells' := 75) (slots' := 18897) rfl rfl ?_
  have hq2 : r1 = (-1) := hp
  subst hq2
  have hP : va_P g.1 vwCl [(n0, .inr (9, [.ref m_told, .ref m_read, .ref m_now, .ref m_readNow, .ref m_kept, .int 0, .int 1, .int 0, .ref m_tape, .int 0, .ref m_refused, .int 0, .int (-1), .int 0, .int 0, .int 0, .int 0, .int (-1), .ref m_ownLetters, .ref m_flats, .int 0, .ref m_corner, .ref m_wayX, .ref m_wayY, .ref m_normal, .ref m_low, .ref m_high, .ref m_clear, .ref m_ways, .ref m_canBe, .ref m_lain, .int 0, .ref m_fewestBy, .ref m_sortOf, .int 0, .ref m_seenFlange, .ref m_seenLength])), (m_refused, .inl (g.2.1.1, 6, .inl (fun _ => 0)))] H := hP
  have hD : va_D A [(n0, .inr (9, [.ref m_told, .ref m_read, .ref m_now, .ref m_readNow, .ref m_kept, .int 0, .int 1, .int 0, .ref m_tape, .int 0, .ref m_refused, .int 0, .int (-1), .int 0, .int 0, .int 0, .int 0, .int (-1), .ref m_ownLetters, .ref m_flats, .int 0, .ref m_corner, .ref m_wayX, .ref m_wayY, .ref m_normal, .ref m_low, .ref m_high, .ref m_clear, .ref m_ways, .ref m_canBe, .ref m_lain, .int 0, .ref m_fewestBy, .ref m_sortOf, .int 0, .ref m_seenFlange, .ref m_seenLength])), (m_refused, .inl (g.2.1.1, 6, .inl (fun _ => 0)))] := hD
  refine lv_aload_n hx hb dL_law_1401 rfl (lv_at hl 2 rfl) ?_
  refine lv_aload_n hx hb dL_law_1402 rfl (lv_at hl 0 rfl) ?_
  refine lv_iload_n hx hb dL_law_1403 rfl (lv_at hl 3 rfl) ?_
  refine lv_iconst (v := 1) hx hb dL_law_1404 (by decide) ?_
  refine lv_iadd hx hb dL_law_1405 ?_
  refine zt (z := 1) (by decide) ?_
  refine va_sld hx hb hZ hbl hbA hS (vp_in_iff.mpr (by decide)) dL_law_1406 ?_
  refine zfi (wr := []) (va_runV (As := [.int (zs (1 : Int32).toNatClampNeg)]) (rest := [.int (-1)]) ⟨hx, hb, hml, hown, hG⟩ (kX9_chance l g n0 (zs (1 : Int32).toNatClampNeg) m_told m_read m_now m_readNow m_kept m_tape m_refused m_ownLetters m_flats m_corner m_wayX m_wayY m_normal m_low m_high m_clear m_ways m_canBe m_lain m_fewestBy m_sortOf m_seenFlange m_seenLength (fun _ => 0) _) ⟨callB_of 1 hG (zGood g2038) rfl rfl rfl (hG _ g211) (hG _ g2035) hX9_chance ⟨Nat.le_of_ble_eq_true rfl, Nat.le_of_ble_eq_true rfl⟩, hG _ g2036, hG _ g2037⟩ (zpreV (va_recv hX.1 hP (ci := 9) (q0 := 0) rfl rfl) hX hP hD hS hA [0, 1] rfl (by decide)) rfl rfl hl.1 rfl (lv_room (Nat.le_of_ble_eq_true rfl)) dL_law_1407 ⟨Nat.le_of_ble_eq_true rfl, Nat.le_of_ble_eq_true rfl⟩) hP hD hS hA [0, 1] [] rfl rfl (by decide) (by decide) (fun r3 _ H locs hp hP hD hS => ?_)
  refine W.cs (cells' := 75) (slots' := 18897) rfl rfl ?_
  have hq4 : r3 = (-1) := hp
  subst hq4
  have hP : va_P g.1 vwCl [] H := hP
  have hD : va_D A [] := hD
  refine lv_icmp_eq (tgt := 1474) hx hb dL_law_1410 (by decide) (fun c9 => ?_) (fun c9 => (c9 rfl).elim)
  exact lc_end C0 (Nat.le_of_ble_eq_true rfl) (Nat.le_of_ble_eq_true rfl) hS (lv_sub hl [0, 3] rfl)
theorem dL_law_1415 : decode cL_law 1415 = .ok (.aload_n 1, 1) := by decide +kernel
theorem dL_law_1416 : decode cL_law 1416 = .ok (.invokevirtual 199, 3) := by decide +kernel
theorem dL_law_1419 : decode cL_law 1419 = .ok (.aload_n 2, 1) := by decide +kernel
theorem dL_law_1420 : decode cL_law 1420 = .ok (.invokevirtual 203, 3) := by decide +kernel
theorem dL_law_1423 : decode cL_law 1423 = .ok (.if_icmp .eq 51, 3) := by decide +kernel
set_option maxHeartbeats 4000000 in
set_option maxRecDepth 100000 in
theorem lc_45 {p : Program} {l : Launch} {e : Env} {s : State} {m : MethodId} {below : List Frame} {meth : Method} {c : Code} {b : Nat} {zs : Nat → Int32} {g : zL} {A : Nat → Prop} (C0 : zLw p s m meth c b zs g A) {h0 xt xr xp xs xm xh xe xf pa dr hr1 n0 m_told m_read m_now m_readNow m_kept m_tape m_refused m_ownLetters m_flats m_corner m_wayX m_wayY m_normal m_low m_high m_clear m_ways m_canBe m_lain m_fewestBy m_sortOf m_seenFlange m_seenLength : Nat} {H : Heap} {locs : List Loc} {ls : Array Slot} (hP : va_P g.1 vwCl [(h0, .inr (8, [.ref xt, .ref xr, .ref xp, .ref xs, .ref xm, .ref xh, .ref xe, .ref xf, .ref pa, .ref dr, .int 0, .int 1, .int 0, .int 0])), (xh, .inr (0, [.ref hr1, .int 0, .int 0])), (xf, .inl (g.2.1.1, 6, .inl (fun _ => 0))), (n0, .inr (9, [.ref m_told, .ref m_read, .ref m_now, .ref m_readNow, .ref m_kept, .int 0, .int 1, .int 0, .ref m_tape, .int 0, .ref m_refused, .int 0, .int (-1), .int 0, .int 0, .int 0, .int 0, .int (-1), .ref m_ownLetters, .ref m_flats, .int 0, .ref m_corner, .ref m_wayX, .ref m_wayY, .ref m_normal, .ref m_low, .ref m_high, .ref m_clear, .ref m_ways, .ref m_canBe, .ref m_lain, .int 0, .ref m_fewestBy, .ref m_sortOf, .int 0, .ref m_seenFlange, .ref m_seenLength])), (m_refused, .inl (g.2.1.1, 6, .inl (fun _ => 0)))] H) (hD : va_D A [(h0, .inr (8, [.ref xt, .ref xr, .ref xp, .ref xs, .ref xm, .ref xh, .ref xe, .ref xf, .ref pa, .ref dr, .int 0, .int 1, .int 0, .int 0])), (xh, .inr (0, [.ref hr1, .int 0, .int 0])), (xf, .inl (g.2.1.1, 6, .inl (fun _ => 0))), (n0, .inr (9, [.ref m_told, .ref m_read, .ref m_now, .ref m_readNow, .ref m_kept, .int 0, .int 1, .int 0, .ref m_tape, .int 0, .ref m_refused, .int 0, .int (-1), .int 0, .int 0, .int 0, .int 0, .int (-1), .ref m_ownLetters, .ref m_flats, .int 0, .ref m_corner, .ref m_wayX, .ref m_wayY, .ref m_normal, .ref m_low, .ref m_high, .ref m_clear, .ref m_ways, .ref m_canBe, .ref m_lain, .int 0, .ref m_fewestBy, .ref m_sortOf, .int 0, .ref m_seenFlange, .ref m_seenLength])), (m_refused, .inl (g.2.1.1, 6, .inl (fun _ => 0)))]) (hS : va_S A s.heap H locs) (hl : lv_has ls 4 [(0, .ref b), (1, .ref h0), (2, .ref n0), (3, .int 0)]) : W p l e room_1 s m #[Value.ref b] below meth c H locs 75 18897 (lw_Z below #[Value.ref b] s) (F0 m 1415 ls []) := by
  obtain ⟨hx, hb, hr, hml, hown, hG, hlocks, hX, hA, hA2, hZ, hbl, hbA⟩ := id C0
  refine lv_aload_n hx hb dL_law_1415 rfl (lv_at hl 1 rfl) ?_
  refine zfi (wr := [(n0, .inr (9, [.ref m_told, .ref m_read, .ref m_now, .ref m_readNow, .ref m_kept, .int 0, .int 1, .int 0, .ref m_tape, .int 0, .ref m_refused, .int 0, .int (-1), .int 0, .int 0, .int 0, .int 0, .int (-1), .ref m_ownLetters, .ref m_flats, .int 0, .ref m_corner, .ref m_wayX, .ref m_wayY, .ref m_normal, .ref m_low, .ref m_high, .ref m_clear, .ref m_ways, .ref m_canBe, .ref m_lain, .int 0, .ref m_fewestBy, .ref m_sortOf, .int 0, .ref m_seenFlange, .ref m_seenLength])), (m_refused, .inl (g.2.1.1, 6, .inl (fun _ => 0)))]) (va_runV (As := []) (rest := []) ⟨hx, hb, hml, hown, hG⟩ (kX8_undo l g h0 xt xr xp xs xm xh xe xf pa dr hr1 (fun _ => 0) _) ⟨callB_of 0 hG (zGood g1397) rfl rfl rfl (hG _ g202) (hG _ g1394) hX8_undo ⟨Nat.le_of_ble_eq_true rfl, Nat.le_of_ble_eq_true rfl⟩, hG _ g1395, hG _ g1396⟩ (zpreV (va_recv hX.1 hP (ci := 8) (q0 := 0) rfl rfl) hX hP hD hS hA [0, 1, 2] rfl (by decide)) rfl rfl hl.1 rfl (lv_room (Nat.le_of_ble_eq_true rfl)) dL_law_1416 ⟨Nat.le_of_ble_eq_true rfl, Nat.le_of_ble_eq_true rfl⟩) hP hD hS hA [0, 1, 2] [3, 4] rfl rfl (by decide) (by decide) (fun r1 _ H locs hp hP hD hS => ?_)
  refine W.cs (cells' := 75) (slots' := 18897) rfl rfl ?_
  have hq2 : r1 = 0 := hp
  subst hq2
  have hP : va_P g.1 vwCl [(n0, .inr (9, [.ref m_told, .ref m_read, .ref m_now, .ref m_readNow, .ref m_kept, .int 0, .int 1, .int 0, .ref m_tape, .int 0, .ref m_refused, .int 0, .int (-1), .int 0, .int 0, .int 0, .int 0, .int (-1), .ref m_ownLetters, .ref m_flats, .int 0, .ref m_corner, .ref m_wayX, .ref m_wayY, .ref m_normal, .ref m_low, .ref m_high, .ref m_clear, .ref m_ways, .ref m_canBe, .ref m_lain, .int 0, .ref m_fewestBy, .ref m_sortOf, .int 0, .ref m_seenFlange, .ref m_seenLength])), (m_refused, .inl (g.2.1.1, 6, .inl (fun _ => 0)))] H := hP
  have hD : va_D A [(n0, .inr (9, [.ref m_told, .ref m_read, .ref m_now, .ref m_readNow, .ref m_kept, .int 0, .int 1, .int 0, .ref m_tape, .int 0, .ref m_refused, .int 0, .int (-1), .int 0, .int 0, .int 0, .int 0, .int (-1), .ref m_ownLetters, .ref m_flats, .int 0, .ref m_corner, .ref m_wayX, .ref m_wayY, .ref m_normal, .ref m_low, .ref m_high, .ref m_clear, .ref m_ways, .ref m_canBe, .ref m_lain, .int 0, .ref m_fewestBy, .ref m_sortOf, .int 0, .ref m_seenFlange, .ref m_seenLength])), (m_refused, .inl (g.2.1.1, 6, .inl (fun _ => 0)))] := hD
  refine lv_aload_n hx hb dL_law_1419 rfl (lv_at hl 2 rfl) ?_
  refine zfi (wr := []) (va_runV (As := []) (rest := [.int 0]) ⟨hx, hb, hml, hown, hG⟩ (kX9_undo l g n0 m_told m_read m_now m_readNow m_kept m_tape m_refused m_ownLetters m_flats m_corner m_wayX m_wayY m_normal m_low m_high m_clear m_ways m_canBe m_lain m_fewestBy m_sortOf m_seenFlange m_seenLength (fun _ => 0) _) ⟨callB_of 0 hG (zGood g2049) rfl rfl rfl (hG _ g211) (hG _ g2046) hX9_undo ⟨Nat.le_of_ble_eq_true rfl, Nat.le_of_ble_eq_true rfl⟩, hG _ g2047, hG _ g2048⟩ (zpreV (va_recv hX.1 hP (ci := 9) (q0 := 0) rfl rfl) hX hP hD hS hA [0, 1] rfl (by decide)) rfl rfl hl.1 rfl (lv_room (Nat.le_of_ble_eq_true rfl)) dL_law_1420 ⟨Nat.le_of_ble_eq_true rfl, Nat.le_of_ble_eq_true rfl⟩) hP hD hS hA [0, 1] [] rfl rfl (by decide) (by decide) (fun r3 _ H locs hp hP hD hS => ?_)
  refine W.cs (cells' := 75) (slots' := 18897) rfl rfl ?_
  have hq4 : r3 = 0 := hp
  subst hq4
  have hP : va_P g.1 vwCl [] H := hP
  have hD : va_D A [] := hD
  refine lv_icmp_eq (tgt := 1474) hx hb dL_law_1423 (by decide) (fun c9 => ?_) (fun c9 => (c9 rfl).elim)
  exact lc_end C0 (Nat.le_of_ble_eq_true rfl) (Nat.le_of_ble_eq_true rfl) hS (lv_sub hl [0, 3] rfl)
theorem dL_law_1428 : decode cL_law 1428 = .ok (.aload_n 1, 1) := by decide +kernel
theorem dL_law_1429 : decode cL_law 1429 = .ok (.aload_n 0, 1) := by decide +kernel
theorem dL_law_1430 : decode cL_law 1430 = .ok (.iload_n 3, 1) := by decide +kernel
theorem dL_law_1431 : decode cL_law 1431 = .ok (.iconst 1, 1) := by decide +kernel
theorem dL_law_1432 : decode cL_law 1432 = .ok (.iadd, 1) := by decide +kernel
theorem dL_law_1433 : decode cL_law 1433 = .ok (.iaload, 1) := by decide +kernel
theorem dL_law_1434 : decode cL_law 1434 = .ok (.invokevirtual 204, 3) := by decide +kernel
theorem dL_law_1437 : decode cL_law 1437 = .ok (.aload_n 2, 1) := by decide +kernel
theorem dL_law_1438 : decode cL_law 1438 = .ok (.aload_n 0, 1) := by decide +kernel
theorem dL_law_1439 : decode cL_law 1439 = .ok (.iload_n 3, 1) := by decide +kernel
theorem dL_law_1440 : decode cL_law 1440 = .ok (.iconst 1, 1) := by decide +kernel
theorem dL_law_1441 : decode cL_law 1441 = .ok (.iadd, 1) := by decide +kernel
theorem dL_law_1442 : decode cL_law 1442 = .ok (.iaload, 1) := by decide +kernel
theorem dL_law_1443 : decode cL_law 1443 = .ok (.invokevirtual 207, 3) := by decide +kernel
theorem dL_law_1446 : decode cL_law 1446 = .ok (.if_icmp .eq 28, 3) := by decide +kernel
set_option maxHeartbeats 4000000 in
set_option maxRecDepth 100000 in
theorem lc_46 {p : Program} {l : Launch} {e : Env} {s : State} {m : MethodId} {below : List Frame} {meth : Method} {c : Code} {b : Nat} {zs : Nat → Int32} {g : zL} {A : Nat → Prop} (C0 : zLw p s m meth c b zs g A) {h0 xt xr xp xs xm xh xe xf pa dr n0 m_told m_read m_now m_readNow m_kept m_tape m_refused m_ownLetters m_flats m_corner m_wayX m_wayY m_normal m_low m_high m_clear m_ways m_canBe m_lain m_fewestBy m_sortOf m_seenFlange m_seenLength : Nat} {H : Heap} {locs : List Loc} {ls : Array Slot} (hP : va_P g.1 vwCl [(h0, .inr (8, [.ref xt, .ref xr, .ref xp, .ref xs, .ref xm, .ref xh, .ref xe, .ref xf, .ref pa, .ref dr, .int 0, .int 1, .int 0, .int 0])), (xf, .inl (g.2.1.1, 6, .inl (fun _ => 0))), (n0, .inr (9, [.ref m_told, .ref m_read, .ref m_now, .ref m_readNow, .ref m_kept, .int 0, .int 1, .int 0, .ref m_tape, .int 0, .ref m_refused, .int 0, .int (-1), .int 0, .int 0, .int 0, .int 0, .int (-1), .ref m_ownLetters, .ref m_flats, .int 0, .ref m_corner, .ref m_wayX, .ref m_wayY, .ref m_normal, .ref m_low, .ref m_high, .ref m_clear, .ref m_ways, .ref m_canBe, .ref m_lain, .int 0, .ref m_fewestBy, .ref m_sortOf, .int 0, .ref m_seenFlange, .ref m_seenLength])), (m_refused, .inl (g.2.1.1, 6, .inl (fun _ => 0)))] H) (hD : va_D A [(h0, .inr (8, [.ref xt, .ref xr, .ref xp, .ref xs, .ref xm, .ref xh, .ref xe, .ref xf, .ref pa, .ref dr, .int 0, .int 1, .int 0, .int 0])), (xf, .inl (g.2.1.1, 6, .inl (fun _ => 0))), (n0, .inr (9, [.ref m_told, .ref m_read, .ref m_now, .ref m_readNow, .ref m_kept, .int 0, .int 1, .int 0, .ref m_tape, .int 0, .ref m_refused, .int 0, .int (-1), .int 0, .int 0, .int 0, .int 0, .int (-1), .ref m_ownLetters, .ref m_flats, .int 0, .ref m_corner, .ref m_wayX, .ref m_wayY, .ref m_normal, .ref m_low, .ref m_high, .ref m_clear, .ref m_ways, .ref m_canBe, .ref m_lain, .int 0, .ref m_fewestBy, .ref m_sortOf, .int 0, .ref m_seenFlange, .ref m_seenLength])), (m_refused, .inl (g.2.1.1, 6, .inl (fun _ => 0)))]) (hS : va_S A s.heap H locs) (hl : lv_has ls 4 [(0, .ref b), (1, .ref h0), (2, .ref n0), (3, .int 0)]) : W p l e room_1 s m #[Value.ref b] below meth c H locs 75 18897 (lw_Z below #[Value.ref b] s) (F0 m 1428 ls []) := by
  obtain ⟨hx, hb, hr, hml, hown, hG, hlocks, hX, hA, hA2, hZ, hbl, hbA⟩ := id C0
  refine lv_aload_n hx hb dL_law_1428 rfl (lv_at hl 1 rfl) ?_
  refine lv_aload_n hx hb dL_law_1429 rfl (lv_at hl 0 rfl) ?_
  refine lv_iload_n hx hb dL_law_1430 rfl (lv_at hl 3 rfl) ?_
  refine lv_iconst (v := 1) hx hb dL_law_1431 (by decide) ?_
  refine lv_iadd hx hb dL_law_1432 ?_
  refine zt (z := 1) (by decide) ?_
  refine va_sld hx hb hZ hbl hbA hS (vp_in_iff.mpr (by decide)) dL_law_1433 ?_
  refine zfi (wr := [(n0, .inr (9, [.ref m_told, .ref m_read, .ref m_now, .ref m_readNow, .ref m_kept, .int 0, .int 1, .int 0, .ref m_tape, .int 0, .ref m_refused, .int 0, .int (-1), .int 0, .int 0, .int 0, .int 0, .int (-1), .ref m_ownLetters, .ref m_flats, .int 0, .ref m_corner, .ref m_wayX, .ref m_wayY, .ref m_normal, .ref m_low, .ref m_high, .ref m_clear, .ref m_ways, .ref m_canBe, .ref m_lain, .int 0, .ref m_fewestBy, .ref m_sortOf, .int 0, .ref m_seenFlange, .ref m_seenLength])), (m_refused, .inl (g.2.1.1, 6, .inl (fun _ => 0)))]) (va_runV (As := [.int (zs (1 : Int32).toNatClampNeg)]) (rest := []) ⟨hx, hb, hml, hown, hG⟩ (kX8_seed l g h0 (zs (1 : Int32).toNatClampNeg) xt xr xp xs xm xh xe xf pa dr (fun _ => 0) _) ⟨callB_of 1 hG (zGood g1406) rfl rfl rfl (hG _ g202) (hG _ g1403) hX8_seed ⟨Nat.le_of_ble_eq_true rfl, Nat.le_of_ble_eq_true rfl⟩, hG _ g1404, hG _ g1405⟩ (zpreV (va_recv hX.1 hP (ci := 8) (q0 := 0) rfl rfl) hX hP hD hS hA [0, 1] rfl (by decide)) rfl rfl hl.1 rfl (lv_room (Nat.le_of_ble_eq_true rfl)) dL_law_1434 ⟨Nat.le_of_ble_eq_true rfl, Nat.le_of_ble_eq_true rfl⟩) hP hD hS hA [0, 1] [2, 3] rfl rfl (by decide) (by decide) (fun r1 _ H locs hp hP hD hS => ?_)
  refine W.cs (cells' := 75) (slots' := 18897) rfl rfl ?_
  have hq2 : r1 = sp_seed (zs (1 : Int32).toNatClampNeg) := hp
  subst hq2
  have hP : va_P g.1 vwCl [(n0, .inr (9, [.ref m_told, .ref m_read, .ref m_now, .ref m_readNow, .ref m_kept, .int 0, .int 1, .int 0, .ref m_tape, .int 0, .ref m_refused, .int 0, .int (-1), .int 0, .int 0, .int 0, .int 0, .int (-1), .ref m_ownLetters, .ref m_flats, .int 0, .ref m_corner, .ref m_wayX, .ref m_wayY, .ref m_normal, .ref m_low, .ref m_high, .ref m_clear, .ref m_ways, .ref m_canBe, .ref m_lain, .int 0, .ref m_fewestBy, .ref m_sortOf, .int 0, .ref m_seenFlange, .ref m_seenLength])), (m_refused, .inl (g.2.1.1, 6, .inl (fun _ => 0)))] H := hP
  have hD : va_D A [(n0, .inr (9, [.ref m_told, .ref m_read, .ref m_now, .ref m_readNow, .ref m_kept, .int 0, .int 1, .int 0, .ref m_tape, .int 0, .ref m_refused, .int 0, .int (-1), .int 0, .int 0, .int 0, .int 0, .int (-1), .ref m_ownLetters, .ref m_flats, .int 0, .ref m_corner, .ref m_wayX, .ref m_wayY, .ref m_normal, .ref m_low, .ref m_high, .ref m_clear, .ref m_ways, .ref m_canBe, .ref m_lain, .int 0, .ref m_fewestBy, .ref m_sortOf, .int 0, .ref m_seenFlange, .ref m_seenLength])), (m_refused, .inl (g.2.1.1, 6, .inl (fun _ => 0)))] := hD
  refine lv_aload_n hx hb dL_law_1437 rfl (lv_at hl 2 rfl) ?_
  refine lv_aload_n hx hb dL_law_1438 rfl (lv_at hl 0 rfl) ?_
  refine lv_iload_n hx hb dL_law_1439 rfl (lv_at hl 3 rfl) ?_
  refine lv_iconst (v := 1) hx hb dL_law_1440 (by decide) ?_
  refine lv_iadd hx hb dL_law_1441 ?_
  refine zt (z := 1) (by decide) ?_
  refine va_sld hx hb hZ hbl hbA hS (vp_in_iff.mpr (by decide)) dL_law_1442 ?_
  refine zfi (wr := []) (va_runV (As := [.int (zs (1 : Int32).toNatClampNeg)]) (rest := [.int (sp_seed (zs (1 : Int32).toNatClampNeg))]) ⟨hx, hb, hml, hown, hG⟩ (kX9_seed l g n0 (zs (1 : Int32).toNatClampNeg) m_told m_read m_now m_readNow m_kept m_tape m_refused m_ownLetters m_flats m_corner m_wayX m_wayY m_normal m_low m_high m_clear m_ways m_canBe m_lain m_fewestBy m_sortOf m_seenFlange m_seenLength (fun _ => 0) _) ⟨callB_of 1 hG (zGood g2053) rfl rfl rfl (hG _ g211) (hG _ g2050) hX9_seed ⟨Nat.le_of_ble_eq_true rfl, Nat.le_of_ble_eq_true rfl⟩, hG _ g2051, hG _ g2052⟩ (zpreV (va_recv hX.1 hP (ci := 9) (q0 := 0) rfl rfl) hX hP hD hS hA [0, 1] rfl (by decide)) rfl rfl hl.1 rfl (lv_room (Nat.le_of_ble_eq_true rfl)) dL_law_1443 ⟨Nat.le_of_ble_eq_true rfl, Nat.le_of_ble_eq_true rfl⟩) hP hD hS hA [0, 1] [] rfl rfl (by decide) (by decide) (fun r3 _ H locs hp hP hD hS => ?_)
  refine W.cs (cells' := 75) (slots' := 18897) rfl rfl ?_
  have hq4 : r3 = sp_seed (zs (1 : Int32).toNatClampNeg) := hp
  subst hq4
  have hP : va_P g.1 vwCl [] H := hP
  have hD : va_D A [] := hD
  refine lv_icmp_eq (tgt := 1474) hx hb dL_law_1446 (by decide) (fun c9 => ?_) (fun c9 => (c9 rfl).elim)
  exact lc_end C0 (Nat.le_of_ble_eq_true rfl) (Nat.le_of_ble_eq_true rfl) hS (lv_sub hl [0, 3] rfl)
theorem dL_law_1451 : decode cL_law 1451 = .ok (.aload_n 1, 1) := by decide +kernel
theorem dL_law_1452 : decode cL_law 1452 = .ok (.aload_n 0, 1) := by decide +kernel
theorem dL_law_1453 : decode cL_law 1453 = .ok (.iload_n 3, 1) := by decide +kernel
theorem dL_law_1454 : decode cL_law 1454 = .ok (.iconst 1, 1) := by decide +kernel
theorem dL_law_1455 : decode cL_law 1455 = .ok (.iadd, 1) := by decide +kernel
theorem dL_law_1456 : decode cL_law 1456 = .ok (.iaload, 1) := by decide +kernel
theorem dL_law_1457 : decode cL_law 1457 = .ok (.invokevirtual 208, 3) := by decide +kernel
theorem dL_law_1460 : decode cL_law 1460 = .ok (.aload_n 2, 1) := by decide +kernel
theorem dL_law_1461 : decode cL_law 1461 = .ok (.aload_n 0, 1) := by decide +kernel
theorem dL_law_1462 : decode cL_law 1462 = .ok (.iload_n 3, 1) := by decide +kernel
theorem dL_law_1463 : decode cL_law 1463 = .ok (.iconst 1, 1) := by decide +kernel
theorem dL_law_1464 : decode cL_law 1464 = .ok (.iadd, 1) := by decide +kernel
theorem dL_law_1465 : decode cL_law 1465 = .ok (.iaload, 1) := by decide +kernel
theorem dL_law_1466 : decode cL_law 1466 = .ok (.invokevirtual 211, 3) := by decide +kernel
theorem dL_law_1469 : decode cL_law 1469 = .ok (.if_icmp .eq 5, 3) := by decide +kernel
set_option maxHeartbeats 4000000 in
set_option maxRecDepth 100000 in
theorem lc_47 {p : Program} {l : Launch} {e : Env} {s : State} {m : MethodId} {below : List Frame} {meth : Method} {c : Code} {b : Nat} {zs : Nat → Int32} {g : zL} {A : Nat → Prop} (C0 : zLw p s m meth c b zs g A) {h0 xt xr xp xs xm xh xe xf pa dr n0 m_told m_read m_now m_readNow m_kept m_tape m_refused m_ownLetters m_flats m_corner m_wayX m_wayY m_normal m_low m_high m_clear m_ways m_canBe m_lain m_fewestBy m_sortOf m_seenFlange m_seenLength : Nat} {H : Heap} {locs : List Loc} {ls : Array Slot} (hP : va_P g.1 vwCl [(h0, .inr (8, [.ref xt, .ref xr, .ref xp, .ref xs, .ref xm, .ref xh, .ref xe, .ref xf, .ref pa, .ref dr, .int 0, .int 1, .int 0, .int 0])), (xf, .inl (g.2.1.1, 6, .inl (fun _ => 0))), (n0, .inr (9, [.ref m_told, .ref m_read, .ref m_now, .ref m_readNow, .ref m_kept, .int 0, .int 1, .int 0, .ref m_tape, .int 0, .ref m_refused, .int 0, .int (-1), .int 0, .int 0, .int 0, .int 0, .int (-1), .ref m_ownLetters, .ref m_flats, .int 0, .ref m_corner, .ref m_wayX, .ref m_wayY, .ref m_normal, .ref m_low, .ref m_high, .ref m_clear, .ref m_ways, .ref m_canBe, .ref m_lain, .int 0, .ref m_fewestBy, .ref m_sortOf, .int 0, .ref m_seenFlange, .ref m_seenLength])), (m_refused, .inl (g.2.1.1, 6, .inl (fun _ => 0)))] H) (hD : va_D A [(h0, .inr (8, [.ref xt, .ref xr, .ref xp, .ref xs, .ref xm, .ref xh, .ref xe, .ref xf, .ref pa, .ref dr, .int 0, .int 1, .int 0, .int 0])), (xf, .inl (g.2.1.1, 6, .inl (fun _ => 0))), (n0, .inr (9, [.ref m_told, .ref m_read, .ref m_now, .ref m_readNow, .ref m_kept, .int 0, .int 1, .int 0, .ref m_tape, .int 0, .ref m_refused, .int 0, .int (-1), .int 0, .int 0, .int 0, .int 0, .int (-1), .ref m_ownLetters, .ref m_flats, .int 0, .ref m_corner, .ref m_wayX, .ref m_wayY, .ref m_normal, .ref m_low, .ref m_high, .ref m_clear, .ref m_ways, .ref m_canBe, .ref m_lain, .int 0, .ref m_fewestBy, .ref m_sortOf, .int 0, .ref m_seenFlange, .ref m_seenLength])), (m_refused, .inl (g.2.1.1, 6, .inl (fun _ => 0)))]) (hS : va_S A s.heap H locs) (hl : lv_has ls 4 [(0, .ref b), (1, .ref h0), (2, .ref n0), (3, .int 0)]) : W p l e room_1 s m #[Value.ref b] below meth c H locs 75 18897 (lw_Z below #[Value.ref b] s) (F0 m 1451 ls []) := by
  obtain ⟨hx, hb, hr, hml, hown, hG, hlocks, hX, hA, hA2, hZ, hbl, hbA⟩ := id C0
  refine lv_aload_n hx hb dL_law_1451 rfl (lv_at hl 1 rfl) ?_
  refine lv_aload_n hx hb dL_law_1452 rfl (lv_at hl 0 rfl) ?_
  refine lv_iload_n hx hb dL_law_1453 rfl (lv_at hl 3 rfl) ?_
  refine lv_iconst (v := 1) hx hb dL_law_1454 (by decide) ?_
  refine lv_iadd hx hb dL_law_1455 ?_
  refine zt (z := 1) (by decide) ?_
  refine va_sld hx hb hZ hbl hbA hS (vp_in_iff.mpr (by decide)) dL_law_1456 ?_
  refine zfi (wr := [(n0, .inr (9, [.ref m_told, .ref m_read, .ref m_now, .ref m_readNow, .ref m_kept, .int 0, .int 1, .int 0, .ref m_tape, .int 0, .ref m_refused, .int 0, .int (-1), .int 0, .int 0, .int 0, .int 0, .int (-1), .ref m_ownLetters, .ref m_flats, .int 0, .ref m_corner, .ref m_wayX, .ref m_wayY, .ref m_normal, .ref m_low, .ref m_high, .ref m_clear, .ref m_ways, .ref m_canBe, .ref m_lain, .int 0, .ref m_fewestBy, .ref m_sortOf, .int 0, .ref m_seenFlange, .ref m_seenLength])), (m_refused, .inl (g.2.1.1, 6, .inl (fun _ => 0)))]) (va_runV (As := [.int (zs (1 : Int32).toNatClampNeg)]) (rest := []) ⟨hx, hb, hml, hown, hG⟩ (kX8_status l g h0 (zs (1 : Int32).toNatClampNeg) xt xr xp xs xm xh xe xf pa dr _) ⟨callB_of 1 hG (zGood g1410) rfl rfl rfl (hG _ g202) (hG _ g1407) hX8_status ⟨Nat.le_of_ble_eq_true rfl, Nat.le_of_ble_eq_true rfl⟩, hG _ g1408, hG _ g1409⟩ (zpreV (va_recv hX.1 hP (ci := 8) (q0 := 0) rfl rfl) hX hP hD hS hA [0, 1] rfl (by decide)) rfl rfl hl.1 rfl (lv_room (Nat.le_of_ble_eq_true rfl)) dL_law_1457 ⟨Nat.le_of_ble_eq_true rfl, Nat.le_of_ble_eq_true rfl⟩) hP hD hS hA [0, 1] [2, 3] rfl rfl (by decide) (by decide) (fun r1 _ H locs hp hP hD hS => ?_)
  refine W.cs (cells' := 75) (slots' := 18897) rfl rfl ?_
  have hq2 : r1 = sp_status (zs (1 : Int32).toNatClampNeg) := hp
  subst hq2
  have hP : va_P g.1 vwCl [(n0, .inr (9, [.ref m_told, .ref m_read, .ref m_now, .ref m_readNow, .ref m_kept, .int 0, .int 1, .int 0, .ref m_tape, .int 0, .ref m_refused, .int 0, .int (-1), .int 0, .int 0, .int 0, .int 0, .int (-1), .ref m_ownLetters, .ref m_flats, .int 0, .ref m_corner, .ref m_wayX, .ref m_wayY, .ref m_normal, .ref m_low, .ref m_high, .ref m_clear, .ref m_ways, .ref m_canBe, .ref m_lain, .int 0, .ref m_fewestBy, .ref m_sortOf, .int 0, .ref m_seenFlange, .ref m_seenLength])), (m_refused, .inl (g.2.1.1, 6, .inl (fun _ => 0)))] H := hP
  have hD : va_D A [(n0, .inr (9, [.ref m_told, .ref m_read, .ref m_now, .ref m_readNow, .ref m_kept, .int 0, .int 1, .int 0, .ref m_tape, .int 0, .ref m_refused, .int 0, .int (-1), .int 0, .int 0, .int 0, .int 0, .int (-1), .ref m_ownLetters, .ref m_flats, .int 0, .ref m_corner, .ref m_wayX, .ref m_wayY, .ref m_normal, .ref m_low, .ref m_high, .ref m_clear, .ref m_ways, .ref m_canBe, .ref m_lain, .int 0, .ref m_fewestBy, .ref m_sortOf, .int 0, .ref m_seenFlange, .ref m_seenLength])), (m_refused, .inl (g.2.1.1, 6, .inl (fun _ => 0)))] := hD
  refine lv_aload_n hx hb dL_law_1460 rfl (lv_at hl 2 rfl) ?_
  refine lv_aload_n hx hb dL_law_1461 rfl (lv_at hl 0 rfl) ?_
  refine lv_iload_n hx hb dL_law_1462 rfl (lv_at hl 3 rfl) ?_
  refine lv_iconst (v := 1) hx hb dL_law_1463 (by decide) ?_
  refine lv_iadd hx hb dL_law_1464 ?_
  refine zt (z := 1) (by decide) ?_
  refine va_sld hx hb hZ hbl hbA hS (vp_in_iff.mpr (by decide)) dL_law_1465 ?_
  refine zfi (wr := []) (va_runV (As := [.int (zs (1 : Int32).toNatClampNeg)]) (rest := [.int (sp_status (zs (1 : Int32).toNatClampNeg))]) ⟨hx, hb, hml, hown, hG⟩ (kX9_status l g n0 (zs (1 : Int32).toNatClampNeg) m_told m_read m_now m_readNow m_kept m_tape m_refused m_ownLetters m_flats m_corner m_wayX m_wayY m_normal m_low m_high m_clear m_ways m_canBe m_lain m_fewestBy m_sortOf m_seenFlange m_seenLength _) ⟨callB_of 1 hG (zGood g2057) rfl rfl rfl (hG _ g211) (hG _ g2054) hX9_status ⟨Nat.le_of_ble_eq_true rfl, Nat.le_of_ble_eq_true rfl⟩, hG _ g2055, hG _ g2056⟩ (zpreV (va_recv hX.1 hP (ci := 9) (q0 := 0) rfl rfl) hX hP hD hS hA [0, 1] rfl (by decide)) rfl rfl hl.1 rfl (lv_room (Nat.le_of_ble_eq_true rfl)) dL_law_1466 ⟨Nat.le_of_ble_eq_true rfl, Nat.le_of_ble_eq_true rfl⟩) hP hD hS hA [0, 1] [] rfl rfl (by decide) (by decide) (fun r3 _ H locs hp hP hD hS => ?_)
  refine W.cs (cells' := 75) (slots' := 18897) rfl rfl ?_
  have hq4 : r3 = sp_status (zs (1 : Int32).toNatClampNeg) := hp
  subst hq4
  have hP : va_P g.1 vwCl [] H := hP
  have hD : va_D A [] := hD
  refine lv_icmp_eq (tgt := 1474) hx hb dL_law_1469 (by decide) (fun c9 => ?_) (fun c9 => (c9 rfl).elim)
  exact lc_end C0 (Nat.le_of_ble_eq_true rfl) (Nat.le_of_ble_eq_true rfl) hS (lv_sub hl [0, 3] rfl)
