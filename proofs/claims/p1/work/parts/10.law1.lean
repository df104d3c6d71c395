/-! THE CLAIM OUT OF ONE WALK OF THE LAW'S BODY. Your part is whole_start (and what it stands on); all else here is the same for every law, but numbers. -/
def R_law : String := "SheetFoldsLaw"
def lw_P (b : Addr) (xs : List Int32) (args : Array Value) (s : State) : Prop := args = #[.ref b] ∧ s.IntsAt b xs ∧ xs.length ≤ 6 ∧ (Jvm.Cond.and given_1 narrow_1).before args s = true
def lw_Q (_ : Array Value) (s : State) (o : Outcome) (t : State) : Prop := o = .returned (some (.int 1)) ∧ Framed s o t [] 600000 7302250
def lw_Z (below : List Frame) (a : Array Value) (s : State) : State → Prop := fun t => ∃ o, t.status = .running ∧ Ended t below o ∧ lw_Q a s o t
/-- the law's own end, with 1 on the stack, nothing written that was there before, its room as the claim has it -/
theorem lw_ret {p : Program} {l : Launch} {e : Env} {s : State} {m : MethodId} {below : List Frame} {meth : Method} {c : Code} {b : Nat} (hx : p.tables.exec = Jvm.exec) (hb : c.code = code) (hr : meth.sig.returnType = ret) (hlocks : meth.locks = false) {pc : Nat} {H : Heap} {ls : Array Slot} (hdg : decode code pc = .ok (.ireturn, 1)) : W p l e room_1 s m #[Value.ref b] below meth c H [] 600000 7302250 (lw_Z below #[Value.ref b] s) (F0 m pc ls [.int 1]) := by
  intro T hT X
  obtain ⟨fs, hret, hrun, hended, hW, hframe⟩ := X.leave (v := some (.int 1)) (hlocks := hlocks) (fun h => by rw [hr] at h; cases h)
  have hmeth' : T.vm.method? m = some meth := X.method'
  refine ⟨T.setFrames fs, ?_, .returned (some (.int 1)), hrun, hended, rfl, ⟨_, rfl⟩, hW, hframe⟩
  jvm_step X.here [X.here.top, hx, hb, hdg, hmeth', hr, ret, narrow_b1]
  (try refine ⟨rfl, ?_⟩); (try refine ⟨rfl, ?_⟩)
  first | (intro acts; rw [hret _ acts rfl rfl rfl]) | rw [hret _ _ rfl rfl rfl]
  exact Steps.refl _
/-- what holds at the law's entry: the machine, the code, the tables' words (any of lw_tbl by 'hts w (by decide +kernel)'), the script of L ints xs at the cell b, what the Statement gives of the start (any of its parts by flat_of_before) -/
def lw_At (p : Program) (s : State) (m : MethodId) (meth : Method) (c : Code) (b L : Nat) (xs : Nat → Int32) : Prop :=
  p.tables.exec = Jvm.exec ∧ c.code = code ∧ meth.sig.returnType = ret ∧ c.maxLocals = 4 ∧ s.vm.findClass R_law = some m.cls ∧ (∀ w ∈ lw_tbl, w.before #[Value.ref b] s = true) ∧ va_X b L xs s s.heap ∧ b < s.heap.size ∧ meth.locks = false ∧ (Jvm.Cond.and given_1 narrow_1).before #[Value.ref b] s = true

/-- what the law's walk has, behind its entry, with six ints -/
def zLw (p : Program) (s : State) (m : MethodId) (meth : Method) (c : Code) (b : Nat) (zs : Nat → Int32) (g : zL) (A : Nat → Prop) : Prop :=
  p.tables.exec = Jvm.exec ∧ c.code = code ∧ meth.sig.returnType = ret ∧ c.maxLocals = 4 ∧ s.vm.findClass RL = some m.cls ∧ (∀ w ∈ zG, w.before #[Value.ref b] s = true) ∧ meth.locks = false ∧ zX g A s s.heap ∧ (∀ q : Nat, s.heap.size ≤ q → A q) ∧ (∀ q : Nat, A q → s.heap.size ≤ q) ∧ va_X b 6 zs s s.heap ∧ b < s.heap.size ∧ ¬ A b
theorem dL_law_1474 : decode cL_law 1474 = .ok (.iinc 3 6, 3) := by decide +kernel
theorem dL_law_1477 : decode cL_law 1477 = .ok (.goto (-1459), 3) := by decide +kernel
theorem dL_law_18 : decode cL_law 18 = .ok (.iload_n 3, 1) := by decide +kernel
theorem dL_law_19 : decode cL_law 19 = .ok (.aload_n 0, 1) := by decide +kernel
theorem dL_law_20 : decode cL_law 20 = .ok (.arraylength, 1) := by decide +kernel
theorem dL_law_21 : decode cL_law 21 = .ok (.bipush 6, 2) := by decide +kernel
theorem dL_law_23 : decode cL_law 23 = .ok (.isub, 1) := by decide +kernel
theorem dL_law_24 : decode cL_law 24 = .ok (.if_icmp .gt 1456, 3) := by decide +kernel
theorem dL_law_1480 : decode cL_law 1480 = .ok (.iconst 1, 1) := by decide +kernel
theorem dL_law_1481 : decode cL_law 1481 = .ok (.ireturn, 1) := by decide +kernel
set_option maxHeartbeats 4000000 in
theorem lc_end {p : Program} {l : Launch} {e : Env} {s : State} {m : MethodId} {below : List Frame} {meth : Method} {c : Code} {b : Nat} {zs : Nat → Int32} {g : zL} {A : Nat → Prop} {H : Heap} {locs : List Loc} {cells slots : Nat} {ls : Array Slot} (C0 : zLw p s m meth c b zs g A) (hcc : cells ≤ 600000) (hss : slots ≤ 7302250) (hS : va_S A s.heap H locs) (hl : lv_has ls 4 [(0, .ref b), (3, .int 0)]) : W p l e room_1 s m #[Value.ref b] below meth c H locs cells slots (lw_Z below #[Value.ref b] s) (F0 m 1474 ls []) := by
  obtain ⟨hx, hb, hr, hml, hown, hG, hlocks, hX, hA, hA2, hZ, hbl, hbA⟩ := id C0
  refine lv_iinc (v := 6) (lv' := [(3, .int 6), (0, .ref b)]) hx hb dL_law_1474 hl (k := 1) rfl (by decide) (by decide) rfl (fun ls hl => ?_)
  refine lv_goto (tgt := 18) hx hb dL_law_1477 (by decide) ?_
  refine lv_iload_n hx hb dL_law_18 rfl (lv_at hl 0 rfl) ?_
  refine lv_aload_n hx hb dL_law_19 rfl (lv_at hl 1 rfl) ?_
  refine va_slen hx hb hZ hbl hbA hS dL_law_20 ?_
  refine zt (z := 6) (by decide) ?_
  refine lv_bipush (v := 6) hx hb dL_law_21 (by decide) ?_
  refine lv_isub hx hb dL_law_23 ?_
  refine zt (z := 0) (by decide) ?_
  refine lv_icmp_gt (tgt := 1480) hx hb dL_law_24 (by decide) (fun c24 => ?_) (fun c24 => (c24 (by decide)).elim)
  refine lv_iconst (v := 1) hx hb dL_law_1480 (by decide) ?_
  refine va_forget (fun q hq => hA2 _ (hS.2.2 q hq)) ?_
  refine W.widen (k := 600000) (n := 7302250) hcc hss ?_
  exact lw_ret hx hb hr hlocks dL_law_1481
theorem dL_law_240 : decode cL_law 240 = .ok (.aload_n 1, 1) := by decide +kernel
theorem dL_law_241 : decode cL_law 241 = .ok (.aload_n 0, 1) := by decide +kernel
theorem dL_law_242 : decode cL_law 242 = .ok (.iload_n 3, 1) := by decide +kernel
theorem dL_law_243 : decode cL_law 243 = .ok (.iconst 1, 1) := by decide +kernel
theorem dL_law_244 : decode cL_law 244 = .ok (.iadd, 1) := by decide +kernel
theorem dL_law_245 : decode cL_law 245 = .ok (.iaload, 1) := by decide +kernel
theorem dL_law_246 : decode cL_law 246 = .ok (.aload_n 0, 1) := by decide +kernel
theorem dL_law_247 : decode cL_law 247 = .ok (.iload_n 3, 1) := by decide +kernel
theorem dL_law_248 : decode cL_law 248 = .ok (.iconst 2, 1) := by decide +kernel
theorem dL_law_249 : decode cL_law 249 = .ok (.iadd, 1) := by decide +kernel
theorem dL_law_250 : decode cL_law 250 = .ok (.iaload, 1) := by decide +kernel
theorem dL_law_251 : decode cL_law 251 = .ok (.aload_n 0, 1) := by decide +kernel
theorem dL_law_252 : decode cL_law 252 = .ok (.iload_n 3, 1) := by decide +kernel
theorem dL_law_253 : decode cL_law 253 = .ok (.iconst 3, 1) := by decide +kernel
theorem dL_law_254 : decode cL_law 254 = .ok (.iadd, 1) := by decide +kernel
theorem dL_law_255 : decode cL_law 255 = .ok (.iaload, 1) := by decide +kernel
theorem dL_law_256 : decode cL_law 256 = .ok (.aload_n 0, 1) := by decide +kernel
theorem dL_law_257 : decode cL_law 257 = .ok (.iload_n 3, 1) := by decide +kernel
theorem dL_law_258 : decode cL_law 258 = .ok (.iconst 4, 1) := by decide +kernel
theorem dL_law_259 : decode cL_law 259 = .ok (.iadd, 1) := by decide +kernel
theorem dL_law_260 : decode cL_law 260 = .ok (.iaload, 1) := by decide +kernel
theorem dL_law_261 : decode cL_law 261 = .ok (.aload_n 0, 1) := by decide +kernel
theorem dL_law_262 : decode cL_law 262 = .ok (.iload_n 3, 1) := by decide +kernel
theorem dL_law_263 : decode cL_law 263 = .ok (.iconst 5, 1) := by decide +kernel
theorem dL_law_264 : decode cL_law 264 = .ok (.iadd, 1) := by decide +kernel
theorem dL_law_265 : decode cL_law 265 = .ok (.iaload, 1) := by decide +kernel
theorem dL_law_266 : decode cL_law 266 = .ok (.invokevirtual 13, 3) := by decide +kernel
theorem dL_law_269 : decode cL_law 269 = .ok (.aload_n 2, 1) := by decide +kernel
theorem dL_law_270 : decode cL_law 270 = .ok (.aload_n 0, 1) := by decide +kernel
theorem dL_law_271 : decode cL_law 271 = .ok (.iload_n 3, 1) := by decide +kernel
theorem dL_law_272 : decode cL_law 272 = .ok (.iconst 1, 1) := by decide +kernel
theorem dL_law_273 : decode cL_law 273 = .ok (.iadd, 1) := by decide +kernel
theorem dL_law_274 : decode cL_law 274 = .ok (.iaload, 1) := by decide +kernel
theorem dL_law_275 : decode cL_law 275 = .ok (.aload_n 0, 1) := by decide +kernel
theorem dL_law_276 : decode cL_law 276 = .ok (.iload_n 3, 1) := by decide +kernel
theorem dL_law_277 : decode cL_law 277 = .ok (.iconst 2, 1) := by decide +kernel
theorem dL_law_278 : decode cL_law 278 = .ok (.iadd, 1) := by decide +kernel
theorem dL_law_279 : decode cL_law 279 = .ok (.iaload, 1) := by decide +kernel
theorem dL_law_280 : decode cL_law 280 = .ok (.aload_n 0, 1) := by decide +kernel
theorem dL_law_281 : decode cL_law 281 = .ok (.iload_n 3, 1) := by decide +kernel
theorem dL_law_282 : decode cL_law 282 = .ok (.iconst 3, 1) := by decide +kernel
theorem dL_law_283 : decode cL_law 283 = .ok (.iadd, 1) := by decide +kernel
theorem dL_law_284 : decode cL_law 284 = .ok (.iaload, 1) := by decide +kernel
theorem dL_law_285 : decode cL_law 285 = .ok (.aload_n 0, 1) := by decide +kernel
theorem dL_law_286 : decode cL_law 286 = .ok (.iload_n 3, 1) := by decide +kernel
theorem dL_law_287 : decode cL_law 287 = .ok (.iconst 4, 1) := by decide +kernel
theorem dL_law_288 : decode cL_law 288 = .ok (.iadd, 1) := by decide +kernel
theorem dL_law_289 : decode cL_law 289 = .ok (.iaload, 1) := by decide +kernel
theorem dL_law_290 : decode cL_law 290 = .ok (.aload_n 0, 1) := by decide +kernel
theorem dL_law_291 : decode cL_law 291 = .ok (.iload_n 3, 1) := by decide +kernel
theorem dL_law_292 : decode cL_law 292 = .ok (.iconst 5, 1) := by decide +kernel
theorem dL_law_293 : decode cL_law 293 = .ok (.iadd, 1) := by decide +kernel
theorem dL_law_294 : decode cL_law 294 = .ok (.iaload, 1) := by decide +kernel
theorem dL_law_295 : decode cL_law 295 = .ok (.invokevirtual 17, 3) := by decide +kernel
theorem dL_law_298 : decode cL_law 298 = .ok (.if_icmp .eq 1176, 3) := by decide +kernel
set_option maxHeartbeats 4000000 in
set_option maxRecDepth 100000 in
theorem lc_0 {p : Program} {l : Launch} {e : Env} {s : State} {m : MethodId} {below : List Frame} {meth : Method} {c : Code} {b : Nat} {zs : Nat → Int32} {g : zL} {A : Nat → Prop} (C0 : zLw p s m meth c b zs g A) {h0 xt xr xp xs xm xh xe xf pa dr xb n0 m_told m_read m_now m_readNow m_kept m_tape m_refused m_ownLetters m_flats m_corner m_wayX m_wayY m_normal m_low m_high m_clear m_ways m_canBe m_lain m_fewestBy m_sortOf m_seenFlange m_seenLength : Nat} {H : Heap} {locs : List Loc} {ls : Array Slot} (hP : va_P g.1 vwCl [(h0, .inr (8, [.ref xt, .ref xr, .ref xp, .ref xs, .ref xm, .ref xh, .ref xe, .ref xf, .ref pa, .ref dr, .int 0, .int 1, .int 0, .int 0])), (xt, .inr (7, [.ref xb, .int 0])), (xb, .inl (g.2.1.2.1, 1200, .inl (fun _ => 0))), (n0, .inr (9, [.ref m_told, .ref m_read, .ref m_now, .ref m_readNow, .ref m_kept, .int 0, .int 1, .int 0, .ref m_tape, .int 0, .ref m_refused, .int 0, .int (-1), .int 0, .int 0, .int 0, .int 0, .int (-1), .ref m_ownLetters, .ref m_flats, .int 0, .ref m_corner, .ref m_wayX, .ref m_wayY, .ref m_normal, .ref m_low, .ref m_high, .ref m_clear, .ref m_ways, .ref m_canBe, .ref m_lain, .int 0, .ref m_fewestBy, .ref m_sortOf, .int 0, .ref m_seenFlange, .ref m_seenLength])), (m_tape, .inl (g.2.1.1, 1200, .inl (fun _ => 0)))] H) (hD : va_D A [(h0, .inr (8, [.ref xt, .ref xr, .ref xp, .ref xs, .ref xm, .ref xh, .ref xe, .ref xf, .ref pa, .ref dr, .int 0, .int 1, .int 0, .int 0])), (xt, .inr (7, [.ref xb, .int 0])), (xb, .inl (g.2.1.2.1, 1200, .inl (fun _ => 0))), (n0, .inr (9, [.ref m_told, .ref m_read, .ref m_now, .ref m_readNow, .ref m_kept, .int 0, .int 1, .int 0, .ref m_tape, .int 0, .ref m_refused, .int 0, .int (-1), .int 0, .int 0, .int 0, .int 0, .int (-1), .ref m_ownLetters, .ref m_flats, .int 0, .ref m_corner, .ref m_wayX, .ref m_wayY, .ref m_normal, .ref m_low, .ref m_high, .ref m_clear, .ref m_ways, .ref m_canBe, .ref m_lain, .int 0, .ref m_fewestBy, .ref m_sortOf, .int 0, .ref m_seenFlange, .ref m_seenLength])), (m_tape, .inl (g.2.1.1, 1200, .inl (fun _ => 0)))]) (hS : va_S A s.heap H locs) (hl : lv_has ls 4 [(0, .ref b), (1, .ref h0), (2, .ref n0), (3, .int 0)]) : W p l e room_1 s m #[Value.ref b] below meth c H locs 75 18897 (lw_Z below #[Value.ref b] s) (F0 m 240 ls []) := by
  obtain ⟨hx, hb, hr, hml, hown, hG, hlocks, hX, hA, hA2, hZ, hbl, hbA⟩ := id C0
  refine lv_aload_n hx hb dL_law_240 rfl (lv_at hl 1 rfl) ?_
  refine lv_aload_n hx hb dL_law_241 rfl (lv_at hl 0 rfl) ?_
  refine lv_iload_n hx hb dL_law_242 rfl (lv_at hl 3 rfl) ?_
  refine lv_iconst (v := 1) hx hb dL_law_243 (by decide) ?_
  refine lv_iadd hx hb dL_law_244 ?_
  refine zt (z := 1) (by decide) ?_
  refine va_sld hx hb hZ hbl hbA hS (vp_in_iff.mpr (by decide)) dL_law_245 ?_
  refine lv_aload_n hx hb dL_law_246 rfl (lv_at hl 0 rfl) ?_
  refine lv_iload_n hx hb dL_law_247 rfl (lv_at hl 3 rfl) ?_
  refine lv_iconst (v := 2) hx hb dL_law_248 (by decide) ?_
  refine lv_iadd hx hb dL_law_249 ?_
  refine zt (z := 2) (by decide) ?_
  refine va_sld hx hb hZ hbl hbA hS (vp_in_iff.mpr (by decide)) dL_law_250 ?_
  refine lv_aload_n hx hb dL_law_251 rfl (lv_at hl 0 rfl) ?_
  refine lv_iload_n hx hb dL_law_252 rfl (lv_at hl 3 rfl) ?_
  refine lv_iconst (v := 3) hx hb dL_law_253 (by decide) ?_
  refine lv_iadd hx hb dL_law_254 ?_
  refine zt (z := 3) (by decide) ?_
  refine va_sld hx hb hZ hbl hbA hS (vp_in_iff.mpr (by decide)) dL_law_255 ?_
  refine lv_aload_n hx hb dL_law_256 rfl (lv_at hl 0 rfl) ?_
  refine lv_iload_n hx hb dL_law_257 rfl (lv_at hl 3 rfl) ?_
  refine lv_iconst (v := 4) hx hb dL_law_258 (by decide) ?_
  refine lv_iadd hx hb dL_law_259 ?_
  refine zt (z := 4) (by decide) ?_
  refine va_sld hx hb hZ hbl hbA hS (vp_in_iff.mpr (by decide)) dL_law_260 ?_
  refine lv_aload_n hx hb dL_law_261 rfl (lv_at hl 0 rfl) ?_
  refine lv_iload_n hx hb dL_law_262 rfl (lv_at hl 3 rfl) ?_
  refine lv_iconst (v := 5) hx hb dL_law_263 (by decide) ?_
  refine lv_iadd hx hb dL_law_264 ?_
  refine zt (z := 5) (by decide) ?_
  refine va_sld hx hb hZ hbl hbA hS (vp_in_iff.mpr (by decide)) dL_law_265 ?_
  refine zfi (wr := [(n0, .inr (9, [.ref m_told, .ref m_read, .ref m_now, .ref m_readNow, .ref m_kept, .int 0, .int 1, .int 0, .ref m_tape, .int 0, .ref m_refused, .int 0, .int (-1), .int 0, .int 0, .int 0, .int 0, .int (-1), .ref m_ownLetters, .ref m_flats, .int 0, .ref m_corner, .ref m_wayX, .ref m_wayY, .ref m_normal, .ref m_low, .ref m_high, .ref m_clear, .ref m_ways, .ref m_canBe, .ref m_lain, .int 0, .ref m_fewestBy, .ref m_sortOf, .int 0, .ref m_seenFlange, .ref m_seenLength])), (m_tape, .inl (g.2.1.1, 1200, .inl (fun _ => 0)))]) (va_runV (As := [.int (zs (1 : Int32).toNatClampNeg), .int (zs (2 : Int32).toNatClampNeg), .int (zs (3 : Int32).toNatClampNeg), .int (zs (4 : Int32).toNatClampNeg), .int (zs (5 : Int32).toNatClampNeg)]) (rest := []) ⟨hx, hb, hml, hown, hG⟩ (kX8_feed l g h0 (zs (1 : Int32).toNatClampNeg) (zs (2 : Int32).toNatClampNeg) (zs (3 : Int32).toNatClampNeg) (zs (4 : Int32).toNatClampNeg) (zs (5 : Int32).toNatClampNeg) xt xr xp xs xm xh xe xf pa dr xb (fun _ => 0) _) ⟨callB_of 5 hG (zGood g553) rfl rfl rfl (hG _ g202) (hG _ g550) hX8_feed ⟨Nat.le_of_ble_eq_true rfl, Nat.le_of_ble_eq_true rfl⟩, hG _ g551, hG _ g552⟩ (zpreV (va_recv hX.1 hP (ci := 8) (q0 := 0) rfl rfl) hX hP hD hS hA [0, 1, 2] rfl (by decide)) rfl rfl hl.1 rfl (lv_room (Nat.le_of_ble_eq_true rfl)) dL_law_266 ⟨Nat.le_of_ble_eq_true rfl, Nat.le_of_ble_eq_true rfl⟩) hP hD hS hA [0, 1, 2] [3, 4] rfl rfl (by decide) (by decide) (fun r1 _ H locs hp hP hD hS => ?_)
  refine W.cs (cells' := 75) (slots' := 18897) rfl rfl ?_
  have hq2 : r1 = 20 := hp
  subst hq2
  have hP : va_P g.1 vwCl [(n0, .inr (9, [.ref m_told, .ref m_read, .ref m_now, .ref m_readNow, .ref m_kept, .int 0, .int 1, .int 0, .ref m_tape, .int 0, .ref m_refused, .int 0, .int (-1), .int 0, .int 0, .int 0, .int 0, .int (-1), .ref m_ownLetters, .ref m_flats, .int 0, .ref m_corner, .ref m_wayX, .ref m_wayY, .ref m_normal, .ref m_low, .ref m_high, .ref m_clear, .ref m_ways, .ref m_canBe, .ref m_lain, .int 0, .ref m_fewestBy, .ref m_sortOf, .int 0, .ref m_seenFlange, .ref m_seenLength])), (m_tape, .inl (g.2.1.1, 1200, .inl (fun _ => 0)))] H := hP
  have hD : va_D A [(n0, .inr (9, [.ref m_told, .ref m_read, .ref m_now, .ref m_readNow, .ref m_kept, .int 0, .int 1, .int 0, .ref m_tape, .int 0, .ref m_refused, .int 0, .int (-1), .int 0, .int 0, .int 0, .int 0, .int (-1), .ref m_ownLetters, .ref m_flats, .int 0, .ref m_corner, .ref m_wayX, .ref m_wayY, .ref m_normal, .ref m_low, .ref m_high, .ref m_clear, .ref m_ways, .ref m_canBe, .ref m_lain, .int 0, .ref m_fewestBy, .ref m_sortOf, .int 0, .ref m_seenFlange, .ref m_seenLength])), (m_tape, .inl (g.2.1.1, 1200, .inl (fun _ => 0)))] := hD
  refine lv_aload_n hx hb dL_law_269 rfl (lv_at hl 2 rfl) ?_
  refine lv_aload_n hx hb dL_law_270 rfl (lv_at hl 0 rfl) ?_
  refine lv_iload_n hx hb dL_law_271 rfl (lv_at hl 3 rfl) ?_
  refine lv_iconst (v := 1) hx hb dL_law_272 (by decide) ?_
  refine lv_iadd hx hb dL_law_273 ?_
  refine zt (z := 1) (by decide) ?_
  refine va_sld hx hb hZ hbl hbA hS (vp_in_iff.mpr (by decide)) dL_law_274 ?_
  refine lv_aload_n hx hb dL_law_275 rfl (lv_at hl 0 rfl) ?_
  refine lv_iload_n hx hb dL_law_276 rfl (lv_at hl 3 rfl) ?_
  refine lv_iconst (v := 2) hx hb dL_law_277 (by decide) ?_
  refine lv_iadd hx hb dL_law_278 ?_
  refine zt (z := 2) (by decide) ?_
  refine va_sld hx hb hZ hbl hbA hS (vp_in_iff.mpr (by decide)) dL_law_279 ?_
  refine lv_aload_n hx hb dL_law_280 rfl (lv_at hl 0 rfl) ?_
  refine lv_iload_n hx hb dL_law_281 rfl (lv_at hl 3 rfl) ?_
  refine lv_iconst (v := 3) hx hb dL_law_282 (by decide) ?_
  refine lv_iadd hx hb dL_law_283 ?_
  refine zt (z := 3) (by decide) ?_
  refine va_sld hx hb hZ hbl hbA hS (vp_in_iff.mpr (by decide)) dL_law_284 ?_
  refine lv_aload_n hx hb dL_law_285 rfl (lv_at hl 0 rfl) ?_
  refine lv_iload_n hx hb dL_law_286 rfl (lv_at hl 3 rfl) ?_
  refine lv_iconst (v := 4) hx hb dL_law_287 (by decide) ?_
  refine lv_iadd hx hb dL_law_288 ?_
  refine zt (z := 4) (by decide) ?_
  refine va_sld hx hb hZ hbl hbA hS (vp_in_iff.mpr (by decide)) dL_law_289 ?_
  refine lv_aload_n hx hb dL_law_290 rfl (lv_at hl 0 rfl) ?_
  refine lv_iload_n hx hb dL_law_291 rfl (lv_at hl 3 rfl) ?_
  refine lv_iconst (v := 5) hx hb dL_law_292 (by decide) ?_
  refine lv_iadd hx hb dL_law_293 ?_
  refine zt (z := 5) (by decide) ?_
  refine va_sld hx hb hZ hbl hbA hS (vp_in_iff.mpr (by decide)) dL_law_294 ?_
  refine zfi (wr := []) (va_runV (As := [.int (zs (1 : Int32).toNatClampNeg), .int (zs (2 : Int32).toNatClampNeg), .int (zs (3 : Int32).toNatClampNeg), .int (zs (4 : Int32).toNatClampNeg), .int (zs (5 : Int32).toNatClampNeg)]) (rest := [.int 20]) ⟨hx, hb, hml, hown, hG⟩ (kX9_feed l g n0 (zs (1 : Int32).toNatClampNeg) (zs (2 : Int32).toNatClampNeg) (zs (3 : Int32).toNatClampNeg) (zs (4 : Int32).toNatClampNeg) (zs (5 : Int32).toNatClampNeg) m_told m_read m_now m_readNow m_kept m_tape m_refused m_ownLetters m_flats m_corner m_wayX m_wayY m_normal m_low m_high m_clear m_ways m_canBe m_lain m_fewestBy m_sortOf m_seenFlange m_seenLength (fun _ => 0) _) ⟨callB_of 5 hG (zGood g1533) rfl rfl rfl (hG _ g211) (hG _ g1530) hX9_feed ⟨Nat.le_of_ble_eq_true rfl, Nat.le_of_ble_eq_true rfl⟩, hG _ g1531, hG _ g1532⟩ (zpreV (va_recv hX.1 hP (ci := 9) (q0 := 0) rfl rfl) hX hP hD hS hA [0, 1] rfl (by decide)) rfl rfl hl.1 rfl (lv_room (Nat.le_of_ble_eq_true rfl)) dL_law_295 ⟨Nat.le_of_ble_eq_true rfl, Nat.le_of_ble_eq_true rfl⟩) hP hD hS hA [0, 1] [] rfl rfl (by decide) (by decide) (fun r3 _ H locs hp hP hD hS => ?_)
  refine W.cs (cells' := 75) (slots' := 18897) rfl rfl ?_
  have hq4 : r3 = 20 := hp
  subst hq4
  have hP : va_P g.1 vwCl [] H := hP
  have hD : va_D A [] := hD
  refine lv_icmp_eq (tgt := 1474) hx hb dL_law_298 (by decide) (fun c9 => ?_) (fun c9 => (c9 rfl).elim)
  exact lc_end C0 (Nat.le_of_ble_eq_true rfl) (Nat.le_of_ble_eq_true rfl) hS (lv_sub hl [0, 3] rfl)
theorem dL_law_303 : decode cL_law 303 = .ok (.aload_n 1, 1) := by decide +kernel
theorem dL_law_304 : decode cL_law 304 = .ok (.aload_n 0, 1) := by decide +kernel
theorem dL_law_305 : decode cL_law 305 = .ok (.iload_n 3, 1) := by decide +kernel
theorem dL_law_306 : decode cL_law 306 = .ok (.iconst 1, 1) := by decide +kernel
theorem dL_law_307 : decode cL_law 307 = .ok (.iadd, 1) := by decide +kernel
theorem dL_law_308 : decode cL_law 308 = .ok (.iaload, 1) := by decide +kernel
theorem dL_law_309 : decode cL_law 309 = .ok (.invokevirtual 18, 3) := by decide +kernel
theorem dL_law_312 : decode cL_law 312 = .ok (.aload_n 2, 1) := by decide +kernel
theorem dL_law_313 : decode cL_law 313 = .ok (.aload_n 0, 1) := by decide +kernel
theorem dL_law_314 : decode cL_law 314 = .ok (.iload_n 3, 1) := by decide +kernel
theorem dL_law_315 : decode cL_law 315 = .ok (.iconst 1, 1) := by decide +kernel
theorem dL_law_316 : decode cL_law 316 = .ok (.iadd, 1) := by decide +kernel
theorem dL_law_317 : decode cL_law 317 = .ok (.iaload, 1) := by decide +kernel
theorem dL_law_318 : decode cL_law 318 = .ok (.invokevirtual 22, 3) := by decide +kernel
theorem dL_law_321 : decode cL_law 321 = .ok (.if_icmp .eq 1153, 3) := by decide +kernel
set_option maxHeartbeats 4000000 in
set_option maxRecDepth 100000 in
theorem lc_1 {p : Program} {l : Launch} {e : Env} {s : State} {m : MethodId} {below : List Frame} {meth : Method} {c : Code} {b : Nat} {zs : Nat → Int32} {g : zL} {A : Nat → Prop} (C0 : zLw p s m meth c b zs g A) {h0 xt xr xp xs xm xh xe xf pa dr xb n0 m_told m_read m_now m_readNow m_kept m_tape m_refused m_ownLetters m_flats m_corner m_wayX m_wayY m_normal m_low m_high m_clear m_ways m_canBe m_lain m_fewestBy m_sortOf m_seenFlange m_seenLength : Nat} {H : Heap} {locs : List Loc} {ls : Array Slot} (hP : va_P g.1 vwCl [(h0, .inr (8, [.ref xt, .ref xr, .ref xp, .ref xs, .ref xm, .ref xh, .ref xe, .ref xf, .ref pa, .ref dr, .int 0, .int 1, .int 0, .int 0])), (xt, .inr (7, [.ref xb, .int 0])), (xf, .inl (g.2.1.1, 6, .inl (fun _ => 0))), (n0, .inr (9, [.ref m_told, .ref m_read, .ref m_now, .ref m_readNow, .ref m_kept, .int 0, .int 1, .int 0, .ref m_tape, .int 0, .ref m_refused, .int 0, .int (-1), .int 0, .int 0, .int 0, .int 0, .int (-1), .ref m_ownLetters, .ref m_flats, .int 0, .ref m_corner, .ref m_wayX, .ref m_wayY, .ref m_normal, .ref m_low, .ref m_high, .ref m_clear, .ref m_ways, .ref m_canBe, .ref m_lain, .int 0, .ref m_fewestBy, .ref m_sortOf, .int 0, .ref m_seenFlange, .ref m_seenLength])), (m_refused, .inl (g.2.1.1, 6, .inl (fun _ => 0)))] H) (hD : va_D A [(h0, .inr (8, [.ref xt, .ref xr, .ref xp, .ref xs, .ref xm, .ref xh, .ref xe, .ref xf, .ref pa, .ref dr, .int 0, .int 1, .int 0, .int 0])), (xt, .inr (7, [.ref xb, .int 0])), (xf, .inl (g.2.1.1, 6, .inl (fun _ => 0))), (n0, .inr (9, [.ref m_told, .ref m_read, .ref m_now, .ref m_readNow, .ref m_kept, .int 0, .int 1, .int 0, .ref m_tape, .int 0, .ref m_refused, .int 0, .int (-1), .int 0, .int 0, .int 0, .int 0, .int (-1), .ref m_ownLetters, .ref m_flats, .int 0, .ref m_corner, .ref m_wayX, .ref m_wayY, .ref m_normal, .ref m_low, .ref m_high, .ref m_clear, .ref m_ways, .ref m_canBe, .ref m_lain, .int 0, .ref m_fewestBy, .ref m_sortOf, .int 0, .ref m_seenFlange, .ref m_seenLength])), (m_refused, .inl (g.2.1.1, 6, .inl (fun _ => 0)))]) (hS : va_S A s.heap H locs) (hl : lv_has ls 4 [(0, .ref b), (1, .ref h0), (2, .ref n0), (3, .int 0)]) : W p l e room_1 s m #[Value.ref b] below meth c H locs 75 18897 (lw_Z below #[Value.ref b] s) (F0 m 303 ls []) := by
  obtain ⟨hx, hb, hr, hml, hown, hG, hlocks, hX, hA, hA2, hZ, hbl, hbA⟩ := id C0
  refine lv_aload_n hx hb dL_law_303 rfl (lv_at hl 1 rfl) ?_
  refine lv_aload_n hx hb dL_law_304 rfl (lv_at hl 0 rfl) ?_
  refine lv_iload_n hx hb dL_law_305 rfl (lv_at hl 3 rfl) ?_
  refine lv_iconst (v := 1) hx hb dL_law_306 (by decide) ?_
  refine lv_iadd hx hb dL_law_307 ?_
  refine zt (z := 1) (by decide) ?_
  refine va_sld hx hb hZ hbl hbA hS (vp_in_iff.mpr (by decide)) dL_law_308 ?_
  refine zfi (wr := [(n0, .inr (9, [.ref m_told, .ref m_read, .ref m_now, .ref m_readNow, .ref m_kept, .int 0, .int 1, .int 0, .ref m_tape, .int 0, .ref m_refused, .int 0, .int (-1), .int 0, .int 0, .int 0, .int 0, .int (-1), .ref m_ownLetters, .ref m_flats, .int 0, .ref m_corner, .ref m_wayX, .ref m_wayY, .ref m_normal, .ref m_low, .ref m_high, .ref m_clear, .ref m_ways, .ref m_canBe, .ref m_lain, .int 0, .ref m_fewestBy, .ref m_sortOf, .int 0, .ref m_seenFlange, .ref m_seenLength])), (m_refused, .inl (g.2.1.1, 6, .inl (fun _ => 0)))]) (va_runV (As := [.int (zs (1 : Int32).toNatClampNeg)]) (rest := []) ⟨hx, hb, hml, hown, hG⟩ (kX8_end l g h0 (zs (1 : Int32).toNatClampNeg) xt xr xp xs xm xh xe xf pa dr xb (fun _ => 0) _) ⟨callB_of 1 hG (zGood g569) rfl rfl rfl (hG _ g202) (hG _ g566) hX8_end ⟨Nat.le_of_ble_eq_true rfl, Nat.le_of_ble_eq_true rfl⟩, hG _ g567, hG _ g568⟩ (zpreV (va_recv hX.1 hP (ci := 8) (q0 := 0) rfl rfl) hX hP hD hS hA [0, 1, 2] rfl (by decide)) rfl rfl hl.1 rfl (lv_room (Nat.le_of_ble_eq_true rfl)) dL_law_309 ⟨Nat.le_of_ble_eq_true rfl, Nat.le_of_ble_eq_true rfl⟩) hP hD hS hA [0, 1, 2] [3, 4] rfl rfl (by decide) (by decide) (fun r1 _ H locs hp hP hD hS => ?_)
  refine W.cs (cells' := 75) (slots' := 18897) rfl rfl ?_
  have hq2 : r1 = sp_end (zs (1 : Int32).toNatClampNeg) := hp
  subst hq2
  have hP : va_P g.1 vwCl [(n0, .inr (9, [.ref m_told, .ref m_read, .ref m_now, .ref m_readNow, .ref m_kept, .int 0, .int 1, .int 0, .ref m_tape, .int 0, .ref m_refused, .int 0, .int (-1), .int 0, .int 0, .int 0, .int 0, .int (-1), .ref m_ownLetters, .ref m_flats, .int 0, .ref m_corner, .ref m_wayX, .ref m_wayY, .ref m_normal, .ref m_low, .ref m_high, .ref m_clear, .ref m_ways, .ref m_canBe, .ref m_lain, .int 0, .ref m_fewestBy, .ref m_sortOf, .int 0, .ref m_seenFlange, .ref m_seenLength])), (m_refused, .inl (g.2.1.1, 6, .inl (fun _ => 0)))] H := hP
  have hD : va_D A [(n0, .inr (9, [.ref m_told, .ref m_read, .ref m_now, .ref m_readNow, .ref m_kept, .int 0, .int 1, .int 0, .ref m_tape, .int 0, .ref m_refused, .int 0, .int (-1), .int 0, .int 0, .int 0, .int 0, .int (-1), .ref m_ownLetters, .ref m_flats, .int 0, .ref m_corner, .ref m_wayX, .ref m_wayY, .ref m_normal, .ref m_low, .ref m_high, .ref m_clear, .ref m_ways, .ref m_canBe, .ref m_lain, .int 0, .ref m_fewestBy, .ref m_sortOf, .int 0, .ref m_seenFlange, .ref m_seenLength])), (m_refused, .inl (g.2.1.1, 6, .inl (fun _ => 0)))] := hD
  refine lv_aload_n hx hb dL_law_312 rfl (lv_at hl 2 rfl) ?_
  refine lv_aload_n hx hb dL_law_313 rfl (lv_at hl 0 rfl) ?_
  refine lv_iload_n hx hb dL_law_314 rfl (lv_at hl 3 rfl) ?_
  refine lv_iconst (v := 1) hx hb dL_law_315 (by decide) ?_
  refine lv_iadd hx hb dL_law_316 ?_
  refine zt (z := 1) (by decide) ?_
  refine va_sld hx hb hZ hbl hbA hS (vp_in_iff.mpr (by decide)) dL_law_317 ?_
  refine zfi (wr := []) (va_runV (As := [.int (zs (1 : Int32).toNatClampNeg)]) (rest := [.int (sp_end (zs (1 : Int32).toNatClampNeg))]) ⟨hx, hb, hml, hown, hG⟩ (kX9_end l g n0 (zs (1 : Int32).toNatClampNeg) m_told m_read m_now m_readNow m_kept m_tape m_refused m_ownLetters m_flats m_corner m_wayX m_wayY m_normal m_low m_high m_clear m_ways m_canBe m_lain m_fewestBy m_sortOf m_seenFlange m_seenLength (fun _ => 0) _) ⟨callB_of 1 hG (zGood g1545) rfl rfl rfl (hG _ g211) (hG _ g1542) hX9_end ⟨Nat.le_of_ble_eq_true rfl, Nat.le_of_ble_eq_true rfl⟩, hG _ g1543, hG _ g1544⟩ (zpreV (va_recv hX.1 hP (ci := 9) (q0 := 0) rfl rfl) hX hP hD hS hA [0, 1] rfl (by decide)) rfl rfl hl.1 rfl (lv_room (Nat.le_of_ble_eq_true rfl)) dL_law_318 ⟨Nat.le_of_ble_eq_true rfl, Nat.le_of_ble_eq_true rfl⟩) hP hD hS hA [0, 1] [] rfl rfl (by decide) (by decide) (fun r3 _ H locs hp hP hD hS => ?_)
  refine W.cs (cells' := 75) (slots' := 18897) rfl rfl ?_
  have hq4 : r3 = sp_end (zs (1 : Int32).toNatClampNeg) := hp
  subst hq4
  have hP : va_P g.1 vwCl [] H := hP
  have hD : va_D A [] := hD
  refine lv_icmp_eq (tgt := 1474) hx hb dL_law_321 (by decide) (fun c9 => ?_) (fun c9 => (c9 rfl).elim)
  exact lc_end C0 (Nat.le_of_ble_eq_true rfl) (Nat.le_of_ble_eq_true rfl) hS (lv_sub hl [0, 3] rfl)
theorem dL_law_326 : decode cL_law 326 = .ok (.aload_n 1, 1) := by decide +kernel
theorem dL_law_327 : decode cL_law 327 = .ok (.invokevirtual 23, 3) := by decide +kernel
theorem dL_law_330 : decode cL_law 330 = .ok (.aload_n 2, 1) := by decide +kernel
theorem dL_law_331 : decode cL_law 331 = .ok (.invokevirtual 27, 3) := by decide +kernel
theorem dL_law_334 : decode cL_law 334 = .ok (.if_icmp .eq 1140, 3) := by decide +kernel
set_option maxHeartbeats 4000000 in
set_option maxRecDepth 100000 in
theorem lc_2 {p : Program} {l : Launch} {e : Env} {s : State} {m : MethodId} {below : List Frame} {meth : Method} {c : Code} {b : Nat} {zs : Nat → Int32} {g : zL} {A : Nat → Prop} (C0 : zLw p s m meth c b zs g A) {h0 xt xr xp xs xm xh xe xf pa dr xb d_toolWidth d_told d_name d_parent d_side d_from d_width d_height d_radius d_toolSet n0 m_told m_read m_now m_readNow m_kept m_tape m_refused m_ownLetters m_flats m_corner m_wayX m_wayY m_normal m_low m_high m_clear m_ways m_canBe m_lain m_fewestBy m_sortOf m_seenFlange m_seenLength : Nat} {H : Heap} {locs : List Loc} {ls : Array Slot} (hP : va_P g.1 vwCl [(h0, .inr (8, [.ref xt, .ref xr, .ref xp, .ref xs, .ref xm, .ref xh, .ref xe, .ref xf, .ref pa, .ref dr, .int 0, .int 1, .int 0, .int 0])), (xt, .inr (7, [.ref xb, .int 0])), (xr, .inr (6, [.ref xt, .null, .int 0, .int 0, .int 0, .int 0, .int (-1)])), (xf, .inl (g.2.1.1, 6, .inl (fun _ => 0))), (dr, .inr (4, [.int 0, .int 0, .int 0, .int 0, .int 0, .int 0, .ref d_toolWidth, .ref d_told, .ref d_name, .ref d_parent, .ref d_side, .ref d_from, .ref d_width, .ref d_height, .ref d_radius, .ref d_toolSet])), (d_told, .inl (g.2.1.1, 10, .inl (fun _ => 0))), (d_width, .inl (g.2.1.1, 9, .inl (fun _ => 0))), (d_height, .inl (g.2.1.1, 9, .inl (fun _ => 0))), (n0, .inr (9, [.ref m_told, .ref m_read, .ref m_now, .ref m_readNow, .ref m_kept, .int 0, .int 1, .int 0, .ref m_tape, .int 0, .ref m_refused, .int 0, .int (-1), .int 0, .int 0, .int 0, .int 0, .int (-1), .ref m_ownLetters, .ref m_flats, .int 0, .ref m_corner, .ref m_wayX, .ref m_wayY, .ref m_normal, .ref m_low, .ref m_high, .ref m_clear, .ref m_ways, .ref m_canBe, .ref m_lain, .int 0, .ref m_fewestBy, .ref m_sortOf, .int 0, .ref m_seenFlange, .ref m_seenLength])), (m_read, .inl (g.2.1.1, 103, .inl (fun _ => 0))), (m_readNow, .inl (g.2.1.1, 21, .inl (fun _ => 0))), (m_refused, .inl (g.2.1.1, 6, .inl (fun _ => 0)))] H) (hD : va_D A [(h0, .inr (8, [.ref xt, .ref xr, .ref xp, .ref xs, .ref xm, .ref xh, .ref xe, .ref xf, .ref pa, .ref dr, .int 0, .int 1, .int 0, .int 0])), (xt, .inr (7, [.ref xb, .int 0])), (xr, .inr (6, [.ref xt, .null, .int 0, .int 0, .int 0, .int 0, .int (-1)])), (xf, .inl (g.2.1.1, 6, .inl (fun _ => 0))), (dr, .inr (4, [.int 0, .int 0, .int 0, .int 0, .int 0, .int 0, .ref d_toolWidth, .ref d_told, .ref d_name, .ref d_parent, .ref d_side, .ref d_from, .ref d_width, .ref d_height, .ref d_radius, .ref d_toolSet])), (d_told, .inl (g.2.1.1, 10, .inl (fun _ => 0))), (d_width, .inl (g.2.1.1, 9, .inl (fun _ => 0))), (d_height, .inl (g.2.1.1, 9, .inl (fun _ => 0))), (n0, .inr (9, [.ref m_told, .ref m_read, .ref m_now, .ref m_readNow, .ref m_kept, .int 0, .int 1, .int 0, .ref m_tape, .int 0, .ref m_refused, .int 0, .int (-1), .int 0, .int 0, .int 0, .int 0, .int (-1), .ref m_ownLetters, .ref m_flats, .int 0, .ref m_corner, .ref m_wayX, .ref m_wayY, .ref m_normal, .ref m_low, .ref m_high, .ref m_clear, .ref m_ways, .ref m_canBe, .ref m_lain, .int 0, .ref m_fewestBy, .ref m_sortOf, .int 0, .ref m_seenFlange, .ref m_seenLength])), (m_read, .inl (g.2.1.1, 103, .inl (fun _ => 0))), (m_readNow, .inl (g.2.1.1, 21, .inl (fun _ => 0))), (m_refused, .inl (g.2.1.1, 6, .inl (fun _ => 0)))]) (hS : va_S A s.heap H locs) (hl : lv_has ls 4 [(0, .ref b), (1, .ref h0), (2, .ref n0), (3, .int 0)]) : W p l e room_1 s m #[Value.ref b] below meth c H locs 75 18897 (lw_Z below #[Value.ref b] s) (F0 m 326 ls []) := by
  obtain ⟨hx, hb, hr, hml, hown, hG, hlocks, hX, hA, hA2, hZ, hbl, hbA⟩ := id C0
  refine lv_aload_n hx hb dL_law_326 rfl (lv_at hl 1 rfl) ?_
  refine zfi (wr := [(n0, .inr (9, [.ref m_told, .ref m_read, .ref m_now, .ref m_readNow, .ref m_kept, .int 0, .int 1, .int 0, .ref m_tape, .int 0, .ref m_refused, .int 0, .int (-1), .int 0, .int 0, .int 0, .int 0, .int (-1), .ref m_ownLetters, .ref m_flats, .int 0, .ref m_corner, .ref m_wayX, .ref m_wayY, .ref m_normal, .ref m_low, .ref m_high, .ref m_clear, .ref m_ways, .ref m_canBe, .ref m_lain, .int 0, .ref m_fewestBy, .ref m_sortOf, .int 0, .ref m_seenFlange, .ref m_seenLength])), (m_read, .inl (g.2.1.1, 103, .inl (fun _ => 0))), (m_readNow, .inl (g.2.1.1, 21, .inl (fun _ => 0))), (m_refused, .inl (g.2.1.1, 6, .inl (fun _ => 0)))]) (va_runV (As := []) (rest := []) ⟨hx, hb, hml, hown, hG⟩ (kX8_part l g h0 xt xr xp xs xm xh xe xf pa dr xb d_toolWidth d_told d_name d_parent d_side d_from d_width d_height d_radius d_toolSet (fun _ => 0) (fun _ => 0) (fun _ => 0) (fun _ => 0) _) ⟨callB_of 0 hG (zGood g577) rfl rfl rfl (hG _ g202) (hG _ g574) hX8_part ⟨Nat.le_of_ble_eq_true rfl, Nat.le_of_ble_eq_true rfl⟩, hG _ g575, hG _ g576⟩ (zpreV (va_recv hX.1 hP (ci := 8) (q0 := 0) rfl rfl) hX hP hD hS hA [0, 1, 2, 4, 5, 6, 7, 3] rfl (by decide)) rfl rfl hl.1 rfl (lv_room (Nat.le_of_ble_eq_true rfl)) dL_law_327 ⟨Nat.le_of_ble_eq_true rfl, Nat.le_of_ble_eq_true rfl⟩) hP hD hS hA [0, 1, 2, 4, 5, 6, 7, 3] [8, 9, 10, 11] rfl rfl (by decide) (by decide) (fun r1 _ H locs hp hP hD hS => ?_)
  refine W.cs (cells' := 75) (slots' := 18897) rfl rfl ?_
  have hq2 : r1 = (-1) := hp
  subst hq2
  have hP : va_P g.1 vwCl [(n0, .inr (9, [.ref m_told, .ref m_read, .ref m_now, .ref m_readNow, .ref m_kept, .int 0, .int 1, .int 0, .ref m_tape, .int 0, .ref m_refused, .int 0, .int (-1), .int 0, .int 0, .int 0, .int 0, .int (-1), .ref m_ownLetters, .ref m_flats, .int 0, .ref m_corner, .ref m_wayX, .ref m_wayY, .ref m_normal, .ref m_low, .ref m_high, .ref m_clear, .ref m_ways, .ref m_canBe, .ref m_lain, .int 0, .ref m_fewestBy, .ref m_sortOf, .int 0, .ref m_seenFlange, .ref m_seenLength])), (m_read, .inl (g.2.1.1, 103, .inl (fun _ => 0))), (m_readNow, .inl (g.2.1.1, 21, .inl (fun _ => 0))), (m_refused, .inl (g.2.1.1, 6, .inl (fun _ => 0)))] H := hP
  have hD : va_D A [(n0, .inr (9, [.ref m_told, .ref m_read, .ref m_now, .ref m_readNow, .ref m_kept, .int 0, .int 1, .int 0, .ref m_tape, .int 0, .ref m_refused, .int 0, .int (-1), .int 0, .int 0, .int 0, .int 0, .int (-1), .ref m_ownLetters, .ref m_flats, .int 0, .ref m_corner, .ref m_wayX, .ref m_wayY, .ref m_normal, .ref m_low, .ref m_high, .ref m_clear, .ref m_ways, .ref m_canBe, .ref m_lain, .int 0, .ref m_fewestBy, .ref m_sortOf, .int 0, .ref m_seenFlange, .ref m_seenLength])), (m_read, .inl (g.2.1.1, 103, .inl (fun _ => 0))), (m_readNow, .inl (g.2.1.1, 21, .inl (fun _ => 0))), (m_refused, .inl (g.2.1.1, 6, .inl (fun _ => 0)))] := hD
  refine lv_aload_n hx hb dL_law_330 rfl (lv_at hl 2 rfl) ?_
  refine zfi (wr := []) (va_runV (As := []) (rest := [.int (-1)]) ⟨hx, hb, hml, hown, hG⟩ (kX9_part l g n0 m_told m_read m_now m_readNow m_kept m_tape m_refused m_ownLetters m_flats m_corner m_wayX m_wayY m_normal m_low m_high m_clear m_ways m_canBe m_lain m_fewestBy m_sortOf m_seenFlange m_seenLength (fun _ => 0) (fun _ => 0) (fun _ => 0) _) ⟨callB_of 0 hG (zGood g1553) rfl rfl rfl (hG _ g211) (hG _ g1550) hX9_part ⟨Nat.le_of_ble_eq_true rfl, Nat.le_of_ble_eq_true rfl⟩, hG _ g1551, hG _ g1552⟩ (zpreV (va_recv hX.1 hP (ci := 9) (q0 := 0) rfl rfl) hX hP hD hS hA [0, 1, 2, 3] rfl (by decide)) rfl rfl hl.1 rfl (lv_room (Nat.le_of_ble_eq_true rfl)) dL_law_331 ⟨Nat.le_of_ble_eq_true rfl, Nat.le_of_ble_eq_true rfl⟩) hP hD hS hA [0, 1, 2, 3] [] rfl rfl (by decide) (by decide) (fun r3 _ H locs hp hP hD hS => ?_)
  refine W.cs (cells' := 75) (slots' := 18897) rfl rfl ?_
  have hq4 : r3 = (-1) := hp
  subst hq4
  have hP : va_P g.1 vwCl [] H := hP
  have hD : va_D A [] := hD
  refine lv_icmp_eq (tgt := 1474) hx hb dL_law_334 (by decide) (fun c9 => ?_) (fun c9 => (c9 rfl).elim)
  exact lc_end C0 (Nat.le_of_ble_eq_true rfl) (Nat.le_of_ble_eq_true rfl) hS (lv_sub hl [0, 3] rfl)
theorem dL_law_339 : decode cL_law 339 = .ok (.aload_n 1, 1) := by decide +kernel
theorem dL_law_340 : decode cL_law 340 = .ok (.aload_n 0, 1) := by decide +kernel
theorem dL_law_341 : decode cL_law 341 = .ok (.iload_n 3, 1) := by decide +kernel
theorem dL_law_342 : decode cL_law 342 = .ok (.iconst 1, 1) := by decide +kernel
theorem dL_law_343 : decode cL_law 343 = .ok (.iadd, 1) := by decide +kernel
theorem dL_law_344 : decode cL_law 344 = .ok (.iaload, 1) := by decide +kernel
theorem dL_law_345 : decode cL_law 345 = .ok (.invokevirtual 28, 3) := by decide +kernel
theorem dL_law_348 : decode cL_law 348 = .ok (.aload_n 2, 1) := by decide +kernel
theorem dL_law_349 : decode cL_law 349 = .ok (.aload_n 0, 1) := by decide +kernel
theorem dL_law_350 : decode cL_law 350 = .ok (.iload_n 3, 1) := by decide +kernel
theorem dL_law_351 : decode cL_law 351 = .ok (.iconst 1, 1) := by decide +kernel
theorem dL_law_352 : decode cL_law 352 = .ok (.iadd, 1) := by decide +kernel
theorem dL_law_353 : decode cL_law 353 = .ok (.iaload, 1) := by decide +kernel
theorem dL_law_354 : decode cL_law 354 = .ok (.invokevirtual 32, 3) := by decide +kernel
theorem dL_law_357 : decode cL_law 357 = .ok (.if_icmp .eq 1117, 3) := by decide +kernel
set_option maxHeartbeats 4000000 in
set_option maxRecDepth 100000 in
theorem lc_3 {p : Program} {l : Launch} {e : Env} {s : State} {m : MethodId} {below : List Frame} {meth : Method} {c : Code} {b : Nat} {zs : Nat → Int32} {g : zL} {A : Nat → Prop} (C0 : zLw p s m meth c b zs g A) {h0 xt xr xp xs xm xh xe xf pa dr n0 m_told m_read m_now m_readNow m_kept m_tape m_refused m_ownLetters m_flats m_corner m_wayX m_wayY m_normal m_low m_high m_clear m_ways m_canBe m_lain m_fewestBy m_sortOf m_seenFlange m_seenLength : Nat} {H : Heap} {locs : List Loc} {ls : Array Slot} (hP : va_P g.1 vwCl [(h0, .inr (8, [.ref xt, .ref xr, .ref xp, .ref xs, .ref xm, .ref xh, .ref xe, .ref xf, .ref pa, .ref dr, .int 0, .int 1, .int 0, .int 0])), (xr, .inr (6, [.ref xt, .null, .int 0, .int 0, .int 0, .int 0, .int (-1)])), (n0, .inr (9, [.ref m_told, .ref m_read, .ref m_now, .ref m_readNow, .ref m_kept, .int 0, .int 1, .int 0, .ref m_tape, .int 0, .ref m_refused, .int 0, .int (-1), .int 0, .int 0, .int 0, .int 0, .int (-1), .ref m_ownLetters, .ref m_flats, .int 0, .ref m_corner, .ref m_wayX, .ref m_wayY, .ref m_normal, .ref m_low, .ref m_high, .ref m_clear, .ref m_ways, .ref m_canBe, .ref m_lain, .int 0, .ref m_fewestBy, .ref m_sortOf, .int 0, .ref m_seenFlange, .ref m_seenLength]))] H) (hD : va_D A [(h0, .inr (8, [.ref xt, .ref xr, .ref xp, .ref xs, .ref xm, .ref xh, .ref xe, .ref xf, .ref pa, .ref dr, .int 0, .int 1, .int 0, .int 0])), (xr, .inr (6, [.ref xt, .null, .int 0, .int 0, .int 0, .int 0, .int (-1)])), (n0, .inr (9, [.ref m_told, .ref m_read, .ref m_now, .ref m_readNow, .ref m_kept, .int 0, .int 1, .int 0, .ref m_tape, .int 0, .ref m_refused, .int 0, .int (-1), .int 0, .int 0, .int 0, .int 0, .int (-1), .ref m_ownLetters, .ref m_flats, .int 0, .ref m_corner, .ref m_wayX, .ref m_wayY, .ref m_normal, .ref m_low, .ref m_high, .ref m_clear, .ref m_ways, .ref m_canBe, .ref m_lain, .int 0, .ref m_fewestBy, .ref m_sortOf, .int 0, .ref m_seenFlange, .ref m_seenLength]))]) (hS : va_S A s.heap H locs) (hl : lv_has ls 4 [(0, .ref b), (1, .ref h0), (2, .ref n0), (3, .int 0)]) : W p l e room_1 s m #[Value.ref b] below meth c H locs 75 18897 (lw_Z below #[Value.ref b] s) (F0 m 339 ls []) := by
  obtain ⟨hx, hb, hr, hml, hown, hG, hlocks, hX, hA, hA2, hZ, hbl, hbA⟩ := id C0
  refine lv_aload_n hx hb dL_law_339 rfl (lv_at hl 1 rfl) ?_
  refine lv_aload_n hx hb dL_law_340 rfl (lv_at hl 0 rfl) ?_
  refine lv_iload_n hx hb dL_law_341 rfl (lv_at hl 3 rfl) ?_
  refine lv_iconst (v := 1) hx hb dL_law_342 (by decide) ?_
  refine lv_iadd hx hb dL_law_343 ?_
  refine zt (z := 1) (by decide) ?_
  refine va_sld hx hb hZ hbl hbA hS (vp_in_iff.mpr (by decide)) dL_law_344 ?_
  refine zfi (wr := [(n0, .inr (9, [.ref m_told, .ref m_read, .ref m_now, .ref m_readNow, .ref m_kept, .int 0, .int 1, .int 0, .ref m_tape, .int 0, .ref m_refused, .int 0, .int (-1), .int 0, .int 0, .int 0, .int 0, .int (-1), .ref m_ownLetters, .ref m_flats, .int 0, .ref m_corner, .ref m_wayX, .ref m_wayY, .ref m_normal, .ref m_low, .ref m_high, .ref m_clear, .ref m_ways, .ref m_canBe, .ref m_lain, .int 0, .ref m_fewestBy, .ref m_sortOf, .int 0, .ref m_seenFlange, .ref m_seenLength]))]) (va_runV (As := [.int (zs (1 : Int32).toNatClampNeg)]) (rest := []) ⟨hx, hb, hml, hown, hG⟩ (kX8_fault l g h0 (zs (1 : Int32).toNatClampNeg) xt xr xp xs xm xh xe xf pa dr _) ⟨callB_of 1 hG (zGood g801) rfl rfl rfl (hG _ g202) (hG _ g798) hX8_fault ⟨Nat.le_of_ble_eq_true rfl, Nat.le_of_ble_eq_true rfl⟩, hG _ g799, hG _ g800⟩ (zpreV (va_recv hX.1 hP (ci := 8) (q0 := 0) rfl rfl) hX hP hD hS hA [0, 1] rfl (by decide)) rfl rfl hl.1 rfl (lv_room (Nat.le_of_ble_eq_true rfl)) dL_law_345 ⟨Nat.le_of_ble_eq_true rfl, Nat.le_of_ble_eq_true rfl⟩) hP hD hS hA [0, 1] [2] rfl rfl (by decide) (by decide) (fun r1 _ H locs hp hP hD hS => ?_)
  refine W.cs (cells' := 75) (slots' := 18897) rfl rfl ?_
  have hq2 : r1 = sp_fault (zs (1 : Int32).toNatClampNeg) := hp
  subst hq2
  have hP : va_P g.1 vwCl [(n0, .inr (9, [.ref m_told, .ref m_read, .ref m_now, .ref m_readNow, .ref m_kept, .int 0, .int 1, .int 0, .ref m_tape, .int 0, .ref m_refused, .int 0, .int (-1), .int 0, .int 0, .int 0, .int 0, .int (-1), .ref m_ownLetters, .ref m_flats, .int 0, .ref m_corner, .ref m_wayX, .ref m_wayY, .ref m_normal, .ref m_low, .ref m_high, .ref m_clear, .ref m_ways, .ref m_canBe, .ref m_lain, .int 0, .ref m_fewestBy, .ref m_sortOf, .int 0, .ref m_seenFlange, .ref m_seenLength]))] H := hP
  have hD : va_D A [(n0, .inr (9, [.ref m_told, .ref m_read, .ref m_now, .ref m_readNow, .ref m_kept, .int 0, .int 1, .int 0, .ref m_tape, .int 0, .ref m_refused, .int 0, .int (-1), .int 0, .int 0, .int 0, .int 0, .int (-1), .ref m_ownLetters, .ref m_flats, .int 0, .ref m_corner, .ref m_wayX, .ref m_wayY, .ref m_normal, .ref m_low, .ref m_high, .ref m_clear, .ref m_ways, .ref m_canBe, .ref m_lain, .int 0, .ref m_fewestBy, .ref m_sortOf, .int 0, .ref m_seenFlange, .ref m_seenLength]))] := hD
  refine lv_aload_n hx hb dL_law_348 rfl (lv_at hl 2 rfl) ?_
  refine lv_aload_n hx hb dL_law_349 rfl (lv_at hl 0 rfl) ?_
  refine lv_iload_n hx hb dL_law_350 rfl (lv_at hl 3 rfl) ?_
  refine lv_iconst (v := 1) hx hb dL_law_351 (by decide) ?_
  refine lv_iadd hx hb dL_law_352 ?_
  refine zt (z := 1) (by decide) ?_
  refine va_sld hx hb hZ hbl hbA hS (vp_in_iff.mpr (by decide)) dL_law_353 ?_
  refine zfi (wr := []) (va_runV (As := [.int (zs (1 : Int32).toNatClampNeg)]) (rest := [.int (sp_fault (zs (1 : Int32).toNatClampNeg))]) ⟨hx, hb, hml, hown, hG⟩ (kX9_fault l g n0 (zs (1 : Int32).toNatClampNeg) m_told m_read m_now m_readNow m_kept m_tape m_refused m_ownLetters m_flats m_corner m_wayX m_wayY m_normal m_low m_high m_clear m_ways m_canBe m_lain m_fewestBy m_sortOf m_seenFlange m_seenLength _) ⟨callB_of 1 hG (zGood g1649) rfl rfl rfl (hG _ g211) (hG _ g1646) hX9_fault ⟨Nat.le_of_ble_eq_true rfl, Nat.le_of_ble_eq_true rfl⟩, hG _ g1647, hG _ g1648⟩ (zpreV (va_recv hX.1 hP (ci := 9) (q0 := 0) rfl rfl) hX hP hD hS hA [0] rfl (by decide)) rfl rfl hl.1 rfl (lv_room (Nat.le_of_ble_eq_true rfl)) dL_law_354 ⟨Nat.le_of_ble_eq_true rfl, Nat.le_of_ble_eq_true rfl⟩) hP hD hS hA [0] [] rfl rfl (by decide) (by decide) (fun r3 _ H locs hp hP hD hS => ?_)
  refine W.cs (cells' := 75) (slots' := 18897) rfl rfl ?_
  have hq4 : r3 = sp_fault (zs (1 : Int32).toNatClampNeg) := hp
  subst hq4
  have hP : va_P g.1 vwCl [] H := hP
  have hD : va_D A [] := hD
  refine lv_icmp_eq (tgt := 1474) hx hb dL_law_357 (by decide) (fun c9 => ?_) (fun c9 => (c9 rfl).elim)
  exact lc_end C0 (Nat.le_of_ble_eq_true rfl) (Nat.le_of_ble_eq_true rfl) hS (lv_sub hl [0, 3] rfl)
theorem dL_law_362 : decode cL_law 362 = .ok (.aload_n 1, 1) := by decide +kernel
theorem dL_law_363 : decode cL_law 363 = .ok (.aload_n 0, 1) := by decide +kernel
theorem dL_law_364 : decode cL_law 364 = .ok (.iload_n 3, 1) := by decide +kernel
theorem dL_law_365 : decode cL_law 365 = .ok (.iconst 1, 1) := by decide +kernel
theorem dL_law_366 : decode cL_law 366 = .ok (.iadd, 1) := by decide +kernel
theorem dL_law_367 : decode cL_law 367 = .ok (.iaload, 1) := by decide +kernel
theorem dL_law_368 : decode cL_law 368 = .ok (.invokevirtual 33, 3) := by decide +kernel
theorem dL_law_371 : decode cL_law 371 = .ok (.aload_n 2, 1) := by decide +kernel
theorem dL_law_372 : decode cL_law 372 = .ok (.aload_n 0, 1) := by decide +kernel
theorem dL_law_373 : decode cL_law 373 = .ok (.iload_n 3, 1) := by decide +kernel
theorem dL_law_374 : decode cL_law 374 = .ok (.iconst 1, 1) := by decide +kernel
theorem dL_law_375 : decode cL_law 375 = .ok (.iadd, 1) := by decide +kernel
theorem dL_law_376 : decode cL_law 376 = .ok (.iaload, 1) := by decide +kernel
theorem dL_law_377 : decode cL_law 377 = .ok (.invokevirtual 36, 3) := by decide +kernel
theorem dL_law_380 : decode cL_law 380 = .ok (.if_icmp .eq 1094, 3) := by decide +kernel
set_option maxHeartbeats 4000000 in
set_option maxRecDepth 100000 in
theorem lc_4 {p : Program} {l : Launch} {e : Env} {s : State} {m : MethodId} {below : List Frame} {meth : Method} {c : Code} {b : Nat} {zs : Nat → Int32} {g : zL} {A : Nat → Prop} (C0 : zLw p s m meth c b zs g A) {h0 xt xr xp xs xm xh xe xf pa dr e1 e2 hr1 p_toolWidth p_told p_name p_parent p_side p_from p_width p_height p_radius p_toolSet n0 m_told m_read m_now m_readNow m_kept m_tape m_refused m_ownLetters m_flats m_corner m_wayX m_wayY m_normal m_low m_high m_clear m_ways m_canBe m_lain m_fewestBy m_sortOf m_seenFlange m_seenLength : Nat} {H : Heap} {locs : List Loc} {ls : Array Slot} (hP : va_P g.1 vwCl [(h0, .inr (8, [.ref xt, .ref xr, .ref xp, .ref xs, .ref xm, .ref xh, .ref xe, .ref xf, .ref pa, .ref dr, .int 0, .int 1, .int 0, .int 0])), (xe, .inr (1, [.ref e1, .ref e2, .int 0])), (xh, .inr (0, [.ref hr1, .int 0, .int 0])), (pa, .inr (4, [.int 0, .int 0, .int 0, .int 0, .int 0, .int 0, .ref p_toolWidth, .ref p_told, .ref p_name, .ref p_parent, .ref p_side, .ref p_from, .ref p_width, .ref p_height, .ref p_radius, .ref p_toolSet])), (n0, .inr (9, [.ref m_told, .ref m_read, .ref m_now, .ref m_readNow, .ref m_kept, .int 0, .int 1, .int 0, .ref m_tape, .int 0, .ref m_refused, .int 0, .int (-1), .int 0, .int 0, .int 0, .int 0, .int (-1), .ref m_ownLetters, .ref m_flats, .int 0, .ref m_corner, .ref m_wayX, .ref m_wayY, .ref m_normal, .ref m_low, .ref m_high, .ref m_clear, .ref m_ways, .ref m_canBe, .ref m_lain, .int 0, .ref m_fewestBy, .ref m_sortOf, .int 0, .ref m_seenFlange, .ref m_seenLength]))] H) (hD : va_D A [(h0, .inr (8, [.ref xt, .ref xr, .ref xp, .ref xs, .ref xm, .ref xh, .ref xe, .ref xf, .ref pa, .ref dr, .int 0, .int 1, .int 0, .int 0])), (xe, .inr (1, [.ref e1, .ref e2, .int 0])), (xh, .inr (0, [.ref hr1, .int 0, .int 0])), (pa, .inr (4, [.int 0, .int 0, .int 0, .int 0, .int 0, .int 0, .ref p_toolWidth, .ref p_told, .ref p_name, .ref p_parent, .ref p_side, .ref p_from, .ref p_width, .ref p_height, .ref p_radius, .ref p_toolSet])), (n0, .inr (9, [.ref m_told, .ref m_read, .ref m_now, .ref m_readNow, .ref m_kept, .int 0, .int 1, .int 0, .ref m_tape, .int 0, .ref m_refused, .int 0, .int (-1), .int 0, .int 0, .int 0, .int 0, .int (-1), .ref m_ownLetters, .ref m_flats, .int 0, .ref m_corner, .ref m_wayX, .ref m_wayY, .ref m_normal, .ref m_low, .ref m_high, .ref m_clear, .ref m_ways, .ref m_canBe, .ref m_lain, .int 0, .ref m_fewestBy, .ref m_sortOf, .int 0, .ref m_seenFlange, .ref m_seenLength]))]) (hS : va_S A s.heap H locs) (hl : lv_has ls 4 [(0, .ref b), (1, .ref h0), (2, .ref n0), (3, .int 0)]) : W p l e room_1 s m #[Value.ref b] below meth c H locs 75 18897 (lw_Z below #[Value.ref b] s) (F0 m 362 ls []) := by
  obtain ⟨hx, hb, hr, hml, hown, hG, hlocks, hX, hA, hA2, hZ, hbl, hbA⟩ := id C0
  refine lv_aload_n hx hb dL_law_362 rfl (lv_at hl 1 rfl) ?_
  refine lv_aload_n hx hb dL_law_363 rfl (lv_at hl 0 rfl) ?_
  refine lv_iload_n hx hb dL_law_364 rfl (lv_at hl 3 rfl) ?_
  refine lv_iconst (v := 1) hx hb dL_law_365 (by decide) ?_
  refine lv_iadd hx hb dL_law_366 ?_
  refine zt (z := 1) (by decide) ?_
  refine va_sld hx hb hZ hbl hbA hS (vp_in_iff.mpr (by decide)) dL_law_367 ?_
  refine zfi (wr := [(n0, .inr (9, [.ref m_told, .ref m_read, .ref m_now, .ref m_readNow, .ref m_kept, .int 0, .int 1, .int 0, .ref m_tape, .int 0, .ref m_refused, .int 0, .int (-1), .int 0, .int 0, .int 0, .int 0, .int (-1), .ref m_ownLetters, .ref m_flats, .int 0, .ref m_corner, .ref m_wayX, .ref m_wayY, .ref m_normal, .ref m_low, .ref m_high, .ref m_clear, .ref m_ways, .ref m_canBe, .ref m_lain, .int 0, .ref m_fewestBy, .ref m_sortOf, .int 0, .ref m_seenFlange, .ref m_seenLength]))]) (va_runV (As := [.int (zs (1 : Int32).toNatClampNeg)]) (rest := []) ⟨hx, hb, hml, hown, hG⟩ (kX8_has l g h0 (zs (1 : Int32).toNatClampNeg) xt xr xp xs xm xh xe xf pa dr p_toolWidth p_told p_name p_parent p_side p_from p_width p_height p_radius p_toolSet e1 e2 hr1 _) ⟨callB_of 1 hG (zGood g805) rfl rfl rfl (hG _ g202) (hG _ g802) hX8_has ⟨Nat.le_of_ble_eq_true rfl, Nat.le_of_ble_eq_true rfl⟩, hG _ g803, hG _ g804⟩ (zpreV (va_recv hX.1 hP (ci := 8) (q0 := 0) rfl rfl) hX hP hD hS hA [0, 3, 1, 2] rfl (by decide)) rfl rfl hl.1 rfl (lv_room (Nat.le_of_ble_eq_true rfl)) dL_law_368 ⟨Nat.le_of_ble_eq_true rfl, Nat.le_of_ble_eq_true rfl⟩) hP hD hS hA [0, 3, 1, 2] [4] rfl rfl (by decide) (by decide) (fun r1 _ H locs hp hP hD hS => ?_)
  refine W.cs (cells' := 75) (slots' := 18897) rfl rfl ?_
  have hq2 : r1 = sp_has (zs (1 : Int32).toNatClampNeg) := hp
  subst hq2
  have hP : va_P g.1 vwCl [(n0, .inr (9, [.ref m_told, .ref m_read, .ref m_now, .ref m_readNow, .ref m_kept, .int 0, .int 1, .int 0, .ref m_tape, .int 0, .ref m_refused, .int 0, .int (-1), .int 0, .int 0, .int 0, .int 0, .int (-1), .ref m_ownLetters, .ref m_flats, .int 0, .ref m_corner, .ref m_wayX, .ref m_wayY, .ref m_normal, .ref m_low, .ref m_high, .ref m_clear, .ref m_ways, .ref m_canBe, .ref m_lain, .int 0, .ref m_fewestBy, .ref m_sortOf, .int 0, .ref m_seenFlange, .ref m_seenLength]))] H := hP
  have hD : va_D A [(n0, .inr (9, [.ref m_told, .ref m_read, .ref m_now, .ref m_readNow, .ref m_kept, .int 0, .int 1, .int 0, .ref m_tape, .int 0, .ref m_refused, .int 0, .int (-1), .int 0, .int 0, .int 0, .int 0, .int (-1), .ref m_ownLetters, .ref m_flats, .int 0, .ref m_corner, .ref m_wayX, .ref m_wayY, .ref m_normal, .ref m_low, .ref m_high, .ref m_clear, .ref m_ways, .ref m_canBe, .ref m_lain, .int 0, .ref m_fewestBy, .ref m_sortOf, .int 0, .ref m_seenFlange, .ref m_seenLength]))] := hD
  refine lv_aload_n hx hb dL_law_371 rfl (lv_at hl 2 rfl) ?_
  refine lv_aload_n hx hb dL_law_372 rfl (lv_at hl 0 rfl) ?_
  refine lv_iload_n hx hb dL_law_373 rfl (lv_at hl 3 rfl) ?_
  refine lv_iconst (v := 1) hx hb dL_law_374 (by decide) ?_
  refine lv_iadd hx hb dL_law_375 ?_
  refine zt (z := 1) (by decide) ?_
  refine va_sld hx hb hZ hbl hbA hS (vp_in_iff.mpr (by decide)) dL_law_376 ?_
  refine zfi (wr := []) (va_runV (As := [.int (zs (1 : Int32).toNatClampNeg)]) (rest := [.int (sp_has (zs (1 : Int32).toNatClampNeg))]) ⟨hx, hb, hml, hown, hG⟩ (kX9_has l g n0 (zs (1 : Int32).toNatClampNeg) m_told m_read m_now m_readNow m_kept m_tape m_refused m_ownLetters m_flats m_corner m_wayX m_wayY m_normal m_low m_high m_clear m_ways m_canBe m_lain m_fewestBy m_sortOf m_seenFlange m_seenLength _) ⟨callB_of 1 hG (zGood g1653) rfl rfl rfl (hG _ g211) (hG _ g1650) hX9_has ⟨Nat.le_of_ble_eq_true rfl, Nat.le_of_ble_eq_true rfl⟩, hG _ g1651, hG _ g1652⟩ (zpreV (va_recv hX.1 hP (ci := 9) (q0 := 0) rfl rfl) hX hP hD hS hA [0] rfl (by decide)) rfl rfl hl.1 rfl (lv_room (Nat.le_of_ble_eq_true rfl)) dL_law_377 ⟨Nat.le_of_ble_eq_true rfl, Nat.le_of_ble_eq_true rfl⟩) hP hD hS hA [0] [] rfl rfl (by decide) (by decide) (fun r3 _ H locs hp hP hD hS => ?_)
  refine W.cs (cells' := 75) (slots' := 18897) rfl rfl ?_
  have hq4 : r3 = sp_has (zs (1 : Int32).toNatClampNeg) := hp
  subst hq4
  have hP : va_P g.1 vwCl [] H := hP
  have hD : va_D A [] := hD
  refine lv_icmp_eq (tgt := 1474) hx hb dL_law_380 (by decide) (fun c9 => ?_) (fun c9 => (c9 rfl).elim)
  exact lc_end C0 (Nat.le_of_ble_eq_true rfl) (Nat.le_of_ble_eq_true rfl) hS (lv_sub hl [0, 3] rfl)
theorem dL_law_385 : decode cL_law 385 = .ok (.aload_n 1, 1) := by decide +kernel
theorem dL_law_386 : decode cL_law 386 = .ok (.aload_n 0, 1) := by decide +kernel
theorem dL_law_387 : decode cL_law 387 = .ok (.iload_n 3, 1) := by decide +kernel
theorem dL_law_388 : decode cL_law 388 = .ok (.iconst 1, 1) := by decide +kernel
theorem dL_law_389 : decode cL_law 389 = .ok (.iadd, 1) := by decide +kernel
theorem dL_law_390 : decode cL_law 390 = .ok (.iaload, 1) := by decide +kernel
theorem dL_law_391 : decode cL_law 391 = .ok (.aload_n 0, 1) := by decide +kernel
theorem dL_law_392 : decode cL_law 392 = .ok (.iload_n 3, 1) := by decide +kernel
theorem dL_law_393 : decode cL_law 393 = .ok (.iconst 2, 1) := by decide +kernel
theorem dL_law_394 : decode cL_law 394 = .ok (.iadd, 1) := by decide +kernel
theorem dL_law_395 : decode cL_law 395 = .ok (.iaload, 1) := by decide +kernel
theorem dL_law_396 : decode cL_law 396 = .ok (.invokevirtual 37, 3) := by decide +kernel
theorem dL_law_399 : decode cL_law 399 = .ok (.aload_n 2, 1) := by decide +kernel
theorem dL_law_400 : decode cL_law 400 = .ok (.aload_n 0, 1) := by decide +kernel
theorem dL_law_401 : decode cL_law 401 = .ok (.iload_n 3, 1) := by decide +kernel
theorem dL_law_402 : decode cL_law 402 = .ok (.iconst 1, 1) := by decide +kernel
theorem dL_law_403 : decode cL_law 403 = .ok (.iadd, 1) := by decide +kernel
theorem dL_law_404 : decode cL_law 404 = .ok (.iaload, 1) := by decide +kernel
theorem dL_law_405 : decode cL_law 405 = .ok (.aload_n 0, 1) := by decide +kernel
theorem dL_law_406 : decode cL_law 406 = .ok (.iload_n 3, 1) := by decide +kernel
theorem dL_law_407 : decode cL_law 407 = .ok (.iconst 2, 1) := by decide +kernel
theorem dL_law_408 : decode cL_law 408 = .ok (.iadd, 1) := by decide +kernel
theorem dL_law_409 : decode cL_law 409 = .ok (.iaload, 1) := by decide +kernel
theorem dL_law_410 : decode cL_law 410 = .ok (.invokevirtual 41, 3) := by decide +kernel
theorem dL_law_413 : decode cL_law 413 = .ok (.if_icmp .eq 1061, 3) := by decide +kernel
set_option maxHeartbeats 4000000 in
set_option maxRecDepth 100000 in
theorem lc_5 {p : Program} {l : Launch} {e : Env} {s : State} {m : MethodId} {below : List Frame} {meth : Method} {c : Code} {b : Nat} {zs : Nat → Int32} {g : zL} {A : Nat → Prop} (C0 : zLw p s m meth c b zs g A) {h0 xt xr xp xs xm xh xe xf pa dr p_toolWidth p_told p_name p_parent p_side p_from p_width p_height p_radius p_toolSet n0 m_told m_read m_now m_readNow m_kept m_tape m_refused m_ownLetters m_flats m_corner m_wayX m_wayY m_normal m_low m_high m_clear m_ways m_canBe m_lain m_fewestBy m_sortOf m_seenFlange m_seenLength : Nat} {H : Heap} {locs : List Loc} {ls : Array Slot} (hP : va_P g.1 vwCl [(h0, .inr (8, [.ref xt, .ref xr, .ref xp, .ref xs, .ref xm, .ref xh, .ref xe, .ref xf, .ref pa, .ref dr, .int 0, .int 1, .int 0, .int 0])), (pa, .inr (4, [.int 0, .int 0, .int 0, .int 0, .int 0, .int 0, .ref p_toolWidth, .ref p_told, .ref p_name, .ref p_parent, .ref p_side, .ref p_from, .ref p_width, .ref p_height, .ref p_radius, .ref p_toolSet])), (n0, .inr (9, [.ref m_told, .ref m_read, .ref m_now, .ref m_readNow, .ref m_kept, .int 0, .int 1, .int 0, .ref m_tape, .int 0, .ref m_refused, .int 0, .int (-1), .int 0, .int 0, .int 0, .int 0, .int (-1), .ref m_ownLetters, .ref m_flats, .int 0, .ref m_corner, .ref m_wayX, .ref m_wayY, .ref m_normal, .ref m_low, .ref m_high, .ref m_clear, .ref m_ways, .ref m_canBe, .ref m_lain, .int 0, .ref m_fewestBy, .ref m_sortOf, .int 0, .ref m_seenFlange, .ref m_seenLength]))] H) (hD : va_D A [(h0, .inr (8, [.ref xt, .ref xr, .ref xp, .ref xs, .ref xm, .ref xh, .ref xe, .ref xf, .ref pa, .ref dr, .int 0, .int 1, .int 0, .int 0])), (pa, .inr (4, [.int 0, .int 0, .int 0, .int 0, .int 0, .int 0, .ref p_toolWidth, .ref p_told, .ref p_name, .ref p_parent, .ref p_side, .ref p_from, .ref p_width, .ref p_height, .ref p_radius, .ref p_toolSet])), (n0, .inr (9, [.ref m_told, .ref m_read, .ref m_now, .ref m_readNow, .ref m_kept, .int 0, .int 1, .int 0, .ref m_tape, .int 0, .ref m_refused, .int 0, .int (-1), .int 0, .int 0, .int 0, .int 0, .int (-1), .ref m_ownLetters, .ref m_flats, .int 0, .ref m_corner, .ref m_wayX, .ref m_wayY, .ref m_normal, .ref m_low, .ref m_high, .ref m_clear, .ref m_ways, .ref m_canBe, .ref m_lain, .int 0, .ref m_fewestBy, .ref m_sortOf, .int 0, .ref m_seenFlange, .ref m_seenLength]))]) (hS : va_S A s.heap H locs) (hl : lv_has ls 4 [(0, .ref b), (1, .ref h0), (2, .ref n0), (3, .int 0)]) : W p l e room_1 s m #[Value.ref b] below meth c H locs 75 18897 (lw_Z below #[Value.ref b] s) (F0 m 385 ls []) := by
  obtain ⟨hx, hb, hr, hml, hown, hG, hlocks, hX, hA, hA2, hZ, hbl, hbA⟩ := id C0
  refine lv_aload_n hx hb dL_law_385 rfl (lv_at hl 1 rfl) ?_
  refine lv_aload_n hx hb dL_law_386 rfl (lv_at hl 0 rfl) ?_
  refine lv_iload_n hx hb dL_law_387 rfl (lv_at hl 3 rfl) ?_
  refine lv_iconst (v := 1) hx hb dL_law_388 (by decide) ?_
  refine lv_iadd hx hb dL_law_389 ?_
  refine zt (z := 1) (by decide) ?_
  refine va_sld hx hb hZ hbl hbA hS (vp_in_iff.mpr (by decide)) dL_law_390 ?_
  refine lv_aload_n hx hb dL_law_391 rfl (lv_at hl 0 rfl) ?_
  refine lv_iload_n hx hb dL_law_392 rfl (lv_at hl 3 rfl) ?_
  refine lv_iconst (v := 2) hx hb dL_law_393 (by decide) ?_
  refine lv_iadd hx hb dL_law_394 ?_
  refine zt (z := 2) (by decide) ?_
  refine va_sld hx hb hZ hbl hbA hS (vp_in_iff.mpr (by decide)) dL_law_395 ?_
  refine zfi (wr := [(n0, .inr (9, [.ref m_told, .ref m_read, .ref m_now, .ref m_readNow, .ref m_kept, .int 0, .int 1, .int 0, .ref m_tape, .int 0, .ref m_refused, .int 0, .int (-1), .int 0, .int 0, .int 0, .int 0, .int (-1), .ref m_ownLetters, .ref m_flats, .int 0, .ref m_corner, .ref m_wayX, .ref m_wayY, .ref m_normal, .ref m_low, .ref m_high, .ref m_clear, .ref m_ways, .ref m_canBe, .ref m_lain, .int 0, .ref m_fewestBy, .ref m_sortOf, .int 0, .ref m_seenFlange, .ref m_seenLength]))]) (va_runV (As := [.int (zs (1 : Int32).toNatClampNeg), .int (zs (2 : Int32).toNatClampNeg)]) (rest := []) ⟨hx, hb, hml, hown, hG⟩ (kX8_letter l g h0 (zs (1 : Int32).toNatClampNeg) (zs (2 : Int32).toNatClampNeg) xt xr xp xs xm xh xe xf pa dr p_toolWidth p_told p_name p_parent p_side p_from p_width p_height p_radius p_toolSet _) ⟨callB_of 2 hG (zGood g809) rfl rfl rfl (hG _ g202) (hG _ g806) hX8_letter ⟨Nat.le_of_ble_eq_true rfl, Nat.le_of_ble_eq_true rfl⟩, hG _ g807, hG _ g808⟩ (zpreV (va_recv hX.1 hP (ci := 8) (q0 := 0) rfl rfl) hX hP hD hS hA [0, 1] rfl (by decide)) rfl rfl hl.1 rfl (lv_room (Nat.le_of_ble_eq_true rfl)) dL_law_396 ⟨Nat.le_of_ble_eq_true rfl, Nat.le_of_ble_eq_true rfl⟩) hP hD hS hA [0, 1] [2] rfl rfl (by decide) (by decide) (fun r1 _ H locs hp hP hD hS => ?_)
  refine W.cs (cells' := 75) (slots' := 18897) rfl rfl ?_
  have hq2 : r1 = (-1) := hp
  subst hq2
  have hP : va_P g.1 vwCl [(n0, .inr (9, [.ref m_told, .ref m_read, .ref m_now, .ref m_readNow, .ref m_kept, .int 0, .int 1, .int 0, .ref m_tape, .int 0, .ref m_refused, .int 0, .int (-1), .int 0, .int 0, .int 0, .int 0, .int (-1), .ref m_ownLetters, .ref m_flats, .int 0, .ref m_corner, .ref m_wayX, .ref m_wayY, .ref m_normal, .ref m_low, .ref m_high, .ref m_clear, .ref m_ways, .ref m_canBe, .ref m_lain, .int 0, .ref m_fewestBy, .ref m_sortOf, .int 0, .ref m_seenFlange, .ref m_seenLength]))] H := hP
  have hD : va_D A [(n0, .inr (9, [.ref m_told, .ref m_read, .ref m_now, .ref m_readNow, .ref m_kept, .int 0, .int 1, .int 0, .ref m_tape, .int 0, .ref m_refused, .int 0, .int (-1), .int 0, .int 0, .int 0, .int 0, .int (-1), .ref m_ownLetters, .ref m_flats, .int 0, .ref m_corner, .ref m_wayX, .ref m_wayY, .ref m_normal, .ref m_low, .ref m_high, .ref m_clear, .ref m_ways, .ref m_canBe, .ref m_lain, .int 0, .ref m_fewestBy, .ref m_sortOf, .int 0, .ref m_seenFlange, .ref m_seenLength]))] := hD
  refine lv_aload_n hx hb dL_law_399 rfl (lv_at hl 2 rfl) ?_
  refine lv_aload_n hx hb dL_law_400 rfl (lv_at hl 0 rfl) ?_
  refine lv_iload_n hx hb dL_law_401 rfl (lv_at hl 3 rfl) ?_
  refine lv_iconst (v := 1) hx hb dL_law_402 (by decide) ?_
  refine lv_iadd hx hb dL_law_403 ?_
  refine zt (z := 1) (by decide) ?_
  refine va_sld hx hb hZ hbl hbA hS (vp_in_iff.mpr (by decide)) dL_law_404 ?_
  refine lv_aload_n hx hb dL_law_405 rfl (lv_at hl 0 rfl) ?_
  refine lv_iload_n hx hb dL_law_406 rfl (lv_at hl 3 rfl) ?_
  refine lv_iconst (v := 2) hx hb dL_law_407 (by decide) ?_
  refine lv_iadd hx hb dL_law_408 ?_
  refine zt (z := 2) (by decide) ?_
  refine va_sld hx hb hZ hbl hbA hS (vp_in_iff.mpr (by decide)) dL_law_409 ?_
  refine zfi (wr := []) (va_runV (As := [.int (zs (1 : Int32).toNatClampNeg), .int (zs (2 : Int32).toNatClampNeg)]) (rest := [.int (-1)]) ⟨hx, hb, hml, hown, hG⟩ (kX9_letter l g n0 (zs (1 : Int32).toNatClampNeg) (zs (2 : Int32).toNatClampNeg) m_told m_read m_now m_readNow m_kept m_tape m_refused m_ownLetters m_flats m_corner m_wayX m_wayY m_normal m_low m_high m_clear m_ways m_canBe m_lain m_fewestBy m_sortOf m_seenFlange m_seenLength _) ⟨callB_of 2 hG (zGood g1657) rfl rfl rfl (hG _ g211) (hG _ g1654) hX9_letter ⟨Nat.le_of_ble_eq_true rfl, Nat.le_of_ble_eq_true rfl⟩, hG _ g1655, hG _ g1656⟩ (zpreV (va_recv hX.1 hP (ci := 9) (q0 := 0) rfl rfl) hX hP hD hS hA [0] rfl (by decide)) rfl rfl hl.1 rfl (lv_room (Nat.le_of_ble_eq_true rfl)) dL_law_410 ⟨Nat.le_of_ble_eq_true rfl, Nat.le_of_ble_eq_true rfl⟩) hP hD hS hA [0] [] rfl rfl (by decide) (by decide) (fun r3 _ H locs hp hP hD hS => ?_)
  refine W.cs (cells' := 75) (slots' := 18897) rfl rfl ?_
  have hq4 : r3 = (-1) := hp
  subst hq4
  have hP : va_P g.1 vwCl [] H := hP
  have hD : va_D A [] := hD
  refine lv_icmp_eq (tgt := 1474) hx hb dL_law_413 (by decide) (fun c9 => ?_) (fun c9 => (c9 rfl).elim)
  exact lc_end C0 (Nat.le_of_ble_eq_true rfl) (Nat.le_of_ble_eq_true rfl) hS (lv_sub hl [0, 3] rfl)
theorem dL_law_418 : decode cL_law 418 = .ok (.aload_n 1, 1) := by decide +kernel
theorem dL_law_419 : decode cL_law 419 = .ok (.aload_n 0, 1) := by decide +kernel
theorem dL_law_420 : decode cL_law 420 = .ok (.iload_n 3, 1) := by decide +kernel
theorem dL_law_421 : decode cL_law 421 = .ok (.iconst 1, 1) := by decide +kernel
theorem dL_law_422 : decode cL_law 422 = .ok (.iadd, 1) := by decide +kernel
theorem dL_law_423 : decode cL_law 423 = .ok (.iaload, 1) := by decide +kernel
theorem dL_law_424 : decode cL_law 424 = .ok (.aload_n 0, 1) := by decide +kernel
theorem dL_law_425 : decode cL_law 425 = .ok (.iload_n 3, 1) := by decide +kernel
theorem dL_law_426 : decode cL_law 426 = .ok (.iconst 2, 1) := by decide +kernel
theorem dL_law_427 : decode cL_law 427 = .ok (.iadd, 1) := by decide +kernel
theorem dL_law_428 : decode cL_law 428 = .ok (.iaload, 1) := by decide +kernel
theorem dL_law_429 : decode cL_law 429 = .ok (.invokevirtual 42, 3) := by decide +kernel
theorem dL_law_432 : decode cL_law 432 = .ok (.aload_n 2, 1) := by decide +kernel
theorem dL_law_433 : decode cL_law 433 = .ok (.aload_n 0, 1) := by decide +kernel
theorem dL_law_434 : decode cL_law 434 = .ok (.iload_n 3, 1) := by decide +kernel
theorem dL_law_435 : decode cL_law 435 = .ok (.iconst 1, 1) := by decide +kernel
theorem dL_law_436 : decode cL_law 436 = .ok (.iadd, 1) := by decide +kernel
theorem dL_law_437 : decode cL_law 437 = .ok (.iaload, 1) := by decide +kernel
theorem dL_law_438 : decode cL_law 438 = .ok (.aload_n 0, 1) := by decide +kernel
theorem dL_law_439 : decode cL_law 439 = .ok (.iload_n 3, 1) := by decide +kernel
theorem dL_law_440 : decode cL_law 440 = .ok (.iconst 2, 1) := by decide +kernel
theorem dL_law_441 : decode cL_law 441 = .ok (.iadd, 1) := by decide +kernel
theorem dL_law_442 : decode cL_law 442 = .ok (.iaload, 1) := by decide +kernel
theorem dL_law_443 : decode cL_law 443 = .ok (.invokevirtual 45, 3) := by decide +kernel
theorem dL_law_446 : decode cL_law 446 = .ok (.if_icmp .eq 1028, 3) := by decide +kernel
set_option maxHeartbeats 4000000 in
set_option maxRecDepth 100000 in
theorem lc_6 {p : Program} {l : Launch} {e : Env} {s : State} {m : MethodId} {below : List Frame} {meth : Method} {c : Code} {b : Nat} {zs : Nat → Int32} {g : zL} {A : Nat → Prop} (C0 : zLw p s m meth c b zs g A) {h0 xt xr xp xs xm xh xe xf pa dr p_toolWidth p_told p_name p_parent p_side p_from p_width p_height p_radius p_toolSet n0 m_told m_read m_now m_readNow m_kept m_tape m_refused m_ownLetters m_flats m_corner m_wayX m_wayY m_normal m_low m_high m_clear m_ways m_canBe m_lain m_fewestBy m_sortOf m_seenFlange m_seenLength : Nat} {H : Heap} {locs : List Loc} {ls : Array Slot} (hP : va_P g.1 vwCl [(h0, .inr (8, [.ref xt, .ref xr, .ref xp, .ref xs, .ref xm, .ref xh, .ref xe, .ref xf, .ref pa, .ref dr, .int 0, .int 1, .int 0, .int 0])), (pa, .inr (4, [.int 0, .int 0, .int 0, .int 0, .int 0, .int 0, .ref p_toolWidth, .ref p_told, .ref p_name, .ref p_parent, .ref p_side, .ref p_from, .ref p_width, .ref p_height, .ref p_radius, .ref p_toolSet])), (n0, .inr (9, [.ref m_told, .ref m_read, .ref m_now, .ref m_readNow, .ref m_kept, .int 0, .int 1, .int 0, .ref m_tape, .int 0, .ref m_refused, .int 0, .int (-1), .int 0, .int 0, .int 0, .int 0, .int (-1), .ref m_ownLetters, .ref m_flats, .int 0, .ref m_corner, .ref m_wayX, .ref m_wayY, .ref m_normal, .ref m_low, .ref m_high, .ref m_clear, .ref m_ways, .ref m_canBe, .ref m_lain, .int 0, .ref m_fewestBy, .ref m_sortOf, .int 0, .ref m_seenFlange, .ref m_seenLength]))] H) (hD : va_D A [(h0, .inr (8, [.ref xt, .ref xr, .ref xp, .ref xs, .ref xm, .ref xh, .ref xe, .ref xf, .ref pa, .ref dr, .int 0, .int 1, .int 0, .int 0])), (pa, .inr (4, [.int 0, .int 0, .int 0, .int 0, .int 0, .int 0, .ref p_toolWidth, .ref p_told, .ref p_name, .ref p_parent, .ref p_side, .ref p_from, .ref p_width, .ref p_height, .ref p_radius, .ref p_toolSet])), (n0, .inr (9, [.ref m_told, .ref m_read, .ref m_now, .ref m_readNow, .ref m_kept, .int 0, .int 1, .int 0, .ref m_tape, .int 0, .ref m_refused, .int 0, .int (-1), .int 0, .int 0, .int 0, .int 0, .int (-1), .ref m_ownLetters, .ref m_flats, .int 0, .ref m_corner, .ref m_wayX, .ref m_wayY, .ref m_normal, .ref m_low, .ref m_high, .ref m_clear, .ref m_ways, .ref m_canBe, .ref m_lain, .int 0, .ref m_fewestBy, .ref m_sortOf, .int 0, .ref m_seenFlange, .ref m_seenLength]))]) (hS : va_S A s.heap H locs) (hl : lv_has ls 4 [(0, .ref b), (1, .ref h0), (2, .ref n0), (3, .int 0)]) : W p l e room_1 s m #[Value.ref b] below meth c H locs 75 18897 (lw_Z below #[Value.ref b] s) (F0 m 418 ls []) := by
  obtain ⟨hx, hb, hr, hml, hown, hG, hlocks, hX, hA, hA2, hZ, hbl, hbA⟩ := id C0
  refine lv_aload_n hx hb dL_law_418 rfl (lv_at hl 1 rfl) ?_
  refine lv_aload_n hx hb dL_law_419 rfl (lv_at hl 0 rfl) ?_
  refine lv_iload_n hx hb dL_law_420 rfl (lv_at hl 3 rfl) ?_
  refine lv_iconst (v := 1) hx hb dL_law_421 (by decide) ?_
  refine lv_iadd hx hb dL_law_422 ?_
  refine zt (z := 1) (by decide) ?_
  refine va_sld hx hb hZ hbl hbA hS (vp_in_iff.mpr (by decide)) dL_law_423 ?_
  refine lv_aload_n hx hb dL_law_424 rfl (lv_at hl 0 rfl) ?_
  refine lv_iload_n hx hb dL_law_425 rfl (lv_at hl 3 rfl) ?_
  refine lv_iconst (v := 2) hx hb dL_law_426 (by decide) ?_
  refine lv_iadd hx hb dL_law_427 ?_
  refine zt (z := 2) (by decide) ?_
  refine va_sld hx hb hZ hbl hbA hS (vp_in_iff.mpr (by decide)) dL_law_428 ?_
  refine zfi (wr := [(n0, .inr (9, [.ref m_told, .ref m_read, .ref m_now, .ref m_readNow, .ref m_kept, .int 0, .int 1, .int 0, .ref m_tape, .int 0, .ref m_refused, .int 0, .int (-1), .int 0, .int 0, .int 0, .int 0, .int (-1), .ref m_ownLetters, .ref m_flats, .int 0, .ref m_corner, .ref m_wayX, .ref m_wayY, .ref m_normal, .ref m_low, .ref m_high, .ref m_clear, .ref m_ways, .ref m_canBe, .ref m_lain, .int 0, .ref m_fewestBy, .ref m_sortOf, .int 0, .ref m_seenFlange, .ref m_seenLength]))]) (va_runV (As := [.int (zs (1 : Int32).toNatClampNeg), .int (zs (2 : Int32).toNatClampNeg)]) (rest := []) ⟨hx, hb, hml, hown, hG⟩ (kX8_flange l g h0 (zs (1 : Int32).toNatClampNeg) (zs (2 : Int32).toNatClampNeg) xt xr xp xs xm xh xe xf pa dr p_toolWidth p_told p_name p_parent p_side p_from p_width p_height p_radius p_toolSet _) ⟨callB_of 2 hG (zGood g817) rfl rfl rfl (hG _ g202) (hG _ g814) hX8_flange ⟨Nat.le_of_ble_eq_true rfl, Nat.le_of_ble_eq_true rfl⟩, hG _ g815, hG _ g816⟩ (zpreV (va_recv hX.1 hP (ci := 8) (q0 := 0) rfl rfl) hX hP hD hS hA [0, 1] rfl (by decide)) rfl rfl hl.1 rfl (lv_room (Nat.le_of_ble_eq_true rfl)) dL_law_429 ⟨Nat.le_of_ble_eq_true rfl, Nat.le_of_ble_eq_true rfl⟩) hP hD hS hA [0, 1] [2] rfl rfl (by decide) (by decide) (fun r1 _ H locs hp hP hD hS => ?_)
  refine W.cs (cells' := 75) (slots' := 18897) rfl rfl ?_
  have hq2 : r1 = (-1) := hp
  subst hq2
  have hP : va_P g.1 vwCl [(n0, .inr (9, [.ref m_told, .ref m_read, .ref m_now, .ref m_readNow, .ref m_kept, .int 0, .int 1, .int 0, .ref m_tape, .int 0, .ref m_refused, .int 0, .int (-1), .int 0, .int 0, .int 0, .int 0, .int (-1), .ref m_ownLetters, .ref m_flats, .int 0, .ref m_corner, .ref m_wayX, .ref m_wayY, .ref m_normal, .ref m_low, .ref m_high, .ref m_clear, .ref m_ways, .ref m_canBe, .ref m_lain, .int 0, .ref m_fewestBy, .ref m_sortOf, .int 0, .ref m_seenFlange, .ref m_seenLength]))] H := hP
  have hD : va_D A [(n0, .inr (9, [.ref m_told, .ref m_read, .ref m_now, .ref m_readNow, .ref m_kept, .int 0, .int 1, .int 0, .ref m_tape, .int 0, .ref m_refused, .int 0, .int (-1), .int 0, .int 0, .int 0, .int 0, .int (-1), .ref m_ownLetters, .ref m_flats, .int 0, .ref m_corner, .ref m_wayX, .ref m_wayY, .ref m_normal, .ref m_low, .ref m_high, .ref m_clear, .ref m_ways, .ref m_canBe, .ref m_lain, .int 0, .ref m_fewestBy, .ref m_sortOf, .int 0, .ref m_seenFlange, .ref m_seenLength]))] := hD
  refine lv_aload_n hx hb dL_law_432 rfl (lv_at hl 2 rfl) ?_
  refine lv_aload_n hx hb dL_law_433 rfl (lv_at hl 0 rfl) ?_
  refine lv_iload_n hx hb dL_law_434 rfl (lv_at hl 3 rfl) ?_
  refine lv_iconst (v := 1) hx hb dL_law_435 (by decide) ?_
  refine lv_iadd hx hb dL_law_436 ?_
  refine zt (z := 1) (by decide) ?_
  refine va_sld hx hb hZ hbl hbA hS (vp_in_iff.mpr (by decide)) dL_law_437 ?_
  refine lv_aload_n hx hb dL_law_438 rfl (lv_at hl 0 rfl) ?_
  refine lv_iload_n hx hb dL_law_439 rfl (lv_at hl 3 rfl) ?_
  refine lv_iconst (v := 2) hx hb dL_law_440 (by decide) ?_
  refine lv_iadd hx hb dL_law_441 ?_
  refine zt (z := 2) (by decide) ?_
  refine va_sld hx hb hZ hbl hbA hS (vp_in_iff.mpr (by decide)) dL_law_442 ?_
  refine zfi (wr := []) (va_runV (As := [.int (zs (1 : Int32).toNatClampNeg), .int (zs (2 : Int32).toNatClampNeg)]) (rest := [.int (-1)]) ⟨hx, hb, hml, hown, hG⟩ (kX9_flange l g n0 (zs (1 : Int32).toNatClampNeg) (zs (2 : Int32).toNatClampNeg) m_told m_read m_now m_readNow m_kept m_tape m_refused m_ownLetters m_flats m_corner m_wayX m_wayY m_normal m_low m_high m_clear m_ways m_canBe m_lain m_fewestBy m_sortOf m_seenFlange m_seenLength _) ⟨callB_of 2 hG (zGood g1669) rfl rfl rfl (hG _ g211) (hG _ g1666) hX9_flange ⟨Nat.le_of_ble_eq_true rfl, Nat.le_of_ble_eq_true rfl⟩, hG _ g1667, hG _ g1668⟩ (zpreV (va_recv hX.1 hP (ci := 9) (q0 := 0) rfl rfl) hX hP hD hS hA [0] rfl (by decide)) rfl rfl hl.1 rfl (lv_room (Nat.le_of_ble_eq_true rfl)) dL_law_443 ⟨Nat.le_of_ble_eq_true rfl, Nat.le_of_ble_eq_true rfl⟩) hP hD hS hA [0] [] rfl rfl (by decide) (by decide) (fun r3 _ H locs hp hP hD hS => ?_)
  refine W.cs (cells' := 75) (slots' := 18897) rfl rfl ?_
  have hq4 : r3 = (-1) := hp
  subst hq4
  have hP : va_P g.1 vwCl [] H := hP
  have hD : va_D A [] := hD
  refine lv_icmp_eq (tgt := 1474) hx hb dL_law_446 (by decide) (fun c9 => ?_) (fun c9 => (c9 rfl).elim)
  exact lc_end C0 (Nat.le_of_ble_eq_true rfl) (Nat.le_of_ble_eq_true rfl) hS (lv_sub hl [0, 3] rfl)
theorem dL_law_451 : decode cL_law 451 = .ok (.aload_n 1, 1) := by decide +kernel
theorem dL_law_452 : decode cL_law 452 = .ok (.aload_n 0, 1) := by decide +kernel
theorem dL_law_453 : decode cL_law 453 = .ok (.iload_n 3, 1) := by decide +kernel
theorem dL_law_454 : decode cL_law 454 = .ok (.iconst 1, 1) := by decide +kernel
theorem dL_law_455 : decode cL_law 455 = .ok (.iadd, 1) := by decide +kernel
theorem dL_law_456 : decode cL_law 456 = .ok (.iaload, 1) := by decide +kernel
theorem dL_law_457 : decode cL_law 457 = .ok (.invokevirtual 46, 3) := by decide +kernel
theorem dL_law_460 : decode cL_law 460 = .ok (.aload_n 2, 1) := by decide +kernel
theorem dL_law_461 : decode cL_law 461 = .ok (.aload_n 0, 1) := by decide +kernel
theorem dL_law_462 : decode cL_law 462 = .ok (.iload_n 3, 1) := by decide +kernel
theorem dL_law_463 : decode cL_law 463 = .ok (.iconst 1, 1) := by decide +kernel
theorem dL_law_464 : decode cL_law 464 = .ok (.iadd, 1) := by decide +kernel
theorem dL_law_465 : decode cL_law 465 = .ok (.iaload, 1) := by decide +kernel
theorem dL_law_466 : decode cL_law 466 = .ok (.invokevirtual 49, 3) := by decide +kernel
theorem dL_law_469 : decode cL_law 469 = .ok (.if_icmp .eq 1005, 3) := by decide +kernel
set_option maxHeartbeats 4000000 in
set_option maxRecDepth 100000 in
theorem lc_7 {p : Program} {l : Launch} {e : Env} {s : State} {m : MethodId} {below : List Frame} {meth : Method} {c : Code} {b : Nat} {zs : Nat → Int32} {g : zL} {A : Nat → Prop} (C0 : zLw p s m meth c b zs g A) {h0 xt xr xp xs xm xh xe xf pa dr p_toolWidth p_told p_name p_parent p_side p_from p_width p_height p_radius p_toolSet n0 m_told m_read m_now m_readNow m_kept m_tape m_refused m_ownLetters m_flats m_corner m_wayX m_wayY m_normal m_low m_high m_clear m_ways m_canBe m_lain m_fewestBy m_sortOf m_seenFlange m_seenLength : Nat} {H : Heap} {locs : List Loc} {ls : Array Slot} (hP : va_P g.1 vwCl [(h0, .inr (8, [.ref xt, .ref xr, .ref xp, .ref xs, .ref xm, .ref xh, .ref xe, .ref xf, .ref pa, .ref dr, .int 0, .int 1, .int 0, .int 0])), (pa, .inr (4, [.int 0, .int 0, .int 0, .int 0, .int 0, .int 0, .ref p_toolWidth, .ref p_told, .ref p_name, .ref p_parent, .ref p_side, .ref p_from, .ref p_width, .ref p_height, .ref p_radius, .ref p_toolSet])), (n0, .inr (9, [.ref m_told, .ref m_read, .ref m_now, .ref m_readNow, .ref m_kept, .int 0, .int 1, .int 0, .ref m_tape, .int 0, .ref m_refused, .int 0, .int (-1), .int 0, .int 0, .int 0, .int 0, .int (-1), .ref m_ownLetters, .ref m_flats, .int 0, .ref m_corner, .ref m_wayX, .ref m_wayY, .ref m_normal, .ref m_low, .ref m_high, .ref m_clear, .ref m_ways, .ref m_canBe, .ref m_lain, .int 0, .ref m_fewestBy, .ref m_sortOf, .int 0, .ref m_seenFlange, .ref m_seenLength]))] H) (hD : va_D A [(h0, .inr (8, [.ref xt, .ref xr, .ref xp, .ref xs, .ref xm, .ref xh, .ref xe, .ref xf, .ref pa, .ref dr, .int 0, .int 1, .int 0, .int 0])), (pa, .inr (4, [.int 0, .int 0, .int 0, .int 0, .int 0, .int 0, .ref p_toolWidth, .ref p_told, .ref p_name, .ref p_parent, .ref p_side, .ref p_from, .ref p_width, .ref p_height, .ref p_radius, .ref p_toolSet])), (n0, .inr (9, [.ref m_told, .ref m_read, .ref m_now, .ref m_readNow, .ref m_kept, .int 0, .int 1, .int 0, .ref m_tape, .int 0, .ref m_refused, .int 0, .int (-1), .int 0, .int 0, .int 0, .int 0, .int (-1), .ref m_ownLetters, .ref m_flats, .int 0, .ref m_corner, .ref m_wayX, .ref m_wayY, .ref m_normal, .ref m_low, .ref m_high, .ref m_clear, .ref m_ways, .ref m_canBe, .ref m_lain, .int 0, .ref m_fewestBy, .ref m_sortOf, .int 0, .ref m_seenFlange, .ref m_seenLength]))]) (hS : va_S A s.heap H locs) (hl : lv_has ls 4 [(0, .ref b), (1, .ref h0), (2, .ref n0), (3, .int 0)]) : W p l e room_1 s m #[Value.ref b] below meth c H locs 75 18897 (lw_Z below #[Value.ref b] s) (F0 m 451 ls []) := by
  obtain ⟨hx, hb, hr, hml, hown, hG, hlocks, hX, hA, hA2, hZ, hbl, hbA⟩ := id C0
  refine lv_aload_n hx hb dL_law_451 rfl (lv_at hl 1 rfl) ?_
  refine lv_aload_n hx hb dL_law_452 rfl (lv_at hl 0 rfl) ?_
  refine lv_iload_n hx hb dL_law_453 rfl (lv_at hl 3 rfl) ?_
  refine lv_iconst (v := 1) hx hb dL_law_454 (by decide) ?_
  refine lv_iadd hx hb dL_law_455 ?_
  refine zt (z := 1) (by decide) ?_
  refine va_sld hx hb hZ hbl hbA hS (vp_in_iff.mpr (by decide)) dL_law_456 ?_
  refine zfi (wr := [(n0, .inr (9, [.ref m_told, .ref m_read, .ref m_now, .ref m_readNow, .ref m_kept, .int 0, .int 1, .int 0, .ref m_tape, .int 0, .ref m_refused, .int 0, .int (-1), .int 0, .int 0, .int 0, .int 0, .int (-1), .ref m_ownLetters, .ref m_flats, .int 0, .ref m_corner, .ref m_wayX, .ref m_wayY, .ref m_normal, .ref m_low, .ref m_high, .ref m_clear, .ref m_ways, .ref m_canBe, .ref m_lain, .int 0, .ref m_fewestBy, .ref m_sortOf, .int 0, .ref m_seenFlange, .ref m_seenLength]))]) (va_runV (As := [.int (zs (1 : Int32).toNatClampNeg)]) (rest := []) ⟨hx, hb, hml, hown, hG⟩ (kX8_tool l g h0 (zs (1 : Int32).toNatClampNeg) xt xr xp xs xm xh xe xf pa dr p_toolWidth p_told p_name p_parent p_side p_from p_width p_height p_radius p_toolSet _) ⟨callB_of 1 hG (zGood g853) rfl rfl rfl (hG _ g202) (hG _ g850) hX8_tool ⟨Nat.le_of_ble_eq_true rfl, Nat.le_of_ble_eq_true rfl⟩, hG _ g851, hG _ g852⟩ (zpreV (va_recv hX.1 hP (ci := 8) (q0 := 0) rfl rfl) hX hP hD hS hA [0, 1] rfl (by decide)) rfl rfl hl.1 rfl (lv_room (Nat.le_of_ble_eq_true rfl)) dL_law_457 ⟨Nat.le_of_ble_eq_true rfl, Nat.le_of_ble_eq_true rfl⟩) hP hD hS hA [0, 1] [2] rfl rfl (by decide) (by decide) (fun r1 _ H locs hp hP hD hS => ?_)
  refine W.cs (cells' := 75) (slots' := 18897) rfl rfl ?_
  have hq2 : r1 = (-1) := hp
  subst hq2
  have hP : va_P g.1 vwCl [(n0, .inr (9, [.ref m_told, .ref m_read, .ref m_now, .ref m_readNow, .ref m_kept, .int 0, .int 1, .int 0, .ref m_tape, .int 0, .ref m_refused, .int 0, .int (-1), .int 0, .int 0, .int 0, .int 0, .int (-1), .ref m_ownLetters, .ref m_flats, .int 0, .ref m_corner, .ref m_wayX, .ref m_wayY, .ref m_normal, .ref m_low, .ref m_high, .ref m_clear, .ref m_ways, .ref m_canBe, .ref m_lain, .int 0, .ref m_fewestBy, .ref m_sortOf, .int 0, .ref m_seenFlange, .ref m_seenLength]))] H := hP
  have hD : va_D A [(n0, .inr (9, [.ref m_told, .ref m_read, .ref m_now, .ref m_readNow, .ref m_kept, .int 0, .int 1, .int 0, .ref m_tape, .int 0, .ref m_refused, .int 0, .int (-1), .int 0, .int 0, .int 0, .int 0, .int (-1), .ref m_ownLetters, .ref m_flats, .int 0, .ref m_corner, .ref m_wayX, .ref m_wayY, .ref m_normal, .ref m_low, .ref m_high, .ref m_clear, .ref m_ways, .ref m_canBe, .ref m_lain, .int 0, .ref m_fewestBy, .ref m_sortOf, .int 0, .ref m_seenFlange, .ref m_seenLength]))] := hD
  refine lv_aload_n hx hb dL_law_460 rfl (lv_at hl 2 rfl) ?_
  refine lv_aload_n hx hb dL_law_461 rfl (lv_at hl 0 rfl) ?_
  refine lv_iload_n hx hb dL_law_462 rfl (lv_at hl 3 rfl) ?_
  refine lv_iconst (v := 1) hx hb dL_law_463 (by decide) ?_
  refine lv_iadd hx hb dL_law_464 ?_
  refine zt (z := 1) (by decide) ?_
  refine va_sld hx hb hZ hbl hbA hS (vp_in_iff.mpr (by decide)) dL_law_465 ?_
  refine zfi (wr := []) (va_runV (As := [.int (zs (1 : Int32).toNatClampNeg)]) (rest := [.int (-1)]) ⟨hx, hb, hml, hown, hG⟩ (kX9_tool l g n0 (zs (1 : Int32).toNatClampNeg) m_told m_read m_now m_readNow m_kept m_tape m_refused m_ownLetters m_flats m_corner m_wayX m_wayY m_normal m_low m_high m_clear m_ways m_canBe m_lain m_fewestBy m_sortOf m_seenFlange m_seenLength _) ⟨callB_of 1 hG (zGood g1697) rfl rfl rfl (hG _ g211) (hG _ g1694) hX9_tool ⟨Nat.le_of_ble_eq_true rfl, Nat.le_of_ble_eq_true rfl⟩, hG _ g1695, hG _ g1696⟩ (zpreV (va_recv hX.1 hP (ci := 9) (q0 := 0) rfl rfl) hX hP hD hS hA [0] rfl (by decide)) rfl rfl hl.1 rfl (lv_room (Nat.le_of_ble_eq_true rfl)) dL_law_466 ⟨Nat.le_of_ble_eq_true rfl, Nat.le_of_ble_eq_true rfl⟩) hP hD hS hA [0] [] rfl rfl (by decide) (by decide) (fun r3 _ H locs hp hP hD hS => ?_)
  refine W.cs (cells' := 75) (slots' := 18897) rfl rfl ?_
  have hq4 : r3 = (-1) := hp
  subst hq4
  have hP : va_P g.1 vwCl [] H := hP
  have hD : va_D A [] := hD
  refine lv_icmp_eq (tgt := 1474) hx hb dL_law_469 (by decide) (fun c9 => ?_) (fun c9 => (c9 rfl).elim)
  exact lc_end C0 (Nat.le_of_ble_eq_true rfl) (Nat.le_of_ble_eq_true rfl) hS (lv_sub hl [0, 3] rfl)
theorem dL_law_474 : decode cL_law 474 = .ok (.aload_n 1, 1) := by decide +kernel
theorem dL_law_475 : decode cL_law 475 = .ok (.aload_n 0, 1) := by decide +kernel
theorem dL_law_476 : decode cL_law 476 = .ok (.iload_n 3, 1) := by decide +kernel
theorem dL_law_477 : decode cL_law 477 = .ok (.iconst 1, 1) := by decide +kernel
theorem dL_law_478 : decode cL_law 478 = .ok (.iadd, 1) := by decide +kernel
theorem dL_law_479 : decode cL_law 479 = .ok (.iaload, 1) := by decide +kernel
theorem dL_law_480 : decode cL_law 480 = .ok (.invokevirtual 50, 3) := by decide +kernel
theorem dL_law_483 : decode cL_law 483 = .ok (.aload_n 2, 1) := by decide +kernel
theorem dL_law_484 : decode cL_law 484 = .ok (.aload_n 0, 1) := by decide +kernel
theorem dL_law_485 : decode cL_law 485 = .ok (.iload_n 3, 1) := by decide +kernel
theorem dL_law_486 : decode cL_law 486 = .ok (.iconst 1, 1) := by decide +kernel
theorem dL_law_487 : decode cL_law 487 = .ok (.iadd, 1) := by decide +kernel
theorem dL_law_488 : decode cL_law 488 = .ok (.iaload, 1) := by decide +kernel
theorem dL_law_489 : decode cL_law 489 = .ok (.invokevirtual 53, 3) := by decide +kernel
theorem dL_law_492 : decode cL_law 492 = .ok (.if_icmp .eq 982, 3) := by decide +kernel
set_option maxHeartbeats 4000000 in
set_option maxRecDepth 100000 in
theorem lc_8 {p : Program} {l : Launch} {e : Env} {s : State} {m : MethodId} {below : List Frame} {meth : Method} {c : Code} {b : Nat} {zs : Nat → Int32} {g : zL} {A : Nat → Prop} (C0 : zLw p s m meth c b zs g A) {h0 xt xr xp xs xm xh xe xf pa dr p_toolWidth p_told p_name p_parent p_side p_from p_width p_height p_radius p_toolSet n0 m_told m_read m_now m_readNow m_kept m_tape m_refused m_ownLetters m_flats m_corner m_wayX m_wayY m_normal m_low m_high m_clear m_ways m_canBe m_lain m_fewestBy m_sortOf m_seenFlange m_seenLength : Nat} {H : Heap} {locs : List Loc} {ls : Array Slot} (hP : va_P g.1 vwCl [(h0, .inr (8, [.ref xt, .ref xr, .ref xp, .ref xs, .ref xm, .ref xh, .ref xe, .ref xf, .ref pa, .ref dr, .int 0, .int 1, .int 0, .int 0])), (pa, .inr (4, [.int 0, .int 0, .int 0, .int 0, .int 0, .int 0, .ref p_toolWidth, .ref p_told, .ref p_name, .ref p_parent, .ref p_side, .ref p_from, .ref p_width, .ref p_height, .ref p_radius, .ref p_toolSet])), (n0, .inr (9, [.ref m_told, .ref m_read, .ref m_now, .ref m_readNow, .ref m_kept, .int 0, .int 1, .int 0, .ref m_tape, .int 0, .ref m_refused, .int 0, .int (-1), .int 0, .int 0, .int 0, .int 0, .int (-1), .ref m_ownLetters, .ref m_flats, .int 0, .ref m_corner, .ref m_wayX, .ref m_wayY, .ref m_normal, .ref m_low, .ref m_high, .ref m_clear, .ref m_ways, .ref m_canBe, .ref m_lain, .int 0, .ref m_fewestBy, .ref m_sortOf, .int 0, .ref m_seenFlange, .ref m_seenLength]))] H) (hD : va_D A [(h0, .inr (8, [.ref xt, .ref xr, .ref xp, .ref xs, .ref xm, .ref xh, .ref xe, .ref xf, .ref pa, .ref dr, .int 0, .int 1, .int 0, .int 0])), (pa, .inr (4, [.int 0, .int 0, .int 0, .int 0, .int 0, .int 0, .ref p_toolWidth, .ref p_told, .ref p_name, .ref p_parent, .ref p_side, .ref p_from, .ref p_width, .ref p_height, .ref p_radius, .ref p_toolSet])), (n0, .inr (9, [.ref m_told, .ref m_read, .ref m_now, .ref m_readNow, .ref m_kept, .int 0, .int 1, .int 0, .ref m_tape, .int 0, .ref m_refused, .int 0, .int (-1), .int 0, .int 0, .int 0, .int 0, .int (-1), .ref m_ownLetters, .ref m_flats, .int 0, .ref m_corner, .ref m_wayX, .ref m_wayY, .ref m_normal, .ref m_low, .ref m_high, .ref m_clear, .ref m_ways, .ref m_canBe, .ref m_lain, .int 0, .ref m_fewestBy, .ref m_sortOf, .int 0, .ref m_seenFlange, .ref m_seenLength]))]) (hS : va_S A s.heap H locs) (hl : lv_has ls 4 [(0, .ref b), (1, .ref h0), (2, .ref n0), (3, .int 0)]) : W p l e room_1 s m #[Value.ref b] below meth c H locs 75 18897 (lw_Z below #[Value.ref b] s) (F0 m 474 ls []) := by
  obtain ⟨hx, hb, hr, hml, hown, hG, hlocks, hX, hA, hA2, hZ, hbl, hbA⟩ := id C0
  refine lv_aload_n hx hb dL_law_474 rfl (lv_at hl 1 rfl) ?_
  refine lv_aload_n hx hb dL_law_475 rfl (lv_at hl 0 rfl) ?_
  refine lv_iload_n hx hb dL_law_476 rfl (lv_at hl 3 rfl) ?_
  refine lv_iconst (v := 1) hx hb dL_law_477 (by decide) ?_
  refine lv_iadd hx hb dL_law_478 ?_
  refine zt (z := 1) (by decide) ?_
  refine va_sld hx hb hZ hbl hbA hS (vp_in_iff.mpr (by decide)) dL_law_479 ?_
  refine zfi (wr := [(n0, .inr (9, [.ref m_told, .ref m_read, .ref m_now, .ref m_readNow, .ref m_kept, .int 0, .int 1, .int 0, .ref m_tape, .int 0, .ref m_refused, .int 0, .int (-1), .int 0, .int 0, .int 0, .int 0, .int (-1), .ref m_ownLetters, .ref m_flats, .int 0, .ref m_corner, .ref m_wayX, .ref m_wayY, .ref m_normal, .ref m_low, .ref m_high, .ref m_clear, .ref m_ways, .ref m_canBe, .ref m_lain, .int 0, .ref m_fewestBy, .ref m_sortOf, .int 0, .ref m_seenFlange, .ref m_seenLength]))]) (va_runV (As := [.int (zs (1 : Int32).toNatClampNeg)]) (rest := []) ⟨hx, hb, hml, hown, hG⟩ (kX8_allowance l g h0 (zs (1 : Int32).toNatClampNeg) xt xr xp xs xm xh xe xf pa dr p_toolWidth p_told p_name p_parent p_side p_from p_width p_height p_radius p_toolSet _) ⟨callB_of 1 hG (zGood g857) rfl rfl rfl (hG _ g202) (hG _ g854) hX8_allowance ⟨Nat.le_of_ble_eq_true rfl, Nat.le_of_ble_eq_true rfl⟩, hG _ g855, hG _ g856⟩ (zpreV (va_recv hX.1 hP (ci := 8) (q0 := 0) rfl rfl) hX hP hD hS hA [0, 1] rfl (by decide)) rfl rfl hl.1 rfl (lv_room (Nat.le_of_ble_eq_true rfl)) dL_law_480 ⟨Nat.le_of_ble_eq_true rfl, Nat.le_of_ble_eq_true rfl⟩) hP hD hS hA [0, 1] [2] rfl rfl (by decide) (by decide) (fun r1 _ H locs hp hP hD hS => ?_)
  refine W.cs (cells' := 75) (slots' := 18897) rfl rfl ?_
  have hq2 : r1 = (-1) := hp
  subst hq2
  have hP : va_P g.1 vwCl [(n0, .inr (9, [.ref m_told, .ref m_read, .ref m_now, .ref m_readNow, .ref m_kept, .int 0, .int 1, .int 0, .ref m_tape, .int 0, .ref m_refused, .int 0, .int (-1), .int 0, .int 0, .int 0, .int 0, .int (-1), .ref m_ownLetters, .ref m_flats, .int 0, .ref m_corner, .ref m_wayX, .ref m_wayY, .ref m_normal, .ref m_low, .ref m_high, .ref m_clear, .ref m_ways, .ref m_canBe, .ref m_lain, .int 0, .ref m_fewestBy, .ref m_sortOf, .int 0, .ref m_seenFlange, .ref m_seenLength]))] H := hP
  have hD : va_D A [(n0, .inr (9, [.ref m_told, .ref m_read, .ref m_now, .ref m_readNow, .ref m_kept, .int 0, .int 1, .int 0, .ref m_tape, .int 0, .ref m_refused, .int 0, .int (-1), .int 0, .int 0, .int 0, .int 0, .int (-1), .ref m_ownLetters, .ref m_flats, .int 0, .ref m_corner, .ref m_wayX, .ref m_wayY, .ref m_normal, .ref m_low, .ref m_high, .ref m_clear, .ref m_ways, .ref m_canBe, .ref m_lain, .int 0, .ref m_fewestBy, .ref m_sortOf, .int 0, .ref m_seenFlange, .ref m_seenLength]))] := hD
  refine lv_aload_n hx hb dL_law_483 rfl (lv_at hl 2 rfl) ?_
  refine lv_aload_n hx hb dL_law_484 rfl (lv_at hl 0 rfl) ?_
  refine lv_iload_n hx hb dL_law_485 rfl (lv_at hl 3 rfl) ?_
  refine lv_iconst (v := 1) hx hb dL_law_486 (by decide) ?_
  refine lv_iadd hx hb dL_law_487 ?_
  refine zt (z := 1) (by decide) ?_
  refine va_sld hx hb hZ hbl hbA hS (vp_in_iff.mpr (by decide)) dL_law_488 ?_
  refine zfi (wr := []) (va_runV (As := [.int (zs (1 : Int32).toNatClampNeg)]) (rest := [.int (-1)]) ⟨hx, hb, hml, hown, hG⟩ (kX9_allowance l g n0 (zs (1 : Int32).toNatClampNeg) m_told m_read m_now m_readNow m_kept m_tape m_refused m_ownLetters m_flats m_corner m_wayX m_wayY m_normal m_low m_high m_clear m_ways m_canBe m_lain m_fewestBy m_sortOf m_seenFlange m_seenLength _) ⟨callB_of 1 hG (zGood g1701) rfl rfl rfl (hG _ g211) (hG _ g1698) hX9_allowance ⟨Nat.le_of_ble_eq_true rfl, Nat.le_of_ble_eq_true rfl⟩, hG _ g1699, hG _ g1700⟩ (zpreV (va_recv hX.1 hP (ci := 9) (q0 := 0) rfl rfl) hX hP hD hS hA [0] rfl (by decide)) rfl rfl hl.1 rfl (lv_room (Nat.le_of_ble_eq_true rfl)) dL_law_489 ⟨Nat.le_of_ble_eq_true rfl, Nat.le_of_ble_eq_true rfl⟩) hP hD hS hA [0] [] rfl rfl (by decide) (by decide) (fun r3 _ H locs hp hP hD hS => ?_)
  refine W.cs (cells' := 75) (slots' := 18897) rfl rfl ?_
  have hq4 : r3 = (-1) := hp
  subst hq4
  have hP : va_P g.1 vwCl [] H := hP
  have hD : va_D A [] := hD
  refine lv_icmp_eq (tgt := 1474) hx hb dL_law_492 (by decide) (fun c9 => ?_) (fun c9 => (c9 rfl).elim)
  exact lc_end C0 (Nat.le_of_ble_eq_true rfl) (Nat.le_of_ble_eq_true rfl) hS (lv_sub hl [0, 3] rfl)
theorem dL_law_497 : decode cL_law 497 = .ok (.aload_n 1, 1) := by decide +kernel
theorem dL_law_498 : decode cL_law 498 = .ok (.aload_n 0, 1) := by decide +kernel
theorem dL_law_499 : decode cL_law 499 = .ok (.iload_n 3, 1) := by decide +kernel
theorem dL_law_500 : decode cL_law 500 = .ok (.iconst 1, 1) := by decide +kernel
theorem dL_law_501 : decode cL_law 501 = .ok (.iadd, 1) := by decide +kernel
theorem dL_law_502 : decode cL_law 502 = .ok (.iaload, 1) := by decide +kernel
theorem dL_law_503 : decode cL_law 503 = .ok (.aload_n 0, 1) := by decide +kernel
theorem dL_law_504 : decode cL_law 504 = .ok (.iload_n 3, 1) := by decide +kernel
theorem dL_law_505 : decode cL_law 505 = .ok (.iconst 2, 1) := by decide +kernel
theorem dL_law_506 : decode cL_law 506 = .ok (.iadd, 1) := by decide +kernel
theorem dL_law_507 : decode cL_law 507 = .ok (.iaload, 1) := by decide +kernel
theorem dL_law_508 : decode cL_law 508 = .ok (.invokevirtual 54, 3) := by decide +kernel
theorem dL_law_511 : decode cL_law 511 = .ok (.aload_n 2, 1) := by decide +kernel
theorem dL_law_512 : decode cL_law 512 = .ok (.aload_n 0, 1) := by decide +kernel
theorem dL_law_513 : decode cL_law 513 = .ok (.iload_n 3, 1) := by decide +kernel
theorem dL_law_514 : decode cL_law 514 = .ok (.iconst 1, 1) := by decide +kernel
theorem dL_law_515 : decode cL_law 515 = .ok (.iadd, 1) := by decide +kernel
theorem dL_law_516 : decode cL_law 516 = .ok (.iaload, 1) := by decide +kernel
theorem dL_law_517 : decode cL_law 517 = .ok (.aload_n 0, 1) := by decide +kernel
theorem dL_law_518 : decode cL_law 518 = .ok (.iload_n 3, 1) := by decide +kernel
theorem dL_law_519 : decode cL_law 519 = .ok (.iconst 2, 1) := by decide +kernel
theorem dL_law_520 : decode cL_law 520 = .ok (.iadd, 1) := by decide +kernel
theorem dL_law_521 : decode cL_law 521 = .ok (.iaload, 1) := by decide +kernel
theorem dL_law_522 : decode cL_law 522 = .ok (.invokevirtual 57, 3) := by decide +kernel
theorem dL_law_525 : decode cL_law 525 = .ok (.if_icmp .eq 949, 3) := by decide +kernel
set_option maxHeartbeats 4000000 in
set_option maxRecDepth 100000 in
theorem lc_9 {p : Program} {l : Launch} {e : Env} {s : State} {m : MethodId} {below : List Frame} {meth : Method} {c : Code} {b : Nat} {zs : Nat → Int32} {g : zL} {A : Nat → Prop} (C0 : zLw p s m meth c b zs g A) {h0 xt xr xp xs xm xh xe xf pa dr p_toolWidth p_told p_name p_parent p_side p_from p_width p_height p_radius p_toolSet n0 m_told m_read m_now m_readNow m_kept m_tape m_refused m_ownLetters m_flats m_corner m_wayX m_wayY m_normal m_low m_high m_clear m_ways m_canBe m_lain m_fewestBy m_sortOf m_seenFlange m_seenLength : Nat} {H : Heap} {locs : List Loc} {ls : Array Slot} (hP : va_P g.1 vwCl [(h0, .inr (8, [.ref xt, .ref xr, .ref xp, .ref xs, .ref xm, .ref xh, .ref xe, .ref xf, .ref pa, .ref dr, .int 0, .int 1, .int 0, .int 0])), (pa, .inr (4, [.int 0, .int 0, .int 0, .int 0, .int 0, .int 0, .ref p_toolWidth, .ref p_told, .ref p_name, .ref p_parent, .ref p_side, .ref p_from, .ref p_width, .ref p_height, .ref p_radius, .ref p_toolSet])), (n0, .inr (9, [.ref m_told, .ref m_read, .ref m_now, .ref m_readNow, .ref m_kept, .int 0, .int 1, .int 0, .ref m_tape, .int 0, .ref m_refused, .int 0, .int (-1), .int 0, .int 0, .int 0, .int 0, .int (-1), .ref m_ownLetters, .ref m_flats, .int 0, .ref m_corner, .ref m_wayX, .ref m_wayY, .ref m_normal, .ref m_low, .ref m_high, .ref m_clear, .ref m_ways, .ref m_canBe, .ref m_lain, .int 0, .ref m_fewestBy, .ref m_sortOf, .int 0, .ref m_seenFlange, .ref m_seenLength]))] H) (hD : va_D A [(h0, .inr (8, [.ref xt, .ref xr, .ref xp, .ref xs, .ref xm, .ref xh, .ref xe, .ref xf, .ref pa, .ref dr, .int 0, .int 1, .int 0, .int 0])), (pa, .inr (4, [.int 0, .int 0, .int 0, .int 0, .int 0, .int 0, .ref p_toolWidth, .ref p_told, .ref p_name, .ref p_parent, .ref p_side, .ref p_from, .ref p_width, .ref p_height, .ref p_radius, .ref p_toolSet])), (n0, .inr (9, [.ref m_told, .ref m_read, .ref m_now, .ref m_readNow, .ref m_kept, .int 0, .int 1, .int 0, .ref m_tape, .int 0, .ref m_refused, .int 0, .int (-1), .int 0, .int 0, .int 0, .int 0, .int (-1), .ref m_ownLetters, .ref m_flats, .int 0, .ref m_corner, .ref m_wayX, .ref m_wayY, .ref m_normal, .ref m_low, .ref m_high, .ref m_clear, .ref m_ways, .ref m_canBe, .ref m_lain, .int 0, .ref m_fewestBy, .ref m_sortOf, .int 0, .ref m_seenFlange, .ref m_seenLength]))]) (hS : va_S A s.heap H locs) (hl : lv_has ls 4 [(0, .ref b), (1, .ref h0), (2, .ref n0), (3, .int 0)]) : W p l e room_1 s m #[Value.ref b] below meth c H locs 75 18897 (lw_Z below #[Value.ref b] s) (F0 m 497 ls []) := by
  obtain ⟨hx, hb, hr, hml, hown, hG, hlocks, hX, hA, hA2, hZ, hbl, hbA⟩ := id C0
  refine lv_aload_n hx hb dL_law_497 rfl (lv_at hl 1 rfl) ?_
  refine lv_aload_n hx hb dL_law_498 rfl (lv_at hl 0 rfl) ?_
  refine lv_iload_n hx hb dL_law_499 rfl (lv_at hl 3 rfl) ?_
  refine lv_iconst (v := 1) hx hb dL_law_500 (by decide) ?_
  refine lv_iadd hx hb dL_law_501 ?_
  refine zt (z := 1) (by decide) ?_
  refine va_sld hx hb hZ hbl hbA hS (vp_in_iff.mpr (by decide)) dL_law_502 ?_
  refine lv_aload_n hx hb dL_law_503 rfl (lv_at hl 0 rfl) ?_
  refine lv_iload_n hx hb dL_law_504 rfl (lv_at hl 3 rfl) ?_
  refine lv_iconst (v := 2) hx hb dL_law_505 (by decide) ?_
  refine lv_iadd hx hb dL_law_506 ?_
  refine zt (z := 2) (by decide) ?_
  refine va_sld hx hb hZ hbl hbA hS (vp_in_iff.mpr (by decide)) dL_law_507 ?_
  refine zfi (wr := [(n0, .inr (9, [.ref m_told, .ref m_read, .ref m_now, .ref m_readNow, .ref m_kept, .int 0, .int 1, .int 0, .ref m_tape, .int 0, .ref m_refused, .int 0, .int (-1), .int 0, .int 0, .int 0, .int 0, .int (-1), .ref m_ownLetters, .ref m_flats, .int 0, .ref m_corner, .ref m_wayX, .ref m_wayY, .ref m_normal, .ref m_low, .ref m_high, .ref m_clear, .ref m_ways, .ref m_canBe, .ref m_lain, .int 0, .ref m_fewestBy, .ref m_sortOf, .int 0, .ref m_seenFlange, .ref m_seenLength]))]) (va_runV (As := [.int (zs (1 : Int32).toNatClampNeg), .int (zs (2 : Int32).toNatClampNeg)]) (rest := []) ⟨hx, hb, hml, hown, hG⟩ (kX8_flat l g h0 (zs (1 : Int32).toNatClampNeg) (zs (2 : Int32).toNatClampNeg) xt xr xp xs xm xh xe xf pa dr p_toolWidth p_told p_name p_parent p_side p_from p_width p_height p_radius p_toolSet _) ⟨callB_of 2 hG (zGood g869) rfl rfl rfl (hG _ g202) (hG _ g866) hX8_flat ⟨Nat.le_of_ble_eq_true rfl, Nat.le_of_ble_eq_true rfl⟩, hG _ g867, hG _ g868⟩ (zpreV (va_recv hX.1 hP (ci := 8) (q0 := 0) rfl rfl) hX hP hD hS hA [0, 1] rfl (by decide)) rfl rfl hl.1 rfl (lv_room (Nat.le_of_ble_eq_true rfl)) dL_law_508 ⟨Nat.le_of_ble_eq_true rfl, Nat.le_of_ble_eq_true rfl⟩) hP hD hS hA [0, 1] [2] rfl rfl (by decide) (by decide) (fun r1 _ H locs hp hP hD hS => ?_)
  refine W.cs (cells' := 75) (slots' := 18897) rfl rfl ?_
  have hq2 : r1 = (-1000000) := hp
  subst hq2
  have hP : va_P g.1 vwCl [(n0, .inr (9, [.ref m_told, .ref m_read, .ref m_now, .ref m_readNow, .ref m_kept, .int 0, .int 1, .int 0, .ref m_tape, .int 0, .ref m_refused, .int 0, .int (-1), .int 0, .int 0, .int 0, .int 0, .int (-1), .ref m_ownLetters, .ref m_flats, .int 0, .ref m_corner, .ref m_wayX, .ref m_wayY, .ref m_normal, .ref m_low, .ref m_high, .ref m_clear, .ref m_ways, .ref m_canBe, .ref m_lain, .int 0, .ref m_fewestBy, .ref m_sortOf, .int 0, .ref m_seenFlange, .ref m_seenLength]))] H := hP
  have hD : va_D A [(n0, .inr (9, [.ref m_told, .ref m_read, .ref m_now, .ref m_readNow, .ref m_kept, .int 0, .int 1, .int 0, .ref m_tape, .int 0, .ref m_refused, .int 0, .int (-1), .int 0, .int 0, .int 0, .int 0, .int (-1), .ref m_ownLetters, .ref m_flats, .int 0, .ref m_corner, .ref m_wayX, .ref m_wayY, .ref m_normal, .ref m_low, .ref m_high, .ref m_clear, .ref m_ways, .ref m_canBe, .ref m_lain, .int 0, .ref m_fewestBy, .ref m_sortOf, .int 0, .ref m_seenFlange, .ref m_seenLength]))] := hD
  refine lv_aload_n hx hb dL_law_511 rfl (lv_at hl 2 rfl) ?_
  refine lv_aload_n hx hb dL_law_512 rfl (lv_at hl 0 rfl) ?_
  refine lv_iload_n hx hb dL_law_513 rfl (lv_at hl 3 rfl) ?_
  refine lv_iconst (v := 1) hx hb dL_law_514 (by decide) ?_
  refine lv_iadd hx hb dL_law_515 ?_
  refine zt (z := 1) (by decide) ?_
  refine va_sld hx hb hZ hbl hbA hS (vp_in_iff.mpr (by decide)) dL_law_516 ?_
  refine lv_aload_n hx hb dL_law_517 rfl (lv_at hl 0 rfl) ?_
  refine lv_iload_n hx hb dL_law_518 rfl (lv_at hl 3 rfl) ?_
  refine lv_iconst (v := 2) hx hb dL_law_519 (by decide) ?_
  refine lv_iadd hx hb dL_law_520 ?_
  refine zt (z := 2) (by decide) ?_
  refine va_sld hx hb hZ hbl hbA hS (vp_in_iff.mpr (by decide)) dL_law_521 ?_
  refine zfi (wr := []) (va_runV (As := [.int (zs (1 : Int32).toNatClampNeg), .int (zs (2 : Int32).toNatClampNeg)]) (rest := [.int (-1000000)]) ⟨hx, hb, hml, hown, hG⟩ (kX9_flat l g n0 (zs (1 : Int32).toNatClampNeg) (zs (2 : Int32).toNatClampNeg) m_told m_read m_now m_readNow m_kept m_tape m_refused m_ownLetters m_flats m_corner m_wayX m_wayY m_normal m_low m_high m_clear m_ways m_canBe m_lain m_fewestBy m_sortOf m_seenFlange m_seenLength _) ⟨callB_of 2 hG (zGood g1705) rfl rfl rfl (hG _ g211) (hG _ g1702) hX9_flat ⟨Nat.le_of_ble_eq_true rfl, Nat.le_of_ble_eq_true rfl⟩, hG _ g1703, hG _ g1704⟩ (zpreV (va_recv hX.1 hP (ci := 9) (q0 := 0) rfl rfl) hX hP hD hS hA [0] rfl (by decide)) rfl rfl hl.1 rfl (lv_room (Nat.le_of_ble_eq_true rfl)) dL_law_522 ⟨Nat.le_of_ble_eq_true rfl, Nat.le_of_ble_eq_true rfl⟩) hP hD hS hA [0] [] rfl rfl (by decide) (by decide) (fun r3 _ H locs hp hP hD hS => ?_)
  refine W.cs (cells' := 75) (slots' := 18897) rfl rfl ?_
  have hq4 : r3 = (-1000000) := hp
  subst hq4
  have hP : va_P g.1 vwCl [] H := hP
  have hD : va_D A [] := hD
  refine lv_icmp_eq (tgt := 1474) hx hb dL_law_525 (by decide) (fun c9 => ?_) (fun c9 => (c9 rfl).elim)
  exact lc_end C0 (Nat.le_of_ble_eq_true rfl) (Nat.le_of_ble_eq_true rfl) hS (lv_sub hl [0, 3] rfl)
theorem dL_law_530 : decode cL_law 530 = .ok (.aload_n 1, 1) := by decide +kernel
theorem dL_law_531 : decode cL_law 531 = .ok (.aload_n 0, 1) := by decide +kernel
theorem dL_law_532 : decode cL_law 532 = .ok (.iload_n 3, 1) := by decide +kernel
theorem dL_law_533 : decode cL_law 533 = .ok (.iconst 1, 1) := by decide +kernel
theorem dL_law_534 : decode cL_law 534 = .ok (.iadd, 1) := by decide +kernel
theorem dL_law_535 : decode cL_law 535 = .ok (.iaload, 1) := by decide +kernel
theorem dL_law_536 : decode cL_law 536 = .ok (.invokevirtual 58, 3) := by decide +kernel
theorem dL_law_539 : decode cL_law 539 = .ok (.aload_n 2, 1) := by decide +kernel
theorem dL_law_540 : decode cL_law 540 = .ok (.aload_n 0, 1) := by decide +kernel
theorem dL_law_541 : decode cL_law 541 = .ok (.iload_n 3, 1) := by decide +kernel
theorem dL_law_542 : decode cL_law 542 = .ok (.iconst 1, 1) := by decide +kernel
theorem dL_law_543 : decode cL_law 543 = .ok (.iadd, 1) := by decide +kernel
theorem dL_law_544 : decode cL_law 544 = .ok (.iaload, 1) := by decide +kernel
theorem dL_law_545 : decode cL_law 545 = .ok (.invokevirtual 61, 3) := by decide +kernel
theorem dL_law_548 : decode cL_law 548 = .ok (.if_icmp .eq 926, 3) := by decide +kernel
set_option maxHeartbeats 4000000 in
set_option maxRecDepth 100000 in
theorem lc_10 {p : Program} {l : Launch} {e : Env} {s : State} {m : MethodId} {below : List Frame} {meth : Method} {c : Code} {b : Nat} {zs : Nat → Int32} {g : zL} {A : Nat → Prop} (C0 : zLw p s m meth c b zs g A) {h0 xt xr xp xs xm xh xe xf pa dr p_toolWidth p_told p_name p_parent p_side p_from p_width p_height p_radius p_toolSet n0 m_told m_read m_now m_readNow m_kept m_tape m_refused m_ownLetters m_flats m_corner m_wayX m_wayY m_normal m_low m_high m_clear m_ways m_canBe m_lain m_fewestBy m_sortOf m_seenFlange m_seenLength : Nat} {H : Heap} {locs : List Loc} {ls : Array Slot} (hP : va_P g.1 vwCl [(h0, .inr (8, [.ref xt, .ref xr, .ref xp, .ref xs, .ref xm, .ref xh, .ref xe, .ref xf, .ref pa, .ref dr, .int 0, .int 1, .int 0, .int 0])), (pa, .inr (4, [.int 0, .int 0, .int 0, .int 0, .int 0, .int 0, .ref p_toolWidth, .ref p_told, .ref p_name, .ref p_parent, .ref p_side, .ref p_from, .ref p_width, .ref p_height, .ref p_radius, .ref p_toolSet])), (n0, .inr (9, [.ref m_told, .ref m_read, .ref m_now, .ref m_readNow, .ref m_kept, .int 0, .int 1, .int 0, .ref m_tape, .int 0, .ref m_refused, .int 0, .int (-1), .int 0, .int 0, .int 0, .int 0, .int (-1), .ref m_ownLetters, .ref m_flats, .int 0, .ref m_corner, .ref m_wayX, .ref m_wayY, .ref m_normal, .ref m_low, .ref m_high, .ref m_clear, .ref m_ways, .ref m_canBe, .ref m_lain, .int 0, .ref m_fewestBy, .ref m_sortOf, .int 0, .ref m_seenFlange, .ref m_seenLength]))] H) (hD : va_D A [(h0, .inr (8, [.ref xt, .ref xr, .ref xp, .ref xs, .ref xm, .ref xh, .ref xe, .ref xf, .ref pa, .ref dr, .int 0, .int 1, .int 0, .int 0])), (pa, .inr (4, [.int 0, .int 0, .int 0, .int 0, .int 0, .int 0, .ref p_toolWidth, .ref p_told, .ref p_name, .ref p_parent, .ref p_side, .ref p_from, .ref p_width, .ref p_height, .ref p_radius, .ref p_toolSet])), (n0, .inr (9, [.ref m_told, .ref m_read, .ref m_now, .ref m_readNow, .ref m_kept, .int 0, .int 1, .int 0, .ref m_tape, .int 0, .ref m_refused, .int 0, .int (-1), .int 0, .int 0, .int 0, .int 0, .int (-1), .ref m_ownLetters, .ref m_flats, .int 0, .ref m_corner, .ref m_wayX, .ref m_wayY, .ref m_normal, .ref m_low, .ref m_high, .ref m_clear, .ref m_ways, .ref m_canBe, .ref m_lain, .int 0, .ref m_fewestBy, .ref m_sortOf, .int 0, .ref m_seenFlange, .ref m_seenLength]))]) (hS : va_S A s.heap H locs) (hl : lv_has ls 4 [(0, .ref b), (1, .ref h0), (2, .ref n0), (3, .int 0)]) : W p l e room_1 s m #[Value.ref b] below meth c H locs 75 18897 (lw_Z below #[Value.ref b] s) (F0 m 530 ls []) := by
  obtain ⟨hx, hb, hr, hml, hown, hG, hlocks, hX, hA, hA2, hZ, hbl, hbA⟩ := id C0
  refine lv_aload_n hx hb dL_law_530 rfl (lv_at hl 1 rfl) ?_
  refine lv_aload_n hx hb dL_law_531 rfl (lv_at hl 0 rfl) ?_
  refine lv_iload_n hx hb dL_law_532 rfl (lv_at hl 3 rfl) ?_
  refine lv_iconst (v := 1) hx hb dL_law_533 (by decide) ?_
  refine lv_iadd hx hb dL_law_534 ?_
  refine zt (z := 1) (by decide) ?_
  refine va_sld hx hb hZ hbl hbA hS (vp_in_iff.mpr (by decide)) dL_law_535 ?_
  refine zfi (wr := [(n0, .inr (9, [.ref m_told, .ref m_read, .ref m_now, .ref m_readNow, .ref m_kept, .int 0, .int 1, .int 0, .ref m_tape, .int 0, .ref m_refused, .int 0, .int (-1), .int 0, .int 0, .int 0, .int 0, .int (-1), .ref m_ownLetters, .ref m_flats, .int 0, .ref m_corner, .ref m_wayX, .ref m_wayY, .ref m_normal, .ref m_low, .ref m_high, .ref m_clear, .ref m_ways, .ref m_canBe, .ref m_lain, .int 0, .ref m_fewestBy, .ref m_sortOf, .int 0, .ref m_seenFlange, .ref m_seenLength]))]) (va_runV (As := [.int (zs (1 : Int32).toNatClampNeg)]) (rest := []) ⟨hx, hb, hml, hown, hG⟩ (kX8_flatBox l g h0 (zs (1 : Int32).toNatClampNeg) xt xr xp xs xm xh xe xf pa dr p_toolWidth p_told p_name p_parent p_side p_from p_width p_height p_radius p_toolSet _) ⟨callB_of 1 hG (zGood g941) rfl rfl rfl (hG _ g202) (hG _ g938) hX8_flatBox ⟨Nat.le_of_ble_eq_true rfl, Nat.le_of_ble_eq_true rfl⟩, hG _ g939, hG _ g940⟩ (zpreV (va_recv hX.1 hP (ci := 8) (q0 := 0) rfl rfl) hX hP hD hS hA [0, 1] rfl (by decide)) rfl rfl hl.1 rfl (lv_room (Nat.le_of_ble_eq_true rfl)) dL_law_536 ⟨Nat.le_of_ble_eq_true rfl, Nat.le_of_ble_eq_true rfl⟩) hP hD hS hA [0, 1] [2] rfl rfl (by decide) (by decide) (fun r1 _ H locs hp hP hD hS => ?_)
  refine W.cs (cells' := 75) (slots' := 18897) rfl rfl ?_
  have hq2 : r1 = (-1000000) := hp
  subst hq2
  have hP : va_P g.1 vwCl [(n0, .inr (9, [.ref m_told, .ref m_read, .ref m_now, .ref m_readNow, .ref m_kept, .int 0, .int 1, .int 0, .ref m_tape, .int 0, .ref m_refused, .int 0, .int (-1), .int 0, .int 0, .int 0, .int 0, .int (-1), .ref m_ownLetters, .ref m_flats, .int 0, .ref m_corner, .ref m_wayX, .ref m_wayY, .ref m_normal, .ref m_low, .ref m_high, .ref m_clear, .ref m_ways, .ref m_canBe, .ref m_lain, .int 0, .ref m_fewestBy, .ref m_sortOf, .int 0, .ref m_seenFlange, .ref m_seenLength]))] H := hP
  have hD : va_D A [(n0, .inr (9, [.ref m_told, .ref m_read, .ref m_now, .ref m_readNow, .ref m_kept, .int 0, .int 1, .int 0, .ref m_tape, .int 0, .ref m_refused, .int 0, .int (-1), .int 0, .int 0, .int 0, .int 0, .int (-1), .ref m_ownLetters, .ref m_flats, .int 0, .ref m_corner, .ref m_wayX, .ref m_wayY, .ref m_normal, .ref m_low, .ref m_high, .ref m_clear, .ref m_ways, .ref m_canBe, .ref m_lain, .int 0, .ref m_fewestBy, .ref m_sortOf, .int 0, .ref m_seenFlange, .ref m_seenLength]))] := hD
  refine lv_aload_n hx hb dL_law_539 rfl (lv_at hl 2 rfl) ?_
  refine lv_aload_n hx hb dL_law_540 rfl (lv_at hl 0 rfl) ?_
  refine lv_iload_n hx hb dL_law_541 rfl (lv_at hl 3 rfl) ?_
  refine lv_iconst (v := 1) hx hb dL_law_542 (by decide) ?_
  refine lv_iadd hx hb dL_law_543 ?_
  refine zt (z := 1) (by decide) ?_
  refine va_sld hx hb hZ hbl hbA hS (vp_in_iff.mpr (by decide)) dL_law_544 ?_
  refine zfi (wr := []) (va_runV (As := [.int (zs (1 : Int32).toNatClampNeg)]) (rest := [.int (-1000000)]) ⟨hx, hb, hml, hown, hG⟩ (kX9_flatBox l g n0 (zs (1 : Int32).toNatClampNeg) m_told m_read m_now m_readNow m_kept m_tape m_refused m_ownLetters m_flats m_corner m_wayX m_wayY m_normal m_low m_high m_clear m_ways m_canBe m_lain m_fewestBy m_sortOf m_seenFlange m_seenLength _) ⟨callB_of 1 hG (zGood g1722) rfl rfl rfl (hG _ g211) (hG _ g1719) hX9_flatBox ⟨Nat.le_of_ble_eq_true rfl, Nat.le_of_ble_eq_true rfl⟩, hG _ g1720, hG _ g1721⟩ (zpreV (va_recv hX.1 hP (ci := 9) (q0 := 0) rfl rfl) hX hP hD hS hA [0] rfl (by decide)) rfl rfl hl.1 rfl (lv_room (Nat.le_of_ble_eq_true rfl)) dL_law_545 ⟨Nat.le_of_ble_eq_true rfl, Nat.le_of_ble_eq_true rfl⟩) hP hD hS hA [0] [] rfl rfl (by decide) (by decide) (fun r3 _ H locs hp hP hD hS => ?_)
  refine W.cs (cells' := 75) (slots' := 18897) rfl rfl ?_
  have hq4 : r3 = (-1000000) := hp
  subst hq4
  have hP : va_P g.1 vwCl [] H := hP
  have hD : va_D A [] := hD
  refine lv_icmp_eq (tgt := 1474) hx hb dL_law_548 (by decide) (fun c9 => ?_) (fun c9 => (c9 rfl).elim)
  exact lc_end C0 (Nat.le_of_ble_eq_true rfl) (Nat.le_of_ble_eq_true rfl) hS (lv_sub hl [0, 3] rfl)
theorem dL_law_553 : decode cL_law 553 = .ok (.aload_n 1, 1) := by decide +kernel
theorem dL_law_554 : decode cL_law 554 = .ok (.aload_n 0, 1) := by decide +kernel
theorem dL_law_555 : decode cL_law 555 = .ok (.iload_n 3, 1) := by decide +kernel
theorem dL_law_556 : decode cL_law 556 = .ok (.iconst 1, 1) := by decide +kernel
theorem dL_law_557 : decode cL_law 557 = .ok (.iadd, 1) := by decide +kernel
theorem dL_law_558 : decode cL_law 558 = .ok (.iaload, 1) := by decide +kernel
theorem dL_law_559 : decode cL_law 559 = .ok (.aload_n 0, 1) := by decide +kernel
theorem dL_law_560 : decode cL_law 560 = .ok (.iload_n 3, 1) := by decide +kernel
theorem dL_law_561 : decode cL_law 561 = .ok (.iconst 2, 1) := by decide +kernel
theorem dL_law_562 : decode cL_law 562 = .ok (.iadd, 1) := by decide +kernel
theorem dL_law_563 : decode cL_law 563 = .ok (.iaload, 1) := by decide +kernel
theorem dL_law_564 : decode cL_law 564 = .ok (.invokevirtual 62, 3) := by decide +kernel
theorem dL_law_567 : decode cL_law 567 = .ok (.aload_n 2, 1) := by decide +kernel
theorem dL_law_568 : decode cL_law 568 = .ok (.aload_n 0, 1) := by decide +kernel
theorem dL_law_569 : decode cL_law 569 = .ok (.iload_n 3, 1) := by decide +kernel
theorem dL_law_570 : decode cL_law 570 = .ok (.iconst 1, 1) := by decide +kernel
theorem dL_law_571 : decode cL_law 571 = .ok (.iadd, 1) := by decide +kernel
theorem dL_law_572 : decode cL_law 572 = .ok (.iaload, 1) := by decide +kernel
theorem dL_law_573 : decode cL_law 573 = .ok (.aload_n 0, 1) := by decide +kernel
theorem dL_law_574 : decode cL_law 574 = .ok (.iload_n 3, 1) := by decide +kernel
theorem dL_law_575 : decode cL_law 575 = .ok (.iconst 2, 1) := by decide +kernel
theorem dL_law_576 : decode cL_law 576 = .ok (.iadd, 1) := by decide +kernel
theorem dL_law_577 : decode cL_law 577 = .ok (.iaload, 1) := by decide +kernel
theorem dL_law_578 : decode cL_law 578 = .ok (.invokevirtual 65, 3) := by decide +kernel
theorem dL_law_581 : decode cL_law 581 = .ok (.if_icmp .eq 893, 3) := by decide +kernel
set_option maxHeartbeats 4000000 in
set_option maxRecDepth 100000 in
theorem lc_11 {p : Program} {l : Launch} {e : Env} {s : State} {m : MethodId} {below : List Frame} {meth : Method} {c : Code} {b : Nat} {zs : Nat → Int32} {g : zL} {A : Nat → Prop} (C0 : zLw p s m meth c b zs g A) {h0 xt xr xp xs xm xh xe xf pa dr p_toolWidth p_told p_name p_parent p_side p_from p_width p_height p_radius p_toolSet n0 m_told m_read m_now m_readNow m_kept m_tape m_refused m_ownLetters m_flats m_corner m_wayX m_wayY m_normal m_low m_high m_clear m_ways m_canBe m_lain m_fewestBy m_sortOf m_seenFlange m_seenLength : Nat} {H : Heap} {locs : List Loc} {ls : Array Slot} (hP : va_P g.1 vwCl [(h0, .inr (8, [.ref xt, .ref xr, .ref xp, .ref xs, .ref xm, .ref xh, .ref xe, .ref xf, .ref pa, .ref dr, .int 0, .int 1, .int 0, .int 0])), (pa, .inr (4, [.int 0, .int 0, .int 0, .int 0, .int 0, .int 0, .ref p_toolWidth, .ref p_told, .ref p_name, .ref p_parent, .ref p_side, .ref p_from, .ref p_width, .ref p_height, .ref p_radius, .ref p_toolSet])), (n0, .inr (9, [.ref m_told, .ref m_read, .ref m_now, .ref m_readNow, .ref m_kept, .int 0, .int 1, .int 0, .ref m_tape, .int 0, .ref m_refused, .int 0, .int (-1), .int 0, .int 0, .int 0, .int 0, .int (-1), .ref m_ownLetters, .ref m_flats, .int 0, .ref m_corner, .ref m_wayX, .ref m_wayY, .ref m_normal, .ref m_low, .ref m_high, .ref m_clear, .ref m_ways, .ref m_canBe, .ref m_lain, .int 0, .ref m_fewestBy, .ref m_sortOf, .int 0, .ref m_seenFlange, .ref m_seenLength]))] H) (hD : va_D A [(h0, .inr (8, [.ref xt, .ref xr, .ref xp, .ref xs, .ref xm, .ref xh, .ref xe, .ref xf, .ref pa, .ref dr, .int 0, .int 1, .int 0, .int 0])), (pa, .inr (4, [.int 0, .int 0, .int 0, .int 0, .int 0, .int 0, .ref p_toolWidth, .ref p_told, .ref p_name, .ref p_parent, .ref p_side, .ref p_from, .ref p_width, .ref p_height, .ref p_radius, .ref p_toolSet])), (n0, .inr (9, [.ref m_told, .ref m_read, .ref m_now, .ref m_readNow, .ref m_kept, .int 0, .int 1, .int 0, .ref m_tape, .int 0, .ref m_refused, .int 0, .int (-1), .int 0, .int 0, .int 0, .int 0, .int (-1), .ref m_ownLetters, .ref m_flats, .int 0, .ref m_corner, .ref m_wayX, .ref m_wayY, .ref m_normal, .ref m_low, .ref m_high, .ref m_clear, .ref m_ways, .ref m_canBe, .ref m_lain, .int 0, .ref m_fewestBy, .ref m_sortOf, .int 0, .ref m_seenFlange, .ref m_seenLength]))]) (hS : va_S A s.heap H locs) (hl : lv_has ls 4 [(0, .ref b), (1, .ref h0), (2, .ref n0), (3, .int 0)]) : W p l e room_1 s m #[Value.ref b] below meth c H locs 75 18897 (lw_Z below #[Value.ref b] s) (F0 m 553 ls []) := by
  obtain ⟨hx, hb, hr, hml, hown, hG, hlocks, hX, hA, hA2, hZ, hbl, hbA⟩ := id C0
  refine lv_aload_n hx hb dL_law_553 rfl (lv_at hl 1 rfl) ?_
  refine lv_aload_n hx hb dL_law_554 rfl (lv_at hl 0 rfl) ?_
  refine lv_iload_n hx hb dL_law_555 rfl (lv_at hl 3 rfl) ?_
  refine lv_iconst (v := 1) hx hb dL_law_556 (by decide) ?_
  refine lv_iadd hx hb dL_law_557 ?_
  refine zt (z := 1) (by decide) ?_
  refine va_sld hx hb hZ hbl hbA hS (vp_in_iff.mpr (by decide)) dL_law_558 ?_
  refine lv_aload_n hx hb dL_law_559 rfl (lv_at hl 0 rfl) ?_
  refine lv_iload_n hx hb dL_law_560 rfl (lv_at hl 3 rfl) ?_
  refine lv_iconst (v := 2) hx hb dL_law_561 (by decide) ?_
  refine lv_iadd hx hb dL_law_562 ?_
  refine zt (z := 2) (by decide) ?_
  refine va_sld hx hb hZ hbl hbA hS (vp_in_iff.mpr (by decide)) dL_law_563 ?_
  refine zfi (wr := [(n0, .inr (9, [.ref m_told, .ref m_read, .ref m_now, .ref m_readNow, .ref m_kept, .int 0, .int 1, .int 0, .ref m_tape, .int 0, .ref m_refused, .int 0, .int (-1), .int 0, .int 0, .int 0, .int 0, .int (-1), .ref m_ownLetters, .ref m_flats, .int 0, .ref m_corner, .ref m_wayX, .ref m_wayY, .ref m_normal, .ref m_low, .ref m_high, .ref m_clear, .ref m_ways, .ref m_canBe, .ref m_lain, .int 0, .ref m_fewestBy, .ref m_sortOf, .int 0, .ref m_seenFlange, .ref m_seenLength]))]) (va_runV (As := [.int (zs (1 : Int32).toNatClampNeg), .int (zs (2 : Int32).toNatClampNeg)]) (rest := []) ⟨hx, hb, hml, hown, hG⟩ (kX8_overlap l g h0 (zs (1 : Int32).toNatClampNeg) (zs (2 : Int32).toNatClampNeg) xt xr xp xs xm xh xe xf pa dr p_toolWidth p_told p_name p_parent p_side p_from p_width p_height p_radius p_toolSet _) ⟨callB_of 2 hG (zGood g960) rfl rfl rfl (hG _ g202) (hG _ g957) hX8_overlap ⟨Nat.le_of_ble_eq_true rfl, Nat.le_of_ble_eq_true rfl⟩, hG _ g958, hG _ g959⟩ (zpreV (va_recv hX.1 hP (ci := 8) (q0 := 0) rfl rfl) hX hP hD hS hA [0, 1] rfl (by decide)) rfl rfl hl.1 rfl (lv_room (Nat.le_of_ble_eq_true rfl)) dL_law_564 ⟨Nat.le_of_ble_eq_true rfl, Nat.le_of_ble_eq_true rfl⟩) hP hD hS hA [0, 1] [2] rfl rfl (by decide) (by decide) (fun r1 _ H locs hp hP hD hS => ?_)
  refine W.cs (cells' := 75) (slots' := 18897) rfl rfl ?_
  have hq2 : r1 = (-1) := hp
  subst hq2
  have hP : va_P g.1 vwCl [(n0, .inr (9, [.ref m_told, .ref m_read, .ref m_now, .ref m_readNow, .ref m_kept, .int 0, .int 1, .int 0, .ref m_tape, .int 0, .ref m_refused, .int 0, .int (-1), .int 0, .int 0, .int 0, .int 0, .int (-1), .ref m_ownLetters, .ref m_flats, .int 0, .ref m_corner, .ref m_wayX, .ref m_wayY, .ref m_normal, .ref m_low, .ref m_high, .ref m_clear, .ref m_ways, .ref m_canBe, .ref m_lain, .int 0, .ref m_fewestBy, .ref m_sortOf, .int 0, .ref m_seenFlange, .ref m_seenLength]))] H := hP
  have hD : va_D A [(n0, .inr (9, [.ref m_told, .ref m_read, .ref m_now, .ref m_readNow, .ref m_kept, .int 0, .int 1, .int 0, .ref m_tape, .int 0, .ref m_refused, .int 0, .int (-1), .int 0, .int 0, .int 0, .int 0, .int (-1), .ref m_ownLetters, .ref m_flats, .int 0, .ref m_corner, .ref m_wayX, .ref m_wayY, .ref m_normal, .ref m_low, .ref m_high, .ref m_clear, .ref m_ways, .ref m_canBe, .ref m_lain, .int 0, .ref m_fewestBy, .ref m_sortOf, .int 0, .ref m_seenFlange, .ref m_seenLength]))] := hD
  refine lv_aload_n hx hb dL_law_567 rfl (lv_at hl 2 rfl) ?_
  refine lv_aload_n hx hb dL_law_568 rfl (lv_at hl 0 rfl) ?_
  refine lv_iload_n hx hb dL_law_569 rfl (lv_at hl 3 rfl) ?_
  refine lv_iconst (v := 1) hx hb dL_law_570 (by decide) ?_
  refine lv_iadd hx hb dL_law_571 ?_
  refine zt (z := 1) (by decide) ?_
  refine va_sld hx hb hZ hbl hbA hS (vp_in_iff.mpr (by decide)) dL_law_572 ?_
  refine lv_aload_n hx hb dL_law_573 rfl (lv_at hl 0 rfl) ?_
  refine lv_iload_n hx hb dL_law_574 rfl (lv_at hl 3 rfl) ?_
  refine lv_iconst (v := 2) hx hb dL_law_575 (by decide) ?_
  refine lv_iadd hx hb dL_law_576 ?_
  refine zt (z := 2) (by decide) ?_
  refine va_sld hx hb hZ hbl hbA hS (vp_in_iff.mpr (by decide)) dL_law_577 ?_
  refine zfi (wr := []) (va_runV (As := [.int (zs (1 : Int32).toNatClampNeg), .int (zs (2 : Int32).toNatClampNeg)]) (rest := [.int (-1)]) ⟨hx, hb, hml, hown, hG⟩ (kX9_overlap l g n0 (zs (1 : Int32).toNatClampNeg) (zs (2 : Int32).toNatClampNeg) m_told m_read m_now m_readNow m_kept m_tape m_refused m_ownLetters m_flats m_corner m_wayX m_wayY m_normal m_low m_high m_clear m_ways m_canBe m_lain m_fewestBy m_sortOf m_seenFlange m_seenLength _) ⟨callB_of 2 hG (zGood g1726) rfl rfl rfl (hG _ g211) (hG _ g1723) hX9_overlap ⟨Nat.le_of_ble_eq_true rfl, Nat.le_of_ble_eq_true rfl⟩, hG _ g1724, hG _ g1725⟩ (zpreV (va_recv hX.1 hP (ci := 9) (q0 := 0) rfl rfl) hX hP hD hS hA [0] rfl (by decide)) rfl rfl hl.1 rfl (lv_room (Nat.le_of_ble_eq_true rfl)) dL_law_578 ⟨Nat.le_of_ble_eq_true rfl, Nat.le_of_ble_eq_true rfl⟩) hP hD hS hA [0] [] rfl rfl (by decide) (by decide) (fun r3 _ H locs hp hP hD hS => ?_)
  refine W.cs (cells' := 75) (slots' := 18897) rfl rfl ?_
  have hq4 : r3 = (-1) := hp
  subst hq4
  have hP : va_P g.1 vwCl [] H := hP
  have hD : va_D A [] := hD
  refine lv_icmp_eq (tgt := 1474) hx hb dL_law_581 (by decide) (fun c9 => ?_) (fun c9 => (c9 rfl).elim)
  exact lc_end C0 (Nat.le_of_ble_eq_true rfl) (Nat.le_of_ble_eq_true rfl) hS (lv_sub hl [0, 3] rfl)
theorem dL_law_586 : decode cL_law 586 = .ok (.aload_n 1, 1) := by decide +kernel
theorem dL_law_587 : decode cL_law 587 = .ok (.aload_n 0, 1) := by decide +kernel
theorem dL_law_588 : decode cL_law 588 = .ok (.iload_n 3, 1) := by decide +kernel
theorem dL_law_589 : decode cL_law 589 = .ok (.iconst 1, 1) := by decide +kernel
theorem dL_law_590 : decode cL_law 590 = .ok (.iadd, 1) := by decide +kernel
theorem dL_law_591 : decode cL_law 591 = .ok (.iaload, 1) := by decide +kernel
theorem dL_law_592 : decode cL_law 592 = .ok (.aload_n 0, 1) := by decide +kernel
theorem dL_law_593 : decode cL_law 593 = .ok (.iload_n 3, 1) := by decide +kernel
theorem dL_law_594 : decode cL_law 594 = .ok (.iconst 2, 1) := by decide +kernel
theorem dL_law_595 : decode cL_law 595 = .ok (.iadd, 1) := by decide +kernel
theorem dL_law_596 : decode cL_law 596 = .ok (.iaload, 1) := by decide +kernel
theorem dL_law_597 : decode cL_law 597 = .ok (.invokevirtual 66, 3) := by decide +kernel
theorem dL_law_600 : decode cL_law 600 = .ok (.aload_n 2, 1) := by decide +kernel
theorem dL_law_601 : decode cL_law 601 = .ok (.aload_n 0, 1) := by decide +kernel
theorem dL_law_602 : decode cL_law 602 = .ok (.iload_n 3, 1) := by decide +kernel
theorem dL_law_603 : decode cL_law 603 = .ok (.iconst 1, 1) := by decide +kernel
theorem dL_law_604 : decode cL_law 604 = .ok (.iadd, 1) := by decide +kernel
theorem dL_law_605 : decode cL_law 605 = .ok (.iaload, 1) := by decide +kernel
theorem dL_law_606 : decode cL_law 606 = .ok (.aload_n 0, 1) := by decide +kernel
theorem dL_law_607 : decode cL_law 607 = .ok (.iload_n 3, 1) := by decide +kernel
theorem dL_law_608 : decode cL_law 608 = .ok (.iconst 2, 1) := by decide +kernel
theorem dL_law_609 : decode cL_law 609 = .ok (.iadd, 1) := by decide +kernel
theorem dL_law_610 : decode cL_law 610 = .ok (.iaload, 1) := by decide +kernel
theorem dL_law_611 : decode cL_law 611 = .ok (.invokevirtual 69, 3) := by decide +kernel
theorem dL_law_614 : decode cL_law 614 = .ok (.if_icmp .eq 860, 3) := by decide +kernel
set_option maxHeartbeats 4000000 in
set_option maxRecDepth 100000 in
theorem lc_12 {p : Program} {l : Launch} {e : Env} {s : State} {m : MethodId} {below : List Frame} {meth : Method} {c : Code} {b : Nat} {zs : Nat → Int32} {g : zL} {A : Nat → Prop} (C0 : zLw p s m meth c b zs g A) {h0 xt xr xp xs xm xh xe xf pa dr p_toolWidth p_told p_name p_parent p_side p_from p_width p_height p_radius p_toolSet n0 m_told m_read m_now m_readNow m_kept m_tape m_refused m_ownLetters m_flats m_corner m_wayX m_wayY m_normal m_low m_high m_clear m_ways m_canBe m_lain m_fewestBy m_sortOf m_seenFlange m_seenLength : Nat} {H : Heap} {locs : List Loc} {ls : Array Slot} (hP : va_P g.1 vwCl [(h0, .inr (8, [.ref xt, .ref xr, .ref xp, .ref xs, .ref xm, .ref xh, .ref xe, .ref xf, .ref pa, .ref dr, .int 0, .int 1, .int 0, .int 0])), (pa, .inr (4, [.int 0, .int 0, .int 0, .int 0, .int 0, .int 0, .ref p_toolWidth, .ref p_told, .ref p_name, .ref p_parent, .ref p_side, .ref p_from, .ref p_width, .ref p_height, .ref p_radius, .ref p_toolSet])), (n0, .inr (9, [.ref m_told, .ref m_read, .ref m_now, .ref m_readNow, .ref m_kept, .int 0, .int 1, .int 0, .ref m_tape, .int 0, .ref m_refused, .int 0, .int (-1), .int 0, .int 0, .int 0, .int 0, .int (-1), .ref m_ownLetters, .ref m_flats, .int 0, .ref m_corner, .ref m_wayX, .ref m_wayY, .ref m_normal, .ref m_low, .ref m_high, .ref m_clear, .ref m_ways, .ref m_canBe, .ref m_lain, .int 0, .ref m_fewestBy, .ref m_sortOf, .int 0, .ref m_seenFlange, .ref m_seenLength]))] H) (hD : va_D A [(h0, .inr (8, [.ref xt, .ref xr, .ref xp, .ref xs, .ref xm, .ref xh, .ref xe, .ref xf, .ref pa, .ref dr, .int 0, .int 1, .int 0, .int 0])), (pa, .inr (4, [.int 0, .int 0, .int 0, .int 0, .int 0, .int 0, .ref p_toolWidth, .ref p_told, .ref p_name, .ref p_parent, .ref p_side, .ref p_from, .ref p_width, .ref p_height, .ref p_radius, .ref p_toolSet])), (n0, .inr (9, [.ref m_told, .ref m_read, .ref m_now, .ref m_readNow, .ref m_kept, .int 0, .int 1, .int 0, .ref m_tape, .int 0, .ref m_refused, .int 0, .int (-1), .int 0, .int 0, .int 0, .int 0, .int (-1), .ref m_ownLetters, .ref m_flats, .int 0, .ref m_corner, .ref m_wayX, .ref m_wayY, .ref m_normal, .ref m_low, .ref m_high, .ref m_clear, .ref m_ways, .ref m_canBe, .ref m_lain, .int 0, .ref m_fewestBy, .ref m_sortOf, .int 0, .ref m_seenFlange, .ref m_seenLength]))]) (hS : va_S A s.heap H locs) (hl : lv_has ls 4 [(0, .ref b), (1, .ref h0), (2, .ref n0), (3, .int 0)]) : W p l e room_1 s m #[Value.ref b] below meth c H locs 75 18897 (lw_Z below #[Value.ref b] s) (F0 m 586 ls []) := by
  obtain ⟨hx, hb, hr, hml, hown, hG, hlocks, hX, hA, hA2, hZ, hbl, hbA⟩ := id C0
  refine lv_aload_n hx hb dL_law_586 rfl (lv_at hl 1 rfl) ?_
  refine lv_aload_n hx hb dL_law_587 rfl (lv_at hl 0 rfl) ?_
  refine lv_iload_n hx hb dL_law_588 rfl (lv_at hl 3 rfl) ?_
  refine lv_iconst (v := 1) hx hb dL_law_589 (by decide) ?_
  refine lv_iadd hx hb dL_law_590 ?_
  refine zt (z := 1) (by decide) ?_
  refine va_sld hx hb hZ hbl hbA hS (vp_in_iff.mpr (by decide)) dL_law_591 ?_
  refine lv_aload_n hx hb dL_law_592 rfl (lv_at hl 0 rfl) ?_
  refine lv_iload_n hx hb dL_law_593 rfl (lv_at hl 3 rfl) ?_
  refine lv_iconst (v := 2) hx hb dL_law_594 (by decide) ?_
  refine lv_iadd hx hb dL_law_595 ?_
  refine zt (z := 2) (by decide) ?_
  refine va_sld hx hb hZ hbl hbA hS (vp_in_iff.mpr (by decide)) dL_law_596 ?_
  refine zfi (wr := [(n0, .inr (9, [.ref m_told, .ref m_read, .ref m_now, .ref m_readNow, .ref m_kept, .int 0, .int 1, .int 0, .ref m_tape, .int 0, .ref m_refused, .int 0, .int (-1), .int 0, .int 0, .int 0, .int 0, .int (-1), .ref m_ownLetters, .ref m_flats, .int 0, .ref m_corner, .ref m_wayX, .ref m_wayY, .ref m_normal, .ref m_low, .ref m_high, .ref m_clear, .ref m_ways, .ref m_canBe, .ref m_lain, .int 0, .ref m_fewestBy, .ref m_sortOf, .int 0, .ref m_seenFlange, .ref m_seenLength]))]) (va_runV (As := [.int (zs (1 : Int32).toNatClampNeg), .int (zs (2 : Int32).toNatClampNeg)]) (rest := []) ⟨hx, hb, hml, hown, hG⟩ (kX8_space l g h0 (zs (1 : Int32).toNatClampNeg) (zs (2 : Int32).toNatClampNeg) xt xr xp xs xm xh xe xf pa dr p_toolWidth p_told p_name p_parent p_side p_from p_width p_height p_radius p_toolSet _) ⟨callB_of 2 hG (zGood g972) rfl rfl rfl (hG _ g202) (hG _ g969) hX8_space ⟨Nat.le_of_ble_eq_true rfl, Nat.le_of_ble_eq_true rfl⟩, hG _ g970, hG _ g971⟩ (zpreV (va_recv hX.1 hP (ci := 8) (q0 := 0) rfl rfl) hX hP hD hS hA [0, 1] rfl (by decide)) rfl rfl hl.1 rfl (lv_room (Nat.le_of_ble_eq_true rfl)) dL_law_597 ⟨Nat.le_of_ble_eq_true rfl, Nat.le_of_ble_eq_true rfl⟩) hP hD hS hA [0, 1] [2] rfl rfl (by decide) (by decide) (fun r1 _ H locs hp hP hD hS => ?_)
  refine W.cs (cells' := 75) (slots' := 18897) rfl rfl ?_
  have hq2 : r1 = (-1000000) := hp
  subst hq2
  have hP : va_P g.1 vwCl [(n0, .inr (9, [.ref m_told, .ref m_read, .ref m_now, .ref m_readNow, .ref m_kept, .int 0, .int 1, .int 0, .ref m_tape, .int 0, .ref m_refused, .int 0, .int (-1), .int 0, .int 0, .int 0, .int 0, .int (-1), .ref m_ownLetters, .ref m_flats, .int 0, .ref m_corner, .ref m_wayX, .ref m_wayY, .ref m_normal, .ref m_low, .ref m_high, .ref m_clear, .ref m_ways, .ref m_canBe, .ref m_lain, .int 0, .ref m_fewestBy, .ref m_sortOf, .int 0, .ref m_seenFlange, .ref m_seenLength]))] H := hP
  have hD : va_D A [(n0, .inr (9, [.ref m_told, .ref m_read, .ref m_now, .ref m_readNow, .ref m_kept, .int 0, .int 1, .int 0, .ref m_tape, .int 0, .ref m_refused, .int 0, .int (-1), .int 0, .int 0, .int 0, .int 0, .int (-1), .ref m_ownLetters, .ref m_flats, .int 0, .ref m_corner, .ref m_wayX, .ref m_wayY, .ref m_normal, .ref m_low, .ref m_high, .ref m_clear, .ref m_ways, .ref m_canBe, .ref m_lain, .int 0, .ref m_fewestBy, .ref m_sortOf, .int 0, .ref m_seenFlange, .ref m_seenLength]))] := hD
  refine lv_aload_n hx hb dL_law_600 rfl (lv_at hl 2 rfl) ?_
  refine lv_aload_n hx hb dL_law_601 rfl (lv_at hl 0 rfl) ?_
  refine lv_iload_n hx hb dL_law_602 rfl (lv_at hl 3 rfl) ?_
  refine lv_iconst (v := 1) hx hb dL_law_603 (by decide) ?_
  refine lv_iadd hx hb dL_law_604 ?_
  refine zt (z := 1) (by decide) ?_
  refine va_sld hx hb hZ hbl hbA hS (vp_in_iff.mpr (by decide)) dL_law_605 ?_
  refine lv_aload_n hx hb dL_law_606 rfl (lv_at hl 0 rfl) ?_
  refine lv_iload_n hx hb dL_law_607 rfl (lv_at hl 3 rfl) ?_
  refine lv_iconst (v := 2) hx hb dL_law_608 (by decide) ?_
  refine lv_iadd hx hb dL_law_609 ?_
  refine zt (z := 2) (by decide) ?_
  refine va_sld hx hb hZ hbl hbA hS (vp_in_iff.mpr (by decide)) dL_law_610 ?_
  refine zfi (wr := []) (va_runV (As := [.int (zs (1 : Int32).toNatClampNeg), .int (zs (2 : Int32).toNatClampNeg)]) (rest := [.int (-1000000)]) ⟨hx, hb, hml, hown, hG⟩ (kX9_space l g n0 (zs (1 : Int32).toNatClampNeg) (zs (2 : Int32).toNatClampNeg) m_told m_read m_now m_readNow m_kept m_tape m_refused m_ownLetters m_flats m_corner m_wayX m_wayY m_normal m_low m_high m_clear m_ways m_canBe m_lain m_fewestBy m_sortOf m_seenFlange m_seenLength _) ⟨callB_of 2 hG (zGood g1734) rfl rfl rfl (hG _ g211) (hG _ g1731) hX9_space ⟨Nat.le_of_ble_eq_true rfl, Nat.le_of_ble_eq_true rfl⟩, hG _ g1732, hG _ g1733⟩ (zpreV (va_recv hX.1 hP (ci := 9) (q0 := 0) rfl rfl) hX hP hD hS hA [0] rfl (by decide)) rfl rfl hl.1 rfl (lv_room (Nat.le_of_ble_eq_true rfl)) dL_law_611 ⟨Nat.le_of_ble_eq_true rfl, Nat.le_of_ble_eq_true rfl⟩) hP hD hS hA [0] [] rfl rfl (by decide) (by decide) (fun r3 _ H locs hp hP hD hS => ?_)
  refine W.cs (cells' := 75) (slots' := 18897) rfl rfl ?_
  have hq4 : r3 = (-1000000) := hp
  subst hq4
  have hP : va_P g.1 vwCl [] H := hP
  have hD : va_D A [] := hD
  refine lv_icmp_eq (tgt := 1474) hx hb dL_law_614 (by decide) (fun c9 => ?_) (fun c9 => (c9 rfl).elim)
  exact lc_end C0 (Nat.le_of_ble_eq_true rfl) (Nat.le_of_ble_eq_true rfl) hS (lv_sub hl [0, 3] rfl)
theorem dL_law_619 : decode cL_law 619 = .ok (.aload_n 1, 1) := by decide +kernel
theorem dL_law_620 : decode cL_law 620 = .ok (.aload_n 0, 1) := by decide +kernel
theorem dL_law_621 : decode cL_law 621 = .ok (.iload_n 3, 1) := by decide +kernel
theorem dL_law_622 : decode cL_law 622 = .ok (.iconst 1, 1) := by decide +kernel
theorem dL_law_623 : decode cL_law 623 = .ok (.iadd, 1) := by decide +kernel
theorem dL_law_624 : decode cL_law 624 = .ok (.iaload, 1) := by decide +kernel
theorem dL_law_625 : decode cL_law 625 = .ok (.invokevirtual 70, 3) := by decide +kernel
theorem dL_law_628 : decode cL_law 628 = .ok (.aload_n 2, 1) := by decide +kernel
theorem dL_law_629 : decode cL_law 629 = .ok (.aload_n 0, 1) := by decide +kernel
theorem dL_law_630 : decode cL_law 630 = .ok (.iload_n 3, 1) := by decide +kernel
theorem dL_law_631 : decode cL_law 631 = .ok (.iconst 1, 1) := by decide +kernel
theorem dL_law_632 : decode cL_law 632 = .ok (.iadd, 1) := by decide +kernel
theorem dL_law_633 : decode cL_law 633 = .ok (.iaload, 1) := by decide +kernel
theorem dL_law_634 : decode cL_law 634 = .ok (.invokevirtual 73, 3) := by decide +kernel
theorem dL_law_637 : decode cL_law 637 = .ok (.if_icmp .eq 837, 3) := by decide +kernel
set_option maxHeartbeats 4000000 in
set_option maxRecDepth 100000 in
theorem lc_13 {p : Program} {l : Launch} {e : Env} {s : State} {m : MethodId} {below : List Frame} {meth : Method} {c : Code} {b : Nat} {zs : Nat → Int32} {g : zL} {A : Nat → Prop} (C0 : zLw p s m meth c b zs g A) {h0 xt xr xp xs xm xh xe xf pa dr p_toolWidth p_told p_name p_parent p_side p_from p_width p_height p_radius p_toolSet n0 m_told m_read m_now m_readNow m_kept m_tape m_refused m_ownLetters m_flats m_corner m_wayX m_wayY m_normal m_low m_high m_clear m_ways m_canBe m_lain m_fewestBy m_sortOf m_seenFlange m_seenLength : Nat} {H : Heap} {locs : List Loc} {ls : Array Slot} (hP : va_P g.1 vwCl [(h0, .inr (8, [.ref xt, .ref xr, .ref xp, .ref xs, .ref xm, .ref xh, .ref xe, .ref xf, .ref pa, .ref dr, .int 0, .int 1, .int 0, .int 0])), (pa, .inr (4, [.int 0, .int 0, .int 0, .int 0, .int 0, .int 0, .ref p_toolWidth, .ref p_told, .ref p_name, .ref p_parent, .ref p_side, .ref p_from, .ref p_width, .ref p_height, .ref p_radius, .ref p_toolSet])), (n0, .inr (9, [.ref m_told, .ref m_read, .ref m_now, .ref m_readNow, .ref m_kept, .int 0, .int 1, .int 0, .ref m_tape, .int 0, .ref m_refused, .int 0, .int (-1), .int 0, .int 0, .int 0, .int 0, .int (-1), .ref m_ownLetters, .ref m_flats, .int 0, .ref m_corner, .ref m_wayX, .ref m_wayY, .ref m_normal, .ref m_low, .ref m_high, .ref m_clear, .ref m_ways, .ref m_canBe, .ref m_lain, .int 0, .ref m_fewestBy, .ref m_sortOf, .int 0, .ref m_seenFlange, .ref m_seenLength]))] H) (hD : va_D A [(h0, .inr (8, [.ref xt, .ref xr, .ref xp, .ref xs, .ref xm, .ref xh, .ref xe, .ref xf, .ref pa, .ref dr, .int 0, .int 1, .int 0, .int 0])), (pa, .inr (4, [.int 0, .int 0, .int 0, .int 0, .int 0, .int 0, .ref p_toolWidth, .ref p_told, .ref p_name, .ref p_parent, .ref p_side, .ref p_from, .ref p_width, .ref p_height, .ref p_radius, .ref p_toolSet])), (n0, .inr (9, [.ref m_told, .ref m_read, .ref m_now, .ref m_readNow, .ref m_kept, .int 0, .int 1, .int 0, .ref m_tape, .int 0, .ref m_refused, .int 0, .int (-1), .int 0, .int 0, .int 0, .int 0, .int (-1), .ref m_ownLetters, .ref m_flats, .int 0, .ref m_corner, .ref m_wayX, .ref m_wayY, .ref m_normal, .ref m_low, .ref m_high, .ref m_clear, .ref m_ways, .ref m_canBe, .ref m_lain, .int 0, .ref m_fewestBy, .ref m_sortOf, .int 0, .ref m_seenFlange, .ref m_seenLength]))]) (hS : va_S A s.heap H locs) (hl : lv_has ls 4 [(0, .ref b), (1, .ref h0), (2, .ref n0), (3, .int 0)]) : W p l e room_1 s m #[Value.ref b] below meth c H locs 75 18897 (lw_Z below #[Value.ref b] s) (F0 m 619 ls []) := by
  obtain ⟨hx, hb, hr, hml, hown, hG, hlocks, hX, hA, hA2, hZ, hbl, hbA⟩ := id C0
  refine lv_aload_n hx hb dL_law_619 rfl (lv_at hl 1 rfl) ?_
  refine lv_aload_n hx hb dL_law_620 rfl (lv_at hl 0 rfl) ?_
  refine lv_iload_n hx hb dL_law_621 rfl (lv_at hl 3 rfl) ?_
  refine lv_iconst (v := 1) hx hb dL_law_622 (by decide) ?_
  refine lv_iadd hx hb dL_law_623 ?_
  refine zt (z := 1) (by decide) ?_
  refine va_sld hx hb hZ hbl hbA hS (vp_in_iff.mpr (by decide)) dL_law_624 ?_
  refine zfi (wr := [(n0, .inr (9, [.ref m_told, .ref m_read, .ref m_now, .ref m_readNow, .ref m_kept, .int 0, .int 1, .int 0, .ref m_tape, .int 0, .ref m_refused, .int 0, .int (-1), .int 0, .int 0, .int 0, .int 0, .int (-1), .ref m_ownLetters, .ref m_flats, .int 0, .ref m_corner, .ref m_wayX, .ref m_wayY, .ref m_normal, .ref m_low, .ref m_high, .ref m_clear, .ref m_ways, .ref m_canBe, .ref m_lain, .int 0, .ref m_fewestBy, .ref m_sortOf, .int 0, .ref m_seenFlange, .ref m_seenLength]))]) (va_runV (As := [.int (zs (1 : Int32).toNatClampNeg)]) (rest := []) ⟨hx, hb, hml, hown, hG⟩ (kX8_spaceBox l g h0 (zs (1 : Int32).toNatClampNeg) xt xr xp xs xm xh xe xf pa dr p_toolWidth p_told p_name p_parent p_side p_from p_width p_height p_radius p_toolSet _) ⟨callB_of 1 hG (zGood g981) rfl rfl rfl (hG _ g202) (hG _ g978) hX8_spaceBox ⟨Nat.le_of_ble_eq_true rfl, Nat.le_of_ble_eq_true rfl⟩, hG _ g979, hG _ g980⟩ (zpreV (va_recv hX.1 hP (ci := 8) (q0 := 0) rfl rfl) hX hP hD hS hA [0, 1] rfl (by decide)) rfl rfl hl.1 rfl (lv_room (Nat.le_of_ble_eq_true rfl)) dL_law_625 ⟨Nat.le_of_ble_eq_true rfl, Nat.le_of_ble_eq_true rfl⟩) hP hD hS hA [0, 1] [2] rfl rfl (by decide) (by decide) (fun r1 _ H locs hp hP hD hS => ?_)
  refine W.cs (cells' := 75) (slots' := 18897) rfl rfl ?_
  have hq2 : r1 = (-1000000) := hp
  subst hq2
  have hP : va_P g.1 vwCl [(n0, .inr (9, [.ref m_told, .ref m_read, .ref m_now, .ref m_readNow, .ref m_kept, .int 0, .int 1, .int 0, .ref m_tape, .int 0, .ref m_refused, .int 0, .int (-1), .int 0, .int 0, .int 0, .int 0, .int (-1), .ref m_ownLetters, .ref m_flats, .int 0, .ref m_corner, .ref m_wayX, .ref m_wayY, .ref m_normal, .ref m_low, .ref m_high, .ref m_clear, .ref m_ways, .ref m_canBe, .ref m_lain, .int 0, .ref m_fewestBy, .ref m_sortOf, .int 0, .ref m_seenFlange, .ref m_seenLength]))] H := hP
  have hD : va_D A [(n0, .inr (9, [.ref m_told, .ref m_read, .ref m_now, .ref m_readNow, .ref m_kept, .int 0, .int 1, .int 0, .ref m_tape, .int 0, .ref m_refused, .int 0, .int (-1), .int 0, .int 0, .int 0, .int 0, .int (-1), .ref m_ownLetters, .ref m_flats, .int 0, .ref m_corner, .ref m_wayX, .ref m_wayY, .ref m_normal, .ref m_low, .ref m_high, .ref m_clear, .ref m_ways, .ref m_canBe, .ref m_lain, .int 0, .ref m_fewestBy, .ref m_sortOf, .int 0, .ref m_seenFlange, .ref m_seenLength]))] := hD
  refine lv_aload_n hx hb dL_law_628 rfl (lv_at hl 2 rfl) ?_
  refine lv_aload_n hx hb dL_law_629 rfl (lv_at hl 0 rfl) ?_
  refine lv_iload_n hx hb dL_law_630 rfl (lv_at hl 3 rfl) ?_
  refine lv_iconst (v := 1) hx hb dL_law_631 (by decide) ?_
  refine lv_iadd hx hb dL_law_632 ?_
  refine zt (z := 1) (by decide) ?_
  refine va_sld hx hb hZ hbl hbA hS (vp_in_iff.mpr (by decide)) dL_law_633 ?_
  refine zfi (wr := []) (va_runV (As := [.int (zs (1 : Int32).toNatClampNeg)]) (rest := [.int (-1000000)]) ⟨hx, hb, hml, hown, hG⟩ (kX9_spaceBox l g n0 (zs (1 : Int32).toNatClampNeg) m_told m_read m_now m_readNow m_kept m_tape m_refused m_ownLetters m_flats m_corner m_wayX m_wayY m_normal m_low m_high m_clear m_ways m_canBe m_lain m_fewestBy m_sortOf m_seenFlange m_seenLength _) ⟨callB_of 1 hG (zGood g1777) rfl rfl rfl (hG _ g211) (hG _ g1774) hX9_spaceBox ⟨Nat.le_of_ble_eq_true rfl, Nat.le_of_ble_eq_true rfl⟩, hG _ g1775, hG _ g1776⟩ (zpreV (va_recv hX.1 hP (ci := 9) (q0 := 0) rfl rfl) hX hP hD hS hA [0] rfl (by decide)) rfl rfl hl.1 rfl (lv_room (Nat.le_of_ble_eq_true rfl)) dL_law_634 ⟨Nat.le_of_ble_eq_true rfl, Nat.le_of_ble_eq_true rfl⟩) hP hD hS hA [0] [] rfl rfl (by decide) (by decide) (fun r3 _ H locs hp hP hD hS => ?_)
  refine W.cs (cells' := 75) (slots' := 18897) rfl rfl ?_
  have hq4 : r3 = (-1000000) := hp
  subst hq4
  have hP : va_P g.1 vwCl [] H := hP
  have hD : va_D A [] := hD
  refine lv_icmp_eq (tgt := 1474) hx hb dL_law_637 (by decide) (fun c9 => ?_) (fun c9 => (c9 rfl).elim)
  exact lc_end C0 (Nat.le_of_ble_eq_true rfl) (Nat.le_of_ble_eq_true rfl) hS (lv_sub hl [0, 3] rfl)
theorem dL_law_642 : decode cL_law 642 = .ok (.aload_n 1, 1) := by decide +kernel
theorem dL_law_643 : decode cL_law 643 = .ok (.aload_n 0, 1) := by decide +kernel
theorem dL_law_644 : decode cL_law 644 = .ok (.iload_n 3, 1) := by decide +kernel
theorem dL_law_645 : decode cL_law 645 = .ok (.iconst 1, 1) := by decide +kernel
theorem dL_law_646 : decode cL_law 646 = .ok (.iadd, 1) := by decide +kernel
theorem dL_law_647 : decode cL_law 647 = .ok (.iaload, 1) := by decide +kernel
theorem dL_law_648 : decode cL_law 648 = .ok (.aload_n 0, 1) := by decide +kernel
theorem dL_law_649 : decode cL_law 649 = .ok (.iload_n 3, 1) := by decide +kernel
theorem dL_law_650 : decode cL_law 650 = .ok (.iconst 2, 1) := by decide +kernel
theorem dL_law_651 : decode cL_law 651 = .ok (.iadd, 1) := by decide +kernel
theorem dL_law_652 : decode cL_law 652 = .ok (.iaload, 1) := by decide +kernel
theorem dL_law_653 : decode cL_law 653 = .ok (.invokevirtual 74, 3) := by decide +kernel
theorem dL_law_656 : decode cL_law 656 = .ok (.aload_n 2, 1) := by decide +kernel
theorem dL_law_657 : decode cL_law 657 = .ok (.aload_n 0, 1) := by decide +kernel
theorem dL_law_658 : decode cL_law 658 = .ok (.iload_n 3, 1) := by decide +kernel
theorem dL_law_659 : decode cL_law 659 = .ok (.iconst 1, 1) := by decide +kernel
theorem dL_law_660 : decode cL_law 660 = .ok (.iadd, 1) := by decide +kernel
theorem dL_law_661 : decode cL_law 661 = .ok (.iaload, 1) := by decide +kernel
theorem dL_law_662 : decode cL_law 662 = .ok (.aload_n 0, 1) := by decide +kernel
theorem dL_law_663 : decode cL_law 663 = .ok (.iload_n 3, 1) := by decide +kernel
theorem dL_law_664 : decode cL_law 664 = .ok (.iconst 2, 1) := by decide +kernel
theorem dL_law_665 : decode cL_law 665 = .ok (.iadd, 1) := by decide +kernel
theorem dL_law_666 : decode cL_law 666 = .ok (.iaload, 1) := by decide +kernel
theorem dL_law_667 : decode cL_law 667 = .ok (.invokevirtual 77, 3) := by decide +kernel
theorem dL_law_670 : decode cL_law 670 = .ok (.if_icmp .eq 804, 3) := by decide +kernel
set_option maxHeartbeats 4000000 in
set_option maxRecDepth 100000 in
theorem lc_14 {p : Program} {l : Launch} {e : Env} {s : State} {m : MethodId} {below : List Frame} {meth : Method} {c : Code} {b : Nat} {zs : Nat → Int32} {g : zL} {A : Nat → Prop} (C0 : zLw p s m meth c b zs g A) {h0 xt xr xp xs xm xh xe xf pa dr p_toolWidth p_told p_name p_parent p_side p_from p_width p_height p_radius p_toolSet n0 m_told m_read m_now m_readNow m_kept m_tape m_refused m_ownLetters m_flats m_corner m_wayX m_wayY m_normal m_low m_high m_clear m_ways m_canBe m_lain m_fewestBy m_sortOf m_seenFlange m_seenLength : Nat} {H : Heap} {locs : List Loc} {ls : Array Slot} (hP : va_P g.1 vwCl [(h0, .inr (8, [.ref xt, .ref xr, .ref xp, .ref xs, .ref xm, .ref xh, .ref xe, .ref xf, .ref pa, .ref dr, .int 0, .int 1, .int 0, .int 0])), (pa, .inr (4, [.int 0, .int 0, .int 0, .int 0, .int 0, .int 0, .ref p_toolWidth, .ref p_told, .ref p_name, .ref p_parent, .ref p_side, .ref p_from, .ref p_width, .ref p_height, .ref p_radius, .ref p_toolSet])), (n0, .inr (9, [.ref m_told, .ref m_read, .ref m_now, .ref m_readNow, .ref m_kept, .int 0, .int 1, .int 0, .ref m_tape, .int 0, .ref m_refused, .int 0, .int (-1), .int 0, .int 0, .int 0, .int 0, .int (-1), .ref m_ownLetters, .ref m_flats, .int 0, .ref m_corner, .ref m_wayX, .ref m_wayY, .ref m_normal, .ref m_low, .ref m_high, .ref m_clear, .ref m_ways, .ref m_canBe, .ref m_lain, .int 0, .ref m_fewestBy, .ref m_sortOf, .int 0, .ref m_seenFlange, .ref m_seenLength]))] H) (hD : va_D A [(h0, .inr (8, [.ref xt, .ref xr, .ref xp, .ref xs, .ref xm, .ref xh, .ref xe, .ref xf, .ref pa, .ref dr, .int 0, .int 1, .int 0, .int 0])), (pa, .inr (4, [.int 0, .int 0, .int 0, .int 0, .int 0, .int 0, .ref p_toolWidth, .ref p_told, .ref p_name, .ref p_parent, .ref p_side, .ref p_from, .ref p_width, .ref p_height, .ref p_radius, .ref p_toolSet])), (n0, .inr (9, [.ref m_told, .ref m_read, .ref m_now, .ref m_readNow, .ref m_kept, .int 0, .int 1, .int 0, .ref m_tape, .int 0, .ref m_refused, .int 0, .int (-1), .int 0, .int 0, .int 0, .int 0, .int (-1), .ref m_ownLetters, .ref m_flats, .int 0, .ref m_corner, .ref m_wayX, .ref m_wayY, .ref m_normal, .ref m_low, .ref m_high, .ref m_clear, .ref m_ways, .ref m_canBe, .ref m_lain, .int 0, .ref m_fewestBy, .ref m_sortOf, .int 0, .ref m_seenFlange, .ref m_seenLength]))]) (hS : va_S A s.heap H locs) (hl : lv_has ls 4 [(0, .ref b), (1, .ref h0), (2, .ref n0), (3, .int 0)]) : W p l e room_1 s m #[Value.ref b] below meth c H locs 75 18897 (lw_Z below #[Value.ref b] s) (F0 m 642 ls []) := by
  obtain ⟨hx, hb, hr, hml, hown, hG, hlocks, hX, hA, hA2, hZ, hbl, hbA⟩ := id C0
  refine lv_aload_n hx hb dL_law_642 rfl (lv_at hl 1 rfl) ?_
  refine lv_aload_n hx hb dL_law_643 rfl (lv_at hl 0 rfl) ?_
  refine lv_iload_n hx hb dL_law_644 rfl (lv_at hl 3 rfl) ?_
  refine lv_iconst (v := 1) hx hb dL_law_645 (by decide) ?_
  refine lv_iadd hx hb dL_law_646 ?_
  refine zt (z := 1) (by decide) ?_
  refine va_sld hx hb hZ hbl hbA hS (vp_in_iff.mpr (by decide)) dL_law_647 ?_
  refine lv_aload_n hx hb dL_law_648 rfl (lv_at hl 0 rfl) ?_
  refine lv_iload_n hx hb dL_law_649 rfl (lv_at hl 3 rfl) ?_
  refine lv_iconst (v := 2) hx hb dL_law_650 (by decide) ?_
  refine lv_iadd hx hb dL_law_651 ?_
  refine zt (z := 2) (by decide) ?_
  refine va_sld hx hb hZ hbl hbA hS (vp_in_iff.mpr (by decide)) dL_law_652 ?_
  refine zfi (wr := [(n0, .inr (9, [.ref m_told, .ref m_read, .ref m_now, .ref m_readNow, .ref m_kept, .int 0, .int 1, .int 0, .ref m_tape, .int 0, .ref m_refused, .int 0, .int (-1), .int 0, .int 0, .int 0, .int 0, .int (-1), .ref m_ownLetters, .ref m_flats, .int 0, .ref m_corner, .ref m_wayX, .ref m_wayY, .ref m_normal, .ref m_low, .ref m_high, .ref m_clear, .ref m_ways, .ref m_canBe, .ref m_lain, .int 0, .ref m_fewestBy, .ref m_sortOf, .int 0, .ref m_seenFlange, .ref m_seenLength]))]) (va_runV (As := [.int (zs (1 : Int32).toNatClampNeg), .int (zs (2 : Int32).toNatClampNeg)]) (rest := []) ⟨hx, hb, hml, hown, hG⟩ (kX8_gap l g h0 (zs (1 : Int32).toNatClampNeg) (zs (2 : Int32).toNatClampNeg) xt xr xp xs xm xh xe xf pa dr p_toolWidth p_told p_name p_parent p_side p_from p_width p_height p_radius p_toolSet _) ⟨callB_of 2 hG (zGood g991) rfl rfl rfl (hG _ g202) (hG _ g988) hX8_gap ⟨Nat.le_of_ble_eq_true rfl, Nat.le_of_ble_eq_true rfl⟩, hG _ g989, hG _ g990⟩ (zpreV (va_recv hX.1 hP (ci := 8) (q0 := 0) rfl rfl) hX hP hD hS hA [0, 1] rfl (by decide)) rfl rfl hl.1 rfl (lv_room (Nat.le_of_ble_eq_true rfl)) dL_law_653 ⟨Nat.le_of_ble_eq_true rfl, Nat.le_of_ble_eq_true rfl⟩) hP hD hS hA [0, 1] [2] rfl rfl (by decide) (by decide) (fun r1 _ H locs hp hP hD hS => ?_)
  refine W.cs (cells' := 75) (slots' := 18897) rfl rfl ?_
  have hq2 : r1 = (-1) := hp
  subst hq2
  have hP : va_P g.1 vwCl [(n0, .inr (9, [.ref m_told, .ref m_read, .ref m_now, .ref m_readNow, .ref m_kept, .int 0, .int 1, .int 0, .ref m_tape, .int 0, .ref m_refused, .int 0, .int (-1), .int 0, .int 0, .int 0, .int 0, .int (-1), .ref m_ownLetters, .ref m_flats, .int 0, .ref m_corner, .ref m_wayX, .ref m_wayY, .ref m_normal, .ref m_low, .ref m_high, .ref m_clear, .ref m_ways, .ref m_canBe, .ref m_lain, .int 0, .ref m_fewestBy, .ref m_sortOf, .int 0, .ref m_seenFlange, .ref m_seenLength]))] H := hP
  have hD : va_D A [(n0, .inr (9, [.ref m_told, .ref m_read, .ref m_now, .ref m_readNow, .ref m_kept, .int 0, .int 1, .int 0, .ref m_tape, .int 0, .ref m_refused, .int 0, .int (-1), .int 0, .int 0, .int 0, .int 0, .int (-1), .ref m_ownLetters, .ref m_flats, .int 0, .ref m_corner, .ref m_wayX, .ref m_wayY, .ref m_normal, .ref m_low, .ref m_high, .ref m_clear, .ref m_ways, .ref m_canBe, .ref m_lain, .int 0, .ref m_fewestBy, .ref m_sortOf, .int 0, .ref m_seenFlange, .ref m_seenLength]))] := hD
  refine lv_aload_n hx hb dL_law_656 rfl (lv_at hl 2 rfl) ?_
  refine lv_aload_n hx hb dL_law_657 rfl (lv_at hl 0 rfl) ?_
  refine lv_iload_n hx hb dL_law_658 rfl (lv_at hl 3 rfl) ?_
  refine lv_iconst (v := 1) hx hb dL_law_659 (by decide) ?_
  refine lv_iadd hx hb dL_law_660 ?_
  refine zt (z := 1) (by decide) ?_
  refine va_sld hx hb hZ hbl hbA hS (vp_in_iff.mpr (by decide)) dL_law_661 ?_
  refine lv_aload_n hx hb dL_law_662 rfl (lv_at hl 0 rfl) ?_
  refine lv_iload_n hx hb dL_law_663 rfl (lv_at hl 3 rfl) ?_
  refine lv_iconst (v := 2) hx hb dL_law_664 (by decide) ?_
  refine lv_iadd hx hb dL_law_665 ?_
  refine zt (z := 2) (by decide) ?_
  refine va_sld hx hb hZ hbl hbA hS (vp_in_iff.mpr (by decide)) dL_law_666 ?_
  refine zfi (wr := []) (va_runV (As := [.int (zs (1 : Int32).toNatClampNeg), .int (zs (2 : Int32).toNatClampNeg)]) (rest := [.int (-1)]) ⟨hx, hb, hml, hown, hG⟩ (kX9_gap l g n0 (zs (1 : Int32).toNatClampNeg) (zs (2 : Int32).toNatClampNeg) m_told m_read m_now m_readNow m_kept m_tape m_refused m_ownLetters m_flats m_corner m_wayX m_wayY m_normal m_low m_high m_clear m_ways m_canBe m_lain m_fewestBy m_sortOf m_seenFlange m_seenLength _) ⟨callB_of 2 hG (zGood g1862) rfl rfl rfl (hG _ g211) (hG _ g1859) hX9_gap ⟨Nat.le_of_ble_eq_true rfl, Nat.le_of_ble_eq_true rfl⟩, hG _ g1860, hG _ g1861⟩ (zpreV (va_recv hX.1 hP (ci := 9) (q0 := 0) rfl rfl) hX hP hD hS hA [0] rfl (by decide)) rfl rfl hl.1 rfl (lv_room (Nat.le_of_ble_eq_true rfl)) dL_law_667 ⟨Nat.le_of_ble_eq_true rfl, Nat.le_of_ble_eq_true rfl⟩) hP hD hS hA [0] [] rfl rfl (by decide) (by decide) (fun r3 _ H locs hp hP hD hS => ?_)
  refine W.cs (cells' := 75) (slots' := 18897) rfl rfl ?_
  have hq4 : r3 = (-1) := hp
  subst hq4
  have hP : va_P g.1 vwCl [] H := hP
  have hD : va_D A [] := hD
  refine lv_icmp_eq (tgt := 1474) hx hb dL_law_670 (by decide) (fun c9 => ?_) (fun c9 => (c9 rfl).elim)
  exact lc_end C0 (Nat.le_of_ble_eq_true rfl) (Nat.le_of_ble_eq_true rfl) hS (lv_sub hl [0, 3] rfl)
theorem dL_law_675 : decode cL_law 675 = .ok (.aload_n 1, 1) := by decide +kernel
theorem dL_law_676 : decode cL_law 676 = .ok (.aload_n 0, 1) := by decide +kernel
theorem dL_law_677 : decode cL_law 677 = .ok (.iload_n 3, 1) := by decide +kernel
theorem dL_law_678 : decode cL_law 678 = .ok (.iconst 1, 1) := by decide +kernel
theorem dL_law_679 : decode cL_law 679 = .ok (.iadd, 1) := by decide +kernel
theorem dL_law_680 : decode cL_law 680 = .ok (.iaload, 1) := by decide +kernel
theorem dL_law_681 : decode cL_law 681 = .ok (.invokevirtual 78, 3) := by decide +kernel
theorem dL_law_684 : decode cL_law 684 = .ok (.aload_n 2, 1) := by decide +kernel
theorem dL_law_685 : decode cL_law 685 = .ok (.aload_n 0, 1) := by decide +kernel
theorem dL_law_686 : decode cL_law 686 = .ok (.iload_n 3, 1) := by decide +kernel
theorem dL_law_687 : decode cL_law 687 = .ok (.iconst 1, 1) := by decide +kernel
theorem dL_law_688 : decode cL_law 688 = .ok (.iadd, 1) := by decide +kernel
theorem dL_law_689 : decode cL_law 689 = .ok (.iaload, 1) := by decide +kernel
theorem dL_law_690 : decode cL_law 690 = .ok (.invokevirtual 81, 3) := by decide +kernel
theorem dL_law_693 : decode cL_law 693 = .ok (.if_icmp .eq 781, 3) := by decide +kernel
set_option maxHeartbeats 4000000 in
set_option maxRecDepth 100000 in
theorem lc_15 {p : Program} {l : Launch} {e : Env} {s : State} {m : MethodId} {below : List Frame} {meth : Method} {c : Code} {b : Nat} {zs : Nat → Int32} {g : zL} {A : Nat → Prop} (C0 : zLw p s m meth c b zs g A) {h0 xt xr xp xs xm xh xe xf pa dr p_toolWidth p_told p_name p_parent p_side p_from p_width p_height p_radius p_toolSet n0 m_told m_read m_now m_readNow m_kept m_tape m_refused m_ownLetters m_flats m_corner m_wayX m_wayY m_normal m_low m_high m_clear m_ways m_canBe m_lain m_fewestBy m_sortOf m_seenFlange m_seenLength : Nat} {H : Heap} {locs : List Loc} {ls : Array Slot} (hP : va_P g.1 vwCl [(h0, .inr (8, [.ref xt, .ref xr, .ref xp, .ref xs, .ref xm, .ref xh, .ref xe, .ref xf, .ref pa, .ref dr, .int 0, .int 1, .int 0, .int 0])), (pa, .inr (4, [.int 0, .int 0, .int 0, .int 0, .int 0, .int 0, .ref p_toolWidth, .ref p_told, .ref p_name, .ref p_parent, .ref p_side, .ref p_from, .ref p_width, .ref p_height, .ref p_radius, .ref p_toolSet])), (n0, .inr (9, [.ref m_told, .ref m_read, .ref m_now, .ref m_readNow, .ref m_kept, .int 0, .int 1, .int 0, .ref m_tape, .int 0, .ref m_refused, .int 0, .int (-1), .int 0, .int 0, .int 0, .int 0, .int (-1), .ref m_ownLetters, .ref m_flats, .int 0, .ref m_corner, .ref m_wayX, .ref m_wayY, .ref m_normal, .ref m_low, .ref m_high, .ref m_clear, .ref m_ways, .ref m_canBe, .ref m_lain, .int 0, .ref m_fewestBy, .ref m_sortOf, .int 0, .ref m_seenFlange, .ref m_seenLength]))] H) (hD : va_D A [(h0, .inr (8, [.ref xt, .ref xr, .ref xp, .ref xs, .ref xm, .ref xh, .ref xe, .ref xf, .ref pa, .ref dr, .int 0, .int 1, .int 0, .int 0])), (pa, .inr (4, [.int 0, .int 0, .int 0, .int 0, .int 0, .int 0, .ref p_toolWidth, .ref p_told, .ref p_name, .ref p_parent, .ref p_side, .ref p_from, .ref p_width, .ref p_height, .ref p_radius, .ref p_toolSet])), (n0, .inr (9, [.ref m_told, .ref m_read, .ref m_now, .ref m_readNow, .ref m_kept, .int 0, .int 1, .int 0, .ref m_tape, .int 0, .ref m_refused, .int 0, .int (-1), .int 0, .int 0, .int 0, .int 0, .int (-1), .ref m_ownLetters, .ref m_flats, .int 0, .ref m_corner, .ref m_wayX, .ref m_wayY, .ref m_normal, .ref m_low, .ref m_high, .ref m_clear, .ref m_ways, .ref m_canBe, .ref m_lain, .int 0, .ref m_fewestBy, .ref m_sortOf, .int 0, .ref m_seenFlange, .ref m_seenLength]))]) (hS : va_S A s.heap H locs) (hl : lv_has ls 4 [(0, .ref b), (1, .ref h0), (2, .ref n0), (3, .int 0)]) : W p l e room_1 s m #[Value.ref b] below meth c H locs 75 18897 (lw_Z below #[Value.ref b] s) (F0 m 675 ls []) := by
  obtain ⟨hx, hb, hr, hml, hown, hG, hlocks, hX, hA, hA2, hZ, hbl, hbA⟩ := id C0
  refine lv_aload_n hx hb dL_law_675 rfl (lv_at hl 1 rfl) ?_
  refine lv_aload_n hx hb dL_law_676 rfl (lv_at hl 0 rfl) ?_
  refine lv_iload_n hx hb dL_law_677 rfl (lv_at hl 3 rfl) ?_
  refine lv_iconst (v := 1) hx hb dL_law_678 (by decide) ?_
  refine lv_iadd hx hb dL_law_679 ?_
  refine zt (z := 1) (by decide) ?_
  refine va_sld hx hb hZ hbl hbA hS (vp_in_iff.mpr (by decide)) dL_law_680 ?_
  refine zfi (wr := [(n0, .inr (9, [.ref m_told, .ref m_read, .ref m_now, .ref m_readNow, .ref m_kept, .int 0, .int 1, .int 0, .ref m_tape, .int 0, .ref m_refused, .int 0, .int (-1), .int 0, .int 0, .int 0, .int 0, .int (-1), .ref m_ownLetters, .ref m_flats, .int 0, .ref m_corner, .ref m_wayX, .ref m_wayY, .ref m_normal, .ref m_low, .ref m_high, .ref m_clear, .ref m_ways, .ref m_canBe, .ref m_lain, .int 0, .ref m_fewestBy, .ref m_sortOf, .int 0, .ref m_seenFlange, .ref m_seenLength]))]) (va_runV (As := [.int (zs (1 : Int32).toNatClampNeg)]) (rest := []) ⟨hx, hb, hml, hown, hG⟩ (kX8_normal l g h0 (zs (1 : Int32).toNatClampNeg) xt xr xp xs xm xh xe xf pa dr p_toolWidth p_told p_name p_parent p_side p_from p_width p_height p_radius p_toolSet _) ⟨callB_of 1 hG (zGood g999) rfl rfl rfl (hG _ g202) (hG _ g996) hX8_normal ⟨Nat.le_of_ble_eq_true rfl, Nat.le_of_ble_eq_true rfl⟩, hG _ g997, hG _ g998⟩ (zpreV (va_recv hX.1 hP (ci := 8) (q0 := 0) rfl rfl) hX hP hD hS hA [0, 1] rfl (by decide)) rfl rfl hl.1 rfl (lv_room (Nat.le_of_ble_eq_true rfl)) dL_law_681 ⟨Nat.le_of_ble_eq_true rfl, Nat.le_of_ble_eq_true rfl⟩) hP hD hS hA [0, 1] [2] rfl rfl (by decide) (by decide) (fun r1 _ H locs hp hP hD hS => ?_)
  refine W.cs (cells' := 75) (slots' := 18897) rfl rfl ?_
  have hq2 : r1 = 0 := hp
  subst hq2
  have hP : va_P g.1 vwCl [(n0, .inr (9, [.ref m_told, .ref m_read, .ref m_now, .ref m_readNow, .ref m_kept, .int 0, .int 1, .int 0, .ref m_tape, .int 0, .ref m_refused, .int 0, .int (-1), .int 0, .int 0, .int 0, .int 0, .int (-1), .ref m_ownLetters, .ref m_flats, .int 0, .ref m_corner, .ref m_wayX, .ref m_wayY, .ref m_normal, .ref m_low, .ref m_high, .ref m_clear, .ref m_ways, .ref m_canBe, .ref m_lain, .int 0, .ref m_fewestBy, .ref m_sortOf, .int 0, .ref m_seenFlange, .ref m_seenLength]))] H := hP
  have hD : va_D A [(n0, .inr (9, [.ref m_told, .ref m_read, .ref m_now, .ref m_readNow, .ref m_kept, .int 0, .int 1, .int 0, .ref m_tape, .int 0, .ref m_refused, .int 0, .int (-1), .int 0, .int 0, .int 0, .int 0, .int (-1), .ref m_ownLetters, .ref m_flats, .int 0, .ref m_corner, .ref m_wayX, .ref m_wayY, .ref m_normal, .ref m_low, .ref m_high, .ref m_clear, .ref m_ways, .ref m_canBe, .ref m_lain, .int 0, .ref m_fewestBy, .ref m_sortOf, .int 0, .ref m_seenFlange, .ref m_seenLength]))] := hD
  refine lv_aload_n hx hb dL_law_684 rfl (lv_at hl 2 rfl) ?_
  refine lv_aload_n hx hb dL_law_685 rfl (lv_at hl 0 rfl) ?_
  refine lv_iload_n hx hb dL_law_686 rfl (lv_at hl 3 rfl) ?_
  refine lv_iconst (v := 1) hx hb dL_law_687 (by decide) ?_
  refine lv_iadd hx hb dL_law_688 ?_
  refine zt (z := 1) (by decide) ?_
  refine va_sld hx hb hZ hbl hbA hS (vp_in_iff.mpr (by decide)) dL_law_689 ?_
  refine zfi (wr := []) (va_runV (As := [.int (zs (1 : Int32).toNatClampNeg)]) (rest := [.int 0]) ⟨hx, hb, hml, hown, hG⟩ (kX9_normal l g n0 (zs (1 : Int32).toNatClampNeg) m_told m_read m_now m_readNow m_kept m_tape m_refused m_ownLetters m_flats m_corner m_wayX m_wayY m_normal m_low m_high m_clear m_ways m_canBe m_lain m_fewestBy m_sortOf m_seenFlange m_seenLength _) ⟨callB_of 1 hG (zGood g1866) rfl rfl rfl (hG _ g211) (hG _ g1863) hX9_normal ⟨Nat.le_of_ble_eq_true rfl, Nat.le_of_ble_eq_true rfl⟩, hG _ g1864, hG _ g1865⟩ (zpreV (va_recv hX.1 hP (ci := 9) (q0 := 0) rfl rfl) hX hP hD hS hA [0] rfl (by decide)) rfl rfl hl.1 rfl (lv_room (Nat.le_of_ble_eq_true rfl)) dL_law_690 ⟨Nat.le_of_ble_eq_true rfl, Nat.le_of_ble_eq_true rfl⟩) hP hD hS hA [0] [] rfl rfl (by decide) (by decide) (fun r3 _ H locs hp hP hD hS => ?_)
  refine W.cs (cells' := 75) (slots' := 18897) rfl rfl ?_
  have hq4 : r3 = 0 := hp
  subst hq4
  have hP : va_P g.1 vwCl [] H := hP
  have hD : va_D A [] := hD
  refine lv_icmp_eq (tgt := 1474) hx hb dL_law_693 (by decide) (fun c9 => ?_) (fun c9 => (c9 rfl).elim)
  exact lc_end C0 (Nat.le_of_ble_eq_true rfl) (Nat.le_of_ble_eq_true rfl) hS (lv_sub hl [0, 3] rfl)
theorem dL_law_698 : decode cL_law 698 = .ok (.aload_n 1, 1) := by decide +kernel
theorem dL_law_699 : decode cL_law 699 = .ok (.aload_n 0, 1) := by decide +kernel
theorem dL_law_700 : decode cL_law 700 = .ok (.iload_n 3, 1) := by decide +kernel
theorem dL_law_701 : decode cL_law 701 = .ok (.iconst 1, 1) := by decide +kernel
theorem dL_law_702 : decode cL_law 702 = .ok (.iadd, 1) := by decide +kernel
theorem dL_law_703 : decode cL_law 703 = .ok (.iaload, 1) := by decide +kernel
theorem dL_law_704 : decode cL_law 704 = .ok (.aload_n 0, 1) := by decide +kernel
theorem dL_law_705 : decode cL_law 705 = .ok (.iload_n 3, 1) := by decide +kernel
theorem dL_law_706 : decode cL_law 706 = .ok (.iconst 2, 1) := by decide +kernel
theorem dL_law_707 : decode cL_law 707 = .ok (.iadd, 1) := by decide +kernel
theorem dL_law_708 : decode cL_law 708 = .ok (.iaload, 1) := by decide +kernel
theorem dL_law_709 : decode cL_law 709 = .ok (.invokevirtual 82, 3) := by decide +kernel
theorem dL_law_712 : decode cL_law 712 = .ok (.aload_n 2, 1) := by decide +kernel
theorem dL_law_713 : decode cL_law 713 = .ok (.aload_n 0, 1) := by decide +kernel
theorem dL_law_714 : decode cL_law 714 = .ok (.iload_n 3, 1) := by decide +kernel
theorem dL_law_715 : decode cL_law 715 = .ok (.iconst 1, 1) := by decide +kernel
theorem dL_law_716 : decode cL_law 716 = .ok (.iadd, 1) := by decide +kernel
theorem dL_law_717 : decode cL_law 717 = .ok (.iaload, 1) := by decide +kernel
theorem dL_law_718 : decode cL_law 718 = .ok (.aload_n 0, 1) := by decide +kernel
theorem dL_law_719 : decode cL_law 719 = .ok (.iload_n 3, 1) := by decide +kernel
theorem dL_law_720 : decode cL_law 720 = .ok (.iconst 2, 1) := by decide +kernel
theorem dL_law_721 : decode cL_law 721 = .ok (.iadd, 1) := by decide +kernel
theorem dL_law_722 : decode cL_law 722 = .ok (.iaload, 1) := by decide +kernel
theorem dL_law_723 : decode cL_law 723 = .ok (.invokevirtual 85, 3) := by decide +kernel
theorem dL_law_726 : decode cL_law 726 = .ok (.if_icmp .eq 748, 3) := by decide +kernel
set_option maxHeartbeats 4000000 in
set_option maxRecDepth 100000 in
theorem lc_16 {p : Program} {l : Launch} {e : Env} {s : State} {m : MethodId} {below : List Frame} {meth : Method} {c : Code} {b : Nat} {zs : Nat → Int32} {g : zL} {A : Nat → Prop} (C0 : zLw p s m meth c b zs g A) {h0 xt xr xp xs xm xh xe xf pa dr p_toolWidth p_told p_name p_parent p_side p_from p_width p_height p_radius p_toolSet n0 m_told m_read m_now m_readNow m_kept m_tape m_refused m_ownLetters m_flats m_corner m_wayX m_wayY m_normal m_low m_high m_clear m_ways m_canBe m_lain m_fewestBy m_sortOf m_seenFlange m_seenLength : Nat} {H : Heap} {locs : List Loc} {ls : Array Slot} (hP : va_P g.1 vwCl [(h0, .inr (8, [.ref xt, .ref xr, .ref xp, .ref xs, .ref xm, .ref xh, .ref xe, .ref xf, .ref pa, .ref dr, .int 0, .int 1, .int 0, .int 0])), (pa, .inr (4, [.int 0, .int 0, .int 0, .int 0, .int 0, .int 0, .ref p_toolWidth, .ref p_told, .ref p_name, .ref p_parent, .ref p_side, .ref p_from, .ref p_width, .ref p_height, .ref p_radius, .ref p_toolSet])), (n0, .inr (9, [.ref m_told, .ref m_read, .ref m_now, .ref m_readNow, .ref m_kept, .int 0, .int 1, .int 0, .ref m_tape, .int 0, .ref m_refused, .int 0, .int (-1), .int 0, .int 0, .int 0, .int 0, .int (-1), .ref m_ownLetters, .ref m_flats, .int 0, .ref m_corner, .ref m_wayX, .ref m_wayY, .ref m_normal, .ref m_low, .ref m_high, .ref m_clear, .ref m_ways, .ref m_canBe, .ref m_lain, .int 0, .ref m_fewestBy, .ref m_sortOf, .int 0, .ref m_seenFlange, .ref m_seenLength]))] H) (hD : va_D A [(h0, .inr (8, [.ref xt, .ref xr, .ref xp, .ref xs, .ref xm, .ref xh, .ref xe, .ref xf, .ref pa, .ref dr, .int 0, .int 1, .int 0, .int 0])), (pa, .inr (4, [.int 0, .int 0, .int 0, .int 0, .int 0, .int 0, .ref p_toolWidth, .ref p_told, .ref p_name, .ref p_parent, .ref p_side, .ref p_from, .ref p_width, .ref p_height, .ref p_radius, .ref p_toolSet])), (n0, .inr (9, [.ref m_told, .ref m_read, .ref m_now, .ref m_readNow, .ref m_kept, .int 0, .int 1, .int 0, .ref m_tape, .int 0, .ref m_refused, .int 0, .int (-1), .int 0, .int 0, .int 0, .int 0, .int (-1), .ref m_ownLetters, .ref m_flats, .int 0, .ref m_corner, .ref m_wayX, .ref m_wayY, .ref m_normal, .ref m_low, .ref m_high, .ref m_clear, .ref m_ways, .ref m_canBe, .ref m_lain, .int 0, .ref m_fewestBy, .ref m_sortOf, .int 0, .ref m_seenFlange, .ref m_seenLength]))]) (hS : va_S A s.heap H locs) (hl : lv_has ls 4 [(0, .ref b), (1, .ref h0), (2, .ref n0), (3, .int 0)]) : W p l e room_1 s m #[Value.ref b] below meth c H locs 75 18897 (lw_Z below #[Value.ref b] s) (F0 m 698 ls []) := by
  obtain ⟨hx, hb, hr, hml, hown, hG, hlocks, hX, hA, hA2, hZ, hbl, hbA⟩ := id C0
  refine lv_aload_n hx hb dL_law_698 rfl (lv_at hl 1 rfl) ?_
  refine lv_aload_n hx hb dL_law_699 rfl (lv_at hl 0 rfl) ?_
  refine lv_iload_n hx hb dL_law_700 rfl (lv_at hl 3 rfl) ?_
  refine lv_iconst (v := 1) hx hb dL_law_701 (by decide) ?_
  refine lv_iadd hx hb dL_law_702 ?_
  refine zt (z := 1) (by decide) ?_
  refine va_sld hx hb hZ hbl hbA hS (vp_in_iff.mpr (by decide)) dL_law_703 ?_
  refine lv_aload_n hx hb dL_law_704 rfl (lv_at hl 0 rfl) ?_
  refine lv_iload_n hx hb dL_law_705 rfl (lv_at hl 3 rfl) ?_
  refine lv_iconst (v := 2) hx hb dL_law_706 (by decide) ?_
  refine lv_iadd hx hb dL_law_707 ?_
  refine zt (z := 2) (by decide) ?_
  refine va_sld hx hb hZ hbl hbA hS (vp_in_iff.mpr (by decide)) dL_law_708 ?_
  refine zfi (wr := [(n0, .inr (9, [.ref m_told, .ref m_read, .ref m_now, .ref m_readNow, .ref m_kept, .int 0, .int 1, .int 0, .ref m_tape, .int 0, .ref m_refused, .int 0, .int (-1), .int 0, .int 0, .int 0, .int 0, .int (-1), .ref m_ownLetters, .ref m_flats, .int 0, .ref m_corner, .ref m_wayX, .ref m_wayY, .ref m_normal, .ref m_low, .ref m_high, .ref m_clear, .ref m_ways, .ref m_canBe, .ref m_lain, .int 0, .ref m_fewestBy, .ref m_sortOf, .int 0, .ref m_seenFlange, .ref m_seenLength]))]) (va_runV (As := [.int (zs (1 : Int32).toNatClampNeg), .int (zs (2 : Int32).toNatClampNeg)]) (rest := []) ⟨hx, hb, hml, hown, hG⟩ (kX8_clash l g h0 (zs (1 : Int32).toNatClampNeg) (zs (2 : Int32).toNatClampNeg) xt xr xp xs xm xh xe xf pa dr p_toolWidth p_told p_name p_parent p_side p_from p_width p_height p_radius p_toolSet _) ⟨callB_of 2 hG (zGood g1007) rfl rfl rfl (hG _ g202) (hG _ g1004) hX8_clash ⟨Nat.le_of_ble_eq_true rfl, Nat.le_of_ble_eq_true rfl⟩, hG _ g1005, hG _ g1006⟩ (zpreV (va_recv hX.1 hP (ci := 8) (q0 := 0) rfl rfl) hX hP hD hS hA [0, 1] rfl (by decide)) rfl rfl hl.1 rfl (lv_room (Nat.le_of_ble_eq_true rfl)) dL_law_709 ⟨Nat.le_of_ble_eq_true rfl, Nat.le_of_ble_eq_true rfl⟩) hP hD hS hA [0, 1] [2] rfl rfl (by decide) (by decide) (fun r1 _ H locs hp hP hD hS => ?_)
  refine W.cs (cells' := 75) (slots' := 18897) rfl rfl ?_
  have hq2 : r1 = (-1) := hp
  subst hq2
  have hP : va_P g.1 vwCl [(n0, .inr (9, [.ref m_told, .ref m_read, .ref m_now, .ref m_readNow, .ref m_kept, .int 0, .int 1, .int 0, .ref m_tape, .int 0, .ref m_refused, .int 0, .int (-1), .int 0, .int 0, .int 0, .int 0, .int (-1), .ref m_ownLetters, .ref m_flats, .int 0, .ref m_corner, .ref m_wayX, .ref m_wayY, .ref m_normal, .ref m_low, .ref m_high, .ref m_clear, .ref m_ways, .ref m_canBe, .ref m_lain, .int 0, .ref m_fewestBy, .ref m_sortOf, .int 0, .ref m_seenFlange, .ref m_seenLength]))] H := hP
  have hD : va_D A [(n0, .inr (9, [.ref m_told, .ref m_read, .ref m_now, .ref m_readNow, .ref m_kept, .int 0, .int 1, .int 0, .ref m_tape, .int 0, .ref m_refused, .int 0, .int (-1), .int 0, .int 0, .int 0, .int 0, .int (-1), .ref m_ownLetters, .ref m_flats, .int 0, .ref m_corner, .ref m_wayX, .ref m_wayY, .ref m_normal, .ref m_low, .ref m_high, .ref m_clear, .ref m_ways, .ref m_canBe, .ref m_lain, .int 0, .ref m_fewestBy, .ref m_sortOf, .int 0, .ref m_seenFlange, .ref m_seenLength]))] := hD
  refine lv_aload_n hx hb dL_law_712 rfl (lv_at hl 2 rfl) ?_
  refine lv_aload_n hx hb dL_law_713 rfl (lv_at hl 0 rfl) ?_
  refine lv_iload_n hx hb dL_law_714 rfl (lv_at hl 3 rfl) ?_
  refine lv_iconst (v := 1) hx hb dL_law_715 (by decide) ?_
  refine lv_iadd hx hb dL_law_716 ?_
  refine zt (z := 1) (by decide) ?_
  refine va_sld hx hb hZ hbl hbA hS (vp_in_iff.mpr (by decide)) dL_law_717 ?_
  refine lv_aload_n hx hb dL_law_718 rfl (lv_at hl 0 rfl) ?_
  refine lv_iload_n hx hb dL_law_719 rfl (lv_at hl 3 rfl) ?_
  refine lv_iconst (v := 2) hx hb dL_law_720 (by decide) ?_
  refine lv_iadd hx hb dL_law_721 ?_
  refine zt (z := 2) (by decide) ?_
  refine va_sld hx hb hZ hbl hbA hS (vp_in_iff.mpr (by decide)) dL_law_722 ?_
  refine zfi (wr := []) (va_runV (As := [.int (zs (1 : Int32).toNatClampNeg), .int (zs (2 : Int32).toNatClampNeg)]) (rest := [.int (-1)]) ⟨hx, hb, hml, hown, hG⟩ (kX9_clash l g n0 (zs (1 : Int32).toNatClampNeg) (zs (2 : Int32).toNatClampNeg) m_told m_read m_now m_readNow m_kept m_tape m_refused m_ownLetters m_flats m_corner m_wayX m_wayY m_normal m_low m_high m_clear m_ways m_canBe m_lain m_fewestBy m_sortOf m_seenFlange m_seenLength _) ⟨callB_of 2 hG (zGood g1870) rfl rfl rfl (hG _ g211) (hG _ g1867) hX9_clash ⟨Nat.le_of_ble_eq_true rfl, Nat.le_of_ble_eq_true rfl⟩, hG _ g1868, hG _ g1869⟩ (zpreV (va_recv hX.1 hP (ci := 9) (q0 := 0) rfl rfl) hX hP hD hS hA [0] rfl (by decide)) rfl rfl hl.1 rfl (lv_room (Nat.le_of_ble_eq_true rfl)) dL_law_723 ⟨Nat.le_of_ble_eq_true rfl, Nat.le_of_ble_eq_true rfl⟩) hP hD hS hA [0] [] rfl rfl (by decide) (by decide) (fun r3 _ H locs hp hP hD hS => ?_)
  refine W.cs (cells' := 75) (slots' := 18897) rfl rfl ?_
  have hq4 : r3 = (-1) := hp
  subst hq4
  have hP : va_P g.1 vwCl [(n0, .inr (9, [.ref m_told, .ref m_read, .ref m_now, .ref m_readNow, .ref m_kept, .int 0, .int 1, .int 0, .ref m_tape, .int 0, .ref m_refused, .int 0, .int (-1), .int 0, .int 0, .int 0, .int 0, .int (-1), .ref m_ownLetters, .ref m_flats, .int 0, .ref m_corner, .ref m_wayX, .ref m_wayY, .ref m_normal, .ref m_low, .ref m_high, .ref m_clear, .ref m_ways, .ref m_canBe, .ref m_lain, .int 0, .ref m_fewestBy, .ref m_sortOf, .int 0, .ref m_seenFlange, .ref m_seenLength]))] H := hP
  have hD : va_D A [(n0, .inr (9, [.ref m_told, .ref m_read, .ref m_now, .ref m_readNow, .ref m_kept, .int 0, .int 1, .int 0, .ref m_tape, .int 0, .ref m_refused, .int 0, .int (-1), .int 0, .int 0, .int 0, .int 0, .int (-1), .ref m_ownLetters, .ref m_flats, .int 0, .ref m_corner, .ref m_wayX, .ref m_wayY, .ref m_normal, .ref m_low, .ref m_high, .ref m_clear, .ref m_ways, .ref m_canBe, .ref m_lain, .int 0, .ref m_fewestBy, .ref m_sortOf, .int 0, .ref m_seenFlange, .ref m_seenLength]))] := hD
  refine lv_icmp_eq (tgt := 1474) hx hb dL_law_726 (by decide) (fun c9 => ?_) (fun c9 => (c9 rfl).elim)
  exact lc_end C0 (Nat.le_of_ble_eq_true rfl) (Nat.le_of_ble_eq_true rfl) hS (lv_sub hl [0, 3] rfl)
theorem dL_law_731 : decode cL_law 731 = .ok (.aload_n 1, 1) := by decide +kernel
theorem dL_law_732 : decode cL_law 732 = .ok (.aload_n 0, 1) := by decide +kernel
theorem dL_law_733 : decode cL_law 733 = .ok (.iload_n 3, 1) := by decide +kernel
theorem dL_law_734 : decode cL_law 734 = .ok (.iconst 1, 1) := by decide +kernel
theorem dL_law_735 : decode cL_law 735 = .ok (.iadd, 1) := by decide +kernel
theorem dL_law_736 : decode cL_law 736 = .ok (.iaload, 1) := by decide +kernel
theorem dL_law_737 : decode cL_law 737 = .ok (.aload_n 0, 1) := by decide +kernel
theorem dL_law_738 : decode cL_law 738 = .ok (.iload_n 3, 1) := by decide +kernel
theorem dL_law_739 : decode cL_law 739 = .ok (.iconst 2, 1) := by decide +kernel
theorem dL_law_740 : decode cL_law 740 = .ok (.iadd, 1) := by decide +kernel
theorem dL_law_741 : decode cL_law 741 = .ok (.iaload, 1) := by decide +kernel
theorem dL_law_742 : decode cL_law 742 = .ok (.invokevirtual 86, 3) := by decide +kernel
theorem dL_law_745 : decode cL_law 745 = .ok (.aload_n 2, 1) := by decide +kernel
theorem dL_law_746 : decode cL_law 746 = .ok (.aload_n 0, 1) := by decide +kernel
theorem dL_law_747 : decode cL_law 747 = .ok (.iload_n 3, 1) := by decide +kernel
theorem dL_law_748 : decode cL_law 748 = .ok (.iconst 1, 1) := by decide +kernel
theorem dL_law_749 : decode cL_law 749 = .ok (.iadd, 1) := by decide +kernel
theorem dL_law_750 : decode cL_law 750 = .ok (.iaload, 1) := by decide +kernel
theorem dL_law_751 : decode cL_law 751 = .ok (.aload_n 0, 1) := by decide +kernel
theorem dL_law_752 : decode cL_law 752 = .ok (.iload_n 3, 1) := by decide +kernel
theorem dL_law_753 : decode cL_law 753 = .ok (.iconst 2, 1) := by decide +kernel
theorem dL_law_754 : decode cL_law 754 = .ok (.iadd, 1) := by decide +kernel
theorem dL_law_755 : decode cL_law 755 = .ok (.iaload, 1) := by decide +kernel
theorem dL_law_756 : decode cL_law 756 = .ok (.invokevirtual 89, 3) := by decide +kernel
theorem dL_law_759 : decode cL_law 759 = .ok (.if_icmp .eq 715, 3) := by decide +kernel
set_option maxHeartbeats 4000000 in
set_option maxRecDepth 100000 in
theorem lc_17 {p : Program} {l : Launch} {e : Env} {s : State} {m : MethodId} {below : List Frame} {meth : Method} {c : Code} {b : Nat} {zs : Nat → Int32} {g : zL} {A : Nat → Prop} (C0 : zLw p s m meth c b zs g A) {h0 xt xr xp xs xm xh xe xf pa dr p_toolWidth p_told p_name p_parent p_side p_from p_width p_height p_radius p_toolSet n0 m_told m_read m_now m_readNow m_kept m_tape m_refused m_ownLetters m_flats m_corner m_wayX m_wayY m_normal m_low m_high m_clear m_ways m_canBe m_lain m_fewestBy m_sortOf m_seenFlange m_seenLength : Nat} {H : Heap} {locs : List Loc} {ls : Array Slot} (hP : va_P g.1 vwCl [(h0, .inr (8, [.ref xt, .ref xr, .ref xp, .ref xs, .ref xm, .ref xh, .ref xe, .ref xf, .ref pa, .ref dr, .int 0, .int 1, .int 0, .int 0])), (pa, .inr (4, [.int 0, .int 0, .int 0, .int 0, .int 0, .int 0, .ref p_toolWidth, .ref p_told, .ref p_name, .ref p_parent, .ref p_side, .ref p_from, .ref p_width, .ref p_height, .ref p_radius, .ref p_toolSet])), (n0, .inr (9, [.ref m_told, .ref m_read, .ref m_now, .ref m_readNow, .ref m_kept, .int 0, .int 1, .int 0, .ref m_tape, .int 0, .ref m_refused, .int 0, .int (-1), .int 0, .int 0, .int 0, .int 0, .int (-1), .ref m_ownLetters, .ref m_flats, .int 0, .ref m_corner, .ref m_wayX, .ref m_wayY, .ref m_normal, .ref m_low, .ref m_high, .ref m_clear, .ref m_ways, .ref m_canBe, .ref m_lain, .int 0, .ref m_fewestBy, .ref m_sortOf, .int 0, .ref m_seenFlange, .ref m_seenLength]))] H) (hD : va_D A [(h0, .inr (8, [.ref xt, .ref xr, .ref xp, .ref xs, .ref xm, .ref xh, .ref xe, .ref xf, .ref pa, .ref dr, .int 0, .int 1, .int 0, .int 0])), (pa, .inr (4, [.int 0, .int 0, .int 0, .int 0, .int 0, .int 0, .ref p_toolWidth, .ref p_told, .ref p_name, .ref p_parent, .ref p_side, .ref p_from, .ref p_width, .ref p_height, .ref p_radius, .ref p_toolSet])), (n0, .inr (9, [.ref m_told, .ref m_read, .ref m_now, .ref m_readNow, .ref m_kept, .int 0, .int 1, .int 0, .ref m_tape, .int 0, .ref m_refused, .int 0, .int (-1), .int 0, .int 0, .int 0, .int 0, .int (-1), .ref m_ownLetters, .ref m_flats, .int 0, .ref m_corner, .ref m_wayX, .ref m_wayY, .ref m_normal, .ref m_low, .ref m_high, .ref m_clear, .ref m_ways, .ref m_canBe, .ref m_lain, .int 0, .ref m_fewestBy, .ref m_sortOf, .int 0, .ref m_seenFlange, .ref m_seenLength]))]) (hS : va_S A s.heap H locs) (hl : lv_has ls 4 [(0, .ref b), (1, .ref h0), (2, .ref n0), (3, .int 0)]) : W p l e room_1 s m #[Value.ref b] below meth c H locs 75 18897 (lw_Z below #[Value.ref b] s) (F0 m 731 ls []) := by
  obtain ⟨hx, hb, hr, hml, hown, hG, hlocks, hX, hA, hA2, hZ, hbl, hbA⟩ := id C0
  refine lv_aload_n hx hb dL_law_731 rfl (lv_at hl 1 rfl) ?_
  refine lv_aload_n hx hb dL_law_732 rfl (lv_at hl 0 rfl) ?_
  refine lv_iload_n hx hb dL_law_733 rfl (lv_at hl 3 rfl) ?_
  refine lv_iconst (v := 1) hx hb dL_law_734 (by decide) ?_
  refine lv_iadd hx hb dL_law_735 ?_
  refine zt (z := 1) (by decide) ?_
  refine va_sld hx hb hZ hbl hbA hS (vp_in_iff.mpr (by decide)) dL_law_736 ?_
  refine lv_aload_n hx hb dL_law_737 rfl (lv_at hl 0 rfl) ?_
  refine lv_iload_n hx hb dL_law_738 rfl (lv_at hl 3 rfl) ?_
  refine lv_iconst (v := 2) hx hb dL_law_739 (by decide) ?_
  refine lv_iadd hx hb dL_law_740 ?_
  refine zt (z := 2) (by decide) ?_
  refine va_sld hx hb hZ hbl hbA hS (vp_in_iff.mpr (by decide)) dL_law_741 ?_
  refine zfi (wr := [(n0, .inr (9, [.ref m_told, .ref m_read, .ref m_now, .ref m_readNow, .ref m_kept, .int 0, .int 1, .int 0, .ref m_tape, .int 0, .ref m_refused, .int 0, .int (-1), .int 0, .int 0, .int 0, .int 0, .int (-1), .ref m_ownLetters, .ref m_flats, .int 0, .ref m_corner, .ref m_wayX, .ref m_wayY, .ref m_normal, .ref m_low, .ref m_high, .ref m_clear, .ref m_ways, .ref m_canBe, .ref m_lain, .int 0, .ref m_fewestBy, .ref m_sortOf, .int 0, .ref m_seenFlange, .ref m_seenLength]))]) (va_runV (As := [.int (zs (1 : Int32).toNatClampNeg), .int (zs (2 : Int32).toNatClampNeg)]) (rest := []) ⟨hx, hb, hml, hown, hG⟩ (kX8_meets l g h0 (zs (1 : Int32).toNatClampNeg) (zs (2 : Int32).toNatClampNeg) xt xr xp xs xm xh xe xf pa dr p_toolWidth p_told p_name p_parent p_side p_from p_width p_height p_radius p_toolSet _) ⟨callB_of 2 hG (zGood g1032) rfl rfl rfl (hG _ g202) (hG _ g1029) hX8_meets ⟨Nat.le_of_ble_eq_true rfl, Nat.le_of_ble_eq_true rfl⟩, hG _ g1030, hG _ g1031⟩ (zpreV (va_recv hX.1 hP (ci := 8) (q0 := 0) rfl rfl) hX hP hD hS hA [0, 1] rfl (by decide)) rfl rfl hl.1 rfl (lv_room (Nat.le_of_ble_eq_true rfl)) dL_law_742 ⟨Nat.le_of_ble_eq_true rfl, Nat.le_of_ble_eq_true rfl⟩) hP hD hS hA [0, 1] [2] rfl rfl (by decide) (by decide) (fun r1 _ H locs hp hP hD hS => ?_)
  refine W.cs (cells' := 75) (slots' := 18897) rfl rfl ?_
  have hq2 : r1 = (-1) := hp
  subst hq2
  have hP : va_P g.1 vwCl [(n0, .inr (9, [.ref m_told, .ref m_read, .ref m_now, .ref m_readNow, .ref m_kept, .int 0, .int 1, .int 0, .ref m_tape, .int 0, .ref m_refused, .int 0, .int (-1), .int 0, .int 0, .int 0, .int 0, .int (-1), .ref m_ownLetters, .ref m_flats, .int 0, .ref m_corner, .ref m_wayX, .ref m_wayY, .ref m_normal, .ref m_low, .ref m_high, .ref m_clear, .ref m_ways, .ref m_canBe, .ref m_lain, .int 0, .ref m_fewestBy, .ref m_sortOf, .int 0, .ref m_seenFlange, .ref m_seenLength]))] H := hP
  have hD : va_D A [(n0, .inr (9, [.ref m_told, .ref m_read, .ref m_now, .ref m_readNow, .ref m_kept, .int 0, .int 1, .int 0, .ref m_tape, .int 0, .ref m_refused, .int 0, .int (-1), .int 0, .int 0, .int 0, .int 0, .int (-1), .ref m_ownLetters, .ref m_flats, .int 0, .ref m_corner, .ref m_wayX, .ref m_wayY, .ref m_normal, .ref m_low, .ref m_high, .ref m_clear, .ref m_ways, .ref m_canBe, .ref m_lain, .int 0, .ref m_fewestBy, .ref m_sortOf, .int 0, .ref m_seenFlange, .ref m_seenLength]))] := hD
  refine lv_aload_n hx hb dL_law_745 rfl (lv_at hl 2 rfl) ?_
  refine lv_aload_n hx hb dL_law_746 rfl (lv_at hl 0 rfl) ?_
  refine lv_iload_n hx hb dL_law_747 rfl (lv_at hl 3 rfl) ?_
  refine lv_iconst (v := 1) hx hb dL_law_748 (by decide) ?_
  refine lv_iadd hx hb dL_law_749 ?_
  refine zt (z := 1) (by decide) ?_
  refine va_sld hx hb hZ hbl hbA hS (vp_in_iff.mpr (by decide)) dL_law_750 ?_
  refine lv_aload_n hx hb dL_law_751 rfl (lv_at hl 0 rfl) ?_
  refine lv_iload_n hx hb dL_law_752 rfl (lv_at hl 3 rfl) ?_
  refine lv_iconst (v := 2) hx hb dL_law_753 (by decide) ?_
  refine lv_iadd hx hb dL_law_754 ?_
  refine zt (z := 2) (by decide) ?_
  refine va_sld hx hb hZ hbl hbA hS (vp_in_iff.mpr (by decide)) dL_law_755 ?_
  refine zfi (wr := []) (va_runV (As := [.int (zs (1 : Int32).toNatClampNeg), .int (zs (2 : Int32).toNatClampNeg)]) (rest := [.int (-1)]) ⟨hx, hb, hml, hown, hG⟩ (kX9_meets l g n0 (zs (1 : Int32).toNatClampNeg) (zs (2 : Int32).toNatClampNeg) m_told m_read m_now m_readNow m_kept m_tape m_refused m_ownLetters m_flats m_corner m_wayX m_wayY m_normal m_low m_high m_clear m_ways m_canBe m_lain m_fewestBy m_sortOf m_seenFlange m_seenLength _) ⟨callB_of 2 hG (zGood g1878) rfl rfl rfl (hG _ g211) (hG _ g1875) hX9_meets ⟨Nat.le_of_ble_eq_true rfl, Nat.le_of_ble_eq_true rfl⟩, hG _ g1876, hG _ g1877⟩ (zpreV (va_recv hX.1 hP (ci := 9) (q0 := 0) rfl rfl) hX hP hD hS hA [0] rfl (by decide)) rfl rfl hl.1 rfl (lv_room (Nat.le_of_ble_eq_true rfl)) dL_law_756 ⟨Nat.le_of_ble_eq_true rfl, Nat.le_of_ble_eq_true rfl⟩) hP hD hS hA [0] [] rfl rfl (by decide) (by decide) (fun r3 _ H locs hp hP hD hS => ?_)
  refine W.cs (cells' := 75) (slots' := 18897) rfl rfl ?_
  have hq4 : r3 = (-1) := hp
  subst hq4
  have hP : va_P g.1 vwCl [] H := hP
  have hD : va_D A [] := hD
  refine lv_icmp_eq (tgt := 1474) hx hb dL_law_759 (by decide) (fun c9 => ?_) (fun c9 => (c9 rfl).elim)
  exact lc_end C0 (Nat.le_of_ble_eq_true rfl) (Nat.le_of_ble_eq_true rfl) hS (lv_sub hl [0, 3] rfl)
theorem dL_law_764 : decode cL_law 764 = .ok (.aload_n 1, 1) := by decide +kernel
theorem dL_law_765 : decode cL_law 765 = .ok (.aload_n 0, 1) := by decide +kernel
theorem dL_law_766 : decode cL_law 766 = .ok (.iload_n 3, 1) := by decide +kernel
theorem dL_law_767 : decode cL_law 767 = .ok (.iconst 1, 1) := by decide +kernel
theorem dL_law_768 : decode cL_law 768 = .ok (.iadd, 1) := by decide +kernel
theorem dL_law_769 : decode cL_law 769 = .ok (.iaload, 1) := by decide +kernel
theorem dL_law_770 : decode cL_law 770 = .ok (.aload_n 0, 1) := by decide +kernel
theorem dL_law_771 : decode cL_law 771 = .ok (.iload_n 3, 1) := by decide +kernel
theorem dL_law_772 : decode cL_law 772 = .ok (.iconst 2, 1) := by decide +kernel
theorem dL_law_773 : decode cL_law 773 = .ok (.iadd, 1) := by decide +kernel
theorem dL_law_774 : decode cL_law 774 = .ok (.iaload, 1) := by decide +kernel
theorem dL_law_775 : decode cL_law 775 = .ok (.invokevirtual 90, 3) := by decide +kernel
theorem dL_law_778 : decode cL_law 778 = .ok (.aload_n 2, 1) := by decide +kernel
theorem dL_law_779 : decode cL_law 779 = .ok (.aload_n 0, 1) := by decide +kernel
theorem dL_law_780 : decode cL_law 780 = .ok (.iload_n 3, 1) := by decide +kernel
theorem dL_law_781 : decode cL_law 781 = .ok (.iconst 1, 1) := by decide +kernel
theorem dL_law_782 : decode cL_law 782 = .ok (.iadd, 1) := by decide +kernel
theorem dL_law_783 : decode cL_law 783 = .ok (.iaload, 1) := by decide +kernel
theorem dL_law_784 : decode cL_law 784 = .ok (.aload_n 0, 1) := by decide +kernel
theorem dL_law_785 : decode cL_law 785 = .ok (.iload_n 3, 1) := by decide +kernel
theorem dL_law_786 : decode cL_law 786 = .ok (.iconst 2, 1) := by decide +kernel
theorem dL_law_787 : decode cL_law 787 = .ok (.iadd, 1) := by decide +kernel
theorem dL_law_788 : decode cL_law 788 = .ok (.iaload, 1) := by decide +kernel
theorem dL_law_789 : decode cL_law 789 = .ok (.invokevirtual 93, 3) := by decide +kernel
theorem dL_law_792 : decode cL_law 792 = .ok (.if_icmp .eq 682, 3) := by decide +kernel
set_option maxHeartbeats 4000000 in
set_option maxRecDepth 100000 in
theorem lc_18 {p : Program} {l : Launch} {e : Env} {s : State} {m : MethodId} {below : List Frame} {meth : Method} {c : Code} {b : Nat} {zs : Nat → Int32} {g : zL} {A : Nat → Prop} (C0 : zLw p s m meth c b zs g A) {h0 xt xr xp xs xm xh xe xf pa dr p_toolWidth p_told p_name p_parent p_side p_from p_width p_height p_radius p_toolSet n0 m_told m_read m_now m_readNow m_kept m_tape m_refused m_ownLetters m_flats m_corner m_wayX m_wayY m_normal m_low m_high m_clear m_ways m_canBe m_lain m_fewestBy m_sortOf m_seenFlange m_seenLength : Nat} {H : Heap} {locs : List Loc} {ls : Array Slot} (hP : va_P g.1 vwCl [(h0, .inr (8, [.ref xt, .ref xr, .ref xp, .ref xs, .ref xm, .ref xh, .ref xe, .ref xf, .ref pa, .ref dr, .int 0, .int 1, .int 0, .int 0])), (pa, .inr (4, [.int 0, .int 0, .int 0, .int 0, .int 0, .int 0, .ref p_toolWidth, .ref p_told, .ref p_name, .ref p_parent, .ref p_side, .ref p_from, .ref p_width, .ref p_height, .ref p_radius, .ref p_toolSet])), (n0, .inr (9, [.ref m_told, .ref m_read, .ref m_now, .ref m_readNow, .ref m_kept, .int 0, .int 1, .int 0, .ref m_tape, .int 0, .ref m_refused, .int 0, .int (-1), .int 0, .int 0, .int 0, .int 0, .int (-1), .ref m_ownLetters, .ref m_flats, .int 0, .ref m_corner, .ref m_wayX, .ref m_wayY, .ref m_normal, .ref m_low, .ref m_high, .ref m_clear, .ref m_ways, .ref m_canBe, .ref m_lain, .int 0, .ref m_fewestBy, .ref m_sortOf, .int 0, .ref m_seenFlange, .ref m_seenLength]))] H) (hD : va_D A [(h0, .inr (8, [.ref xt, .ref xr, .ref xp, .ref xs, .ref xm, .ref xh, .ref xe, .ref xf, .ref pa, .ref dr, .int 0, .int 1, .int 0, .int 0])), (pa, .inr (4, [.int 0, .int 0, .int 0, .int 0, .int 0, .int 0, .ref p_toolWidth, .ref p_told, .ref p_name, .ref p_parent, .ref p_side, .ref p_from, .ref p_width, .ref p_height, .ref p_radius, .ref p_toolSet])), (n0, .inr (9, [.ref m_told, .ref m_read, .ref m_now, .ref m_readNow, .ref m_kept, .int 0, .int 1, .int 0, .ref m_tape, .int 0, .ref m_refused, .int 0, .int (-1), .int 0, .int 0, .int 0, .int 0, .int (-1), .ref m_ownLetters, .ref m_flats, .int 0, .ref m_corner, .ref m_wayX, .ref m_wayY, .ref m_normal, .ref m_low, .ref m_high, .ref m_clear, .ref m_ways, .ref m_canBe, .ref m_lain, .int 0, .ref m_fewestBy, .ref m_sortOf, .int 0, .ref m_seenFlange, .ref m_seenLength]))]) (hS : va_S A s.heap H locs) (hl : lv_has ls 4 [(0, .ref b), (1, .ref h0), (2, .ref n0), (3, .int 0)]) : W p l e room_1 s m #[Value.ref b] below meth c H locs 75 18897 (lw_Z below #[Value.ref b] s) (F0 m 764 ls []) := by
  obtain ⟨hx, hb, hr, hml, hown, hG, hlocks, hX, hA, hA2, hZ, hbl, hbA⟩ := id C0
  refine lv_aload_n hx hb dL_law_764 rfl (lv_at hl 1 rfl) ?_
  refine lv_aload_n hx hb dL_law_765 rfl (lv_at hl 0 rfl) ?_
  refine lv_iload_n hx hb dL_law_766 rfl (lv_at hl 3 rfl) ?_
  refine lv_iconst (v := 1) hx hb dL_law_767 (by decide) ?_
  refine lv_iadd hx hb dL_law_768 ?_
  refine zt (z := 1) (by decide) ?_
  refine va_sld hx hb hZ hbl hbA hS (vp_in_iff.mpr (by decide)) dL_law_769 ?_
  refine lv_aload_n hx hb dL_law_770 rfl (lv_at hl 0 rfl) ?_
  refine lv_iload_n hx hb dL_law_771 rfl (lv_at hl 3 rfl) ?_
  refine lv_iconst (v := 2) hx hb dL_law_772 (by decide) ?_
  refine lv_iadd hx hb dL_law_773 ?_
  refine zt (z := 2) (by decide) ?_
  refine va_sld hx hb hZ hbl hbA hS (vp_in_iff.mpr (by decide)) dL_law_774 ?_
  refine zfi (wr := [(n0, .inr (9, [.ref m_told, .ref m_read, .ref m_now, .ref m_readNow, .ref m_kept, .int 0, .int 1, .int 0, .ref m_tape, .int 0, .ref m_refused, .int 0, .int (-1), .int 0, .int 0, .int 0, .int 0, .int (-1), .ref m_ownLetters, .ref m_flats, .int 0, .ref m_corner, .ref m_wayX, .ref m_wayY, .ref m_normal, .ref m_low, .ref m_high, .ref m_clear, .ref m_ways, .ref m_canBe, .ref m_lain, .int 0, .ref m_fewestBy, .ref m_sortOf, .int 0, .ref m_seenFlange, .ref m_seenLength]))]) (va_runV (As := [.int (zs (1 : Int32).toNatClampNeg), .int (zs (2 : Int32).toNatClampNeg)]) (rest := []) ⟨hx, hb, hml, hown, hG⟩ (kX8_tools l g h0 (zs (1 : Int32).toNatClampNeg) (zs (2 : Int32).toNatClampNeg) xt xr xp xs xm xh xe xf pa dr p_toolWidth p_told p_name p_parent p_side p_from p_width p_height p_radius p_toolSet _) ⟨callB_of 2 hG (zGood g1044) rfl rfl rfl (hG _ g202) (hG _ g1041) hX8_tools ⟨Nat.le_of_ble_eq_true rfl, Nat.le_of_ble_eq_true rfl⟩, hG _ g1042, hG _ g1043⟩ (zpreV (va_recv hX.1 hP (ci := 8) (q0 := 0) rfl rfl) hX hP hD hS hA [0, 1] rfl (by decide)) rfl rfl hl.1 rfl (lv_room (Nat.le_of_ble_eq_true rfl)) dL_law_775 ⟨Nat.le_of_ble_eq_true rfl, Nat.le_of_ble_eq_true rfl⟩) hP hD hS hA [0, 1] [2] rfl rfl (by decide) (by decide) (fun r1 _ H locs hp hP hD hS => ?_)
  refine W.cs (cells' := 75) (slots' := 18897) rfl rfl ?_
  have hq2 : r1 = (-1) := hp
  subst hq2
  have hP : va_P g.1 vwCl [(n0, .inr (9, [.ref m_told, .ref m_read, .ref m_now, .ref m_readNow, .ref m_kept, .int 0, .int 1, .int 0, .ref m_tape, .int 0, .ref m_refused, .int 0, .int (-1), .int 0, .int 0, .int 0, .int 0, .int (-1), .ref m_ownLetters, .ref m_flats, .int 0, .ref m_corner, .ref m_wayX, .ref m_wayY, .ref m_normal, .ref m_low, .ref m_high, .ref m_clear, .ref m_ways, .ref m_canBe, .ref m_lain, .int 0, .ref m_fewestBy, .ref m_sortOf, .int 0, .ref m_seenFlange, .ref m_seenLength]))] H := hP
  have hD : va_D A [(n0, .inr (9, [.ref m_told, .ref m_read, .ref m_now, .ref m_readNow, .ref m_kept, .int 0, .int 1, .int 0, .ref m_tape, .int 0, .ref m_refused, .int 0, .int (-1), .int 0, .int 0, .int 0, .int 0, .int (-1), .ref m_ownLetters, .ref m_flats, .int 0, .ref m_corner, .ref m_wayX, .ref m_wayY, .ref m_normal, .ref m_low, .ref m_high, .ref m_clear, .ref m_ways, .ref m_canBe, .ref m_lain, .int 0, .ref m_fewestBy, .ref m_sortOf, .int 0, .ref m_seenFlange, .ref m_seenLength]))] := hD
  refine lv_aload_n hx hb dL_law_778 rfl (lv_at hl 2 rfl) ?_
  refine lv_aload_n hx hb dL_law_779 rfl (lv_at hl 0 rfl) ?_
  refine lv_iload_n hx hb dL_law_780 rfl (lv_at hl 3 rfl) ?_
  refine lv_iconst (v := 1) hx hb dL_law_781 (by decide) ?_
  refine lv_iadd hx hb dL_law_782 ?_
  refine zt (z := 1) (by decide) ?_
  refine va_sld hx hb hZ hbl hbA hS (vp_in_iff.mpr (by decide)) dL_law_783 ?_
  refine lv_aload_n hx hb dL_law_784 rfl (lv_at hl 0 rfl) ?_
  refine lv_iload_n hx hb dL_law_785 rfl (lv_at hl 3 rfl) ?_
  refine lv_iconst (v := 2) hx hb dL_law_786 (by decide) ?_
  refine lv_iadd hx hb dL_law_787 ?_
  refine zt (z := 2) (by decide) ?_
  refine va_sld hx hb hZ hbl hbA hS (vp_in_iff.mpr (by decide)) dL_law_788 ?_
  refine zfi (wr := []) (va_runV (As := [.int (zs (1 : Int32).toNatClampNeg), .int (zs (2 : Int32).toNatClampNeg)]) (rest := [.int (-1)]) ⟨hx, hb, hml, hown, hG⟩ (kX9_tools l g n0 (zs (1 : Int32).toNatClampNeg) (zs (2 : Int32).toNatClampNeg) m_told m_read m_now m_readNow m_kept m_tape m_refused m_ownLetters m_flats m_corner m_wayX m_wayY m_normal m_low m_high m_clear m_ways m_canBe m_lain m_fewestBy m_sortOf m_seenFlange m_seenLength _) ⟨callB_of 2 hG (zGood g1882) rfl rfl rfl (hG _ g211) (hG _ g1879) hX9_tools ⟨Nat.le_of_ble_eq_true rfl, Nat.le_of_ble_eq_true rfl⟩, hG _ g1880, hG _ g1881⟩ (zpreV (va_recv hX.1 hP (ci := 9) (q0 := 0) rfl rfl) hX hP hD hS hA [0] rfl (by decide)) rfl rfl hl.1 rfl (lv_room (Nat.le_of_ble_eq_true rfl)) dL_law_789 ⟨Nat.le_of_ble_eq_true rfl, Nat.le_of_ble_eq_true rfl⟩) hP hD hS hA [0] [] rfl rfl (by decide) (by decide) (fun r3 _ H locs hp hP hD hS => ?_)
  refine W.cs (cells' := 75) (slots' := 18897) rfl rfl ?_
  have hq4 : r3 = (-1) := hp
  subst hq4
  have hP : va_P g.1 vwCl [] H := hP
  have hD : va_D A [] := hD
  refine lv_icmp_eq (tgt := 1474) hx hb dL_law_792 (by decide) (fun c9 => ?_) (fun c9 => (c9 rfl).elim)
  exact lc_end C0 (Nat.le_of_ble_eq_true rfl) (Nat.le_of_ble_eq_true rfl) hS (lv_sub hl [0, 3] rfl)
theorem dL_law_797 : decode cL_law 797 = .ok (.aload_n 1, 1) := by decide +kernel
theorem dL_law_798 : decode cL_law 798 = .ok (.aload_n 0, 1) := by decide +kernel
theorem dL_law_799 : decode cL_law 799 = .ok (.iload_n 3, 1) := by decide +kernel
theorem dL_law_800 : decode cL_law 800 = .ok (.iconst 1, 1) := by decide +kernel
theorem dL_law_801 : decode cL_law 801 = .ok (.iadd, 1) := by decide +kernel
theorem dL_law_802 : decode cL_law 802 = .ok (.iaload, 1) := by decide +kernel
theorem dL_law_803 : decode cL_law 803 = .ok (.aload_n 0, 1) := by decide +kernel
theorem dL_law_804 : decode cL_law 804 = .ok (.iload_n 3, 1) := by decide +kernel
theorem dL_law_805 : decode cL_law 805 = .ok (.iconst 2, 1) := by decide +kernel
theorem dL_law_806 : decode cL_law 806 = .ok (.iadd, 1) := by decide +kernel
theorem dL_law_807 : decode cL_law 807 = .ok (.iaload, 1) := by decide +kernel
theorem dL_law_808 : decode cL_law 808 = .ok (.invokevirtual 94, 3) := by decide +kernel
theorem dL_law_811 : decode cL_law 811 = .ok (.aload_n 2, 1) := by decide +kernel
theorem dL_law_812 : decode cL_law 812 = .ok (.aload_n 0, 1) := by decide +kernel
theorem dL_law_813 : decode cL_law 813 = .ok (.iload_n 3, 1) := by decide +kernel
theorem dL_law_814 : decode cL_law 814 = .ok (.iconst 1, 1) := by decide +kernel
theorem dL_law_815 : decode cL_law 815 = .ok (.iadd, 1) := by decide +kernel
theorem dL_law_816 : decode cL_law 816 = .ok (.iaload, 1) := by decide +kernel
theorem dL_law_817 : decode cL_law 817 = .ok (.aload_n 0, 1) := by decide +kernel
theorem dL_law_818 : decode cL_law 818 = .ok (.iload_n 3, 1) := by decide +kernel
theorem dL_law_819 : decode cL_law 819 = .ok (.iconst 2, 1) := by decide +kernel
theorem dL_law_820 : decode cL_law 820 = .ok (.iadd, 1) := by decide +kernel
theorem dL_law_821 : decode cL_law 821 = .ok (.iaload, 1) := by decide +kernel
theorem dL_law_822 : decode cL_law 822 = .ok (.invokevirtual 97, 3) := by decide +kernel
theorem dL_law_825 : decode cL_law 825 = .ok (.if_icmp .eq 649, 3) := by decide +kernel
set_option maxHeartbeats 4000000 in
set_option maxRecDepth 100000 in
theorem lc_19 {p : Program} {l : Launch} {e : Env} {s : State} {m : MethodId} {below : List Frame} {meth : Method} {c : Code} {b : Nat} {zs : Nat → Int32} {g : zL} {A : Nat → Prop} (C0 : zLw p s m meth c b zs g A) {h0 xt xr xp xs xm xh xe xf pa dr p_toolWidth p_told p_name p_parent p_side p_from p_width p_height p_radius p_toolSet n0 m_told m_read m_now m_readNow m_kept m_tape m_refused m_ownLetters m_flats m_corner m_wayX m_wayY m_normal m_low m_high m_clear m_ways m_canBe m_lain m_fewestBy m_sortOf m_seenFlange m_seenLength : Nat} {H : Heap} {locs : List Loc} {ls : Array Slot} (hP : va_P g.1 vwCl [(h0, .inr (8, [.ref xt, .ref xr, .ref xp, .ref xs, .ref xm, .ref xh, .ref xe, .ref xf, .ref pa, .ref dr, .int 0, .int 1, .int 0, .int 0])), (pa, .inr (4, [.int 0, .int 0, .int 0, .int 0, .int 0, .int 0, .ref p_toolWidth, .ref p_told, .ref p_name, .ref p_parent, .ref p_side, .ref p_from, .ref p_width, .ref p_height, .ref p_radius, .ref p_toolSet])), (n0, .inr (9, [.ref m_told, .ref m_read, .ref m_now, .ref m_readNow, .ref m_kept, .int 0, .int 1, .int 0, .ref m_tape, .int 0, .ref m_refused, .int 0, .int (-1), .int 0, .int 0, .int 0, .int 0, .int (-1), .ref m_ownLetters, .ref m_flats, .int 0, .ref m_corner, .ref m_wayX, .ref m_wayY, .ref m_normal, .ref m_low, .ref m_high, .ref m_clear, .ref m_ways, .ref m_canBe, .ref m_lain, .int 0, .ref m_fewestBy, .ref m_sortOf, .int 0, .ref m_seenFlange, .ref m_seenLength]))] H) (hD : va_D A [(h0, .inr (8, [.ref xt, .ref xr, .ref xp, .ref xs, .ref xm, .ref xh, .ref xe, .ref xf, .ref pa, .ref dr, .int 0, .int 1, .int 0, .int 0])), (pa, .inr (4, [.int 0, .int 0, .int 0, .int 0, .int 0, .int 0, .ref p_toolWidth, .ref p_told, .ref p_name, .ref p_parent, .ref p_side, .ref p_from, .ref p_width, .ref p_height, .ref p_radius, .ref p_toolSet])), (n0, .inr (9, [.ref m_told, .ref m_read, .ref m_now, .ref m_readNow, .ref m_kept, .int 0, .int 1, .int 0, .ref m_tape, .int 0, .ref m_refused, .int 0, .int (-1), .int 0, .int 0, .int 0, .int 0, .int (-1), .ref m_ownLetters, .ref m_flats, .int 0, .ref m_corner, .ref m_wayX, .ref m_wayY, .ref m_normal, .ref m_low, .ref m_high, .ref m_clear, .ref m_ways, .ref m_canBe, .ref m_lain, .int 0, .ref m_fewestBy, .ref m_sortOf, .int 0, .ref m_seenFlange, .ref m_seenLength]))]) (hS : va_S A s.heap H locs) (hl : lv_has ls 4 [(0, .ref b), (1, .ref h0), (2, .ref n0), (3, .int 0)]) : W p l e room_1 s m #[Value.ref b] below meth c H locs 75 18897 (lw_Z below #[Value.ref b] s) (F0 m 797 ls []) := by
  obtain ⟨hx, hb, hr, hml, hown, hG, hlocks, hX, hA, hA2, hZ, hbl, hbA⟩ := id C0
  refine lv_aload_n hx hb dL_law_797 rfl (lv_at hl 1 rfl) ?_
  refine lv_aload_n hx hb dL_law_798 rfl (lv_at hl 0 rfl) ?_
  refine lv_iload_n hx hb dL_law_799 rfl (lv_at hl 3 rfl) ?_
  refine lv_iconst (v := 1) hx hb dL_law_800 (by decide) ?_
  refine lv_iadd hx hb dL_law_801 ?_
  refine zt (z := 1) (by decide) ?_
  refine va_sld hx hb hZ hbl hbA hS (vp_in_iff.mpr (by decide)) dL_law_802 ?_
  refine lv_aload_n hx hb dL_law_803 rfl (lv_at hl 0 rfl) ?_
  refine lv_iload_n hx hb dL_law_804 rfl (lv_at hl 3 rfl) ?_
  refine lv_iconst (v := 2) hx hb dL_law_805 (by decide) ?_
  refine lv_iadd hx hb dL_law_806 ?_
  refine zt (z := 2) (by decide) ?_
  refine va_sld hx hb hZ hbl hbA hS (vp_in_iff.mpr (by decide)) dL_law_807 ?_
  refine zfi (wr := [(n0, .inr (9, [.ref m_told, .ref m_read, .ref m_now, .ref m_readNow, .ref m_kept, .int 0, .int 1, .int 0, .ref m_tape, .int 0, .ref m_refused, .int 0, .int (-1), .int 0, .int 0, .int 0, .int 0, .int (-1), .ref m_ownLetters, .ref m_flats, .int 0, .ref m_corner, .ref m_wayX, .ref m_wayY, .ref m_normal, .ref m_low, .ref m_high, .ref m_clear, .ref m_ways, .ref m_canBe, .ref m_lain, .int 0, .ref m_fewestBy, .ref m_sortOf, .int 0, .ref m_seenFlange, .ref m_seenLength]))]) (va_runV (As := [.int (zs (1 : Int32).toNatClampNeg), .int (zs (2 : Int32).toNatClampNeg)]) (rest := []) ⟨hx, hb, hml, hown, hG⟩ (kX8_why l g h0 (zs (1 : Int32).toNatClampNeg) (zs (2 : Int32).toNatClampNeg) xt xr xp xs xm xh xe xf pa dr p_toolWidth p_told p_name p_parent p_side p_from p_width p_height p_radius p_toolSet _) ⟨callB_of 2 hG (zGood g1049) rfl rfl rfl (hG _ g202) (hG _ g1046) hX8_why ⟨Nat.le_of_ble_eq_true rfl, Nat.le_of_ble_eq_true rfl⟩, hG _ g1047, hG _ g1048⟩ (zpreV (va_recv hX.1 hP (ci := 8) (q0 := 0) rfl rfl) hX hP hD hS hA [0, 1] rfl (by decide)) rfl rfl hl.1 rfl (lv_room (Nat.le_of_ble_eq_true rfl)) dL_law_808 ⟨Nat.le_of_ble_eq_true rfl, Nat.le_of_ble_eq_true rfl⟩) hP hD hS hA [0, 1] [2] rfl rfl (by decide) (by decide) (fun r1 _ H locs hp hP hD hS => ?_)
  refine W.cs (cells' := 75) (slots' := 18897) rfl rfl ?_
  have hq2 : r1 = (-1) := hp
  subst hq2
  have hP : va_P g.1 vwCl [(n0, .inr (9, [.ref m_told, .ref m_read, .ref m_now, .ref m_readNow, .ref m_kept, .int 0, .int 1, .int 0, .ref m_tape, .int 0, .ref m_refused, .int 0, .int (-1), .int 0, .int 0, .int 0, .int 0, .int (-1), .ref m_ownLetters, .ref m_flats, .int 0, .ref m_corner, .ref m_wayX, .ref m_wayY, .ref m_normal, .ref m_low, .ref m_high, .ref m_clear, .ref m_ways, .ref m_canBe, .ref m_lain, .int 0, .ref m_fewestBy, .ref m_sortOf, .int 0, .ref m_seenFlange, .ref m_seenLength]))] H := hP
  have hD : va_D A [(n0, .inr (9, [.ref m_told, .ref m_read, .ref m_now, .ref m_readNow, .ref m_kept, .int 0, .int 1, .int 0, .ref m_tape, .int 0, .ref m_refused, .int 0, .int (-1), .int 0, .int 0, .int 0, .int 0, .int (-1), .ref m_ownLetters, .ref m_flats, .int 0, .ref m_corner, .ref m_wayX, .ref m_wayY, .ref m_normal, .ref m_low, .ref m_high, .ref m_clear, .ref m_ways, .ref m_canBe, .ref m_lain, .int 0, .ref m_fewestBy, .ref m_sortOf, .int 0, .ref m_seenFlange, .ref m_seenLength]))] := hD
  refine lv_aload_n hx hb dL_law_811 rfl (lv_at hl 2 rfl) ?_
  refine lv_aload_n hx hb dL_law_812 rfl (lv_at hl 0 rfl) ?_
  refine lv_iload_n hx hb dL_law_813 rfl (lv_at hl 3 rfl) ?_
  refine lv_iconst (v := 1) hx hb dL_law_814 (by decide) ?_
  refine lv_iadd hx hb dL_law_815 ?_
  refine zt (z := 1) (by decide) ?_
  refine va_sld hx hb hZ hbl hbA hS (vp_in_iff.mpr (by decide)) dL_law_816 ?_
  refine lv_aload_n hx hb dL_law_817 rfl (lv_at hl 0 rfl) ?_
  refine lv_iload_n hx hb dL_law_818 rfl (lv_at hl 3 rfl) ?_
  refine lv_iconst (v := 2) hx hb dL_law_819 (by decide) ?_
  refine lv_iadd hx hb dL_law_820 ?_
  refine zt (z := 2) (by decide) ?_
  refine va_sld hx hb hZ hbl hbA hS (vp_in_iff.mpr (by decide)) dL_law_821 ?_
  refine zfi (wr := []) (va_runV (As := [.int (zs (1 : Int32).toNatClampNeg), .int (zs (2 : Int32).toNatClampNeg)]) (rest := [.int (-1)]) ⟨hx, hb, hml, hown, hG⟩ (kX9_why l g n0 (zs (1 : Int32).toNatClampNeg) (zs (2 : Int32).toNatClampNeg) m_told m_read m_now m_readNow m_kept m_tape m_refused m_ownLetters m_flats m_corner m_wayX m_wayY m_normal m_low m_high m_clear m_ways m_canBe m_lain m_fewestBy m_sortOf m_seenFlange m_seenLength _) ⟨callB_of 2 hG (zGood g1886) rfl rfl rfl (hG _ g211) (hG _ g1883) hX9_why ⟨Nat.le_of_ble_eq_true rfl, Nat.le_of_ble_eq_true rfl⟩, hG _ g1884, hG _ g1885⟩ (zpreV (va_recv hX.1 hP (ci := 9) (q0 := 0) rfl rfl) hX hP hD hS hA [0] rfl (by decide)) rfl rfl hl.1 rfl (lv_room (Nat.le_of_ble_eq_true rfl)) dL_law_822 ⟨Nat.le_of_ble_eq_true rfl, Nat.le_of_ble_eq_true rfl⟩) hP hD hS hA [0] [] rfl rfl (by decide) (by decide) (fun r3 _ H locs hp hP hD hS => ?_)
  refine W.cs (cells' := 75) (slots' := 18897) rfl rfl ?_
  have hq4 : r3 = (-1) := hp
  subst hq4
  have hP : va_P g.1 vwCl [] H := hP
  have hD : va_D A [] := hD
  refine lv_icmp_eq (tgt := 1474) hx hb dL_law_825 (by decide) (fun c9 => ?_) (fun c9 => (c9 rfl).elim)
  exact lc_end C0 (Nat.le_of_ble_eq_true rfl) (Nat.le_of_ble_eq_true rfl) hS (lv_sub hl [0, 3] rfl)
theorem dL_law_830 : decode cL_law 830 = .ok (.aload_n 1, 1) := by decide +kernel
theorem dL_law_831 : decode cL_law 831 = .ok (.invokevirtual 98, 3) := by decide +kernel
theorem dL_law_834 : decode cL_law 834 = .ok (.aload_n 2, 1) := by decide +kernel
theorem dL_law_835 : decode cL_law 835 = .ok (.invokevirtual 101, 3) := by decide +kernel
theorem dL_law_838 : decode cL_law 838 = .ok (.if_icmp .eq 636, 3) := by decide +kernel
set_option maxHeartbeats 4000000 in
set_option maxRecDepth 100000 in
theorem lc_20 {p : Program} {l : Launch} {e : Env} {s : State} {m : MethodId} {below : List Frame} {meth : Method} {c : Code} {b : Nat} {zs : Nat → Int32} {g : zL} {A : Nat → Prop} (C0 : zLw p s m meth c b zs g A) {h0 xt xr xp xs xm xh xe xf pa dr p_toolWidth p_told p_name p_parent p_side p_from p_width p_height p_radius p_toolSet n0 m_told m_read m_now m_readNow m_kept m_tape m_refused m_ownLetters m_flats m_corner m_wayX m_wayY m_normal m_low m_high m_clear m_ways m_canBe m_lain m_fewestBy m_sortOf m_seenFlange m_seenLength : Nat} {H : Heap} {locs : List Loc} {ls : Array Slot} (hP : va_P g.1 vwCl [(h0, .inr (8, [.ref xt, .ref xr, .ref xp, .ref xs, .ref xm, .ref xh, .ref xe, .ref xf, .ref pa, .ref dr, .int 0, .int 1, .int 0, .int 0])), (pa, .inr (4, [.int 0, .int 0, .int 0, .int 0, .int 0, .int 0, .ref p_toolWidth, .ref p_told, .ref p_name, .ref p_parent, .ref p_side, .ref p_from, .ref p_width, .ref p_height, .ref p_radius, .ref p_toolSet])), (n0, .inr (9, [.ref m_told, .ref m_read, .ref m_now, .ref m_readNow, .ref m_kept, .int 0, .int 1, .int 0, .ref m_tape, .int 0, .ref m_refused, .int 0, .int (-1), .int 0, .int 0, .int 0, .int 0, .int (-1), .ref m_ownLetters, .ref m_flats, .int 0, .ref m_corner, .ref m_wayX, .ref m_wayY, .ref m_normal, .ref m_low, .ref m_high, .ref m_clear, .ref m_ways, .ref m_canBe, .ref m_lain, .int 0, .ref m_fewestBy, .ref m_sortOf, .int 0, .ref m_seenFlange, .ref m_seenLength]))] H) (hD : va_D A [(h0, .inr (8, [.ref xt, .ref xr, .ref xp, .ref xs, .ref xm, .ref xh, .ref xe, .ref xf, .ref pa, .ref dr, .int 0, .int 1, .int 0, .int 0])), (pa, .inr (4, [.int 0, .int 0, .int 0, .int 0, .int 0, .int 0, .ref p_toolWidth, .ref p_told, .ref p_name, .ref p_parent, .ref p_side, .ref p_from, .ref p_width, .ref p_height, .ref p_radius, .ref p_toolSet])), (n0, .inr (9, [.ref m_told, .ref m_read, .ref m_now, .ref m_readNow, .ref m_kept, .int 0, .int 1, .int 0, .ref m_tape, .int 0, .ref m_refused, .int 0, .int (-1), .int 0, .int 0, .int 0, .int 0, .int (-1), .ref m_ownLetters, .ref m_flats, .int 0, .ref m_corner, .ref m_wayX, .ref m_wayY, .ref m_normal, .ref m_low, .ref m_high, .ref m_clear, .ref m_ways, .ref m_canBe, .ref m_lain, .int 0, .ref m_fewestBy, .ref m_sortOf, .int 0, .ref m_seenFlange, .ref m_seenLength]))]) (hS : va_S A s.heap H locs) (hl : lv_has ls 4 [(0, .ref b), (1, .ref h0), (2, .ref n0), (3, .int 0)]) : W p l e room_1 s m #[Value.ref b] below meth c H locs 75 18897 (lw_Z below #[Value.ref b] s) (F0 m 830 ls []) := by
  obtain ⟨hx, hb, hr, hml, hown, hG, hlocks, hX, hA, hA2, hZ, hbl, hbA⟩ := id C0
  refine lv_aload_n hx hb dL_law_830 rfl (lv_at hl 1 rfl) ?_
  refine zfi (wr := [(n0, .inr (9, [.ref m_told, .ref m_read, .ref m_now, .ref m_readNow, .ref m_kept, .int 0, .int 1, .int 0, .ref m_tape, .int 0, .ref m_refused, .int 0, .int (-1), .int 0, .int 0, .int 0, .int 0, .int (-1), .ref m_ownLetters, .ref m_flats, .int 0, .ref m_corner, .ref m_wayX, .ref m_wayY, .ref m_normal, .ref m_low, .ref m_high, .ref m_clear, .ref m_ways, .ref m_canBe, .ref m_lain, .int 0, .ref m_fewestBy, .ref m_sortOf, .int 0, .ref m_seenFlange, .ref m_seenLength]))]) (va_runV (As := []) (rest := []) ⟨hx, hb, hml, hown, hG⟩ (kX8_orders l g h0 xt xr xp xs xm xh xe xf pa dr p_toolWidth p_told p_name p_parent p_side p_from p_width p_height p_radius p_toolSet _) ⟨callB_of 0 hG (zGood g1061) rfl rfl rfl (hG _ g202) (hG _ g1058) hX8_orders ⟨Nat.le_of_ble_eq_true rfl, Nat.le_of_ble_eq_true rfl⟩, hG _ g1059, hG _ g1060⟩ (zpreV (va_recv hX.1 hP (ci := 8) (q0 := 0) rfl rfl) hX hP hD hS hA [0, 1] rfl (by decide)) rfl rfl hl.1 rfl (lv_room (Nat.le_of_ble_eq_true rfl)) dL_law_831 ⟨Nat.le_of_ble_eq_true rfl, Nat.le_of_ble_eq_true rfl⟩) hP hD hS hA [0, 1] [2] rfl rfl (by decide) (by decide) (fun r1 _ H locs hp hP hD hS => ?_)
  refine W.cs (cells' := 75) (slots' := 18897) rfl rfl ?_
  have hq2 : r1 = (-1) := hp
  subst hq2
  have hP : va_P g.1 vwCl [(n0, .inr (9, [.ref m_told, .ref m_read, .ref m_now, .ref m_readNow, .ref m_kept, .int 0, .int 1, .int 0, .ref m_tape, .int 0, .ref m_refused, .int 0, .int (-1), .int 0, .int 0, .int 0, .int 0, .int (-1), .ref m_ownLetters, .ref m_flats, .int 0, .ref m_corner, .ref m_wayX, .ref m_wayY, .ref m_normal, .ref m_low, .ref m_high, .ref m_clear, .ref m_ways, .ref m_canBe, .ref m_lain, .int 0, .ref m_fewestBy, .ref m_sortOf, .int 0, .ref m_seenFlange, .ref m_seenLength]))] H := hP
  have hD : va_D A [(n0, .inr (9, [.ref m_told, .ref m_read, .ref m_now, .ref m_readNow, .ref m_kept, .int 0, .int 1, .int 0, .ref m_tape, .int 0, .ref m_refused, .int 0, .int (-1), .int 0, .int 0, .int 0, .int 0, .int (-1), .ref m_ownLetters, .ref m_flats, .int 0, .ref m_corner, .ref m_wayX, .ref m_wayY, .ref m_normal, .ref m_low, .ref m_high, .ref m_clear, .ref m_ways, .ref m_canBe, .ref m_lain, .int 0, .ref m_fewestBy, .ref m_sortOf, .int 0, .ref m_seenFlange, .ref m_seenLength]))] := hD
  refine lv_aload_n hx hb dL_law_834 rfl (lv_at hl 2 rfl) ?_
  refine zfi (wr := []) (va_runV (As := []) (rest := [.int (-1)]) ⟨hx, hb, hml, hown, hG⟩ (kX9_orders l g n0 m_told m_read m_now m_readNow m_kept m_tape m_refused m_ownLetters m_flats m_corner m_wayX m_wayY m_normal m_low m_high m_clear m_ways m_canBe m_lain m_fewestBy m_sortOf m_seenFlange m_seenLength _) ⟨callB_of 0 hG (zGood g1895) rfl rfl rfl (hG _ g211) (hG _ g1892) hX9_orders ⟨Nat.le_of_ble_eq_true rfl, Nat.le_of_ble_eq_true rfl⟩, hG _ g1893, hG _ g1894⟩ (zpreV (va_recv hX.1 hP (ci := 9) (q0 := 0) rfl rfl) hX hP hD hS hA [0] rfl (by decide)) rfl rfl hl.1 rfl (lv_room (Nat.le_of_ble_eq_true rfl)) dL_law_835 ⟨Nat.le_of_ble_eq_true rfl, Nat.le_of_ble_eq_true rfl⟩) hP hD hS hA [0] [] rfl rfl (by decide) (by decide) (fun r3 _ H locs hp hP hD hS => ?_)
  refine W.cs (cells' := 75) (slots' := 18897) rfl rfl ?_
  have hq4 : r3 = (-1) := hp
  subst hq4
  have hP : va_P g.1 vwCl [] H := hP
  have hD : va_D A [] := hD
  refine lv_icmp_eq (tgt := 1474) hx hb dL_law_838 (by decide) (fun c9 => ?_) (fun c9 => (c9 rfl).elim)
  exact lc_end C0 (Nat.le_of_ble_eq_true rfl) (Nat.le_of_ble_eq_true rfl) hS (lv_sub hl [0, 3] rfl)
theorem dL_law_843 : decode cL_law 843 = .ok (.aload_n 1, 1) := by decide +kernel
theorem dL_law_844 : decode cL_law 844 = .ok (.aload_n 0, 1) := by decide +kernel
theorem dL_law_845 : decode cL_law 845 = .ok (.iload_n 3, 1) := by decide +kernel
theorem dL_law_846 : decode cL_law 846 = .ok (.iconst 1, 1) := by decide +kernel
theorem dL_law_847 : decode cL_law 847 = .ok (.iadd, 1) := by decide +kernel
theorem dL_law_848 : decode cL_law 848 = .ok (.iaload, 1) := by decide +kernel
theorem dL_law_849 : decode cL_law 849 = .ok (.invokevirtual 102, 3) := by decide +kernel
theorem dL_law_852 : decode cL_law 852 = .ok (.aload_n 2, 1) := by decide +kernel
theorem dL_law_853 : decode cL_law 853 = .ok (.aload_n 0, 1) := by decide +kernel
theorem dL_law_854 : decode cL_law 854 = .ok (.iload_n 3, 1) := by decide +kernel
theorem dL_law_855 : decode cL_law 855 = .ok (.iconst 1, 1) := by decide +kernel
theorem dL_law_856 : decode cL_law 856 = .ok (.iadd, 1) := by decide +kernel
theorem dL_law_857 : decode cL_law 857 = .ok (.iaload, 1) := by decide +kernel
theorem dL_law_858 : decode cL_law 858 = .ok (.invokevirtual 105, 3) := by decide +kernel
theorem dL_law_861 : decode cL_law 861 = .ok (.if_icmp .eq 613, 3) := by decide +kernel
set_option maxHeartbeats 4000000 in
set_option maxRecDepth 100000 in
theorem lc_21 {p : Program} {l : Launch} {e : Env} {s : State} {m : MethodId} {below : List Frame} {meth : Method} {c : Code} {b : Nat} {zs : Nat → Int32} {g : zL} {A : Nat → Prop} (C0 : zLw p s m meth c b zs g A) {h0 xt xr xp xs xm xh xe xf pa dr p_toolWidth p_told p_name p_parent p_side p_from p_width p_height p_radius p_toolSet n0 m_told m_read m_now m_readNow m_kept m_tape m_refused m_ownLetters m_flats m_corner m_wayX m_wayY m_normal m_low m_high m_clear m_ways m_canBe m_lain m_fewestBy m_sortOf m_seenFlange m_seenLength : Nat} {H : Heap} {locs : List Loc} {ls : Array Slot} (hP : va_P g.1 vwCl [(h0, .inr (8, [.ref xt, .ref xr, .ref xp, .ref xs, .ref xm, .ref xh, .ref xe, .ref xf, .ref pa, .ref dr, .int 0, .int 1, .int 0, .int 0])), (pa, .inr (4, [.int 0, .int 0, .int 0, .int 0, .int 0, .int 0, .ref p_toolWidth, .ref p_told, .ref p_name, .ref p_parent, .ref p_side, .ref p_from, .ref p_width, .ref p_height, .ref p_radius, .ref p_toolSet])), (n0, .inr (9, [.ref m_told, .ref m_read, .ref m_now, .ref m_readNow, .ref m_kept, .int 0, .int 1, .int 0, .ref m_tape, .int 0, .ref m_refused, .int 0, .int (-1), .int 0, .int 0, .int 0, .int 0, .int (-1), .ref m_ownLetters, .ref m_flats, .int 0, .ref m_corner, .ref m_wayX, .ref m_wayY, .ref m_normal, .ref m_low, .ref m_high, .ref m_clear, .ref m_ways, .ref m_canBe, .ref m_lain, .int 0, .ref m_fewestBy, .ref m_sortOf, .int 0, .ref m_seenFlange, .ref m_seenLength]))] H) (hD : va_D A [(h0, .inr (8, [.ref xt, .ref xr, .ref xp, .ref xs, .ref xm, .ref xh, .ref xe, .ref xf, .ref pa, .ref dr, .int 0, .int 1, .int 0, .int 0])), (pa, .inr (4, [.int 0, .int 0, .int 0, .int 0, .int 0, .int 0, .ref p_toolWidth, .ref p_told, .ref p_name, .ref p_parent, .ref p_side, .ref p_from, .ref p_width, .ref p_height, .ref p_radius, .ref p_toolSet])), (n0, .inr (9, [.ref m_told, .ref m_read, .ref m_now, .ref m_readNow, .ref m_kept, .int 0, .int 1, .int 0, .ref m_tape, .int 0, .ref m_refused, .int 0, .int (-1), .int 0, .int 0, .int 0, .int 0, .int (-1), .ref m_ownLetters, .ref m_flats, .int 0, .ref m_corner, .ref m_wayX, .ref m_wayY, .ref m_normal, .ref m_low, .ref m_high, .ref m_clear, .ref m_ways, .ref m_canBe, .ref m_lain, .int 0, .ref m_fewestBy, .ref m_sortOf, .int 0, .ref m_seenFlange, .ref m_seenLength]))]) (hS : va_S A s.heap H locs) (hl : lv_has ls 4 [(0, .ref b), (1, .ref h0), (2, .ref n0), (3, .int 0)]) : W p l e room_1 s m #[Value.ref b] below meth c H locs 75 18897 (lw_Z below #[Value.ref b] s) (F0 m 843 ls []) := by
  obtain ⟨hx, hb, hr, hml, hown, hG, hlocks, hX, hA, hA2, hZ, hbl, hbA⟩ := id C0
  refine lv_aload_n hx hb dL_law_843 rfl (lv_at hl 1 rfl) ?_
  refine lv_aload_n hx hb dL_law_844 rfl (lv_at hl 0 rfl) ?_
  refine lv_iload_n hx hb dL_law_845 rfl (lv_at hl 3 rfl) ?_
  refine lv_iconst (v := 1) hx hb dL_law_846 (by decide) ?_
  refine lv_iadd hx hb dL_law_847 ?_
  refine zt (z := 1) (by decide) ?_
  refine va_sld hx hb hZ hbl hbA hS (vp_in_iff.mpr (by decide)) dL_law_848 ?_
  refine zfi (wr := [(n0, .inr (9, [.ref m_told, .ref m_read, .ref m_now, .ref m_readNow, .ref m_kept, .int 0, .int 1, .int 0, .ref m_tape, .int 0, .ref m_refused, .int 0, .int (-1), .int 0, .int 0, .int 0, .int 0, .int (-1), .ref m_ownLetters, .ref m_flats, .int 0, .ref m_corner, .ref m_wayX, .ref m_wayY, .ref m_normal, .ref m_low, .ref m_high, .ref m_clear, .ref m_ways, .ref m_canBe, .ref m_lain, .int 0, .ref m_fewestBy, .ref m_sortOf, .int 0, .ref m_seenFlange, .ref m_seenLength]))]) (va_runV (As := [.int (zs (1 : Int32).toNatClampNeg)]) (rest := []) ⟨hx, hb, hml, hown, hG⟩ (kX8_order l g h0 (zs (1 : Int32).toNatClampNeg) xt xr xp xs xm xh xe xf pa dr p_toolWidth p_told p_name p_parent p_side p_from p_width p_height p_radius p_toolSet _) ⟨callB_of 1 hG (zGood g1106) rfl rfl rfl (hG _ g202) (hG _ g1103) hX8_order ⟨Nat.le_of_ble_eq_true rfl, Nat.le_of_ble_eq_true rfl⟩, hG _ g1104, hG _ g1105⟩ (zpreV (va_recv hX.1 hP (ci := 8) (q0 := 0) rfl rfl) hX hP hD hS hA [0, 1] rfl (by decide)) rfl rfl hl.1 rfl (lv_room (Nat.le_of_ble_eq_true rfl)) dL_law_849 ⟨Nat.le_of_ble_eq_true rfl, Nat.le_of_ble_eq_true rfl⟩) hP hD hS hA [0, 1] [2] rfl rfl (by decide) (by decide) (fun r1 _ H locs hp hP hD hS => ?_)
  refine W.cs (cells' := 75) (slots' := 18897) rfl rfl ?_
  have hq2 : r1 = (-1) := hp
  subst hq2
  have hP : va_P g.1 vwCl [(n0, .inr (9, [.ref m_told, .ref m_read, .ref m_now, .ref m_readNow, .ref m_kept, .int 0, .int 1, .int 0, .ref m_tape, .int 0, .ref m_refused, .int 0, .int (-1), .int 0, .int 0, .int 0, .int 0, .int (-1), .ref m_ownLetters, .ref m_flats, .int 0, .ref m_corner, .ref m_wayX, .ref m_wayY, .ref m_normal, .ref m_low, .ref m_high, .ref m_clear, .ref m_ways, .ref m_canBe, .ref m_lain, .int 0, .ref m_fewestBy, .ref m_sortOf, .int 0, .ref m_seenFlange, .ref m_seenLength]))] H := hP
  have hD : va_D A [(n0, .inr (9, [.ref m_told, .ref m_read, .ref m_now, .ref m_readNow, .ref m_kept, .int 0, .int 1, .int 0, .ref m_tape, .int 0, .ref m_refused, .int 0, .int (-1), .int 0, .int 0, .int 0, .int 0, .int (-1), .ref m_ownLetters, .ref m_flats, .int 0, .ref m_corner, .ref m_wayX, .ref m_wayY, .ref m_normal, .ref m_low, .ref m_high, .ref m_clear, .ref m_ways, .ref m_canBe, .ref m_lain, .int 0, .ref m_fewestBy, .ref m_sortOf, .int 0, .ref m_seenFlange, .ref m_seenLength]))] := hD
  refine lv_aload_n hx hb dL_law_852 rfl (lv_at hl 2 rfl) ?_
  refine lv_aload_n hx hb dL_law_853 rfl (lv_at hl 0 rfl) ?_
  refine lv_iload_n hx hb dL_law_854 rfl (lv_at hl 3 rfl) ?_
  refine lv_iconst (v := 1) hx hb dL_law_855 (by decide) ?_
  refine lv_iadd hx hb dL_law_856 ?_
  refine zt (z := 1) (by decide) ?_
  refine va_sld hx hb hZ hbl hbA hS (vp_in_iff.mpr (by decide)) dL_law_857 ?_
  refine zfi (wr := []) (va_runV (As := [.int (zs (1 : Int32).toNatClampNeg)]) (rest := [.int (-1)]) ⟨hx, hb, hml, hown, hG⟩ (kX9_order l g n0 (zs (1 : Int32).toNatClampNeg) m_told m_read m_now m_readNow m_kept m_tape m_refused m_ownLetters m_flats m_corner m_wayX m_wayY m_normal m_low m_high m_clear m_ways m_canBe m_lain m_fewestBy m_sortOf m_seenFlange m_seenLength _) ⟨callB_of 1 hG (zGood g1907) rfl rfl rfl (hG _ g211) (hG _ g1904) hX9_order ⟨Nat.le_of_ble_eq_true rfl, Nat.le_of_ble_eq_true rfl⟩, hG _ g1905, hG _ g1906⟩ (zpreV (va_recv hX.1 hP (ci := 9) (q0 := 0) rfl rfl) hX hP hD hS hA [0] rfl (by decide)) rfl rfl hl.1 rfl (lv_room (Nat.le_of_ble_eq_true rfl)) dL_law_858 ⟨Nat.le_of_ble_eq_true rfl, Nat.le_of_ble_eq_true rfl⟩) hP hD hS hA [0] [] rfl rfl (by decide) (by decide) (fun r3 _ H locs hp hP hD hS => ?_)
  refine W.cs (cells' := 75) (slots' := 18897) rfl rfl ?_
  have hq4 : r3 = (-1) := hp
  subst hq4
  have hP : va_P g.1 vwCl [(n0, .inr (9, [.ref m_told, .ref m_read, .ref m_now, .ref m_readNow, .ref m_kept, .int 0, .int 1, .int 0, .ref m_tape, .int 0, .ref m_refused, .int 0, .int (-1), .int 0, .int 0, .int 0, .int 0, .int (-1), .ref m_ownLetters, .ref m_flats, .int 0, .ref m_corner, .ref m_wayX, .ref m_wayY, .ref m_normal, .ref m_low, .ref m_high, .ref m_clear, .ref m_ways, .ref m_canBe, .ref m_lain, .int 0, .ref m_fewestBy, .ref m_sortOf, .int 0, .ref m_seenFlange, .ref m_seenLength]))] H := hP
  have hD : va_D A [(n0, .inr (9, [.ref m_told, .ref m_read, .ref m_now, .ref m_readNow, .ref m_kept, .int 0, .int 1, .int 0, .ref m_tape, .int 0, .ref m_refused, .int 0, .int (-1), .int 0, .int 0, .int 0, .int 0, .int (-1), .ref m_ownLetters, .ref m_flats, .int 0, .ref m_corner, .ref m_wayX, .ref m_wayY, .ref m_normal, .ref m_low, .ref m_high, .ref m_clear, .ref m_ways, .ref m_canBe, .ref m_lain, .int 0, .ref m_fewestBy, .ref m_sortOf, .int 0, .ref m_seenFlange, .ref m_seenLength]))] := hD
  refine lv_icmp_eq (tgt := 1474) hx hb dL_law_861 (by decide) (fun c9 => ?_) (fun c9 => (c9 rfl).elim)
  exact lc_end C0 (Nat.le_of_ble_eq_true rfl) (Nat.le_of_ble_eq_true rfl) hS (lv_sub hl [0, 3] rfl)
theorem dL_law_866 : decode cL_law 866 = .ok (.aload_n 1, 1) := by decide +kernel
theorem dL_law_867 : decode cL_law 867 = .ok (.aload_n 0, 1) := by decide +kernel
theorem dL_law_868 : decode cL_law 868 = .ok (.iload_n 3, 1) := by decide +kernel
theorem dL_law_869 : decode cL_law 869 = .ok (.iconst 1, 1) := by decide +kernel
theorem dL_law_870 : decode cL_law 870 = .ok (.iadd, 1) := by decide +kernel
theorem dL_law_871 : decode cL_law 871 = .ok (.iaload, 1) := by decide +kernel
theorem dL_law_872 : decode cL_law 872 = .ok (.invokevirtual 106, 3) := by decide +kernel
theorem dL_law_875 : decode cL_law 875 = .ok (.aload_n 2, 1) := by decide +kernel
theorem dL_law_876 : decode cL_law 876 = .ok (.aload_n 0, 1) := by decide +kernel
theorem dL_law_877 : decode cL_law 877 = .ok (.iload_n 3, 1) := by decide +kernel
theorem dL_law_878 : decode cL_law 878 = .ok (.iconst 1, 1) := by decide +kernel
theorem dL_law_879 : decode cL_law 879 = .ok (.iadd, 1) := by decide +kernel
theorem dL_law_880 : decode cL_law 880 = .ok (.iaload, 1) := by decide +kernel
theorem dL_law_881 : decode cL_law 881 = .ok (.invokevirtual 109, 3) := by decide +kernel
theorem dL_law_884 : decode cL_law 884 = .ok (.if_icmp .eq 590, 3) := by decide +kernel
set_option maxHeartbeats 4000000 in
set_option maxRecDepth 100000 in
theorem lc_22 {p : Program} {l : Launch} {e : Env} {s : State} {m : MethodId} {below : List Frame} {meth : Method} {c : Code} {b : Nat} {zs : Nat → Int32} {g : zL} {A : Nat → Prop} (C0 : zLw p s m meth c b zs g A) {h0 xt xr xp xs xm xh xe xf pa dr p_toolWidth p_told p_name p_parent p_side p_from p_width p_height p_radius p_toolSet n0 m_told m_read m_now m_readNow m_kept m_tape m_refused m_ownLetters m_flats m_corner m_wayX m_wayY m_normal m_low m_high m_clear m_ways m_canBe m_lain m_fewestBy m_sortOf m_seenFlange m_seenLength : Nat} {H : Heap} {locs : List Loc} {ls : Array Slot} (hP : va_P g.1 vwCl [(h0, .inr (8, [.ref xt, .ref xr, .ref xp, .ref xs, .ref xm, .ref xh, .ref xe, .ref xf, .ref pa, .ref dr, .int 0, .int 1, .int 0, .int 0])), (pa, .inr (4, [.int 0, .int 0, .int 0, .int 0, .int 0, .int 0, .ref p_toolWidth, .ref p_told, .ref p_name, .ref p_parent, .ref p_side, .ref p_from, .ref p_width, .ref p_height, .ref p_radius, .ref p_toolSet])), (n0, .inr (9, [.ref m_told, .ref m_read, .ref m_now, .ref m_readNow, .ref m_kept, .int 0, .int 1, .int 0, .ref m_tape, .int 0, .ref m_refused, .int 0, .int (-1), .int 0, .int 0, .int 0, .int 0, .int (-1), .ref m_ownLetters, .ref m_flats, .int 0, .ref m_corner, .ref m_wayX, .ref m_wayY, .ref m_normal, .ref m_low, .ref m_high, .ref m_clear, .ref m_ways, .ref m_canBe, .ref m_lain, .int 0, .ref m_fewestBy, .ref m_sortOf, .int 0, .ref m_seenFlange, .ref m_seenLength]))] H) (hD : va_D A [(h0, .inr (8, [.ref xt, .ref xr, .ref xp, .ref xs, .ref xm, .ref xh, .ref xe, .ref xf, .ref pa, .ref dr, .int 0, .int 1, .int 0, .int 0])), (pa, .inr (4, [.int 0, .int 0, .int 0, .int 0, .int 0, .int 0, .ref p_toolWidth, .ref p_told, .ref p_name, .ref p_parent, .ref p_side, .ref p_from, .ref p_width, .ref p_height, .ref p_radius, .ref p_toolSet])), (n0, .inr (9, [.ref m_told, .ref m_read, .ref m_now, .ref m_readNow, .ref m_kept, .int 0, .int 1, .int 0, .ref m_tape, .int 0, .ref m_refused, .int 0, .int (-1), .int 0, .int 0, .int 0, .int 0, .int (-1), .ref m_ownLetters, .ref m_flats, .int 0, .ref m_corner, .ref m_wayX, .ref m_wayY, .ref m_normal, .ref m_low, .ref m_high, .ref m_clear, .ref m_ways, .ref m_canBe, .ref m_lain, .int 0, .ref m_fewestBy, .ref m_sortOf, .int 0, .ref m_seenFlange, .ref m_seenLength]))]) (hS : va_S A s.heap H locs) (hl : lv_has ls 4 [(0, .ref b), (1, .ref h0), (2, .ref n0), (3, .int 0)]) : W p l e room_1 s m #[Value.ref b] below meth c H locs 75 18897 (lw_Z below #[Value.ref b] s) (F0 m 866 ls []) := by
  obtain ⟨hx, hb, hr, hml, hown, hG, hlocks, hX, hA, hA2, hZ, hbl, hbA⟩ := id C0
  refine lv_aload_n hx hb dL_law_866 rfl (lv_at hl 1 rfl) ?_
  refine lv_aload_n hx hb dL_law_867 rfl (lv_at hl 0 rfl) ?_
  refine lv_iload_n hx hb dL_law_868 rfl (lv_at hl 3 rfl) ?_
  refine lv_iconst (v := 1) hx hb dL_law_869 (by decide) ?_
  refine lv_iadd hx hb dL_law_870 ?_
  refine zt (z := 1) (by decide) ?_
  refine va_sld hx hb hZ hbl hbA hS (vp_in_iff.mpr (by decide)) dL_law_871 ?_
  refine zfi (wr := [(n0, .inr (9, [.ref m_told, .ref m_read, .ref m_now, .ref m_readNow, .ref m_kept, .int 0, .int 1, .int 0, .ref m_tape, .int 0, .ref m_refused, .int 0, .int (-1), .int 0, .int 0, .int 0, .int 0, .int (-1), .ref m_ownLetters, .ref m_flats, .int 0, .ref m_corner, .ref m_wayX, .ref m_wayY, .ref m_normal, .ref m_low, .ref m_high, .ref m_clear, .ref m_ways, .ref m_canBe, .ref m_lain, .int 0, .ref m_fewestBy, .ref m_sortOf, .int 0, .ref m_seenFlange, .ref m_seenLength]))]) (va_runV (As := [.int (zs (1 : Int32).toNatClampNeg)]) (rest := []) ⟨hx, hb, hml, hown, hG⟩ (kX8_mayBeLast l g h0 (zs (1 : Int32).toNatClampNeg) xt xr xp xs xm xh xe xf pa dr p_toolWidth p_told p_name p_parent p_side p_from p_width p_height p_radius p_toolSet _) ⟨callB_of 1 hG (zGood g1130) rfl rfl rfl (hG _ g202) (hG _ g1127) hX8_mayBeLast ⟨Nat.le_of_ble_eq_true rfl, Nat.le_of_ble_eq_true rfl⟩, hG _ g1128, hG _ g1129⟩ (zpreV (va_recv hX.1 hP (ci := 8) (q0 := 0) rfl rfl) hX hP hD hS hA [0, 1] rfl (by decide)) rfl rfl hl.1 rfl (lv_room (Nat.le_of_ble_eq_true rfl)) dL_law_872 ⟨Nat.le_of_ble_eq_true rfl, Nat.le_of_ble_eq_true rfl⟩) hP hD hS hA [0, 1] [2] rfl rfl (by decide) (by decide) (fun r1 _ H locs hp hP hD hS => ?_)
  refine W.cs (cells' := 75) (slots' := 18897) rfl rfl ?_
  have hq2 : r1 = (-1) := hp
  subst hq2
  have hP : va_P g.1 vwCl [(n0, .inr (9, [.ref m_told, .ref m_read, .ref m_now, .ref m_readNow, .ref m_kept, .int 0, .int 1, .int 0, .ref m_tape, .int 0, .ref m_refused, .int 0, .int (-1), .int 0, .int 0, .int 0, .int 0, .int (-1), .ref m_ownLetters, .ref m_flats, .int 0, .ref m_corner, .ref m_wayX, .ref m_wayY, .ref m_normal, .ref m_low, .ref m_high, .ref m_clear, .ref m_ways, .ref m_canBe, .ref m_lain, .int 0, .ref m_fewestBy, .ref m_sortOf, .int 0, .ref m_seenFlange, .ref m_seenLength]))] H := hP
  have hD : va_D A [(n0, .inr (9, [.ref m_told, .ref m_read, .ref m_now, .ref m_readNow, .ref m_kept, .int 0, .int 1, .int 0, .ref m_tape, .int 0, .ref m_refused, .int 0, .int (-1), .int 0, .int 0, .int 0, .int 0, .int (-1), .ref m_ownLetters, .ref m_flats, .int 0, .ref m_corner, .ref m_wayX, .ref m_wayY, .ref m_normal, .ref m_low, .ref m_high, .ref m_clear, .ref m_ways, .ref m_canBe, .ref m_lain, .int 0, .ref m_fewestBy, .ref m_sortOf, .int 0, .ref m_seenFlange, .ref m_seenLength]))] := hD
  refine lv_aload_n hx hb dL_law_875 rfl (lv_at hl 2 rfl) ?_
  refine lv_aload_n hx hb dL_law_876 rfl (lv_at hl 0 rfl) ?_
  refine lv_iload_n hx hb dL_law_877 rfl (lv_at hl 3 rfl) ?_
  refine lv_iconst (v := 1) hx hb dL_law_878 (by decide) ?_
  refine lv_iadd hx hb dL_law_879 ?_
  refine zt (z := 1) (by decide) ?_
  refine va_sld hx hb hZ hbl hbA hS (vp_in_iff.mpr (by decide)) dL_law_880 ?_
  refine zfi (wr := []) (va_runV (As := [.int (zs (1 : Int32).toNatClampNeg)]) (rest := [.int (-1)]) ⟨hx, hb, hml, hown, hG⟩ (kX9_mayBeLast l g n0 (zs (1 : Int32).toNatClampNeg) m_told m_read m_now m_readNow m_kept m_tape m_refused m_ownLetters m_flats m_corner m_wayX m_wayY m_normal m_low m_high m_clear m_ways m_canBe m_lain m_fewestBy m_sortOf m_seenFlange m_seenLength _) ⟨callB_of 1 hG (zGood g1911) rfl rfl rfl (hG _ g211) (hG _ g1908) hX9_mayBeLast ⟨Nat.le_of_ble_eq_true rfl, Nat.le_of_ble_eq_true rfl⟩, hG _ g1909, hG _ g1910⟩ (zpreV (va_recv hX.1 hP (ci := 9) (q0 := 0) rfl rfl) hX hP hD hS hA [0] rfl (by decide)) rfl rfl hl.1 rfl (lv_room (Nat.le_of_ble_eq_true rfl)) dL_law_881 ⟨Nat.le_of_ble_eq_true rfl, Nat.le_of_ble_eq_true rfl⟩) hP hD hS hA [0] [] rfl rfl (by decide) (by decide) (fun r3 _ H locs hp hP hD hS => ?_)
  refine W.cs (cells' := 75) (slots' := 18897) rfl rfl ?_
  have hq4 : r3 = (-1) := hp
  subst hq4
  have hP : va_P g.1 vwCl [] H := hP
  have hD : va_D A [] := hD
  refine lv_icmp_eq (tgt := 1474) hx hb dL_law_884 (by decide) (fun c9 => ?_) (fun c9 => (c9 rfl).elim)
  exact lc_end C0 (Nat.le_of_ble_eq_true rfl) (Nat.le_of_ble_eq_true rfl) hS (lv_sub hl [0, 3] rfl)
theorem dL_law_889 : decode cL_law 889 = .ok (.aload_n 1, 1) := by decide +kernel
theorem dL_law_890 : decode cL_law 890 = .ok (.aload_n 0, 1) := by decide +kernel
theorem dL_law_891 : decode cL_law 891 = .ok (.iload_n 3, 1) := by decide +kernel
theorem dL_law_892 : decode cL_law 892 = .ok (.iconst 1, 1) := by decide +kernel
theorem dL_law_893 : decode cL_law 893 = .ok (.iadd, 1) := by decide +kernel
theorem dL_law_894 : decode cL_law 894 = .ok (.iaload, 1) := by decide +kernel
theorem dL_law_895 : decode cL_law 895 = .ok (.aload_n 0, 1) := by decide +kernel
theorem dL_law_896 : decode cL_law 896 = .ok (.iload_n 3, 1) := by decide +kernel
theorem dL_law_897 : decode cL_law 897 = .ok (.iconst 2, 1) := by decide +kernel
theorem dL_law_898 : decode cL_law 898 = .ok (.iadd, 1) := by decide +kernel
theorem dL_law_899 : decode cL_law 899 = .ok (.iaload, 1) := by decide +kernel
theorem dL_law_900 : decode cL_law 900 = .ok (.invokevirtual 110, 3) := by decide +kernel
theorem dL_law_903 : decode cL_law 903 = .ok (.aload_n 2, 1) := by decide +kernel
theorem dL_law_904 : decode cL_law 904 = .ok (.aload_n 0, 1) := by decide +kernel
theorem dL_law_905 : decode cL_law 905 = .ok (.iload_n 3, 1) := by decide +kernel
theorem dL_law_906 : decode cL_law 906 = .ok (.iconst 1, 1) := by decide +kernel
theorem dL_law_907 : decode cL_law 907 = .ok (.iadd, 1) := by decide +kernel
theorem dL_law_908 : decode cL_law 908 = .ok (.iaload, 1) := by decide +kernel
theorem dL_law_909 : decode cL_law 909 = .ok (.aload_n 0, 1) := by decide +kernel
theorem dL_law_910 : decode cL_law 910 = .ok (.iload_n 3, 1) := by decide +kernel
theorem dL_law_911 : decode cL_law 911 = .ok (.iconst 2, 1) := by decide +kernel
theorem dL_law_912 : decode cL_law 912 = .ok (.iadd, 1) := by decide +kernel
theorem dL_law_913 : decode cL_law 913 = .ok (.iaload, 1) := by decide +kernel
theorem dL_law_914 : decode cL_law 914 = .ok (.invokevirtual 113, 3) := by decide +kernel
theorem dL_law_917 : decode cL_law 917 = .ok (.if_icmp .eq 557, 3) := by decide +kernel
set_option maxHeartbeats 4000000 in
set_option maxRecDepth 100000 in
theorem lc_23 {p : Program} {l : Launch} {e : Env} {s : State} {m : MethodId} {below : List Frame} {meth : Method} {c : Code} {b : Nat} {zs : Nat → Int32} {g : zL} {A : Nat → Prop} (C0 : zLw p s m meth c b zs g A) {h0 xt xr xp xs xm xh xe xf pa dr p_toolWidth p_told p_name p_parent p_side p_from p_width p_height p_radius p_toolSet n0 m_told m_read m_now m_readNow m_kept m_tape m_refused m_ownLetters m_flats m_corner m_wayX m_wayY m_normal m_low m_high m_clear m_ways m_canBe m_lain m_fewestBy m_sortOf m_seenFlange m_seenLength : Nat} {H : Heap} {locs : List Loc} {ls : Array Slot} (hP : va_P g.1 vwCl [(h0, .inr (8, [.ref xt, .ref xr, .ref xp, .ref xs, .ref xm, .ref xh, .ref xe, .ref xf, .ref pa, .ref dr, .int 0, .int 1, .int 0, .int 0])), (pa, .inr (4, [.int 0, .int 0, .int 0, .int 0, .int 0, .int 0, .ref p_toolWidth, .ref p_told, .ref p_name, .ref p_parent, .ref p_side, .ref p_from, .ref p_width, .ref p_height, .ref p_radius, .ref p_toolSet])), (n0, .inr (9, [.ref m_told, .ref m_read, .ref m_now, .ref m_readNow, .ref m_kept, .int 0, .int 1, .int 0, .ref m_tape, .int 0, .ref m_refused, .int 0, .int (-1), .int 0, .int 0, .int 0, .int 0, .int (-1), .ref m_ownLetters, .ref m_flats, .int 0, .ref m_corner, .ref m_wayX, .ref m_wayY, .ref m_normal, .ref m_low, .ref m_high, .ref m_clear, .ref m_ways, .ref m_canBe, .ref m_lain, .int 0, .ref m_fewestBy, .ref m_sortOf, .int 0, .ref m_seenFlange, .ref m_seenLength]))] H) (hD : va_D A [(h0, .inr (8, [.ref xt, .ref xr, .ref xp, .ref xs, .ref xm, .ref xh, .ref xe, .ref xf, .ref pa, .ref dr, .int 0, .int 1, .int 0, .int 0])), (pa, .inr (4, [.int 0, .int 0, .int 0, .int 0, .int 0, .int 0, .ref p_toolWidth, .ref p_told, .ref p_name, .ref p_parent, .ref p_side, .ref p_from, .ref p_width, .ref p_height, .ref p_radius, .ref p_toolSet])), (n0, .inr (9, [.ref m_told, .ref m_read, .ref m_now, .ref m_readNow, .ref m_kept, .int 0, .int 1, .int 0, .ref m_tape, .int 0, .ref m_refused, .int 0, .int (-1), .int 0, .int 0, .int 0, .int 0, .int (-1), .ref m_ownLetters, .ref m_flats, .int 0, .ref m_corner, .ref m_wayX, .ref m_wayY, .ref m_normal, .ref m_low, .ref m_high, .ref m_clear, .ref m_ways, .ref m_canBe, .ref m_lain, .int 0, .ref m_fewestBy, .ref m_sortOf, .int 0, .ref m_seenFlange, .ref m_seenLength]))]) (hS : va_S A s.heap H locs) (hl : lv_has ls 4 [(0, .ref b), (1, .ref h0), (2, .ref n0), (3, .int 0)]) : W p l e room_1 s m #[Value.ref b] below meth c H locs 75 18897 (lw_Z below #[Value.ref b] s) (F0 m 889 ls []) := by
  obtain ⟨hx, hb, hr, hml, hown, hG, hlocks, hX, hA, hA2, hZ, hbl, hbA⟩ := id C0
  refine lv_aload_n hx hb dL_law_889 rfl (lv_at hl 1 rfl) ?_
  refine lv_aload_n hx hb dL_law_890 rfl (lv_at hl 0 rfl) ?_
  refine lv_iload_n hx hb dL_law_891 rfl (lv_at hl 3 rfl) ?_
  refine lv_iconst (v := 1) hx hb dL_law_892 (by decide) ?_
  refine lv_iadd hx hb dL_law_893 ?_
  refine zt (z := 1) (by decide) ?_
  refine va_sld hx hb hZ hbl hbA hS (vp_in_iff.mpr (by decide)) dL_law_894 ?_
  refine lv_aload_n hx hb dL_law_895 rfl (lv_at hl 0 rfl) ?_
  refine lv_iload_n hx hb dL_law_896 rfl (lv_at hl 3 rfl) ?_
  refine lv_iconst (v := 2) hx hb dL_law_897 (by decide) ?_
  refine lv_iadd hx hb dL_law_898 ?_
  refine zt (z := 2) (by decide) ?_
  refine va_sld hx hb hZ hbl hbA hS (vp_in_iff.mpr (by decide)) dL_law_899 ?_
  refine zfi (wr := [(n0, .inr (9, [.ref m_told, .ref m_read, .ref m_now, .ref m_readNow, .ref m_kept, .int 0, .int 1, .int 0, .ref m_tape, .int 0, .ref m_refused, .int 0, .int (-1), .int 0, .int 0, .int 0, .int 0, .int (-1), .ref m_ownLetters, .ref m_flats, .int 0, .ref m_corner, .ref m_wayX, .ref m_wayY, .ref m_normal, .ref m_low, .ref m_high, .ref m_clear, .ref m_ways, .ref m_canBe, .ref m_lain, .int 0, .ref m_fewestBy, .ref m_sortOf, .int 0, .ref m_seenFlange, .ref m_seenLength]))]) (va_runV (As := [.int (zs (1 : Int32).toNatClampNeg), .int (zs (2 : Int32).toNatClampNeg)]) (rest := []) ⟨hx, hb, hml, hown, hG⟩ (kX8_ahead l g h0 (zs (1 : Int32).toNatClampNeg) (zs (2 : Int32).toNatClampNeg) xt xr xp xs xm xh xe xf pa dr p_toolWidth p_told p_name p_parent p_side p_from p_width p_height p_radius p_toolSet _) ⟨callB_of 2 hG (zGood g1142) rfl rfl rfl (hG _ g202) (hG _ g1139) hX8_ahead ⟨Nat.le_of_ble_eq_true rfl, Nat.le_of_ble_eq_true rfl⟩, hG _ g1140, hG _ g1141⟩ (zpreV (va_recv hX.1 hP (ci := 8) (q0 := 0) rfl rfl) hX hP hD hS hA [0, 1] rfl (by decide)) rfl rfl hl.1 rfl (lv_room (Nat.le_of_ble_eq_true rfl)) dL_law_900 ⟨Nat.le_of_ble_eq_true rfl, Nat.le_of_ble_eq_true rfl⟩) hP hD hS hA [0, 1] [2] rfl rfl (by decide) (by decide) (fun r1 _ H locs hp hP hD hS => ?_)
  refine W.cs (cells' := 75) (slots' := 18897) rfl rfl ?_
  have hq2 : r1 = (-1) := hp
  subst hq2
  have hP : va_P g.1 vwCl [(n0, .inr (9, [.ref m_told, .ref m_read, .ref m_now, .ref m_readNow, .ref m_kept, .int 0, .int 1, .int 0, .ref m_tape, .int 0, .ref m_refused, .int 0, .int (-1), .int 0, .int 0, .int 0, .int 0, .int (-1), .ref m_ownLetters, .ref m_flats, .int 0, .ref m_corner, .ref m_wayX, .ref m_wayY, .ref m_normal, .ref m_low, .ref m_high, .ref m_clear, .ref m_ways, .ref m_canBe, .ref m_lain, .int 0, .ref m_fewestBy, .ref m_sortOf, .int 0, .ref m_seenFlange, .ref m_seenLength]))] H := hP
  have hD : va_D A [(n0, .inr (9, [.ref m_told, .ref m_read, .ref m_now, .ref m_readNow, .ref m_kept, .int 0, .int 1, .int 0, .ref m_tape, .int 0, .ref m_refused, .int 0, .int (-1), .int 0, .int 0, .int 0, .int 0, .int (-1), .ref m_ownLetters, .ref m_flats, .int 0, .ref m_corner, .ref m_wayX, .ref m_wayY, .ref m_normal, .ref m_low, .ref m_high, .ref m_clear, .ref m_ways, .ref m_canBe, .ref m_lain, .int 0, .ref m_fewestBy, .ref m_sortOf, .int 0, .ref m_seenFlange, .ref m_seenLength]))] := hD
  refine lv_aload_n hx hb dL_law_903 rfl (lv_at hl 2 rfl) ?_
  refine lv_aload_n hx hb dL_law_904 rfl (lv_at hl 0 rfl) ?_
  refine lv_iload_n hx hb dL_law_905 rfl (lv_at hl 3 rfl) ?_
  refine lv_iconst (v := 1) hx hb dL_law_906 (by decide) ?_
  refine lv_iadd hx hb dL_law_907 ?_
  refine zt (z := 1) (by decide) ?_
  refine va_sld hx hb hZ hbl hbA hS (vp_in_iff.mpr (by decide)) dL_law_908 ?_
  refine lv_aload_n hx hb dL_law_909 rfl (lv_at hl 0 rfl) ?_
  refine lv_iload_n hx hb dL_law_910 rfl (lv_at hl 3 rfl) ?_
  refine lv_iconst (v := 2) hx hb dL_law_911 (by decide) ?_
  refine lv_iadd hx hb dL_law_912 ?_
  refine zt (z := 2) (by decide) ?_
  refine va_sld hx hb hZ hbl hbA hS (vp_in_iff.mpr (by decide)) dL_law_913 ?_
  refine zfi (wr := []) (va_runV (As := [.int (zs (1 : Int32).toNatClampNeg), .int (zs (2 : Int32).toNatClampNeg)]) (rest := [.int (-1)]) ⟨hx, hb, hml, hown, hG⟩ (kX9_ahead l g n0 (zs (1 : Int32).toNatClampNeg) (zs (2 : Int32).toNatClampNeg) m_told m_read m_now m_readNow m_kept m_tape m_refused m_ownLetters m_flats m_corner m_wayX m_wayY m_normal m_low m_high m_clear m_ways m_canBe m_lain m_fewestBy m_sortOf m_seenFlange m_seenLength _) ⟨callB_of 2 hG (zGood g1919) rfl rfl rfl (hG _ g211) (hG _ g1916) hX9_ahead ⟨Nat.le_of_ble_eq_true rfl, Nat.le_of_ble_eq_true rfl⟩, hG _ g1917, hG _ g1918⟩ (zpreV (va_recv hX.1 hP (ci := 9) (q0 := 0) rfl rfl) hX hP hD hS hA [0] rfl (by decide)) rfl rfl hl.1 rfl (lv_room (Nat.le_of_ble_eq_true rfl)) dL_law_914 ⟨Nat.le_of_ble_eq_true rfl, Nat.le_of_ble_eq_true rfl⟩) hP hD hS hA [0] [] rfl rfl (by decide) (by decide) (fun r3 _ H locs hp hP hD hS => ?_)
  refine W.cs (cells' := 75) (slots' := 18897) rfl rfl ?_
  have hq4 : r3 = (-1) := hp
  subst hq4
  have hP : va_P g.1 vwCl [] H := hP
  have hD : va_D A [] := hD
  refine lv_icmp_eq (tgt := 1474) hx hb dL_law_917 (by decide) (fun c9 => ?_) (fun c9 => (c9 rfl).elim)
  exact lc_end C0 (Nat.le_of_ble_eq_true rfl) (Nat.le_of_ble_eq_true rfl) hS (lv_sub hl [0, 3] rfl)
