/-! THE FRAME OF ALL CONTRACTS: one list of words, one context, a contract by the cells that a method reaches -/
def zN : Cond → Bool
  | .fieldLinkNest .. => true
  | .methodLinkNest .. => true
  | _ => false
def zG : List Cond := lw_tbl.filter goodWord
theorem zgm {w : Cond} (h : w ∈ lw_tbl) (h2 : goodWord w = true) : w ∈ zG := List.mem_filter.mpr ⟨h, h2⟩
theorem zsel {q : MethodName × Nat} (h : q ∈ lw_privs) : Cond.selects q.1.cls q.1 q.1 ∈ lw_tbl := List.mem_append_left _ (List.mem_map.mpr ⟨q, h, rfl⟩)
theorem zG_all {ws : List Cond} (h : ∀ w ∈ ws, w ∈ lw_tbl) (h2 : ws.all goodWord = true) : ∀ w ∈ ws, w ∈ zG := fun w hw => List.mem_filter.mpr ⟨h w hw, List.all_eq_true.mp h2 w hw⟩
theorem zG_tbl {w : Cond} (h : w ∈ zG) : w ∈ lw_tbl := (List.mem_filter.mp h).1
/-- the callee's words among the caller's -/
theorem zGood {y : MethodName} {cc : ByteArray} {n : Nat} {r : Option FieldType} (h : Cond.code y cc n r ∈ zG) : GoodIn zG (.code y cc n r :: zG) := by
  intro w hw
  have hm : w ∈ zG := (List.mem_cons.mp hw).elim (fun e => by rw [e]; exact h) id
  exact ⟨hm, good_of_word (List.mem_filter.mp hm).2⟩
def zNW (U : State) : Prop := ∀ w ∈ lw_tbl, zN w = true → va_Nw w U
theorem zNW.warm {s U : State} (hW : s.WarmedH U.vm) (h : zNW s) : zNW U := by
  intro w hw hn
  have h1 := h w hw hn
  cases w <;> first | exact va_Nw.warmF hW h1 | exact va_Nw.warmM hW h1 | cases hn
theorem zNW.same {s U : State} (hv : s.vm = U.vm) (h : zNW s) : zNW U := by
  intro w hw hn
  refine va_Nw.same ?_ hv (h w hw hn)
  cases w <;> first | rfl | cases hn
theorem zNW.fl {s : State} {args : Array Value} (h : zNW s) {a : String} {k : Nat} {b n d o : String} (hi : Cond.fieldLinkNest a k b n d o ∈ lw_tbl) : (Cond.fieldLinkNest a k b n d o).before args s = true := va_Nw.use rfl (h _ hi rfl)
theorem zNW.ml {s : State} (h : zNW s) {a : String} {k : Nat} {x : MethodName} {o : String} (hi : Cond.methodLinkNest a k x o ∈ lw_tbl) : va_Nw (.methodLinkNest a k x o) s := h _ hi rfl
theorem zc_lt {x y : Int32} {X Y : Int} (hx : x.toInt = X) (hy : y.toInt = Y) : x < y ↔ X < Y := by rw [← hx, ← hy]; exact Int32.lt_iff_toInt_lt
theorem zc_le {x y : Int32} {X Y : Int} (hx : x.toInt = X) (hy : y.toInt = Y) : x ≤ y ↔ X ≤ Y := by rw [← hx, ← hy]; exact Int32.le_iff_toInt_le
theorem zc_eq {x y : Int32} {X Y : Int} (hx : x.toInt = X) (hy : y.toInt = Y) : x = y ↔ X = Y := by rw [← hx, ← hy]; exact Int32.toInt_inj.symm
/-- what is fixed in a run: the classes' numbers and slots; the classes of int[], byte[], boolean[]; the String constants and their rows; the row of powers -/
abbrev zL : Type := va_G × (ClassId × ClassId × ClassId) × (Nat → Nat) × (Nat → Nat) × Nat
abbrev zTy (g : zL) : List (ClassId × FieldType) := [(g.2.1.1, .int), (g.2.1.2.1, .byte), (g.2.1.2.2, .boolean)]
abbrev zPow : List Int32 := [1, 3, 9, 27, 81, 243, 729, 2187, 6561]
def zX (g : zL) (A : Nat → Prop) (U : State) (H : Heap) : Prop :=
  va_K g.1 vwCl (zTy g) U ∧ zNW U ∧ (∀ i : Nat, i < 19 → vk_R RX6 (zSp.getD i 0) (zSt.getD i "") (g.2.2.1 i) U) ∧ vk_S 19 zSl zSb g.2.2.1 g.2.2.2.1 A U H ∧
  va_Z "java/lang/String" "COMPACT_STRINGS" "Z" (.int 1) A U H ∧ va_Z "SheetFolds$Mender" "POWERS" "[I" (.ref g.2.2.2.2) A U H ∧ va_T .int g.2.2.2.2 9 (fun j => .int (zPow.getD j 0)) A U H ∧ va_Zq "jdk/internal/util/Preconditions" "SIOOBE_FORMATTER" "Ljava/util/function/BiFunction;" A U H
theorem zX.warm {g : zL} {A : Nat → Prop} {s U : State} {H : Heap} (hW : s.WarmedH U.vm) (h : zX g A s H) : zX g A U H := by
  obtain ⟨h1, h2, h3, h4, h5, h6, h7, h8⟩ := h
  exact ⟨h1.moved hW.alike, h2.warm hW, fun i hi => (h3 i hi).warm hW, h4.moved hW.alike, h5.moved hW.alike, h6.moved hW.alike, h7.moved hW.alike, h8.moved hW.alike⟩
theorem zX.same {g : zL} {A : Nat → Prop} {s U : State} {H : Heap} (hv : U.vm = s.vm) (h : zX g A s H) : zX g A U H := by
  obtain ⟨h1, h2, h3, h4, h5, h6, h7, h8⟩ := h
  have ha : s.vm.Alike U.vm := by rw [hv]; exact Vm.Alike.refl s.vm
  exact ⟨h1.moved ha, h2.same hv.symm, fun i hi => (h3 i hi).same hv, h4.moved ha, h5.moved ha, h6.moved ha, h7.moved ha, h8.moved ha⟩
theorem zX.kept {g : zL} {A : Nat → Prop} {U : State} {H H1 : Heap} (h : zX g A U H) (hq : ∀ a : Nat, a < H.size → ¬ A a → H1[a]? = H[a]?) : zX g A U H1 := by
  obtain ⟨h1, h2, h3, h4, h5, h6, h7, h8⟩ := h
  exact ⟨h1, h2, h3, h4.kept hq, h5.kept hq, h6.kept hq, h7.kept hq, h8.kept hq⟩
theorem zX.narrow {g : zL} {A B : Nat → Prop} {U : State} {H : Heap} (h : zX g A U H) (hAB : ∀ q, B q → A q) : zX g B U H := by
  obtain ⟨h1, h2, h3, h4, h5, h6, h7, h8⟩ := h
  exact ⟨h1, h2, h3, h4.narrow hAB, h5.narrow hAB, h6.narrow hAB, h7.narrow hAB, h8.narrow hAB⟩
/-- a contract's start: these arguments, these cells, the context -/
def zP (g : zL) (av : List Value) (wc : va_W) (sz : Nat) : Array Value → State → Prop :=
  va_Pc av (fun U => U.heap.size = sz ∧ va_P g.1 vwCl wc U.heap ∧ zX g (va_A wc sz) U U.heap ∧ va_D (fun _ => True) wc)
theorem zP.blind (g : zL) (av : List Value) (wc : va_W) (sz : Nat) : FrameBlind (zP g av wc sz) := by
  intro a U gf mk q
  obtain ⟨q0, q1, qP, qX, qD⟩ := q
  exact ⟨q0, q1, qP, zX.same (s := U) (U := U.calling gf mk a) rfl qX, qD⟩
/-- a contract's end: the cells behind it -/
def zB (g : zL) (wc : va_W) (sz : Nat) (w : va_W) (t : State) : Prop := va_P g.1 vwCl w t.heap ∧ va_D (va_A wc sz) w
def zCi {S : Type} (l : Launch) (g : zL) (y : MethodName) (cc : ByteArray) (mL : Nat) (ret : Option FieldType) (rm : Room) (av : List Value) (wc : va_W) (post : Int32 → S → Prop) (w' : S → va_W) : Prop :=
  ∀ sz : Nat, Met l y (.code y cc mL ret :: zG) rm (zP g av wc sz) (va_Qi post (fun u t => zB g wc sz (w' u) t) (va_A wc sz)) rm.cells rm.slots (va_A wc sz)
def zCv {S : Type} (l : Launch) (g : zL) (y : MethodName) (cc : ByteArray) (mL : Nat) (ret : Option FieldType) (rm : Room) (av : List Value) (wc : va_W) (post : S → Prop) (w' : S → va_W) : Prop :=
  ∀ sz : Nat, Met l y (.code y cc mL ret :: zG) rm (zP g av wc sz) (va_Qv post (fun u t => zB g wc sz (w' u) t) (va_A wc sz)) rm.cells rm.slots (va_A wc sz)
/-- what a method's walk has at its entry -/
def zE (p : Program) (s : State) (m : MethodId) (meth : Method) (c : Code) (g : zL) (A : Nat → Prop) (y : MethodName) (cc : ByteArray) (mL : Nat) (ret : Option FieldType) (args : Array Value) : Prop :=
  p.tables.exec = Jvm.exec ∧ c.code = cc ∧ meth.sig.returnType = ret ∧ c.maxLocals = mL ∧ s.vm.findClass y.cls = some m.cls ∧ (∀ w ∈ zG, w.before args s = true) ∧ meth.locks = false ∧ meth.name = y.name ∧ zX g A s s.heap ∧ (∀ q : Nat, s.heap.size ≤ q → A q)
theorem zCi.mk {S : Type} {l : Launch} {g : zL} {y : MethodName} {cc : ByteArray} {mL : Nat} {ret : Option FieldType} {rm : Room} {av : List Value} {wc : va_W} {post : Int32 → S → Prop} {w' : S → va_W} (hy : plainName y.cls = true) (hn : (lg_sl av).length ≤ mL)
    (body : ∀ (p : Program) (e : Env) (s : State) (m : MethodId) (below : List Frame) (meth : Method) (c : Code) (A : Nat → Prop), zE p s m meth c g A y cc mL ret av.toArray → va_P g.1 vwCl wc s.heap → va_D A wc → va_S A s.heap s.heap [] → ∀ ls : Array Slot, lv_has ls mL (lv_args 0 av) →
      W p l e rm s m av.toArray below meth c s.heap [] 0 0 (MQ below (va_Qi post (fun u t => va_P g.1 vwCl (w' u) t.heap ∧ va_D A (w' u)) A) av.toArray s rm.cells rm.slots A) (F0 m 0 ls [])) : zCi l g y cc mL ret rm av wc post w' := by
  intro sz
  refine Met.ofW (cc := cc) (maxL := mL) (ret := ret) hy rfl ?_
  intro p e s m args below meth c s₁ B hml hv
  obtain ⟨rfl, hsz, hP, hX, hD0⟩ := hv
  subst hsz
  have hts := atoms_spec (ws := Cond.code y cc mL ret :: zG) B.pre
  have hl := lv_entry av (n := mL) hn
  rw [lg_entry_eq]
  exact body p e s m below meth c _ ⟨B.exec, B.bytes, B.returns, hml, findClass_of_methodNamed B.named, fun w h => hts w (List.mem_cons_of_mem _ h), B.notSynchronized, (name_of_methodNamed B.named B.method).1, hX, fun q h => Or.inr h⟩ hP (hD0.self (sz := s.heap.size)) va_S.rf _ hl
theorem zCv.mk {S : Type} {l : Launch} {g : zL} {y : MethodName} {cc : ByteArray} {mL : Nat} {ret : Option FieldType} {rm : Room} {av : List Value} {wc : va_W} {post : S → Prop} {w' : S → va_W} (hy : plainName y.cls = true) (hn : (lg_sl av).length ≤ mL)
    (body : ∀ (p : Program) (e : Env) (s : State) (m : MethodId) (below : List Frame) (meth : Method) (c : Code) (A : Nat → Prop), zE p s m meth c g A y cc mL ret av.toArray → va_P g.1 vwCl wc s.heap → va_D A wc → va_S A s.heap s.heap [] → ∀ ls : Array Slot, lv_has ls mL (lv_args 0 av) →
      W p l e rm s m av.toArray below meth c s.heap [] 0 0 (MQ below (va_Qv post (fun u t => va_P g.1 vwCl (w' u) t.heap ∧ va_D A (w' u)) A) av.toArray s rm.cells rm.slots A) (F0 m 0 ls [])) : zCv l g y cc mL ret rm av wc post w' := by
  intro sz
  refine Met.ofW (cc := cc) (maxL := mL) (ret := ret) hy rfl ?_
  intro p e s m args below meth c s₁ B hml hv
  obtain ⟨rfl, hsz, hP, hX, hD0⟩ := hv
  subst hsz
  have hts := atoms_spec (ws := Cond.code y cc mL ret :: zG) B.pre
  have hl := lv_entry av (n := mL) hn
  rw [lg_entry_eq]
  exact body p e s m below meth c _ ⟨B.exec, B.bytes, B.returns, hml, findClass_of_methodNamed B.named, fun w h => hts w (List.mem_cons_of_mem _ h), B.notSynchronized, (name_of_methodNamed B.named B.method).1, hX, fun q h => Or.inr h⟩ hP (hD0.self (sz := s.heap.size)) va_S.rf _ hl
section ZS
variable {p : Program} {l : Launch} {e : Env} {R : Room} {s : State} {m : MethodId} {args : Array Value} {below : List Frame} {meth : Method} {c : Code} {H : Heap} {locs : List Loc} {cells slots : Nat} {Q : State → Prop} {pc : Nat} {ls : Array Slot} {rest st0 : List Value} {g : zL} {A : Nat → Prop} {ws wc wr : va_W} {y : MethodName} {bytes cc : ByteArray} {maxL nL n index : Nat} {ret : Option FieldType} {rm : Room} {own C host : String} {As av : List Value} {b : Nat}
/-- another name for the number on top -/
theorem zt {x z : Int32} (h : x = z) (k : W p l e R s m args below meth c H locs cells slots Q (F0 m pc ls (.int z :: rest))) : W p l e R s m args below meth c H locs cells slots Q (F0 m pc ls (.int x :: rest)) := by rw [h]; exact k
theorem zri {S : Type} {post : Int32 → S → Prop} {w' : S → va_W} {v : Int32} (u : S) (hx : p.tables.exec = Jvm.exec) (hb : c.code = cc) (hr : meth.sig.returnType = some .int) (hlocks : meth.locks = false) (hc : cells ≤ rm.cells) (hs : slots ≤ rm.slots) (hp : post v u) (hP : va_P g.1 vwCl (w' u) H) (hD : va_D A (w' u)) (hS : va_S A s.heap H locs) (hd : decode cc pc = .ok (.ireturn, 1)) :
    W p l e R s m args below meth c H locs cells slots (MQ below (va_Qi post (fun u t => va_P g.1 vwCl (w' u) t.heap ∧ va_D A (w' u)) A) args s rm.cells rm.slots A) (F0 m pc ls [.int v]) := by
  refine W.widen (k := rm.cells) (n := rm.slots) hc hs ?_
  exact W.iret (v := v) hx hb hr (fun t ht hW => ⟨⟨v, u, rfl, hp, by rw [ht]; exact hP, hD⟩, hS.F ht⟩) hS.2.2 hd hlocks
theorem zrz {S : Type} {ty : FieldType} {post : Int32 → S → Prop} {w' : S → va_W} {v : Int32} (u : S) (hx : p.tables.exec = Jvm.exec) (hb : c.code = cc) (hr : meth.sig.returnType = some ty) (hlocks : meth.locks = false) (hnr : narrow ty (.int v) = .int v) (hc : cells ≤ rm.cells) (hs : slots ≤ rm.slots) (hp : post v u) (hP : va_P g.1 vwCl (w' u) H) (hD : va_D A (w' u)) (hS : va_S A s.heap H locs) (hd : decode cc pc = .ok (.ireturn, 1)) :
    W p l e R s m args below meth c H locs cells slots (MQ below (va_Qi post (fun u t => va_P g.1 vwCl (w' u) t.heap ∧ va_D A (w' u)) A) args s rm.cells rm.slots A) (F0 m pc ls [.int v]) := by
  refine W.widen (k := rm.cells) (n := rm.slots) hc hs ?_
  exact W.zret (v := v) hx hb hr hnr (fun t ht hW => ⟨⟨v, u, rfl, hp, by rw [ht]; exact hP, hD⟩, hS.F ht⟩) hS.2.2 hd hlocks
theorem zrv {S : Type} {post : S → Prop} {w' : S → va_W} (u : S) (hx : p.tables.exec = Jvm.exec) (hb : c.code = cc) (hr : meth.sig.returnType = none) (hlocks : meth.locks = false) (hc : cells ≤ rm.cells) (hs : slots ≤ rm.slots) (hp : post u) (hP : va_P g.1 vwCl (w' u) H) (hD : va_D A (w' u)) (hS : va_S A s.heap H locs) (hd : decode cc pc = .ok (.return_, 1)) :
    W p l e R s m args below meth c H locs cells slots (MQ below (va_Qv post (fun u t => va_P g.1 vwCl (w' u) t.heap ∧ va_D A (w' u)) A) args s rm.cells rm.slots A) (F0 m pc ls []) := by
  refine W.widen (k := rm.cells) (n := rm.slots) hc hs ?_
  exact W.vret hx hb hr (fun t ht hW => ⟨⟨u, rfl, hp, by rw [ht]; exact hP, hD⟩, hS.F ht⟩) hS.2.2 hd hlocks
/-- a new row of a known class -/
theorem zna {atype : ArrayType} (hx : p.tables.exec = Jvm.exec) (hb : c.code = cc) (harr : (Cond.arrayClass (newarray.typeOf atype)).before args s = true) {ty : FieldType} (hty : newarray.typeOf atype = ty) (t0 : Nat) {cA0 : ClassId} (ht : (zTy g)[t0]? = some (cA0, ty)) {nm : String} (hname : ∀ cA, va_RA s cA ty → s.vm.findClass nm = some cA) (hX : zX g A s s.heap) (hP : va_P g.1 vwCl ws H) (hD : va_D A ws) (hS : va_S A s.heap H locs) (hA : ∀ q : Nat, s.heap.size ≤ q → A q)
    {n : Int32} {N' : Nat} {a0 : vp_A} (ha : ∀ cA : ClassId, vp_cell cA a0 = arrV cA N' (fun _ => defaultValue ty)) (hn : ¬ n < 0) (hN : n.toNatClampNeg = N') (hbytes : N' * componentBytes ty ≤ 536870912) (hcells : cells + 1 ≤ R.cells) (hslots : slots + N' ≤ R.slots) (hdg : decode cc pc = .ok (.newarray atype, 2))
    (kk : ∀ (q : Nat) (H1 : Heap), va_P g.1 vwCl (ws ++ [(q, .inl (cA0, a0))]) H1 → va_D A (ws ++ [(q, .inl (cA0, a0))]) → va_S A s.heap H1 locs → W p l e R s m args below meth c H1 locs (cells + 1) (slots + N') Q (F0 m (pc + 2) ls (.ref q :: rest))) : W p l e R s m args below meth c H locs cells slots Q (F0 m pc ls (.int n :: rest)) := by
  refine va_newa hx hb harr hty hX.1 hP hD hS hA ha hn hN hbytes hcells hslots hdg (fun q cA H1 hK1 hP1 hD1 hS1 => ?_)
  have h1 := hname _ (hK1.2 3 (cA, ty) rfl).2
  have h2 := hname _ (hX.1.2 t0 _ ht).2
  have h3 : cA = cA0 := Option.some.inj (h1.symm.trans h2)
  subst h3
  exact kk q H1 hP1 hD1 hS1
/-- the cells of a call, cut out of the caller's -/
theorem zpick {D : va_G} {cl : List vw_C} (hP : va_P D cl ws H) (isC : List Nat) (hC : isC.map (fun i => ws[i]?) = wc.map some) : va_P D cl wc H := by
  intro k q hq
  have h1 : (isC.map (fun i => ws[i]?))[k]? = some (some q) := by rw [hC, List.getElem?_map, hq]; rfl
  rw [List.getElem?_map] at h1
  cases hi : isC[k]? with
  | none => rw [hi] at h1; cases h1
  | some i => rw [hi] at h1; exact hP i q (Option.some.inj h1)
/-- the callee's start holds in every state that has this heap -/
theorem zpre (hX : zX g A s s.heap) (hP : va_P g.1 vwCl ws H) (hD : va_D A ws) (hS : va_S A s.heap H locs) (hA : ∀ q : Nat, s.heap.size ≤ q → A q) (isC : List Nat) (hC : isC.map (fun i => ws[i]?) = wc.map some) (hn : va_nd isC = true) : ∀ U : State, U.heap = H → s.WarmedH U.vm → zP g av wc H.size av.toArray U := by
  intro U hU hW
  have hF := va_free (wc := wc) hD hS hA isC hC
  refine ⟨rfl, by rw [hU], by rw [hU]; exact zpick hP isC hC, ?_, (hD.sub isC hn hC).weaken (fun _ _ _ _ => trivial)⟩
  rw [hU]
  exact ((hX.kept hS.2.1).warm hW).narrow hF
theorem zpreS (hX : zX g A s s.heap) (hP : va_P g.1 vwCl ws H) (hD : va_D A ws) (hS : va_S A s.heap H locs) (hA : ∀ q : Nat, s.heap.size ≤ q → A q) (isC : List Nat) (hC : isC.map (fun i => ws[i]?) = wc.map some) (hn : va_nd isC = true) : PreS s H (zP g av wc H.size) av :=
  ⟨zP.blind g av wc H.size, zpre hX hP hD hS hA isC hC hn⟩
theorem zpreV (hrecv : ∃ cell : Cell, H[b]? = some cell ∧ cell.vm.isStatics = false ∧ s.vm.findClass C = some cell.cls) (hX : zX g A s s.heap) (hP : va_P g.1 vwCl ws H) (hD : va_D A ws) (hS : va_S A s.heap H locs) (hA : ∀ q : Nat, s.heap.size ≤ q → A q) (isC : List Nat) (hC : isC.map (fun i => ws[i]?) = wc.map some) (hn : va_nd isC = true) : PreV s H C b (zP g (.ref b :: As) wc H.size) As :=
  ⟨zP.blind g _ wc H.size, hrecv, zpre hX hP hD hS hA isC hC hn⟩
/-- behind a call that answers an int -/
theorem zfi {S : Type} {post : Int32 → S → Prop} {w' : S → va_W} {mc ms : Nat} {a : Array Value} (hr : va_Run p l e R s m args below meth c H locs cells slots mc ms (F0 m pc ls st0) rest (va_Qi post (fun u t => zB g wc H.size (w' u) t) (va_A wc H.size) a) (va_A wc H.size)) (hP : va_P g.1 vwCl ws H) (hD : va_D A ws) (hS : va_S A s.heap H locs) (hA : ∀ q : Nat, s.heap.size ≤ q → A q)
    (isC isR : List Nat) (hC : isC.map (fun i => ws[i]?) = wc.map some) (hR : isR.map (fun i => ws[i]?) = wr.map some) (hn : va_nd isR = true) (hdis : ∀ i ∈ isR, i ∉ isC)
    (kk : ∀ (r : Int32) (u : S) (H1 : Heap) (locs1 : List Loc), post r u → va_P g.1 vwCl (wr ++ w' u) H1 → va_D A (wr ++ w' u) → va_S A s.heap H1 locs1 → W p l e R s m args below meth c H1 locs1 (cells + mc) (slots + ms) Q (F0 m (pc + 3) ls (.int r :: rest))) : W p l e R s m args below meth c H locs cells slots Q (F0 m pc ls st0) := by
  have hF := va_free (wc := wc) hD hS hA isC hC
  refine va_calli hr hS (fun q _ h => hF q h) hF (fun r u t H1 locs1 ht hvm hp hB hz1 hk1 hS1 => ?_)
  obtain ⟨hP1, hD1⟩ := hB
  rw [ht] at hP1
  obtain ⟨hP2, hD2⟩ := va_join (wr := wr) (w1 := w' u) hP hD isC isR hC hR hn hdis hk1 hF hP1 hD1
  exact kk r u H1 locs1 hp hP2 hD2 hS1
theorem zfv {S : Type} {post : S → Prop} {w' : S → va_W} {mc ms : Nat} {a : Array Value} (hr : va_Run p l e R s m args below meth c H locs cells slots mc ms (F0 m pc ls st0) rest (va_Qv post (fun u t => zB g wc H.size (w' u) t) (va_A wc H.size) a) (va_A wc H.size)) (hP : va_P g.1 vwCl ws H) (hD : va_D A ws) (hS : va_S A s.heap H locs) (hA : ∀ q : Nat, s.heap.size ≤ q → A q)
    (isC isR : List Nat) (hC : isC.map (fun i => ws[i]?) = wc.map some) (hR : isR.map (fun i => ws[i]?) = wr.map some) (hn : va_nd isR = true) (hdis : ∀ i ∈ isR, i ∉ isC)
    (kk : ∀ (u : S) (H1 : Heap) (locs1 : List Loc), post u → va_P g.1 vwCl (wr ++ w' u) H1 → va_D A (wr ++ w' u) → va_S A s.heap H1 locs1 → W p l e R s m args below meth c H1 locs1 (cells + mc) (slots + ms) Q (F0 m (pc + 3) ls rest)) : W p l e R s m args below meth c H locs cells slots Q (F0 m pc ls st0) := by
  have hF := va_free (wc := wc) hD hS hA isC hC
  refine va_callv hr hS (fun q _ h => hF q h) hF (fun u t H1 locs1 ht hvm hp hB hz1 hk1 hS1 => ?_)
  obtain ⟨hP1, hD1⟩ := hB
  rw [ht] at hP1
  obtain ⟨hP2, hD2⟩ := va_join (wr := wr) (w1 := w' u) hP hD isC isR hC hR hn hdis hk1 hF hP1 hD1
  exact kk u H1 locs1 hp hP2 hD2 hS1
end ZS
