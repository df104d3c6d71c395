def zTm (i : Nat) : Term := .string RX6 (zSp.getD i 0)
set_option maxRecDepth 100000 in
theorem z_ex {args : Array Value} {s : State} (h : (Jvm.Cond.and given_1 narrow_1).before args s = true) : ∀ i : Nat, i < 19 → (Cond.exactly (zTm i) "java/lang/String").before args s = true := fun i hi => by
  have hs := flat_of_before _ h
  match i, hi with
  | 0, _ => exact hs _ (List.mem_of_getElem? (i := 21) rfl)
  | 1, _ => exact hs _ (List.mem_of_getElem? (i := 30) rfl)
  | 2, _ => exact hs _ (List.mem_of_getElem? (i := 40) rfl)
  | 3, _ => exact hs _ (List.mem_of_getElem? (i := 50) rfl)
  | 4, _ => exact hs _ (List.mem_of_getElem? (i := 62) rfl)
  | 5, _ => exact hs _ (List.mem_of_getElem? (i := 74) rfl)
  | 6, _ => exact hs _ (List.mem_of_getElem? (i := 88) rfl)
  | 7, _ => exact hs _ (List.mem_of_getElem? (i := 104) rfl)
  | 8, _ => exact hs _ (List.mem_of_getElem? (i := 211) rfl)
  | 9, _ => exact hs _ (List.mem_of_getElem? (i := 225) rfl)
  | 10, _ => exact hs _ (List.mem_of_getElem? (i := 242) rfl)
  | 11, _ => exact hs _ (List.mem_of_getElem? (i := 261) rfl)
  | 12, _ => exact hs _ (List.mem_of_getElem? (i := 280) rfl)
  | 13, _ => exact hs _ (List.mem_of_getElem? (i := 301) rfl)
  | 14, _ => exact hs _ (List.mem_of_getElem? (i := 322) rfl)
  | 15, _ => exact hs _ (List.mem_of_getElem? (i := 344) rfl)
  | 16, _ => exact hs _ (List.mem_of_getElem? (i := 367) rfl)
  | 17, _ => exact hs _ (List.mem_of_getElem? (i := 389) rfl)
  | 18, _ => exact hs _ (List.mem_of_getElem? (i := 414) rfl)
  | k + 19, h => exact absurd h (by omega)
set_option maxRecDepth 100000 in
theorem z_co {args : Array Value} {s : State} (h : (Jvm.Cond.and given_1 narrow_1).before args s = true) : ∀ i : Nat, i < 19 → (Cond.eq (.field (zTm i) "java/lang/String" "coder" "B") (.int 0)).before args s = true := fun i hi => by
  have hs := flat_of_before _ h
  match i, hi with
  | 0, _ => exact hs _ (List.mem_of_getElem? (i := 22) rfl)
  | 1, _ => exact hs _ (List.mem_of_getElem? (i := 31) rfl)
  | 2, _ => exact hs _ (List.mem_of_getElem? (i := 41) rfl)
  | 3, _ => exact hs _ (List.mem_of_getElem? (i := 51) rfl)
  | 4, _ => exact hs _ (List.mem_of_getElem? (i := 63) rfl)
  | 5, _ => exact hs _ (List.mem_of_getElem? (i := 75) rfl)
  | 6, _ => exact hs _ (List.mem_of_getElem? (i := 89) rfl)
  | 7, _ => exact hs _ (List.mem_of_getElem? (i := 105) rfl)
  | 8, _ => exact hs _ (List.mem_of_getElem? (i := 212) rfl)
  | 9, _ => exact hs _ (List.mem_of_getElem? (i := 226) rfl)
  | 10, _ => exact hs _ (List.mem_of_getElem? (i := 243) rfl)
  | 11, _ => exact hs _ (List.mem_of_getElem? (i := 262) rfl)
  | 12, _ => exact hs _ (List.mem_of_getElem? (i := 281) rfl)
  | 13, _ => exact hs _ (List.mem_of_getElem? (i := 302) rfl)
  | 14, _ => exact hs _ (List.mem_of_getElem? (i := 323) rfl)
  | 15, _ => exact hs _ (List.mem_of_getElem? (i := 345) rfl)
  | 16, _ => exact hs _ (List.mem_of_getElem? (i := 368) rfl)
  | 17, _ => exact hs _ (List.mem_of_getElem? (i := 390) rfl)
  | 18, _ => exact hs _ (List.mem_of_getElem? (i := 415) rfl)
  | k + 19, h => exact absurd h (by omega)
set_option maxRecDepth 100000 in
theorem z_ar {args : Array Value} {s : State} (h : (Jvm.Cond.and given_1 narrow_1).before args s = true) : ∀ i : Nat, i < 19 → (Cond.arrayOf (.field (zTm i) "java/lang/String" "value" "[B") .byte).before args s = true := fun i hi => by
  have hs := flat_of_before _ h
  match i, hi with
  | 0, _ => exact hs _ (List.mem_of_getElem? (i := 23) rfl)
  | 1, _ => exact hs _ (List.mem_of_getElem? (i := 32) rfl)
  | 2, _ => exact hs _ (List.mem_of_getElem? (i := 42) rfl)
  | 3, _ => exact hs _ (List.mem_of_getElem? (i := 52) rfl)
  | 4, _ => exact hs _ (List.mem_of_getElem? (i := 64) rfl)
  | 5, _ => exact hs _ (List.mem_of_getElem? (i := 76) rfl)
  | 6, _ => exact hs _ (List.mem_of_getElem? (i := 90) rfl)
  | 7, _ => exact hs _ (List.mem_of_getElem? (i := 106) rfl)
  | 8, _ => exact hs _ (List.mem_of_getElem? (i := 213) rfl)
  | 9, _ => exact hs _ (List.mem_of_getElem? (i := 227) rfl)
  | 10, _ => exact hs _ (List.mem_of_getElem? (i := 244) rfl)
  | 11, _ => exact hs _ (List.mem_of_getElem? (i := 263) rfl)
  | 12, _ => exact hs _ (List.mem_of_getElem? (i := 282) rfl)
  | 13, _ => exact hs _ (List.mem_of_getElem? (i := 303) rfl)
  | 14, _ => exact hs _ (List.mem_of_getElem? (i := 324) rfl)
  | 15, _ => exact hs _ (List.mem_of_getElem? (i := 346) rfl)
  | 16, _ => exact hs _ (List.mem_of_getElem? (i := 369) rfl)
  | 17, _ => exact hs _ (List.mem_of_getElem? (i := 391) rfl)
  | 18, _ => exact hs _ (List.mem_of_getElem? (i := 416) rfl)
  | k + 19, h => exact absurd h (by omega)
set_option maxRecDepth 100000 in
theorem z_le {args : Array Value} {s : State} (h : (Jvm.Cond.and given_1 narrow_1).before args s = true) : ∀ i : Nat, i < 19 → (Cond.eq (.length (.field (zTm i) "java/lang/String" "value" "[B")) (.int (Int32.ofNat (zSl.getD i 0)))).before args s = true := fun i hi => by
  have hs := flat_of_before _ h
  match i, hi with
  | 0, _ => exact hs _ (List.mem_of_getElem? (i := 24) rfl)
  | 1, _ => exact hs _ (List.mem_of_getElem? (i := 33) rfl)
  | 2, _ => exact hs _ (List.mem_of_getElem? (i := 43) rfl)
  | 3, _ => exact hs _ (List.mem_of_getElem? (i := 53) rfl)
  | 4, _ => exact hs _ (List.mem_of_getElem? (i := 65) rfl)
  | 5, _ => exact hs _ (List.mem_of_getElem? (i := 77) rfl)
  | 6, _ => exact hs _ (List.mem_of_getElem? (i := 91) rfl)
  | 7, _ => exact hs _ (List.mem_of_getElem? (i := 107) rfl)
  | 8, _ => exact hs _ (List.mem_of_getElem? (i := 214) rfl)
  | 9, _ => exact hs _ (List.mem_of_getElem? (i := 228) rfl)
  | 10, _ => exact hs _ (List.mem_of_getElem? (i := 245) rfl)
  | 11, _ => exact hs _ (List.mem_of_getElem? (i := 264) rfl)
  | 12, _ => exact hs _ (List.mem_of_getElem? (i := 283) rfl)
  | 13, _ => exact hs _ (List.mem_of_getElem? (i := 304) rfl)
  | 14, _ => exact hs _ (List.mem_of_getElem? (i := 325) rfl)
  | 15, _ => exact hs _ (List.mem_of_getElem? (i := 347) rfl)
  | 16, _ => exact hs _ (List.mem_of_getElem? (i := 370) rfl)
  | 17, _ => exact hs _ (List.mem_of_getElem? (i := 392) rfl)
  | 18, _ => exact hs _ (List.mem_of_getElem? (i := 417) rfl)
  | k + 19, h => exact absurd h (by omega)
set_option maxRecDepth 100000 in
theorem z_el0 {args : Array Value} {s : State} (h : (Jvm.Cond.and given_1 narrow_1).before args s = true) : ∀ j : Nat, j < 5 → (Cond.eq (.elem (.field (zTm 0) "java/lang/String" "value" "[B") (.int (Int32.ofNat j))) (.int ((zSb.getD 0 []).getD j 0))).before args s = true := fun i hi => by
  have hs := flat_of_before _ h
  match i, hi with
  | 0, _ => exact hs _ (List.mem_of_getElem? (i := 25) rfl)
  | 1, _ => exact hs _ (List.mem_of_getElem? (i := 26) rfl)
  | 2, _ => exact hs _ (List.mem_of_getElem? (i := 27) rfl)
  | 3, _ => exact hs _ (List.mem_of_getElem? (i := 28) rfl)
  | 4, _ => exact hs _ (List.mem_of_getElem? (i := 29) rfl)
  | k + 5, h => exact absurd h (by omega)
set_option maxRecDepth 100000 in
theorem z_el1 {args : Array Value} {s : State} (h : (Jvm.Cond.and given_1 narrow_1).before args s = true) : ∀ j : Nat, j < 5 → (Cond.eq (.elem (.field (zTm 1) "java/lang/String" "value" "[B") (.int (Int32.ofNat j))) (.int ((zSb.getD 1 []).getD j 0))).before args s = true := fun i hi => by
  have hs := flat_of_before _ h
  match i, hi with
  | 0, _ => exact hs _ (List.mem_of_getElem? (i := 34) rfl)
  | 1, _ => exact hs _ (List.mem_of_getElem? (i := 35) rfl)
  | 2, _ => exact hs _ (List.mem_of_getElem? (i := 36) rfl)
  | 3, _ => exact hs _ (List.mem_of_getElem? (i := 37) rfl)
  | 4, _ => exact hs _ (List.mem_of_getElem? (i := 38) rfl)
  | k + 5, h => exact absurd h (by omega)
set_option maxRecDepth 100000 in
theorem z_el2 {args : Array Value} {s : State} (h : (Jvm.Cond.and given_1 narrow_1).before args s = true) : ∀ j : Nat, j < 4 → (Cond.eq (.elem (.field (zTm 2) "java/lang/String" "value" "[B") (.int (Int32.ofNat j))) (.int ((zSb.getD 2 []).getD j 0))).before args s = true := fun i hi => by
  have hs := flat_of_before _ h
  match i, hi with
  | 0, _ => exact hs _ (List.mem_of_getElem? (i := 44) rfl)
  | 1, _ => exact hs _ (List.mem_of_getElem? (i := 45) rfl)
  | 2, _ => exact hs _ (List.mem_of_getElem? (i := 46) rfl)
  | 3, _ => exact hs _ (List.mem_of_getElem? (i := 47) rfl)
  | k + 4, h => exact absurd h (by omega)
set_option maxRecDepth 100000 in
theorem z_el3 {args : Array Value} {s : State} (h : (Jvm.Cond.and given_1 narrow_1).before args s = true) : ∀ j : Nat, j < 5 → (Cond.eq (.elem (.field (zTm 3) "java/lang/String" "value" "[B") (.int (Int32.ofNat j))) (.int ((zSb.getD 3 []).getD j 0))).before args s = true := fun i hi => by
  have hs := flat_of_before _ h
  match i, hi with
  | 0, _ => exact hs _ (List.mem_of_getElem? (i := 54) rfl)
  | 1, _ => exact hs _ (List.mem_of_getElem? (i := 55) rfl)
  | 2, _ => exact hs _ (List.mem_of_getElem? (i := 56) rfl)
  | 3, _ => exact hs _ (List.mem_of_getElem? (i := 57) rfl)
  | 4, _ => exact hs _ (List.mem_of_getElem? (i := 58) rfl)
  | k + 5, h => exact absurd h (by omega)
set_option maxRecDepth 100000 in
theorem z_el4 {args : Array Value} {s : State} (h : (Jvm.Cond.and given_1 narrow_1).before args s = true) : ∀ j : Nat, j < 4 → (Cond.eq (.elem (.field (zTm 4) "java/lang/String" "value" "[B") (.int (Int32.ofNat j))) (.int ((zSb.getD 4 []).getD j 0))).before args s = true := fun i hi => by
  have hs := flat_of_before _ h
  match i, hi with
  | 0, _ => exact hs _ (List.mem_of_getElem? (i := 66) rfl)
  | 1, _ => exact hs _ (List.mem_of_getElem? (i := 67) rfl)
  | 2, _ => exact hs _ (List.mem_of_getElem? (i := 68) rfl)
  | 3, _ => exact hs _ (List.mem_of_getElem? (i := 69) rfl)
  | k + 4, h => exact absurd h (by omega)
set_option maxRecDepth 100000 in
theorem z_el5 {args : Array Value} {s : State} (h : (Jvm.Cond.and given_1 narrow_1).before args s = true) : ∀ j : Nat, j < 5 → (Cond.eq (.elem (.field (zTm 5) "java/lang/String" "value" "[B") (.int (Int32.ofNat j))) (.int ((zSb.getD 5 []).getD j 0))).before args s = true := fun i hi => by
  have hs := flat_of_before _ h
  match i, hi with
  | 0, _ => exact hs _ (List.mem_of_getElem? (i := 78) rfl)
  | 1, _ => exact hs _ (List.mem_of_getElem? (i := 79) rfl)
  | 2, _ => exact hs _ (List.mem_of_getElem? (i := 80) rfl)
  | 3, _ => exact hs _ (List.mem_of_getElem? (i := 81) rfl)
  | 4, _ => exact hs _ (List.mem_of_getElem? (i := 82) rfl)
  | k + 5, h => exact absurd h (by omega)
set_option maxRecDepth 100000 in
theorem z_el6 {args : Array Value} {s : State} (h : (Jvm.Cond.and given_1 narrow_1).before args s = true) : ∀ j : Nat, j < 6 → (Cond.eq (.elem (.field (zTm 6) "java/lang/String" "value" "[B") (.int (Int32.ofNat j))) (.int ((zSb.getD 6 []).getD j 0))).before args s = true := fun i hi => by
  have hs := flat_of_before _ h
  match i, hi with
  | 0, _ => exact hs _ (List.mem_of_getElem? (i := 92) rfl)
  | 1, _ => exact hs _ (List.mem_of_getElem? (i := 93) rfl)
  | 2, _ => exact hs _ (List.mem_of_getElem? (i := 94) rfl)
  | 3, _ => exact hs _ (List.mem_of_getElem? (i := 95) rfl)
  | 4, _ => exact hs _ (List.mem_of_getElem? (i := 96) rfl)
  | 5, _ => exact hs _ (List.mem_of_getElem? (i := 97) rfl)
  | k + 6, h => exact absurd h (by omega)
set_option maxRecDepth 100000 in
theorem z_el7 {args : Array Value} {s : State} (h : (Jvm.Cond.and given_1 narrow_1).before args s = true) : ∀ j : Nat, j < 96 → (Cond.eq (.elem (.field (zTm 7) "java/lang/String" "value" "[B") (.int (Int32.ofNat j))) (.int ((zSb.getD 7 []).getD j 0))).before args s = true := fun i hi => by
  have hs := flat_of_before _ h
  match i, hi with
  | 0, _ => exact hs _ (List.mem_of_getElem? (i := 108) rfl)
  | 1, _ => exact hs _ (List.mem_of_getElem? (i := 109) rfl)
  | 2, _ => exact hs _ (List.mem_of_getElem? (i := 110) rfl)
  | 3, _ => exact hs _ (List.mem_of_getElem? (i := 111) rfl)
  | 4, _ => exact hs _ (List.mem_of_getElem? (i := 112) rfl)
  | 5, _ => exact hs _ (List.mem_of_getElem? (i := 113) rfl)
  | 6, _ => exact hs _ (List.mem_of_getElem? (i := 114) rfl)
  | 7, _ => exact hs _ (List.mem_of_getElem? (i := 115) rfl)
  | 8, _ => exact hs _ (List.mem_of_getElem? (i := 116) rfl)
  | 9, _ => exact hs _ (List.mem_of_getElem? (i := 117) rfl)
  | 10, _ => exact hs _ (List.mem_of_getElem? (i := 118) rfl)
  | 11, _ => exact hs _ (List.mem_of_getElem? (i := 119) rfl)
  | 12, _ => exact hs _ (List.mem_of_getElem? (i := 120) rfl)
  | 13, _ => exact hs _ (List.mem_of_getElem? (i := 121) rfl)
  | 14, _ => exact hs _ (List.mem_of_getElem? (i := 122) rfl)
  | 15, _ => exact hs _ (List.mem_of_getElem? (i := 123) rfl)
  | 16, _ => exact hs _ (List.mem_of_getElem? (i := 124) rfl)
  | 17, _ => exact hs _ (List.mem_of_getElem? (i := 125) rfl)
  | 18, _ => exact hs _ (List.mem_of_getElem? (i := 126) rfl)
  | 19, _ => exact hs _ (List.mem_of_getElem? (i := 127) rfl)
  | 20, _ => exact hs _ (List.mem_of_getElem? (i := 128) rfl)
  | 21, _ => exact hs _ (List.mem_of_getElem? (i := 129) rfl)
  | 22, _ => exact hs _ (List.mem_of_getElem? (i := 130) rfl)
  | 23, _ => exact hs _ (List.mem_of_getElem? (i := 131) rfl)
  | 24, _ => exact hs _ (List.mem_of_getElem? (i := 132) rfl)
  | 25, _ => exact hs _ (List.mem_of_getElem? (i := 133) rfl)
  | 26, _ => exact hs _ (List.mem_of_getElem? (i := 134) rfl)
  | 27, _ => exact hs _ (List.mem_of_getElem? (i := 135) rfl)
  | 28, _ => exact hs _ (List.mem_of_getElem? (i := 136) rfl)
  | 29, _ => exact hs _ (List.mem_of_getElem? (i := 137) rfl)
  | 30, _ => exact hs _ (List.mem_of_getElem? (i := 138) rfl)
  | 31, _ => exact hs _ (List.mem_of_getElem? (i := 139) rfl)
  | 32, _ => exact hs _ (List.mem_of_getElem? (i := 140) rfl)
  | 33, _ => exact hs _ (List.mem_of_getElem? (i := 141) rfl)
  | 34, _ => exact hs _ (List.mem_of_getElem? (i := 142) rfl)
  | 35, _ => exact hs _ (List.mem_of_getElem? (i := 143) rfl)
  | 36, _ => exact hs _ (List.mem_of_getElem? (i := 144) rfl)
  | 37, _ => exact hs _ (List.mem_of_getElem? (i := 145) rfl)
  | 38, _ => exact hs _ (List.mem_of_getElem? (i := 146) rfl)
  | 39, _ => exact hs _ (List.mem_of_getElem? (i := 147) rfl)
  | 40, _ => exact hs _ (List.mem_of_getElem? (i := 148) rfl)
  | 41, _ => exact hs _ (List.mem_of_getElem? (i := 149) rfl)
  | 42, _ => exact hs _ (List.mem_of_getElem? (i := 150) rfl)
  | 43, _ => exact hs _ (List.mem_of_getElem? (i := 151) rfl)
  | 44, _ => exact hs _ (List.mem_of_getElem? (i := 152) rfl)
  | 45, _ => exact hs _ (List.mem_of_getElem? (i := 153) rfl)
  | 46, _ => exact hs _ (List.mem_of_getElem? (i := 154) rfl)
  | 47, _ => exact hs _ (List.mem_of_getElem? (i := 155) rfl)
  | 48, _ => exact hs _ (List.mem_of_getElem? (i := 156) rfl)
  | 49, _ => exact hs _ (List.mem_of_getElem? (i := 157) rfl)
  | 50, _ => exact hs _ (List.mem_of_getElem? (i := 158) rfl)
  | 51, _ => exact hs _ (List.mem_of_getElem? (i := 159) rfl)
  | 52, _ => exact hs _ (List.mem_of_getElem? (i := 160) rfl)
  | 53, _ => exact hs _ (List.mem_of_getElem? (i := 161) rfl)
  | 54, _ => exact hs _ (List.mem_of_getElem? (i := 162) rfl)
  | 55, _ => exact hs _ (List.mem_of_getElem? (i := 163) rfl)
  | 56, _ => exact hs _ (List.mem_of_getElem? (i := 164) rfl)
  | 57, _ => exact hs _ (List.mem_of_getElem? (i := 165) rfl)
  | 58, _ => exact hs _ (List.mem_of_getElem? (i := 166) rfl)
  | 59, _ => exact hs _ (List.mem_of_getElem? (i := 167) rfl)
  | 60, _ => exact hs _ (List.mem_of_getElem? (i := 168) rfl)
  | 61, _ => exact hs _ (List.mem_of_getElem? (i := 169) rfl)
  | 62, _ => exact hs _ (List.mem_of_getElem? (i := 170) rfl)
  | 63, _ => exact hs _ (List.mem_of_getElem? (i := 171) rfl)
  | 64, _ => exact hs _ (List.mem_of_getElem? (i := 172) rfl)
  | 65, _ => exact hs _ (List.mem_of_getElem? (i := 173) rfl)
  | 66, _ => exact hs _ (List.mem_of_getElem? (i := 174) rfl)
  | 67, _ => exact hs _ (List.mem_of_getElem? (i := 175) rfl)
  | 68, _ => exact hs _ (List.mem_of_getElem? (i := 176) rfl)
  | 69, _ => exact hs _ (List.mem_of_getElem? (i := 177) rfl)
  | 70, _ => exact hs _ (List.mem_of_getElem? (i := 178) rfl)
  | 71, _ => exact hs _ (List.mem_of_getElem? (i := 179) rfl)
  | 72, _ => exact hs _ (List.mem_of_getElem? (i := 180) rfl)
  | 73, _ => exact hs _ (List.mem_of_getElem? (i := 181) rfl)
  | 74, _ => exact hs _ (List.mem_of_getElem? (i := 182) rfl)
  | 75, _ => exact hs _ (List.mem_of_getElem? (i := 183) rfl)
  | 76, _ => exact hs _ (List.mem_of_getElem? (i := 184) rfl)
  | 77, _ => exact hs _ (List.mem_of_getElem? (i := 185) rfl)
  | 78, _ => exact hs _ (List.mem_of_getElem? (i := 186) rfl)
  | 79, _ => exact hs _ (List.mem_of_getElem? (i := 187) rfl)
  | 80, _ => exact hs _ (List.mem_of_getElem? (i := 188) rfl)
  | 81, _ => exact hs _ (List.mem_of_getElem? (i := 189) rfl)
  | 82, _ => exact hs _ (List.mem_of_getElem? (i := 190) rfl)
  | 83, _ => exact hs _ (List.mem_of_getElem? (i := 191) rfl)
  | 84, _ => exact hs _ (List.mem_of_getElem? (i := 192) rfl)
  | 85, _ => exact hs _ (List.mem_of_getElem? (i := 193) rfl)
  | 86, _ => exact hs _ (List.mem_of_getElem? (i := 194) rfl)
  | 87, _ => exact hs _ (List.mem_of_getElem? (i := 195) rfl)
  | 88, _ => exact hs _ (List.mem_of_getElem? (i := 196) rfl)
  | 89, _ => exact hs _ (List.mem_of_getElem? (i := 197) rfl)
  | 90, _ => exact hs _ (List.mem_of_getElem? (i := 198) rfl)
  | 91, _ => exact hs _ (List.mem_of_getElem? (i := 199) rfl)
  | 92, _ => exact hs _ (List.mem_of_getElem? (i := 200) rfl)
  | 93, _ => exact hs _ (List.mem_of_getElem? (i := 201) rfl)
  | 94, _ => exact hs _ (List.mem_of_getElem? (i := 202) rfl)
  | 95, _ => exact hs _ (List.mem_of_getElem? (i := 203) rfl)
  | k + 96, h => exact absurd h (by omega)
set_option maxRecDepth 100000 in
theorem z_el8 {args : Array Value} {s : State} (h : (Jvm.Cond.and given_1 narrow_1).before args s = true) : ∀ j : Nat, j < 2 → (Cond.eq (.elem (.field (zTm 8) "java/lang/String" "value" "[B") (.int (Int32.ofNat j))) (.int ((zSb.getD 8 []).getD j 0))).before args s = true := fun i hi => by
  have hs := flat_of_before _ h
  match i, hi with
  | 0, _ => exact hs _ (List.mem_of_getElem? (i := 215) rfl)
  | 1, _ => exact hs _ (List.mem_of_getElem? (i := 216) rfl)
  | k + 2, h => exact absurd h (by omega)
set_option maxRecDepth 100000 in
theorem z_el9 {args : Array Value} {s : State} (h : (Jvm.Cond.and given_1 narrow_1).before args s = true) : ∀ j : Nat, j < 4 → (Cond.eq (.elem (.field (zTm 9) "java/lang/String" "value" "[B") (.int (Int32.ofNat j))) (.int ((zSb.getD 9 []).getD j 0))).before args s = true := fun i hi => by
  have hs := flat_of_before _ h
  match i, hi with
  | 0, _ => exact hs _ (List.mem_of_getElem? (i := 229) rfl)
  | 1, _ => exact hs _ (List.mem_of_getElem? (i := 230) rfl)
  | 2, _ => exact hs _ (List.mem_of_getElem? (i := 231) rfl)
  | 3, _ => exact hs _ (List.mem_of_getElem? (i := 232) rfl)
  | k + 4, h => exact absurd h (by omega)
set_option maxRecDepth 100000 in
theorem z_el10 {args : Array Value} {s : State} (h : (Jvm.Cond.and given_1 narrow_1).before args s = true) : ∀ j : Nat, j < 5 → (Cond.eq (.elem (.field (zTm 10) "java/lang/String" "value" "[B") (.int (Int32.ofNat j))) (.int ((zSb.getD 10 []).getD j 0))).before args s = true := fun i hi => by
  have hs := flat_of_before _ h
  match i, hi with
  | 0, _ => exact hs _ (List.mem_of_getElem? (i := 246) rfl)
  | 1, _ => exact hs _ (List.mem_of_getElem? (i := 247) rfl)
  | 2, _ => exact hs _ (List.mem_of_getElem? (i := 248) rfl)
  | 3, _ => exact hs _ (List.mem_of_getElem? (i := 249) rfl)
  | 4, _ => exact hs _ (List.mem_of_getElem? (i := 250) rfl)
  | k + 5, h => exact absurd h (by omega)
set_option maxRecDepth 100000 in
theorem z_el11 {args : Array Value} {s : State} (h : (Jvm.Cond.and given_1 narrow_1).before args s = true) : ∀ j : Nat, j < 4 → (Cond.eq (.elem (.field (zTm 11) "java/lang/String" "value" "[B") (.int (Int32.ofNat j))) (.int ((zSb.getD 11 []).getD j 0))).before args s = true := fun i hi => by
  have hs := flat_of_before _ h
  match i, hi with
  | 0, _ => exact hs _ (List.mem_of_getElem? (i := 265) rfl)
  | 1, _ => exact hs _ (List.mem_of_getElem? (i := 266) rfl)
  | 2, _ => exact hs _ (List.mem_of_getElem? (i := 267) rfl)
  | 3, _ => exact hs _ (List.mem_of_getElem? (i := 268) rfl)
  | k + 4, h => exact absurd h (by omega)
set_option maxRecDepth 100000 in
theorem z_el12 {args : Array Value} {s : State} (h : (Jvm.Cond.and given_1 narrow_1).before args s = true) : ∀ j : Nat, j < 5 → (Cond.eq (.elem (.field (zTm 12) "java/lang/String" "value" "[B") (.int (Int32.ofNat j))) (.int ((zSb.getD 12 []).getD j 0))).before args s = true := fun i hi => by
  have hs := flat_of_before _ h
  match i, hi with
  | 0, _ => exact hs _ (List.mem_of_getElem? (i := 284) rfl)
  | 1, _ => exact hs _ (List.mem_of_getElem? (i := 285) rfl)
  | 2, _ => exact hs _ (List.mem_of_getElem? (i := 286) rfl)
  | 3, _ => exact hs _ (List.mem_of_getElem? (i := 287) rfl)
  | 4, _ => exact hs _ (List.mem_of_getElem? (i := 288) rfl)
  | k + 5, h => exact absurd h (by omega)
set_option maxRecDepth 100000 in
theorem z_el13 {args : Array Value} {s : State} (h : (Jvm.Cond.and given_1 narrow_1).before args s = true) : ∀ j : Nat, j < 4 → (Cond.eq (.elem (.field (zTm 13) "java/lang/String" "value" "[B") (.int (Int32.ofNat j))) (.int ((zSb.getD 13 []).getD j 0))).before args s = true := fun i hi => by
  have hs := flat_of_before _ h
  match i, hi with
  | 0, _ => exact hs _ (List.mem_of_getElem? (i := 305) rfl)
  | 1, _ => exact hs _ (List.mem_of_getElem? (i := 306) rfl)
  | 2, _ => exact hs _ (List.mem_of_getElem? (i := 307) rfl)
  | 3, _ => exact hs _ (List.mem_of_getElem? (i := 308) rfl)
  | k + 4, h => exact absurd h (by omega)
set_option maxRecDepth 100000 in
theorem z_el14 {args : Array Value} {s : State} (h : (Jvm.Cond.and given_1 narrow_1).before args s = true) : ∀ j : Nat, j < 4 → (Cond.eq (.elem (.field (zTm 14) "java/lang/String" "value" "[B") (.int (Int32.ofNat j))) (.int ((zSb.getD 14 []).getD j 0))).before args s = true := fun i hi => by
  have hs := flat_of_before _ h
  match i, hi with
  | 0, _ => exact hs _ (List.mem_of_getElem? (i := 326) rfl)
  | 1, _ => exact hs _ (List.mem_of_getElem? (i := 327) rfl)
  | 2, _ => exact hs _ (List.mem_of_getElem? (i := 328) rfl)
  | 3, _ => exact hs _ (List.mem_of_getElem? (i := 329) rfl)
  | k + 4, h => exact absurd h (by omega)
set_option maxRecDepth 100000 in
theorem z_el15 {args : Array Value} {s : State} (h : (Jvm.Cond.and given_1 narrow_1).before args s = true) : ∀ j : Nat, j < 4 → (Cond.eq (.elem (.field (zTm 15) "java/lang/String" "value" "[B") (.int (Int32.ofNat j))) (.int ((zSb.getD 15 []).getD j 0))).before args s = true := fun i hi => by
  have hs := flat_of_before _ h
  match i, hi with
  | 0, _ => exact hs _ (List.mem_of_getElem? (i := 348) rfl)
  | 1, _ => exact hs _ (List.mem_of_getElem? (i := 349) rfl)
  | 2, _ => exact hs _ (List.mem_of_getElem? (i := 350) rfl)
  | 3, _ => exact hs _ (List.mem_of_getElem? (i := 351) rfl)
  | k + 4, h => exact absurd h (by omega)
set_option maxRecDepth 100000 in
theorem z_el16 {args : Array Value} {s : State} (h : (Jvm.Cond.and given_1 narrow_1).before args s = true) : ∀ j : Nat, j < 2 → (Cond.eq (.elem (.field (zTm 16) "java/lang/String" "value" "[B") (.int (Int32.ofNat j))) (.int ((zSb.getD 16 []).getD j 0))).before args s = true := fun i hi => by
  have hs := flat_of_before _ h
  match i, hi with
  | 0, _ => exact hs _ (List.mem_of_getElem? (i := 371) rfl)
  | 1, _ => exact hs _ (List.mem_of_getElem? (i := 372) rfl)
  | k + 2, h => exact absurd h (by omega)
set_option maxRecDepth 100000 in
theorem z_el17 {args : Array Value} {s : State} (h : (Jvm.Cond.and given_1 narrow_1).before args s = true) : ∀ j : Nat, j < 4 → (Cond.eq (.elem (.field (zTm 17) "java/lang/String" "value" "[B") (.int (Int32.ofNat j))) (.int ((zSb.getD 17 []).getD j 0))).before args s = true := fun i hi => by
  have hs := flat_of_before _ h
  match i, hi with
  | 0, _ => exact hs _ (List.mem_of_getElem? (i := 393) rfl)
  | 1, _ => exact hs _ (List.mem_of_getElem? (i := 394) rfl)
  | 2, _ => exact hs _ (List.mem_of_getElem? (i := 395) rfl)
  | 3, _ => exact hs _ (List.mem_of_getElem? (i := 396) rfl)
  | k + 4, h => exact absurd h (by omega)
set_option maxRecDepth 100000 in
theorem z_el18 {args : Array Value} {s : State} (h : (Jvm.Cond.and given_1 narrow_1).before args s = true) : ∀ j : Nat, j < 5 → (Cond.eq (.elem (.field (zTm 18) "java/lang/String" "value" "[B") (.int (Int32.ofNat j))) (.int ((zSb.getD 18 []).getD j 0))).before args s = true := fun i hi => by
  have hs := flat_of_before _ h
  match i, hi with
  | 0, _ => exact hs _ (List.mem_of_getElem? (i := 418) rfl)
  | 1, _ => exact hs _ (List.mem_of_getElem? (i := 419) rfl)
  | 2, _ => exact hs _ (List.mem_of_getElem? (i := 420) rfl)
  | 3, _ => exact hs _ (List.mem_of_getElem? (i := 421) rfl)
  | 4, _ => exact hs _ (List.mem_of_getElem? (i := 422) rfl)
  | k + 5, h => exact absurd h (by omega)
theorem z_el {args : Array Value} {s : State} (h : (Jvm.Cond.and given_1 narrow_1).before args s = true) : ∀ i : Nat, i < 19 → ∀ j : Nat, j < zSl.getD i 0 → (Cond.eq (.elem (.field (zTm i) "java/lang/String" "value" "[B") (.int (Int32.ofNat j))) (.int ((zSb.getD i []).getD j 0))).before args s = true := fun i hi => by
  match i, hi with
  | 0, _ => exact z_el0 h
  | 1, _ => exact z_el1 h
  | 2, _ => exact z_el2 h
  | 3, _ => exact z_el3 h
  | 4, _ => exact z_el4 h
  | 5, _ => exact z_el5 h
  | 6, _ => exact z_el6 h
  | 7, _ => exact z_el7 h
  | 8, _ => exact z_el8 h
  | 9, _ => exact z_el9 h
  | 10, _ => exact z_el10 h
  | 11, _ => exact z_el11 h
  | 12, _ => exact z_el12 h
  | 13, _ => exact z_el13 h
  | 14, _ => exact z_el14 h
  | 15, _ => exact z_el15 h
  | 16, _ => exact z_el16 h
  | 17, _ => exact z_el17 h
  | 18, _ => exact z_el18 h
  | k + 19, h => exact absurd h (by omega)
set_option maxRecDepth 100000 in
theorem z_ne0 {args : Array Value} {s : State} (h : (Jvm.Cond.and given_1 narrow_1).before args s = true) : ∀ j : Nat, j < 19 → 0 ≠ j → (Cond.not (Cond.eq (zTm 0) (zTm j))).before args s = true ∨ (Cond.not (Cond.eq (zTm j) (zTm 0))).before args s = true := fun j hj hij => by
  have hs := flat_of_before _ h
  match j, hj, hij with
  | 0, _, q => exact absurd rfl q
  | 1, _, _ => exact Or.inl (hs _ (List.mem_of_getElem? (i := 39) rfl))
  | 2, _, _ => exact Or.inl (hs _ (List.mem_of_getElem? (i := 48) rfl))
  | 3, _, _ => exact Or.inl (hs _ (List.mem_of_getElem? (i := 59) rfl))
  | 4, _, _ => exact Or.inl (hs _ (List.mem_of_getElem? (i := 70) rfl))
  | 5, _, _ => exact Or.inl (hs _ (List.mem_of_getElem? (i := 83) rfl))
  | 6, _, _ => exact Or.inl (hs _ (List.mem_of_getElem? (i := 98) rfl))
  | 7, _, _ => exact Or.inl (hs _ (List.mem_of_getElem? (i := 204) rfl))
  | 8, _, _ => exact Or.inl (hs _ (List.mem_of_getElem? (i := 217) rfl))
  | 9, _, _ => exact Or.inl (hs _ (List.mem_of_getElem? (i := 233) rfl))
  | 10, _, _ => exact Or.inl (hs _ (List.mem_of_getElem? (i := 251) rfl))
  | 11, _, _ => exact Or.inl (hs _ (List.mem_of_getElem? (i := 269) rfl))
  | 12, _, _ => exact Or.inl (hs _ (List.mem_of_getElem? (i := 289) rfl))
  | 13, _, _ => exact Or.inl (hs _ (List.mem_of_getElem? (i := 309) rfl))
  | 14, _, _ => exact Or.inl (hs _ (List.mem_of_getElem? (i := 330) rfl))
  | 15, _, _ => exact Or.inl (hs _ (List.mem_of_getElem? (i := 352) rfl))
  | 16, _, _ => exact Or.inl (hs _ (List.mem_of_getElem? (i := 373) rfl))
  | 17, _, _ => exact Or.inl (hs _ (List.mem_of_getElem? (i := 397) rfl))
  | 18, _, _ => exact Or.inl (hs _ (List.mem_of_getElem? (i := 423) rfl))
  | k + 19, h, _ => exact absurd h (by omega)
set_option maxRecDepth 100000 in
theorem z_ne1 {args : Array Value} {s : State} (h : (Jvm.Cond.and given_1 narrow_1).before args s = true) : ∀ j : Nat, j < 19 → 1 ≠ j → (Cond.not (Cond.eq (zTm 1) (zTm j))).before args s = true ∨ (Cond.not (Cond.eq (zTm j) (zTm 1))).before args s = true := fun j hj hij => by
  have hs := flat_of_before _ h
  match j, hj, hij with
  | 0, _, _ => exact Or.inr (hs _ (List.mem_of_getElem? (i := 39) rfl))
  | 1, _, q => exact absurd rfl q
  | 2, _, _ => exact Or.inl (hs _ (List.mem_of_getElem? (i := 49) rfl))
  | 3, _, _ => exact Or.inl (hs _ (List.mem_of_getElem? (i := 60) rfl))
  | 4, _, _ => exact Or.inl (hs _ (List.mem_of_getElem? (i := 71) rfl))
  | 5, _, _ => exact Or.inl (hs _ (List.mem_of_getElem? (i := 84) rfl))
  | 6, _, _ => exact Or.inl (hs _ (List.mem_of_getElem? (i := 99) rfl))
  | 7, _, _ => exact Or.inl (hs _ (List.mem_of_getElem? (i := 205) rfl))
  | 8, _, _ => exact Or.inl (hs _ (List.mem_of_getElem? (i := 218) rfl))
  | 9, _, _ => exact Or.inl (hs _ (List.mem_of_getElem? (i := 234) rfl))
  | 10, _, _ => exact Or.inl (hs _ (List.mem_of_getElem? (i := 252) rfl))
  | 11, _, _ => exact Or.inl (hs _ (List.mem_of_getElem? (i := 270) rfl))
  | 12, _, _ => exact Or.inl (hs _ (List.mem_of_getElem? (i := 290) rfl))
  | 13, _, _ => exact Or.inl (hs _ (List.mem_of_getElem? (i := 310) rfl))
  | 14, _, _ => exact Or.inl (hs _ (List.mem_of_getElem? (i := 331) rfl))
  | 15, _, _ => exact Or.inl (hs _ (List.mem_of_getElem? (i := 353) rfl))
  | 16, _, _ => exact Or.inl (hs _ (List.mem_of_getElem? (i := 374) rfl))
  | 17, _, _ => exact Or.inl (hs _ (List.mem_of_getElem? (i := 398) rfl))
  | 18, _, _ => exact Or.inl (hs _ (List.mem_of_getElem? (i := 424) rfl))
  | k + 19, h, _ => exact absurd h (by omega)
set_option maxRecDepth 100000 in
theorem z_ne2 {args : Array Value} {s : State} (h : (Jvm.Cond.and given_1 narrow_1).before args s = true) : ∀ j : Nat, j < 19 → 2 ≠ j → (Cond.not (Cond.eq (zTm 2) (zTm j))).before args s = true ∨ (Cond.not (Cond.eq (zTm j) (zTm 2))).before args s = true := fun j hj hij => by
  have hs := flat_of_before _ h
  match j, hj, hij with
  | 0, _, _ => exact Or.inr (hs _ (List.mem_of_getElem? (i := 48) rfl))
  | 1, _, _ => exact Or.inr (hs _ (List.mem_of_getElem? (i := 49) rfl))
  | 2, _, q => exact absurd rfl q
  | 3, _, _ => exact Or.inl (hs _ (List.mem_of_getElem? (i := 61) rfl))
  | 4, _, _ => exact Or.inl (hs _ (List.mem_of_getElem? (i := 72) rfl))
  | 5, _, _ => exact Or.inl (hs _ (List.mem_of_getElem? (i := 85) rfl))
  | 6, _, _ => exact Or.inl (hs _ (List.mem_of_getElem? (i := 100) rfl))
  | 7, _, _ => exact Or.inl (hs _ (List.mem_of_getElem? (i := 206) rfl))
  | 8, _, _ => exact Or.inl (hs _ (List.mem_of_getElem? (i := 219) rfl))
  | 9, _, _ => exact Or.inl (hs _ (List.mem_of_getElem? (i := 235) rfl))
  | 10, _, _ => exact Or.inl (hs _ (List.mem_of_getElem? (i := 253) rfl))
  | 11, _, _ => exact Or.inl (hs _ (List.mem_of_getElem? (i := 271) rfl))
  | 12, _, _ => exact Or.inl (hs _ (List.mem_of_getElem? (i := 291) rfl))
  | 13, _, _ => exact Or.inl (hs _ (List.mem_of_getElem? (i := 311) rfl))
  | 14, _, _ => exact Or.inl (hs _ (List.mem_of_getElem? (i := 332) rfl))
  | 15, _, _ => exact Or.inl (hs _ (List.mem_of_getElem? (i := 354) rfl))
  | 16, _, _ => exact Or.inl (hs _ (List.mem_of_getElem? (i := 375) rfl))
  | 17, _, _ => exact Or.inl (hs _ (List.mem_of_getElem? (i := 399) rfl))
  | 18, _, _ => exact Or.inl (hs _ (List.mem_of_getElem? (i := 425) rfl))
  | k + 19, h, _ => exact absurd h (by omega)
set_option maxRecDepth 100000 in
theorem z_ne3 {args : Array Value} {s : State} (h : (Jvm.Cond.and given_1 narrow_1).before args s = true) : ∀ j : Nat, j < 19 → 3 ≠ j → (Cond.not (Cond.eq (zTm 3) (zTm j))).before args s = true ∨ (Cond.not (Cond.eq (zTm j) (zTm 3))).before args s = true := fun j hj hij => by
  have hs := flat_of_before _ h
  match j, hj, hij with
  | 0, _, _ => exact Or.inr (hs _ (List.mem_of_getElem? (i := 59) rfl))
  | 1, _, _ => exact Or.inr (hs _ (List.mem_of_getElem? (i := 60) rfl))
  | 2, _, _ => exact Or.inr (hs _ (List.mem_of_getElem? (i := 61) rfl))
  | 3, _, q => exact absurd rfl q
  | 4, _, _ => exact Or.inl (hs _ (List.mem_of_getElem? (i := 73) rfl))
  | 5, _, _ => exact Or.inl (hs _ (List.mem_of_getElem? (i := 86) rfl))
  | 6, _, _ => exact Or.inl (hs _ (List.mem_of_getElem? (i := 101) rfl))
  | 7, _, _ => exact Or.inl (hs _ (List.mem_of_getElem? (i := 207) rfl))
  | 8, _, _ => exact Or.inl (hs _ (List.mem_of_getElem? (i := 220) rfl))
  | 9, _, _ => exact Or.inl (hs _ (List.mem_of_getElem? (i := 236) rfl))
  | 10, _, _ => exact Or.inl (hs _ (List.mem_of_getElem? (i := 254) rfl))
  | 11, _, _ => exact Or.inl (hs _ (List.mem_of_getElem? (i := 272) rfl))
  | 12, _, _ => exact Or.inl (hs _ (List.mem_of_getElem? (i := 292) rfl))
  | 13, _, _ => exact Or.inl (hs _ (List.mem_of_getElem? (i := 312) rfl))
  | 14, _, _ => exact Or.inl (hs _ (List.mem_of_getElem? (i := 333) rfl))
  | 15, _, _ => exact Or.inl (hs _ (List.mem_of_getElem? (i := 355) rfl))
  | 16, _, _ => exact Or.inl (hs _ (List.mem_of_getElem? (i := 376) rfl))
  | 17, _, _ => exact Or.inl (hs _ (List.mem_of_getElem? (i := 400) rfl))
  | 18, _, _ => exact Or.inl (hs _ (List.mem_of_getElem? (i := 426) rfl))
  | k + 19, h, _ => exact absurd h (by omega)
set_option maxRecDepth 100000 in
theorem z_ne4 {args : Array Value} {s : State} (h : (Jvm.Cond.and given_1 narrow_1).before args s = true) : ∀ j : Nat, j < 19 → 4 ≠ j → (Cond.not (Cond.eq (zTm 4) (zTm j))).before args s = true ∨ (Cond.not (Cond.eq (zTm j) (zTm 4))).before args s = true := fun j hj hij => by
  have hs := flat_of_before _ h
  match j, hj, hij with
  | 0, _, _ => exact Or.inr (hs _ (List.mem_of_getElem? (i := 70) rfl))
  | 1, _, _ => exact Or.inr (hs _ (List.mem_of_getElem? (i := 71) rfl))
  | 2, _, _ => exact Or.inr (hs _ (List.mem_of_getElem? (i := 72) rfl))
  | 3, _, _ => exact Or.inr (hs _ (List.mem_of_getElem? (i := 73) rfl))
  | 4, _, q => exact absurd rfl q
  | 5, _, _ => exact Or.inl (hs _ (List.mem_of_getElem? (i := 87) rfl))
  | 6, _, _ => exact Or.inl (hs _ (List.mem_of_getElem? (i := 102) rfl))
  | 7, _, _ => exact Or.inl (hs _ (List.mem_of_getElem? (i := 208) rfl))
  | 8, _, _ => exact Or.inl (hs _ (List.mem_of_getElem? (i := 221) rfl))
  | 9, _, _ => exact Or.inl (hs _ (List.mem_of_getElem? (i := 237) rfl))
  | 10, _, _ => exact Or.inl (hs _ (List.mem_of_getElem? (i := 255) rfl))
  | 11, _, _ => exact Or.inl (hs _ (List.mem_of_getElem? (i := 273) rfl))
  | 12, _, _ => exact Or.inl (hs _ (List.mem_of_getElem? (i := 293) rfl))
  | 13, _, _ => exact Or.inl (hs _ (List.mem_of_getElem? (i := 313) rfl))
  | 14, _, _ => exact Or.inl (hs _ (List.mem_of_getElem? (i := 334) rfl))
  | 15, _, _ => exact Or.inl (hs _ (List.mem_of_getElem? (i := 356) rfl))
  | 16, _, _ => exact Or.inl (hs _ (List.mem_of_getElem? (i := 377) rfl))
  | 17, _, _ => exact Or.inl (hs _ (List.mem_of_getElem? (i := 401) rfl))
  | 18, _, _ => exact Or.inl (hs _ (List.mem_of_getElem? (i := 427) rfl))
  | k + 19, h, _ => exact absurd h (by omega)
set_option maxRecDepth 100000 in
theorem z_ne5 {args : Array Value} {s : State} (h : (Jvm.Cond.and given_1 narrow_1).before args s = true) : ∀ j : Nat, j < 19 → 5 ≠ j → (Cond.not (Cond.eq (zTm 5) (zTm j))).before args s = true ∨ (Cond.not (Cond.eq (zTm j) (zTm 5))).before args s = true := fun j hj hij => by
  have hs := flat_of_before _ h
  match j, hj, hij with
  | 0, _, _ => exact Or.inr (hs _ (List.mem_of_getElem? (i := 83) rfl))
  | 1, _, _ => exact Or.inr (hs _ (List.mem_of_getElem? (i := 84) rfl))
  | 2, _, _ => exact Or.inr (hs _ (List.mem_of_getElem? (i := 85) rfl))
  | 3, _, _ => exact Or.inr (hs _ (List.mem_of_getElem? (i := 86) rfl))
  | 4, _, _ => exact Or.inr (hs _ (List.mem_of_getElem? (i := 87) rfl))
  | 5, _, q => exact absurd rfl q
  | 6, _, _ => exact Or.inl (hs _ (List.mem_of_getElem? (i := 103) rfl))
  | 7, _, _ => exact Or.inl (hs _ (List.mem_of_getElem? (i := 209) rfl))
  | 8, _, _ => exact Or.inl (hs _ (List.mem_of_getElem? (i := 222) rfl))
  | 9, _, _ => exact Or.inl (hs _ (List.mem_of_getElem? (i := 238) rfl))
  | 10, _, _ => exact Or.inl (hs _ (List.mem_of_getElem? (i := 256) rfl))
  | 11, _, _ => exact Or.inl (hs _ (List.mem_of_getElem? (i := 274) rfl))
  | 12, _, _ => exact Or.inl (hs _ (List.mem_of_getElem? (i := 294) rfl))
  | 13, _, _ => exact Or.inl (hs _ (List.mem_of_getElem? (i := 314) rfl))
  | 14, _, _ => exact Or.inl (hs _ (List.mem_of_getElem? (i := 335) rfl))
  | 15, _, _ => exact Or.inl (hs _ (List.mem_of_getElem? (i := 357) rfl))
  | 16, _, _ => exact Or.inl (hs _ (List.mem_of_getElem? (i := 378) rfl))
  | 17, _, _ => exact Or.inl (hs _ (List.mem_of_getElem? (i := 402) rfl))
  | 18, _, _ => exact Or.inl (hs _ (List.mem_of_getElem? (i := 428) rfl))
  | k + 19, h, _ => exact absurd h (by omega)
set_option maxRecDepth 100000 in
theorem z_ne6 {args : Array Value} {s : State} (h : (Jvm.Cond.and given_1 narrow_1).before args s = true) : ∀ j : Nat, j < 19 → 6 ≠ j → (Cond.not (Cond.eq (zTm 6) (zTm j))).before args s = true ∨ (Cond.not (Cond.eq (zTm j) (zTm 6))).before args s = true := fun j hj hij => by
  have hs := flat_of_before _ h
  match j, hj, hij with
  | 0, _, _ => exact Or.inr (hs _ (List.mem_of_getElem? (i := 98) rfl))
  | 1, _, _ => exact Or.inr (hs _ (List.mem_of_getElem? (i := 99) rfl))
  | 2, _, _ => exact Or.inr (hs _ (List.mem_of_getElem? (i := 100) rfl))
  | 3, _, _ => exact Or.inr (hs _ (List.mem_of_getElem? (i := 101) rfl))
  | 4, _, _ => exact Or.inr (hs _ (List.mem_of_getElem? (i := 102) rfl))
  | 5, _, _ => exact Or.inr (hs _ (List.mem_of_getElem? (i := 103) rfl))
  | 6, _, q => exact absurd rfl q
  | 7, _, _ => exact Or.inl (hs _ (List.mem_of_getElem? (i := 210) rfl))
  | 8, _, _ => exact Or.inl (hs _ (List.mem_of_getElem? (i := 223) rfl))
  | 9, _, _ => exact Or.inl (hs _ (List.mem_of_getElem? (i := 239) rfl))
  | 10, _, _ => exact Or.inl (hs _ (List.mem_of_getElem? (i := 257) rfl))
  | 11, _, _ => exact Or.inl (hs _ (List.mem_of_getElem? (i := 275) rfl))
  | 12, _, _ => exact Or.inl (hs _ (List.mem_of_getElem? (i := 295) rfl))
  | 13, _, _ => exact Or.inl (hs _ (List.mem_of_getElem? (i := 315) rfl))
  | 14, _, _ => exact Or.inl (hs _ (List.mem_of_getElem? (i := 336) rfl))
  | 15, _, _ => exact Or.inl (hs _ (List.mem_of_getElem? (i := 358) rfl))
  | 16, _, _ => exact Or.inl (hs _ (List.mem_of_getElem? (i := 379) rfl))
  | 17, _, _ => exact Or.inl (hs _ (List.mem_of_getElem? (i := 403) rfl))
  | 18, _, _ => exact Or.inl (hs _ (List.mem_of_getElem? (i := 429) rfl))
  | k + 19, h, _ => exact absurd h (by omega)
set_option maxRecDepth 100000 in
theorem z_ne7 {args : Array Value} {s : State} (h : (Jvm.Cond.and given_1 narrow_1).before args s = true) : ∀ j : Nat, j < 19 → 7 ≠ j → (Cond.not (Cond.eq (zTm 7) (zTm j))).before args s = true ∨ (Cond.not (Cond.eq (zTm j) (zTm 7))).before args s = true := fun j hj hij => by
  have hs := flat_of_before _ h
  match j, hj, hij with
  | 0, _, _ => exact Or.inr (hs _ (List.mem_of_getElem? (i := 204) rfl))
  | 1, _, _ => exact Or.inr (hs _ (List.mem_of_getElem? (i := 205) rfl))
  | 2, _, _ => exact Or.inr (hs _ (List.mem_of_getElem? (i := 206) rfl))
  | 3, _, _ => exact Or.inr (hs _ (List.mem_of_getElem? (i := 207) rfl))
  | 4, _, _ => exact Or.inr (hs _ (List.mem_of_getElem? (i := 208) rfl))
  | 5, _, _ => exact Or.inr (hs _ (List.mem_of_getElem? (i := 209) rfl))
  | 6, _, _ => exact Or.inr (hs _ (List.mem_of_getElem? (i := 210) rfl))
  | 7, _, q => exact absurd rfl q
  | 8, _, _ => exact Or.inl (hs _ (List.mem_of_getElem? (i := 224) rfl))
  | 9, _, _ => exact Or.inl (hs _ (List.mem_of_getElem? (i := 240) rfl))
  | 10, _, _ => exact Or.inl (hs _ (List.mem_of_getElem? (i := 258) rfl))
  | 11, _, _ => exact Or.inl (hs _ (List.mem_of_getElem? (i := 276) rfl))
  | 12, _, _ => exact Or.inl (hs _ (List.mem_of_getElem? (i := 296) rfl))
  | 13, _, _ => exact Or.inl (hs _ (List.mem_of_getElem? (i := 316) rfl))
  | 14, _, _ => exact Or.inl (hs _ (List.mem_of_getElem? (i := 337) rfl))
  | 15, _, _ => exact Or.inl (hs _ (List.mem_of_getElem? (i := 359) rfl))
  | 16, _, _ => exact Or.inl (hs _ (List.mem_of_getElem? (i := 380) rfl))
  | 17, _, _ => exact Or.inl (hs _ (List.mem_of_getElem? (i := 404) rfl))
  | 18, _, _ => exact Or.inl (hs _ (List.mem_of_getElem? (i := 430) rfl))
  | k + 19, h, _ => exact absurd h (by omega)
set_option maxRecDepth 100000 in
theorem z_ne8 {args : Array Value} {s : State} (h : (Jvm.Cond.and given_1 narrow_1).before args s = true) : ∀ j : Nat, j < 19 → 8 ≠ j → (Cond.not (Cond.eq (zTm 8) (zTm j))).before args s = true ∨ (Cond.not (Cond.eq (zTm j) (zTm 8))).before args s = true := fun j hj hij => by
  have hs := flat_of_before _ h
  match j, hj, hij with
  | 0, _, _ => exact Or.inr (hs _ (List.mem_of_getElem? (i := 217) rfl))
  | 1, _, _ => exact Or.inr (hs _ (List.mem_of_getElem? (i := 218) rfl))
  | 2, _, _ => exact Or.inr (hs _ (List.mem_of_getElem? (i := 219) rfl))
  | 3, _, _ => exact Or.inr (hs _ (List.mem_of_getElem? (i := 220) rfl))
  | 4, _, _ => exact Or.inr (hs _ (List.mem_of_getElem? (i := 221) rfl))
  | 5, _, _ => exact Or.inr (hs _ (List.mem_of_getElem? (i := 222) rfl))
  | 6, _, _ => exact Or.inr (hs _ (List.mem_of_getElem? (i := 223) rfl))
  | 7, _, _ => exact Or.inr (hs _ (List.mem_of_getElem? (i := 224) rfl))
  | 8, _, q => exact absurd rfl q
  | 9, _, _ => exact Or.inl (hs _ (List.mem_of_getElem? (i := 241) rfl))
  | 10, _, _ => exact Or.inl (hs _ (List.mem_of_getElem? (i := 259) rfl))
  | 11, _, _ => exact Or.inl (hs _ (List.mem_of_getElem? (i := 277) rfl))
  | 12, _, _ => exact Or.inl (hs _ (List.mem_of_getElem? (i := 297) rfl))
  | 13, _, _ => exact Or.inl (hs _ (List.mem_of_getElem? (i := 317) rfl))
  | 14, _, _ => exact Or.inl (hs _ (List.mem_of_getElem? (i := 338) rfl))
  | 15, _, _ => exact Or.inl (hs _ (List.mem_of_getElem? (i := 360) rfl))
  | 16, _, _ => exact Or.inl (hs _ (List.mem_of_getElem? (i := 381) rfl))
  | 17, _, _ => exact Or.inl (hs _ (List.mem_of_getElem? (i := 405) rfl))
  | 18, _, _ => exact Or.inl (hs _ (List.mem_of_getElem? (i := 431) rfl))
  | k + 19, h, _ => exact absurd h (by omega)
set_option maxRecDepth 100000 in
theorem z_ne9 {args : Array Value} {s : State} (h : (Jvm.Cond.and given_1 narrow_1).before args s = true) : ∀ j : Nat, j < 19 → 9 ≠ j → (Cond.not (Cond.eq (zTm 9) (zTm j))).before args s = true ∨ (Cond.not (Cond.eq (zTm j) (zTm 9))).before args s = true := fun j hj hij => by
  have hs := flat_of_before _ h
  match j, hj, hij with
  | 0, _, _ => exact Or.inr (hs _ (List.mem_of_getElem? (i := 233) rfl))
  | 1, _, _ => exact Or.inr (hs _ (List.mem_of_getElem? (i := 234) rfl))
  | 2, _, _ => exact Or.inr (hs _ (List.mem_of_getElem? (i := 235) rfl))
  | 3, _, _ => exact Or.inr (hs _ (List.mem_of_getElem? (i := 236) rfl))
  | 4, _, _ => exact Or.inr (hs _ (List.mem_of_getElem? (i := 237) rfl))
  | 5, _, _ => exact Or.inr (hs _ (List.mem_of_getElem? (i := 238) rfl))
  | 6, _, _ => exact Or.inr (hs _ (List.mem_of_getElem? (i := 239) rfl))
  | 7, _, _ => exact Or.inr (hs _ (List.mem_of_getElem? (i := 240) rfl))
  | 8, _, _ => exact Or.inr (hs _ (List.mem_of_getElem? (i := 241) rfl))
  | 9, _, q => exact absurd rfl q
  | 10, _, _ => exact Or.inl (hs _ (List.mem_of_getElem? (i := 260) rfl))
  | 11, _, _ => exact Or.inl (hs _ (List.mem_of_getElem? (i := 278) rfl))
  | 12, _, _ => exact Or.inl (hs _ (List.mem_of_getElem? (i := 298) rfl))
  | 13, _, _ => exact Or.inl (hs _ (List.mem_of_getElem? (i := 318) rfl))
  | 14, _, _ => exact Or.inl (hs _ (List.mem_of_getElem? (i := 339) rfl))
  | 15, _, _ => exact Or.inl (hs _ (List.mem_of_getElem? (i := 361) rfl))
  | 16, _, _ => exact Or.inl (hs _ (List.mem_of_getElem? (i := 382) rfl))
  | 17, _, _ => exact Or.inl (hs _ (List.mem_of_getElem? (i := 406) rfl))
  | 18, _, _ => exact Or.inl (hs _ (List.mem_of_getElem? (i := 432) rfl))
  | k + 19, h, _ => exact absurd h (by omega)
set_option maxRecDepth 100000 in
theorem z_ne10 {args : Array Value} {s : State} (h : (Jvm.Cond.and given_1 narrow_1).before args s = true) : ∀ j : Nat, j < 19 → 10 ≠ j → (Cond.not (Cond.eq (zTm 10) (zTm j))).before args s = true ∨ (Cond.not (Cond.eq (zTm j) (zTm 10))).before args s = true := fun j hj hij => by
  have hs := flat_of_before _ h
  match j, hj, hij with
  | 0, _, _ => exact Or.inr (hs _ (List.mem_of_getElem? (i := 251) rfl))
  | 1, _, _ => exact Or.inr (hs _ (List.mem_of_getElem? (i := 252) rfl))
  | 2, _, _ => exact Or.inr (hs _ (List.mem_of_getElem? (i := 253) rfl))
  | 3, _, _ => exact Or.inr (hs _ (List.mem_of_getElem? (i := 254) rfl))
  | 4, _, _ => exact Or.inr (hs _ (List.mem_of_getElem? (i := 255) rfl))
  | 5, _, _ => exact Or.inr (hs _ (List.mem_of_getElem? (i := 256) rfl))
  | 6, _, _ => exact Or.inr (hs _ (List.mem_of_getElem? (i := 257) rfl))
  | 7, _, _ => exact Or.inr (hs _ (List.mem_of_getElem? (i := 258) rfl))
  | 8, _, _ => exact Or.inr (hs _ (List.mem_of_getElem? (i := 259) rfl))
  | 9, _, _ => exact Or.inr (hs _ (List.mem_of_getElem? (i := 260) rfl))
  | 10, _, q => exact absurd rfl q
  | 11, _, _ => exact Or.inl (hs _ (List.mem_of_getElem? (i := 279) rfl))
  | 12, _, _ => exact Or.inl (hs _ (List.mem_of_getElem? (i := 299) rfl))
  | 13, _, _ => exact Or.inl (hs _ (List.mem_of_getElem? (i := 319) rfl))
  | 14, _, _ => exact Or.inl (hs _ (List.mem_of_getElem? (i := 340) rfl))
  | 15, _, _ => exact Or.inl (hs _ (List.mem_of_getElem? (i := 362) rfl))
  | 16, _, _ => exact Or.inl (hs _ (List.mem_of_getElem? (i := 383) rfl))
  | 17, _, _ => exact Or.inl (hs _ (List.mem_of_getElem? (i := 407) rfl))
  | 18, _, _ => exact Or.inl (hs _ (List.mem_of_getElem? (i := 433) rfl))
  | k + 19, h, _ => exact absurd h (by omega)
set_option maxRecDepth 100000 in
theorem z_ne11 {args : Array Value} {s : State} (h : (Jvm.Cond.and given_1 narrow_1).before args s = true) : ∀ j : Nat, j < 19 → 11 ≠ j → (Cond.not (Cond.eq (zTm 11) (zTm j))).before args s = true ∨ (Cond.not (Cond.eq (zTm j) (zTm 11))).before args s = true := fun j hj hij => by
  have hs := flat_of_before _ h
  match j, hj, hij with
  | 0, _, _ => exact Or.inr (hs _ (List.mem_of_getElem? (i := 269) rfl))
  | 1, _, _ => exact Or.inr (hs _ (List.mem_of_getElem? (i := 270) rfl))
  | 2, _, _ => exact Or.inr (hs _ (List.mem_of_getElem? (i := 271) rfl))
  | 3, _, _ => exact Or.inr (hs _ (List.mem_of_getElem? (i := 272) rfl))
  | 4, _, _ => exact Or.inr (hs _ (List.mem_of_getElem? (i := 273) rfl))
  | 5, _, _ => exact Or.inr (hs _ (List.mem_of_getElem? (i := 274) rfl))
  | 6, _, _ => exact Or.inr (hs _ (List.mem_of_getElem? (i := 275) rfl))
  | 7, _, _ => exact Or.inr (hs _ (List.mem_of_getElem? (i := 276) rfl))
  | 8, _, _ => exact Or.inr (hs _ (List.mem_of_getElem? (i := 277) rfl))
  | 9, _, _ => exact Or.inr (hs _ (List.mem_of_getElem? (i := 278) rfl))
  | 10, _, _ => exact Or.inr (hs _ (List.mem_of_getElem? (i := 279) rfl))
  | 11, _, q => exact absurd rfl q
  | 12, _, _ => exact Or.inl (hs _ (List.mem_of_getElem? (i := 300) rfl))
  | 13, _, _ => exact Or.inl (hs _ (List.mem_of_getElem? (i := 320) rfl))
  | 14, _, _ => exact Or.inl (hs _ (List.mem_of_getElem? (i := 341) rfl))
  | 15, _, _ => exact Or.inl (hs _ (List.mem_of_getElem? (i := 363) rfl))
  | 16, _, _ => exact Or.inl (hs _ (List.mem_of_getElem? (i := 384) rfl))
  | 17, _, _ => exact Or.inl (hs _ (List.mem_of_getElem? (i := 408) rfl))
  | 18, _, _ => exact Or.inl (hs _ (List.mem_of_getElem? (i := 434) rfl))
  | k + 19, h, _ => exact absurd h (by omega)
set_option maxRecDepth 100000 in
theorem z_ne12 {args : Array Value} {s : State} (h : (Jvm.Cond.and given_1 narrow_1).before args s = true) : ∀ j : Nat, j < 19 → 12 ≠ j → (Cond.not (Cond.eq (zTm 12) (zTm j))).before args s = true ∨ (Cond.not (Cond.eq (zTm j) (zTm 12))).before args s = true := fun j hj hij => by
  have hs := flat_of_before _ h
  match j, hj, hij with
  | 0, _, _ => exact Or.inr (hs _ (List.mem_of_getElem? (i := 289) rfl))
  | 1, _, _ => exact Or.inr (hs _ (List.mem_of_getElem? (i := 290) rfl))
  | 2, _, _ => exact Or.inr (hs _ (List.mem_of_getElem? (i := 291) rfl))
  | 3, _, _ => exact Or.inr (hs _ (List.mem_of_getElem? (i := 292) rfl))
  | 4, _, _ => exact Or.inr (hs _ (List.mem_of_getElem? (i := 293) rfl))
  | 5, _, _ => exact Or.inr (hs _ (List.mem_of_getElem? (i := 294) rfl))
  | 6, _, _ => exact Or.inr (hs _ (List.mem_of_getElem? (i := 295) rfl))
  | 7, _, _ => exact Or.inr (hs _ (List.mem_of_getElem? (i := 296) rfl))
  | 8, _, _ => exact Or.inr (hs _ (List.mem_of_getElem? (i := 297) rfl))
  | 9, _, _ => exact Or.inr (hs _ (List.mem_of_getElem? (i := 298) rfl))
  | 10, _, _ => exact Or.inr (hs _ (List.mem_of_getElem? (i := 299) rfl))
  | 11, _, _ => exact Or.inr (hs _ (List.mem_of_getElem? (i := 300) rfl))
  | 12, _, q => exact absurd rfl q
  | 13, _, _ => exact Or.inl (hs _ (List.mem_of_getElem? (i := 321) rfl))
  | 14, _, _ => exact Or.inl (hs _ (List.mem_of_getElem? (i := 342) rfl))
  | 15, _, _ => exact Or.inl (hs _ (List.mem_of_getElem? (i := 364) rfl))
  | 16, _, _ => exact Or.inl (hs _ (List.mem_of_getElem? (i := 385) rfl))
  | 17, _, _ => exact Or.inl (hs _ (List.mem_of_getElem? (i := 409) rfl))
  | 18, _, _ => exact Or.inl (hs _ (List.mem_of_getElem? (i := 435) rfl))
  | k + 19, h, _ => exact absurd h (by omega)
set_option maxRecDepth 100000 in
theorem z_ne13 {args : Array Value} {s : State} (h : (Jvm.Cond.and given_1 narrow_1).before args s = true) : ∀ j : Nat, j < 19 → 13 ≠ j → (Cond.not (Cond.eq (zTm 13) (zTm j))).before args s = true ∨ (Cond.not (Cond.eq (zTm j) (zTm 13))).before args s = true := fun j hj hij => by
  have hs := flat_of_before _ h
  match j, hj, hij with
  | 0, _, _ => exact Or.inr (hs _ (List.mem_of_getElem? (i := 309) rfl))
  | 1, _, _ => exact Or.inr (hs _ (List.mem_of_getElem? (i := 310) rfl))
  | 2, _, _ => exact Or.inr (hs _ (List.mem_of_getElem? (i := 311) rfl))
  | 3, _, _ => exact Or.inr (hs _ (List.mem_of_getElem? (i := 312) rfl))
  | 4, _, _ => exact Or.inr (hs _ (List.mem_of_getElem? (i := 313) rfl))
  | 5, _, _ => exact Or.inr (hs _ (List.mem_of_getElem? (i := 314) rfl))
  | 6, _, _ => exact Or.inr (hs _ (List.mem_of_getElem? (i := 315) rfl))
  | 7, _, _ => exact Or.inr (hs _ (List.mem_of_getElem? (i := 316) rfl))
  | 8, _, _ => exact Or.inr (hs _ (List.mem_of_getElem? (i := 317) rfl))
  | 9, _, _ => exact Or.inr (hs _ (List.mem_of_getElem? (i := 318) rfl))
  | 10, _, _ => exact Or.inr (hs _ (List.mem_of_getElem? (i := 319) rfl))
  | 11, _, _ => exact Or.inr (hs _ (List.mem_of_getElem? (i := 320) rfl))
  | 12, _, _ => exact Or.inr (hs _ (List.mem_of_getElem? (i := 321) rfl))
  | 13, _, q => exact absurd rfl q
  | 14, _, _ => exact Or.inl (hs _ (List.mem_of_getElem? (i := 343) rfl))
  | 15, _, _ => exact Or.inl (hs _ (List.mem_of_getElem? (i := 365) rfl))
  | 16, _, _ => exact Or.inl (hs _ (List.mem_of_getElem? (i := 386) rfl))
  | 17, _, _ => exact Or.inl (hs _ (List.mem_of_getElem? (i := 410) rfl))
  | 18, _, _ => exact Or.inl (hs _ (List.mem_of_getElem? (i := 436) rfl))
  | k + 19, h, _ => exact absurd h (by omega)
set_option maxRecDepth 100000 in
theorem z_ne14 {args : Array Value} {s : State} (h : (Jvm.Cond.and given_1 narrow_1).before args s = true) : ∀ j : Nat, j < 19 → 14 ≠ j → (Cond.not (Cond.eq (zTm 14) (zTm j))).before args s = true ∨ (Cond.not (Cond.eq (zTm j) (zTm 14))).before args s = true := fun j hj hij => by
  have hs := flat_of_before _ h
  match j, hj, hij with
  | 0, _, _ => exact Or.inr (hs _ (List.mem_of_getElem? (i := 330) rfl))
  | 1, _, _ => exact Or.inr (hs _ (List.mem_of_getElem? (i := 331) rfl))
  | 2, _, _ => exact Or.inr (hs _ (List.mem_of_getElem? (i := 332) rfl))
  | 3, _, _ => exact Or.inr (hs _ (List.mem_of_getElem? (i := 333) rfl))
  | 4, _, _ => exact Or.inr (hs _ (List.mem_of_getElem? (i := 334) rfl))
  | 5, _, _ => exact Or.inr (hs _ (List.mem_of_getElem? (i := 335) rfl))
  | 6, _, _ => exact Or.inr (hs _ (List.mem_of_getElem? (i := 336) rfl))
  | 7, _, _ => exact Or.inr (hs _ (List.mem_of_getElem? (i := 337) rfl))
  | 8, _, _ => exact Or.inr (hs _ (List.mem_of_getElem? (i := 338) rfl))
  | 9, _, _ => exact Or.inr (hs _ (List.mem_of_getElem? (i := 339) rfl))
  | 10, _, _ => exact Or.inr (hs _ (List.mem_of_getElem? (i := 340) rfl))
  | 11, _, _ => exact Or.inr (hs _ (List.mem_of_getElem? (i := 341) rfl))
  | 12, _, _ => exact Or.inr (hs _ (List.mem_of_getElem? (i := 342) rfl))
  | 13, _, _ => exact Or.inr (hs _ (List.mem_of_getElem? (i := 343) rfl))
  | 14, _, q => exact absurd rfl q
  | 15, _, _ => exact Or.inl (hs _ (List.mem_of_getElem? (i := 366) rfl))
  | 16, _, _ => exact Or.inl (hs _ (List.mem_of_getElem? (i := 387) rfl))
  | 17, _, _ => exact Or.inl (hs _ (List.mem_of_getElem? (i := 411) rfl))
  | 18, _, _ => exact Or.inl (hs _ (List.mem_of_getElem? (i := 437) rfl))
  | k + 19, h, _ => exact absurd h (by omega)
set_option maxRecDepth 100000 in
theorem z_ne15 {args : Array Value} {s : State} (h : (Jvm.Cond.and given_1 narrow_1).before args s = true) : ∀ j : Nat, j < 19 → 15 ≠ j → (Cond.not (Cond.eq (zTm 15) (zTm j))).before args s = true ∨ (Cond.not (Cond.eq (zTm j) (zTm 15))).before args s = true := fun j hj hij => by
  have hs := flat_of_before _ h
  match j, hj, hij with
  | 0, _, _ => exact Or.inr (hs _ (List.mem_of_getElem? (i := 352) rfl))
  | 1, _, _ => exact Or.inr (hs _ (List.mem_of_getElem? (i := 353) rfl))
  | 2, _, _ => exact Or.inr (hs _ (List.mem_of_getElem? (i := 354) rfl))
  | 3, _, _ => exact Or.inr (hs _ (List.mem_of_getElem? (i := 355) rfl))
  | 4, _, _ => exact Or.inr (hs _ (List.mem_of_getElem? (i := 356) rfl))
  | 5, _, _ => exact Or.inr (hs _ (List.mem_of_getElem? (i := 357) rfl))
  | 6, _, _ => exact Or.inr (hs _ (List.mem_of_getElem? (i := 358) rfl))
  | 7, _, _ => exact Or.inr (hs _ (List.mem_of_getElem? (i := 359) rfl))
  | 8, _, _ => exact Or.inr (hs _ (List.mem_of_getElem? (i := 360) rfl))
  | 9, _, _ => exact Or.inr (hs _ (List.mem_of_getElem? (i := 361) rfl))
  | 10, _, _ => exact Or.inr (hs _ (List.mem_of_getElem? (i := 362) rfl))
  | 11, _, _ => exact Or.inr (hs _ (List.mem_of_getElem? (i := 363) rfl))
  | 12, _, _ => exact Or.inr (hs _ (List.mem_of_getElem? (i := 364) rfl))
  | 13, _, _ => exact Or.inr (hs _ (List.mem_of_getElem? (i := 365) rfl))
  | 14, _, _ => exact Or.inr (hs _ (List.mem_of_getElem? (i := 366) rfl))
  | 15, _, q => exact absurd rfl q
  | 16, _, _ => exact Or.inl (hs _ (List.mem_of_getElem? (i := 388) rfl))
  | 17, _, _ => exact Or.inl (hs _ (List.mem_of_getElem? (i := 412) rfl))
  | 18, _, _ => exact Or.inl (hs _ (List.mem_of_getElem? (i := 438) rfl))
  | k + 19, h, _ => exact absurd h (by omega)
set_option maxRecDepth 100000 in
theorem z_ne16 {args : Array Value} {s : State} (h : (Jvm.Cond.and given_1 narrow_1).before args s = true) : ∀ j : Nat, j < 19 → 16 ≠ j → (Cond.not (Cond.eq (zTm 16) (zTm j))).before args s = true ∨ (Cond.not (Cond.eq (zTm j) (zTm 16))).before args s = true := fun j hj hij => by
  have hs := flat_of_before _ h
  match j, hj, hij with
  | 0, _, _ => exact Or.inr (hs _ (List.mem_of_getElem? (i := 373) rfl))
  | 1, _, _ => exact Or.inr (hs _ (List.mem_of_getElem? (i := 374) rfl))
  | 2, _, _ => exact Or.inr (hs _ (List.mem_of_getElem? (i := 375) rfl))
  | 3, _, _ => exact Or.inr (hs _ (List.mem_of_getElem? (i := 376) rfl))
  | 4, _, _ => exact Or.inr (hs _ (List.mem_of_getElem? (i := 377) rfl))
  | 5, _, _ => exact Or.inr (hs _ (List.mem_of_getElem? (i := 378) rfl))
  | 6, _, _ => exact Or.inr (hs _ (List.mem_of_getElem? (i := 379) rfl))
  | 7, _, _ => exact Or.inr (hs _ (List.mem_of_getElem? (i := 380) rfl))
  | 8, _, _ => exact Or.inr (hs _ (List.mem_of_getElem? (i := 381) rfl))
  | 9, _, _ => exact Or.inr (hs _ (List.mem_of_getElem? (i := 382) rfl))
  | 10, _, _ => exact Or.inr (hs _ (List.mem_of_getElem? (i := 383) rfl))
  | 11, _, _ => exact Or.inr (hs _ (List.mem_of_getElem? (i := 384) rfl))
  | 12, _, _ => exact Or.inr (hs _ (List.mem_of_getElem? (i := 385) rfl))
  | 13, _, _ => exact Or.inr (hs _ (List.mem_of_getElem? (i := 386) rfl))
  | 14, _, _ => exact Or.inr (hs _ (List.mem_of_getElem? (i := 387) rfl))
  | 15, _, _ => exact Or.inr (hs _ (List.mem_of_getElem? (i := 388) rfl))
  | 16, _, q => exact absurd rfl q
  | 17, _, _ => exact Or.inl (hs _ (List.mem_of_getElem? (i := 413) rfl))
  | 18, _, _ => exact Or.inl (hs _ (List.mem_of_getElem? (i := 439) rfl))
  | k + 19, h, _ => exact absurd h (by omega)
set_option maxRecDepth 100000 in
theorem z_ne17 {args : Array Value} {s : State} (h : (Jvm.Cond.and given_1 narrow_1).before args s = true) : ∀ j : Nat, j < 19 → 17 ≠ j → (Cond.not (Cond.eq (zTm 17) (zTm j))).before args s = true ∨ (Cond.not (Cond.eq (zTm j) (zTm 17))).before args s = true := fun j hj hij => by
  have hs := flat_of_before _ h
  match j, hj, hij with
  | 0, _, _ => exact Or.inr (hs _ (List.mem_of_getElem? (i := 397) rfl))
  | 1, _, _ => exact Or.inr (hs _ (List.mem_of_getElem? (i := 398) rfl))
  | 2, _, _ => exact Or.inr (hs _ (List.mem_of_getElem? (i := 399) rfl))
  | 3, _, _ => exact Or.inr (hs _ (List.mem_of_getElem? (i := 400) rfl))
  | 4, _, _ => exact Or.inr (hs _ (List.mem_of_getElem? (i := 401) rfl))
  | 5, _, _ => exact Or.inr (hs _ (List.mem_of_getElem? (i := 402) rfl))
  | 6, _, _ => exact Or.inr (hs _ (List.mem_of_getElem? (i := 403) rfl))
  | 7, _, _ => exact Or.inr (hs _ (List.mem_of_getElem? (i := 404) rfl))
  | 8, _, _ => exact Or.inr (hs _ (List.mem_of_getElem? (i := 405) rfl))
  | 9, _, _ => exact Or.inr (hs _ (List.mem_of_getElem? (i := 406) rfl))
  | 10, _, _ => exact Or.inr (hs _ (List.mem_of_getElem? (i := 407) rfl))
  | 11, _, _ => exact Or.inr (hs _ (List.mem_of_getElem? (i := 408) rfl))
  | 12, _, _ => exact Or.inr (hs _ (List.mem_of_getElem? (i := 409) rfl))
  | 13, _, _ => exact Or.inr (hs _ (List.mem_of_getElem? (i := 410) rfl))
  | 14, _, _ => exact Or.inr (hs _ (List.mem_of_getElem? (i := 411) rfl))
  | 15, _, _ => exact Or.inr (hs _ (List.mem_of_getElem? (i := 412) rfl))
  | 16, _, _ => exact Or.inr (hs _ (List.mem_of_getElem? (i := 413) rfl))
  | 17, _, q => exact absurd rfl q
  | 18, _, _ => exact Or.inl (hs _ (List.mem_of_getElem? (i := 440) rfl))
  | k + 19, h, _ => exact absurd h (by omega)
set_option maxRecDepth 100000 in
theorem z_ne18 {args : Array Value} {s : State} (h : (Jvm.Cond.and given_1 narrow_1).before args s = true) : ∀ j : Nat, j < 19 → 18 ≠ j → (Cond.not (Cond.eq (zTm 18) (zTm j))).before args s = true ∨ (Cond.not (Cond.eq (zTm j) (zTm 18))).before args s = true := fun j hj hij => by
  have hs := flat_of_before _ h
  match j, hj, hij with
  | 0, _, _ => exact Or.inr (hs _ (List.mem_of_getElem? (i := 423) rfl))
  | 1, _, _ => exact Or.inr (hs _ (List.mem_of_getElem? (i := 424) rfl))
  | 2, _, _ => exact Or.inr (hs _ (List.mem_of_getElem? (i := 425) rfl))
  | 3, _, _ => exact Or.inr (hs _ (List.mem_of_getElem? (i := 426) rfl))
  | 4, _, _ => exact Or.inr (hs _ (List.mem_of_getElem? (i := 427) rfl))
  | 5, _, _ => exact Or.inr (hs _ (List.mem_of_getElem? (i := 428) rfl))
  | 6, _, _ => exact Or.inr (hs _ (List.mem_of_getElem? (i := 429) rfl))
  | 7, _, _ => exact Or.inr (hs _ (List.mem_of_getElem? (i := 430) rfl))
  | 8, _, _ => exact Or.inr (hs _ (List.mem_of_getElem? (i := 431) rfl))
  | 9, _, _ => exact Or.inr (hs _ (List.mem_of_getElem? (i := 432) rfl))
  | 10, _, _ => exact Or.inr (hs _ (List.mem_of_getElem? (i := 433) rfl))
  | 11, _, _ => exact Or.inr (hs _ (List.mem_of_getElem? (i := 434) rfl))
  | 12, _, _ => exact Or.inr (hs _ (List.mem_of_getElem? (i := 435) rfl))
  | 13, _, _ => exact Or.inr (hs _ (List.mem_of_getElem? (i := 436) rfl))
  | 14, _, _ => exact Or.inr (hs _ (List.mem_of_getElem? (i := 437) rfl))
  | 15, _, _ => exact Or.inr (hs _ (List.mem_of_getElem? (i := 438) rfl))
  | 16, _, _ => exact Or.inr (hs _ (List.mem_of_getElem? (i := 439) rfl))
  | 17, _, _ => exact Or.inr (hs _ (List.mem_of_getElem? (i := 440) rfl))
  | 18, _, q => exact absurd rfl q
  | k + 19, h, _ => exact absurd h (by omega)
theorem z_ne {args : Array Value} {s : State} (h : (Jvm.Cond.and given_1 narrow_1).before args s = true) : ∀ i j : Nat, i < 19 → j < 19 → i ≠ j → (Cond.not (Cond.eq (zTm i) (zTm j))).before args s = true ∨ (Cond.not (Cond.eq (zTm j) (zTm i))).before args s = true := fun i j hi hj => by
  match i, hi with
  | 0, _ => exact z_ne0 h j hj
  | 1, _ => exact z_ne1 h j hj
  | 2, _ => exact z_ne2 h j hj
  | 3, _ => exact z_ne3 h j hj
  | 4, _ => exact z_ne4 h j hj
  | 5, _ => exact z_ne5 h j hj
  | 6, _ => exact z_ne6 h j hj
  | 7, _ => exact z_ne7 h j hj
  | 8, _ => exact z_ne8 h j hj
  | 9, _ => exact z_ne9 h j hj
  | 10, _ => exact z_ne10 h j hj
  | 11, _ => exact z_ne11 h j hj
  | 12, _ => exact z_ne12 h j hj
  | 13, _ => exact z_ne13 h j hj
  | 14, _ => exact z_ne14 h j hj
  | 15, _ => exact z_ne15 h j hj
  | 16, _ => exact z_ne16 h j hj
  | 17, _ => exact z_ne17 h j hj
  | 18, _ => exact z_ne18 h j hj
  | k + 19, h => exact absurd h (by omega)
set_option maxRecDepth 100000 in
theorem zS_pw {args : Array Value} {s : State} (h : (Jvm.Cond.and given_1 narrow_1).before args s = true) {A : Nat → Prop} (hA : ∀ a : Nat, a < s.heap.size → ¬ A a) : ∃ t : Nat, (Term.static "SheetFolds$Mender" "POWERS" "[I").eval args s none [] s = some (.ref t) ∧ va_T .int t 9 (fun j => .int (zPow.getD j 0)) A s s.heap := by
  have hs := flat_of_before _ h
  refine va_Tof (by decide) (hs _ (List.mem_of_getElem? (i := 10) rfl)) (va_eqt (hs _ (List.mem_of_getElem? (i := 11) rfl))) (fun j hj => ?_) hA
  match j, hj with
  | 0, _ => exact va_eqt (hs _ (List.mem_of_getElem? (i := 12) rfl))
  | 1, _ => exact va_eqt (hs _ (List.mem_of_getElem? (i := 13) rfl))
  | 2, _ => exact va_eqt (hs _ (List.mem_of_getElem? (i := 14) rfl))
  | 3, _ => exact va_eqt (hs _ (List.mem_of_getElem? (i := 15) rfl))
  | 4, _ => exact va_eqt (hs _ (List.mem_of_getElem? (i := 16) rfl))
  | 5, _ => exact va_eqt (hs _ (List.mem_of_getElem? (i := 17) rfl))
  | 6, _ => exact va_eqt (hs _ (List.mem_of_getElem? (i := 18) rfl))
  | 7, _ => exact va_eqt (hs _ (List.mem_of_getElem? (i := 19) rfl))
  | 8, _ => exact va_eqt (hs _ (List.mem_of_getElem? (i := 20) rfl))
  | k + 9, h => exact absurd h (by omega)
set_option maxRecDepth 100000 in
theorem z_cs {args : Array Value} {s : State} (h : (Jvm.Cond.and given_1 narrow_1).before args s = true) : (Term.static "java/lang/String" "COMPACT_STRINGS" "Z").eval args s none [] s = some (.int 1) := va_eqi (flat_of_before _ h _ (List.mem_of_getElem? (i := 4) rfl))
set_option maxRecDepth 100000 in
theorem z_si {args : Array Value} {s : State} (h : (Jvm.Cond.and given_1 narrow_1).before args s = true) : (Cond.isRef (.static "jdk/internal/util/Preconditions" "SIOOBE_FORMATTER" "Ljava/util/function/BiFunction;")).before args s = true := flat_of_before _ h _ (List.mem_of_getElem? (i := 5) rfl)
theorem z_arr {args : Array Value} {s : State} {ty : FieldType} (h : (Cond.arrayClass ty).before args s = true) : ∃ cA : ClassId, ArrOfT s cA ty ∧ s.vm.findClass ("[" ++ ty.toString) = some cA := by
  obtain ⟨cA, kA, comp, h1, h2, h3⟩ := Cond.arrayClass_spec h
  exact ⟨cA, fun n z => ⟨fun k h => (by cases h), kA, h2, comp, h3⟩, h1⟩
theorem z_nw {args : Array Value} {s : State} (hts : ∀ w ∈ lw_tbl, w.before args s = true) : zNW s := by
  intro w hw hn
  refine va_Nw.of ?_ (hts w hw)
  cases w <;> first | rfl | cases hn
set_option maxRecDepth 100000 in
theorem z_sr {args : Array Value} {s : State} (hts : ∀ w ∈ lw_tbl, w.before args s = true) : ∀ i : Nat, i < 19 → (Cond.stringRef RX6 (zSp.getD i 0) (zSt.getD i "")).before args s = true := fun i hi => by
  match i, hi with
  | 0, _ => exact hts _ (zt2 (List.mem_of_getElem? (i := 156) rfl))
  | 1, _ => exact hts _ (zt2 (List.mem_of_getElem? (i := 232) rfl))
  | 2, _ => exact hts _ (zt3 (List.mem_of_getElem? (i := 0) rfl))
  | 3, _ => exact hts _ (zt3 (List.mem_of_getElem? (i := 9) rfl))
  | 4, _ => exact hts _ (zt3 (List.mem_of_getElem? (i := 10) rfl))
  | 5, _ => exact hts _ (zt3 (List.mem_of_getElem? (i := 15) rfl))
  | 6, _ => exact hts _ (zt3 (List.mem_of_getElem? (i := 20) rfl))
  | 7, _ => exact hts _ (zt3 (List.mem_of_getElem? (i := 37) rfl))
  | 8, _ => exact hts _ (zt3 (List.mem_of_getElem? (i := 42) rfl))
  | 9, _ => exact hts _ (zt3 (List.mem_of_getElem? (i := 51) rfl))
  | 10, _ => exact hts _ (zt3 (List.mem_of_getElem? (i := 52) rfl))
  | 11, _ => exact hts _ (zt3 (List.mem_of_getElem? (i := 53) rfl))
  | 12, _ => exact hts _ (zt3 (List.mem_of_getElem? (i := 54) rfl))
  | 13, _ => exact hts _ (zt3 (List.mem_of_getElem? (i := 59) rfl))
  | 14, _ => exact hts _ (zt3 (List.mem_of_getElem? (i := 60) rfl))
  | 15, _ => exact hts _ (zt3 (List.mem_of_getElem? (i := 84) rfl))
  | 16, _ => exact hts _ (zt3 (List.mem_of_getElem? (i := 89) rfl))
  | 17, _ => exact hts _ (zt3 (List.mem_of_getElem? (i := 90) rfl))
  | 18, _ => exact hts _ (zt3 (List.mem_of_getElem? (i := 94) rfl))
  | k + 19, h => exact absurd h (by omega)
/-- the context stands at the law's entry -/
theorem z_start {args : Array Value} {s : State} (hts : ∀ w ∈ lw_tbl, w.before args s = true) (h : (Jvm.Cond.and given_1 narrow_1).before args s = true) : ∃ g : zL, zX g (fun q : Nat => s.heap.size ≤ q) s s.heap := by
  have hA : ∀ a : Nat, a < s.heap.size → ¬ (fun q : Nat => s.heap.size ≤ q) a := fun a ha => Nat.not_le.mpr ha
  have hG : ∀ w ∈ zG, w.before args s = true := fun w hw => hts w (zG_tbl hw)
  obtain ⟨c0, i0, hk0⟩ := u_known (C := RX0) (T := TX0) (N := 3) (n := 3) hG iX0 (hG _ wob_X0)
  obtain ⟨c1, i1, hk1⟩ := u_known (C := RX1) (T := TX1) (N := 3) (n := 3) hG iX1 (hG _ wob_X1)
  obtain ⟨c2, i2, hk2⟩ := u_known (C := RX2) (T := TX2) (N := 3) (n := 3) hG iX2 (hG _ wob_X2)
  obtain ⟨c3, i3, hk3⟩ := u_known (C := RX3) (T := TX3) (N := 13) (n := 13) hG iX3 (hG _ wob_X3)
  obtain ⟨c4, i4, hk4⟩ := u_known (C := RX4) (T := TX4) (N := 16) (n := 16) hG iX4 (hG _ wob_X4)
  obtain ⟨c5, i5, hk5⟩ := u_known (C := RX5) (T := TX5) (N := 8) (n := 8) hG iX5 (hG _ wob_X5)
  obtain ⟨c6, i6, hk6⟩ := u_known (C := RX6) (T := TX6) (N := 7) (n := 7) hG iX6 (hG _ wob_X6)
  obtain ⟨c7, i7, hk7⟩ := u_known (C := RX7) (T := TX7) (N := 2) (n := 2) hG iX7 (hG _ wob_X7)
  obtain ⟨c8, i8, hk8⟩ := u_known (C := RX8) (T := TX8) (N := 14) (n := 14) hG iX8 (hG _ wob_X8)
  obtain ⟨c9, i9, hk9⟩ := u_known (C := RX9) (T := TX9) (N := 37) (n := 37) hG iX9 (hG _ wob_X9)
  obtain ⟨cyI, aI, nI_⟩ := z_arr (hG _ war_int)
  obtain ⟨cyB, aB, nB_⟩ := z_arr (hG _ war_byte)
  obtain ⟨cyZ, aZ, nZ_⟩ := z_arr (hG _ war_boolean)
  obtain ⟨adK, adV, hVS, had⟩ := vk_Sof (N := 19) (tm := zTm) (len := zSl) (byt := zSb) (A := fun q : Nat => s.heap.size ≤ q) (fun i hi => by
    match i, hi with
    | 0, _ => exact by decide
    | 1, _ => exact by decide
    | 2, _ => exact by decide
    | 3, _ => exact by decide
    | 4, _ => exact by decide
    | 5, _ => exact by decide
    | 6, _ => exact by decide
    | 7, _ => exact by decide
    | 8, _ => exact by decide
    | 9, _ => exact by decide
    | 10, _ => exact by decide
    | 11, _ => exact by decide
    | 12, _ => exact by decide
    | 13, _ => exact by decide
    | 14, _ => exact by decide
    | 15, _ => exact by decide
    | 16, _ => exact by decide
    | 17, _ => exact by decide
    | 18, _ => exact by decide
    | k + 19, h => exact absurd h (by omega)) (z_ex h) (z_co h) (z_ar h) (z_le h) (z_el h) (z_ne h) hA
  obtain ⟨adP, hpw, hpT⟩ := zS_pw h hA
  refine ⟨((fun k => if k = 0 then c0 else if k = 1 then c1 else if k = 2 then c2 else if k = 3 then c3 else if k = 4 then c4 else if k = 5 then c5 else if k = 6 then c6 else if k = 7 then c7 else if k = 8 then c8 else c9, fun k => if k = 0 then i0 else if k = 1 then i1 else if k = 2 then i2 else if k = 3 then i3 else if k = 4 then i4 else if k = 5 then i5 else if k = 6 then i6 else if k = 7 then i7 else if k = 8 then i8 else i9), (cyI, cyB, cyZ), adK, adV, adP), ⟨?_, ?_⟩, z_nw hts, fun i hi => vk_R.of (z_sr hts i hi) (had i hi), hVS, va_Zof (hts _ (zt2 (List.mem_of_getElem? (i := 193) rfl))) (hG _ wini_J0) (z_cs h) hA, va_Zof (hts _ (zt5 (List.mem_of_getElem? (i := 71) rfl))) (hG _ wini_X2) hpw hA, hpT, va_Zqof (hts _ (zt2 (List.mem_of_getElem? (i := 209) rfl))) (hG _ wini_J3) (z_si h) hA⟩
  · intro k q hq
    match k, hq with
    | 0, hq => cases hq; exact hk0
    | 1, hq => cases hq; exact hk1
    | 2, hq => cases hq; exact hk2
    | 3, hq => cases hq; exact hk3
    | 4, hq => cases hq; exact hk4
    | 5, hq => cases hq; exact hk5
    | 6, hq => cases hq; exact hk6
    | 7, hq => cases hq; exact hk7
    | 8, hq => cases hq; exact hk8
    | 9, hq => cases hq; exact hk9
    | k + 10, hq => simp [vwCl] at hq
  · intro k q hq
    match k, hq with
    | 0, hq => cases hq; exact ⟨aI, nI_⟩
    | 1, hq => cases hq; exact ⟨aB, nB_⟩
    | 2, hq => cases hq; exact ⟨aZ, nZ_⟩
    | k + 3, hq => simp [zTy] at hq
