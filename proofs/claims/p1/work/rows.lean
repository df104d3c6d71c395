section
-- ===== PART A: goes FIRST, ahead of the names: the tables' words, and 'selects' of the private methods out of them =====
/-- a private method of a class that the tables say can be made, by its rows of tables_1 -/
def lw_okq (q : MethodName × Nat) : Prop := (q.1.cls ≠ "java/lang/invoke/MethodHandle" ∧ q.1.cls ≠ "java/lang/invoke/VarHandle") ∧ Cond.instantiable q.1.cls q.2 ∈ tables_1 ∧ Cond.privateMethod q.1 ∈ tables_1 ∧ Cond.instanceMethod q.1 ∈ tables_1
theorem lw_p0 : lw_okq (⟨"SheetFolds$Tape", "hasRoom", "()Z"⟩, 2) := ⟨⟨by decide +kernel, by decide +kernel⟩, List.mem_of_getElem? (i := 28) (by decide +kernel), List.mem_of_getElem? (i := 354) (by decide +kernel), List.mem_of_getElem? (i := 355) (by decide +kernel)⟩
theorem lw_p1 : lw_okq (⟨"SheetFolds", "refuse", "(I)I"⟩, 14) := ⟨⟨by decide +kernel, by decide +kernel⟩, List.mem_of_getElem? (i := 20) (by decide +kernel), List.mem_of_getElem? (i := 358) (by decide +kernel), List.mem_of_getElem? (i := 359) (by decide +kernel)⟩
theorem lw_p2 : lw_okq (⟨"SheetFolds$Tape", "put", "(I)V"⟩, 2) := ⟨⟨by decide +kernel, by decide +kernel⟩, List.mem_of_getElem? (i := 28) (by decide +kernel), List.mem_of_getElem? (i := 362) (by decide +kernel), List.mem_of_getElem? (i := 363) (by decide +kernel)⟩
theorem lw_p3 : lw_okq (⟨"SheetFolds", "deny", "(I)Z"⟩, 14) := ⟨⟨by decide +kernel, by decide +kernel⟩, List.mem_of_getElem? (i := 20) (by decide +kernel), List.mem_of_getElem? (i := 370) (by decide +kernel), List.mem_of_getElem? (i := 371) (by decide +kernel)⟩
theorem lw_p4 : lw_okq (⟨"SheetFolds$Reader", "read", "(LSheetFolds$Part;)V"⟩, 7) := ⟨⟨by decide +kernel, by decide +kernel⟩, List.mem_of_getElem? (i := 45) (by decide +kernel), List.mem_of_getElem? (i := 378) (by decide +kernel), List.mem_of_getElem? (i := 379) (by decide +kernel)⟩
theorem lw_p5 : lw_okq (⟨"SheetFolds$Reader", "begin", "(LSheetFolds$Part;)V"⟩, 7) := ⟨⟨by decide +kernel, by decide +kernel⟩, List.mem_of_getElem? (i := 45) (by decide +kernel), List.mem_of_getElem? (i := 382) (by decide +kernel), List.mem_of_getElem? (i := 383) (by decide +kernel)⟩
theorem lw_p6 : lw_okq (⟨"SheetFolds$Part", "clear", "()V"⟩, 16) := ⟨⟨by decide +kernel, by decide +kernel⟩, List.mem_of_getElem? (i := 203) (by decide +kernel), List.mem_of_getElem? (i := 386) (by decide +kernel), List.mem_of_getElem? (i := 387) (by decide +kernel)⟩
theorem lw_p7 : lw_okq (⟨"SheetFolds$Reader", "readSheet", "()V"⟩, 7) := ⟨⟨by decide +kernel, by decide +kernel⟩, List.mem_of_getElem? (i := 45) (by decide +kernel), List.mem_of_getElem? (i := 393) (by decide +kernel), List.mem_of_getElem? (i := 394) (by decide +kernel)⟩
theorem lw_p8 : lw_okq (⟨"SheetFolds$Reader", "keyword", "(Ljava/lang/String;)V"⟩, 7) := ⟨⟨by decide +kernel, by decide +kernel⟩, List.mem_of_getElem? (i := 45) (by decide +kernel), List.mem_of_getElem? (i := 398) (by decide +kernel), List.mem_of_getElem? (i := 399) (by decide +kernel)⟩
theorem lw_p9 : lw_okq (⟨"SheetFolds$Reader", "readWord", "()V"⟩, 7) := ⟨⟨by decide +kernel, by decide +kernel⟩, List.mem_of_getElem? (i := 45) (by decide +kernel), List.mem_of_getElem? (i := 402) (by decide +kernel), List.mem_of_getElem? (i := 403) (by decide +kernel)⟩
theorem lw_p10 : lw_okq (⟨"SheetFolds$Reader", "skipBlanks", "()V"⟩, 7) := ⟨⟨by decide +kernel, by decide +kernel⟩, List.mem_of_getElem? (i := 45) (by decide +kernel), List.mem_of_getElem? (i := 406) (by decide +kernel), List.mem_of_getElem? (i := 407) (by decide +kernel)⟩
theorem lw_p11 : lw_okq (⟨"SheetFolds$Tape", "at", "(I)I"⟩, 2) := ⟨⟨by decide +kernel, by decide +kernel⟩, List.mem_of_getElem? (i := 28) (by decide +kernel), List.mem_of_getElem? (i := 410) (by decide +kernel), List.mem_of_getElem? (i := 411) (by decide +kernel)⟩
theorem lw_p12 : lw_okq (⟨"SheetFolds$Reader", "fail", "(II)V"⟩, 7) := ⟨⟨by decide +kernel, by decide +kernel⟩, List.mem_of_getElem? (i := 45) (by decide +kernel), List.mem_of_getElem? (i := 417) (by decide +kernel), List.mem_of_getElem? (i := 418) (by decide +kernel)⟩
theorem lw_p13 : lw_okq (⟨"SheetFolds$Reader", "wordIs", "(Ljava/lang/String;)Z"⟩, 7) := ⟨⟨by decide +kernel, by decide +kernel⟩, List.mem_of_getElem? (i := 45) (by decide +kernel), List.mem_of_getElem? (i := 421) (by decide +kernel), List.mem_of_getElem? (i := 422) (by decide +kernel)⟩
theorem lw_p14 : lw_okq (⟨"SheetFolds$Reader", "number", "(II)I"⟩, 7) := ⟨⟨by decide +kernel, by decide +kernel⟩, List.mem_of_getElem? (i := 45) (by decide +kernel), List.mem_of_getElem? (i := 474) (by decide +kernel), List.mem_of_getElem? (i := 475) (by decide +kernel)⟩
theorem lw_p15 : lw_okq (⟨"SheetFolds$Reader", "semicolon", "()V"⟩, 7) := ⟨⟨by decide +kernel, by decide +kernel⟩, List.mem_of_getElem? (i := 45) (by decide +kernel), List.mem_of_getElem? (i := 482) (by decide +kernel), List.mem_of_getElem? (i := 483) (by decide +kernel)⟩
def lw_privs_1 : List (MethodName × Nat) := [(⟨"SheetFolds$Tape", "hasRoom", "()Z"⟩, 2), (⟨"SheetFolds", "refuse", "(I)I"⟩, 14), (⟨"SheetFolds$Tape", "put", "(I)V"⟩, 2), (⟨"SheetFolds", "deny", "(I)Z"⟩, 14), (⟨"SheetFolds$Reader", "read", "(LSheetFolds$Part;)V"⟩, 7), (⟨"SheetFolds$Reader", "begin", "(LSheetFolds$Part;)V"⟩, 7), (⟨"SheetFolds$Part", "clear", "()V"⟩, 16), (⟨"SheetFolds$Reader", "readSheet", "()V"⟩, 7), (⟨"SheetFolds$Reader", "keyword", "(Ljava/lang/String;)V"⟩, 7), (⟨"SheetFolds$Reader", "readWord", "()V"⟩, 7), (⟨"SheetFolds$Reader", "skipBlanks", "()V"⟩, 7), (⟨"SheetFolds$Tape", "at", "(I)I"⟩, 2), (⟨"SheetFolds$Reader", "fail", "(II)V"⟩, 7), (⟨"SheetFolds$Reader", "wordIs", "(Ljava/lang/String;)Z"⟩, 7), (⟨"SheetFolds$Reader", "number", "(II)I"⟩, 7), (⟨"SheetFolds$Reader", "semicolon", "()V"⟩, 7)]
theorem lw_r1 : ∀ q ∈ lw_privs_1, lw_okq q := List.forall_mem_cons.mpr ⟨lw_p0, List.forall_mem_cons.mpr ⟨lw_p1, List.forall_mem_cons.mpr ⟨lw_p2, List.forall_mem_cons.mpr ⟨lw_p3, List.forall_mem_cons.mpr ⟨lw_p4, List.forall_mem_cons.mpr ⟨lw_p5, List.forall_mem_cons.mpr ⟨lw_p6, List.forall_mem_cons.mpr ⟨lw_p7, List.forall_mem_cons.mpr ⟨lw_p8, List.forall_mem_cons.mpr ⟨lw_p9, List.forall_mem_cons.mpr ⟨lw_p10, List.forall_mem_cons.mpr ⟨lw_p11, List.forall_mem_cons.mpr ⟨lw_p12, List.forall_mem_cons.mpr ⟨lw_p13, List.forall_mem_cons.mpr ⟨lw_p14, List.forall_mem_cons.mpr ⟨lw_p15, fun _ h => absurd h List.not_mem_nil⟩⟩⟩⟩⟩⟩⟩⟩⟩⟩⟩⟩⟩⟩⟩⟩
theorem lw_p16 : lw_okq (⟨"SheetFolds$Reader", "moreText", "()Z"⟩, 7) := ⟨⟨by decide +kernel, by decide +kernel⟩, List.mem_of_getElem? (i := 45) (by decide +kernel), List.mem_of_getElem? (i := 486) (by decide +kernel), List.mem_of_getElem? (i := 487) (by decide +kernel)⟩
theorem lw_p17 : lw_okq (⟨"SheetFolds$Reader", "readTool", "()V"⟩, 7) := ⟨⟨by decide +kernel, by decide +kernel⟩, List.mem_of_getElem? (i := 45) (by decide +kernel), List.mem_of_getElem? (i := 492) (by decide +kernel), List.mem_of_getElem? (i := 493) (by decide +kernel)⟩
theorem lw_p18 : lw_okq (⟨"SheetFolds$Reader", "readAllow", "()V"⟩, 7) := ⟨⟨by decide +kernel, by decide +kernel⟩, List.mem_of_getElem? (i := 45) (by decide +kernel), List.mem_of_getElem? (i := 497) (by decide +kernel), List.mem_of_getElem? (i := 498) (by decide +kernel)⟩
theorem lw_p19 : lw_okq (⟨"SheetFolds$Reader", "readFlange", "()V"⟩, 7) := ⟨⟨by decide +kernel, by decide +kernel⟩, List.mem_of_getElem? (i := 45) (by decide +kernel), List.mem_of_getElem? (i := 502) (by decide +kernel), List.mem_of_getElem? (i := 503) (by decide +kernel)⟩
theorem lw_p20 : lw_okq (⟨"SheetFolds$Reader", "newName", "()I"⟩, 7) := ⟨⟨by decide +kernel, by decide +kernel⟩, List.mem_of_getElem? (i := 45) (by decide +kernel), List.mem_of_getElem? (i := 506) (by decide +kernel), List.mem_of_getElem? (i := 507) (by decide +kernel)⟩
theorem lw_p21 : lw_okq (⟨"SheetFolds$Reader", "name", "()I"⟩, 7) := ⟨⟨by decide +kernel, by decide +kernel⟩, List.mem_of_getElem? (i := 45) (by decide +kernel), List.mem_of_getElem? (i := 510) (by decide +kernel), List.mem_of_getElem? (i := 511) (by decide +kernel)⟩
theorem lw_p22 : lw_okq (⟨"SheetFolds$Reader", "isOwnWord", "()Z"⟩, 7) := ⟨⟨by decide +kernel, by decide +kernel⟩, List.mem_of_getElem? (i := 45) (by decide +kernel), List.mem_of_getElem? (i := 514) (by decide +kernel), List.mem_of_getElem? (i := 515) (by decide +kernel)⟩
theorem lw_p23 : lw_okq (⟨"SheetFolds$Reader", "find", "(I)I"⟩, 7) := ⟨⟨by decide +kernel, by decide +kernel⟩, List.mem_of_getElem? (i := 45) (by decide +kernel), List.mem_of_getElem? (i := 519) (by decide +kernel), List.mem_of_getElem? (i := 520) (by decide +kernel)⟩
theorem lw_p24 : lw_okq (⟨"SheetFolds$Reader", "where", "()I"⟩, 7) := ⟨⟨by decide +kernel, by decide +kernel⟩, List.mem_of_getElem? (i := 45) (by decide +kernel), List.mem_of_getElem? (i := 524) (by decide +kernel), List.mem_of_getElem? (i := 525) (by decide +kernel)⟩
theorem lw_p25 : lw_okq (⟨"SheetFolds$Reader", "sideOf", "(I)I"⟩, 7) := ⟨⟨by decide +kernel, by decide +kernel⟩, List.mem_of_getElem? (i := 45) (by decide +kernel), List.mem_of_getElem? (i := 528) (by decide +kernel), List.mem_of_getElem? (i := 529) (by decide +kernel)⟩
theorem lw_p26 : lw_okq (⟨"SheetFolds$Part", "hangsBy", "(II)Z"⟩, 16) := ⟨⟨by decide +kernel, by decide +kernel⟩, List.mem_of_getElem? (i := 203) (by decide +kernel), List.mem_of_getElem? (i := 536) (by decide +kernel), List.mem_of_getElem? (i := 537) (by decide +kernel)⟩
theorem lw_p27 : lw_okq (⟨"SheetFolds$Reader", "checkWidth", "(I)V"⟩, 7) := ⟨⟨by decide +kernel, by decide +kernel⟩, List.mem_of_getElem? (i := 45) (by decide +kernel), List.mem_of_getElem? (i := 542) (by decide +kernel), List.mem_of_getElem? (i := 543) (by decide +kernel)⟩
theorem lw_p28 : lw_okq (⟨"SheetFolds$Part", "sideLength", "(II)I"⟩, 16) := ⟨⟨by decide +kernel, by decide +kernel⟩, List.mem_of_getElem? (i := 203) (by decide +kernel), List.mem_of_getElem? (i := 546) (by decide +kernel), List.mem_of_getElem? (i := 547) (by decide +kernel)⟩
theorem lw_p29 : lw_okq (⟨"SheetFolds$Part", "sizeX", "(I)I"⟩, 16) := ⟨⟨by decide +kernel, by decide +kernel⟩, List.mem_of_getElem? (i := 203) (by decide +kernel), List.mem_of_getElem? (i := 553) (by decide +kernel), List.mem_of_getElem? (i := 554) (by decide +kernel)⟩
theorem lw_p30 : lw_okq (⟨"SheetFolds$Part", "sizeY", "(I)I"⟩, 16) := ⟨⟨by decide +kernel, by decide +kernel⟩, List.mem_of_getElem? (i := 203) (by decide +kernel), List.mem_of_getElem? (i := 557) (by decide +kernel), List.mem_of_getElem? (i := 558) (by decide +kernel)⟩
theorem lw_p31 : lw_okq (⟨"SheetFolds$Part", "sharesSide", "(II)Z"⟩, 16) := ⟨⟨by decide +kernel, by decide +kernel⟩, List.mem_of_getElem? (i := 203) (by decide +kernel), List.mem_of_getElem? (i := 561) (by decide +kernel), List.mem_of_getElem? (i := 562) (by decide +kernel)⟩
def lw_privs_2 : List (MethodName × Nat) := [(⟨"SheetFolds$Reader", "moreText", "()Z"⟩, 7), (⟨"SheetFolds$Reader", "readTool", "()V"⟩, 7), (⟨"SheetFolds$Reader", "readAllow", "()V"⟩, 7), (⟨"SheetFolds$Reader", "readFlange", "()V"⟩, 7), (⟨"SheetFolds$Reader", "newName", "()I"⟩, 7), (⟨"SheetFolds$Reader", "name", "()I"⟩, 7), (⟨"SheetFolds$Reader", "isOwnWord", "()Z"⟩, 7), (⟨"SheetFolds$Reader", "find", "(I)I"⟩, 7), (⟨"SheetFolds$Reader", "where", "()I"⟩, 7), (⟨"SheetFolds$Reader", "sideOf", "(I)I"⟩, 7), (⟨"SheetFolds$Part", "hangsBy", "(II)Z"⟩, 16), (⟨"SheetFolds$Reader", "checkWidth", "(I)V"⟩, 7), (⟨"SheetFolds$Part", "sideLength", "(II)I"⟩, 16), (⟨"SheetFolds$Part", "sizeX", "(I)I"⟩, 16), (⟨"SheetFolds$Part", "sizeY", "(I)I"⟩, 16), (⟨"SheetFolds$Part", "sharesSide", "(II)Z"⟩, 16)]
theorem lw_r2 : ∀ q ∈ lw_privs_2, lw_okq q := List.forall_mem_cons.mpr ⟨lw_p16, List.forall_mem_cons.mpr ⟨lw_p17, List.forall_mem_cons.mpr ⟨lw_p18, List.forall_mem_cons.mpr ⟨lw_p19, List.forall_mem_cons.mpr ⟨lw_p20, List.forall_mem_cons.mpr ⟨lw_p21, List.forall_mem_cons.mpr ⟨lw_p22, List.forall_mem_cons.mpr ⟨lw_p23, List.forall_mem_cons.mpr ⟨lw_p24, List.forall_mem_cons.mpr ⟨lw_p25, List.forall_mem_cons.mpr ⟨lw_p26, List.forall_mem_cons.mpr ⟨lw_p27, List.forall_mem_cons.mpr ⟨lw_p28, List.forall_mem_cons.mpr ⟨lw_p29, List.forall_mem_cons.mpr ⟨lw_p30, List.forall_mem_cons.mpr ⟨lw_p31, fun _ h => absurd h List.not_mem_nil⟩⟩⟩⟩⟩⟩⟩⟩⟩⟩⟩⟩⟩⟩⟩⟩
theorem lw_p32 : lw_okq (⟨"SheetFolds$Reader", "isUp", "()Z"⟩, 7) := ⟨⟨by decide +kernel, by decide +kernel⟩, List.mem_of_getElem? (i := 45) (by decide +kernel), List.mem_of_getElem? (i := 566) (by decide +kernel), List.mem_of_getElem? (i := 567) (by decide +kernel)⟩
theorem lw_p33 : lw_okq (⟨"SheetFolds$Part", "chooseTools", "()V"⟩, 16) := ⟨⟨by decide +kernel, by decide +kernel⟩, List.mem_of_getElem? (i := 203) (by decide +kernel), List.mem_of_getElem? (i := 576) (by decide +kernel), List.mem_of_getElem? (i := 577) (by decide +kernel)⟩
theorem lw_p34 : lw_okq (⟨"SheetFolds$Part", "widthOfTools", "(I)I"⟩, 16) := ⟨⟨by decide +kernel, by decide +kernel⟩, List.mem_of_getElem? (i := 203) (by decide +kernel), List.mem_of_getElem? (i := 580) (by decide +kernel), List.mem_of_getElem? (i := 581) (by decide +kernel)⟩
theorem lw_p35 : lw_okq (⟨"SheetFolds$Part", "offerTools", "(II)V"⟩, 16) := ⟨⟨by decide +kernel, by decide +kernel⟩, List.mem_of_getElem? (i := 203) (by decide +kernel), List.mem_of_getElem? (i := 584) (by decide +kernel), List.mem_of_getElem? (i := 585) (by decide +kernel)⟩
theorem lw_p36 : lw_okq (⟨"SheetFolds", "partChanged", "()V"⟩, 14) := ⟨⟨by decide +kernel, by decide +kernel⟩, List.mem_of_getElem? (i := 20) (by decide +kernel), List.mem_of_getElem? (i := 594) (by decide +kernel), List.mem_of_getElem? (i := 595) (by decide +kernel)⟩
theorem lw_p37 : lw_okq (⟨"SheetFolds$Part", "isFlange", "(I)Z"⟩, 16) := ⟨⟨by decide +kernel, by decide +kernel⟩, List.mem_of_getElem? (i := 203) (by decide +kernel), List.mem_of_getElem? (i := 610) (by decide +kernel), List.mem_of_getElem? (i := 611) (by decide +kernel)⟩
theorem lw_p38 : lw_okq (⟨"SheetFolds$Part", "isBend", "(I)Z"⟩, 16) := ⟨⟨by decide +kernel, by decide +kernel⟩, List.mem_of_getElem? (i := 203) (by decide +kernel), List.mem_of_getElem? (i := 618) (by decide +kernel), List.mem_of_getElem? (i := 619) (by decide +kernel)⟩
theorem lw_p39 : lw_okq (⟨"SheetFolds$Part", "countHangers", "(I)I"⟩, 16) := ⟨⟨by decide +kernel, by decide +kernel⟩, List.mem_of_getElem? (i := 203) (by decide +kernel), List.mem_of_getElem? (i := 626) (by decide +kernel), List.mem_of_getElem? (i := 627) (by decide +kernel)⟩
theorem lw_p40 : lw_okq (⟨"SheetFolds$Part", "hangsOn", "(II)Z"⟩, 16) := ⟨⟨by decide +kernel, by decide +kernel⟩, List.mem_of_getElem? (i := 203) (by decide +kernel), List.mem_of_getElem? (i := 630) (by decide +kernel), List.mem_of_getElem? (i := 631) (by decide +kernel)⟩
theorem lw_p41 : lw_okq (⟨"SheetFolds$Part", "depth", "(I)I"⟩, 16) := ⟨⟨by decide +kernel, by decide +kernel⟩, List.mem_of_getElem? (i := 203) (by decide +kernel), List.mem_of_getElem? (i := 634) (by decide +kernel), List.mem_of_getElem? (i := 635) (by decide +kernel)⟩
theorem lw_p42 : lw_okq (⟨"SheetFolds$Part", "lengthOf", "(I)I"⟩, 16) := ⟨⟨by decide +kernel, by decide +kernel⟩, List.mem_of_getElem? (i := 203) (by decide +kernel), List.mem_of_getElem? (i := 638) (by decide +kernel), List.mem_of_getElem? (i := 639) (by decide +kernel)⟩
theorem lw_p43 : lw_okq (⟨"SheetFolds$Part", "zoneOf", "(I)I"⟩, 16) := ⟨⟨by decide +kernel, by decide +kernel⟩, List.mem_of_getElem? (i := 203) (by decide +kernel), List.mem_of_getElem? (i := 642) (by decide +kernel), List.mem_of_getElem? (i := 643) (by decide +kernel)⟩
theorem lw_p44 : lw_okq (⟨"SheetFolds$Part", "allowanceOf", "(I)I"⟩, 16) := ⟨⟨by decide +kernel, by decide +kernel⟩, List.mem_of_getElem? (i := 203) (by decide +kernel), List.mem_of_getElem? (i := 646) (by decide +kernel), List.mem_of_getElem? (i := 647) (by decide +kernel)⟩
theorem lw_p45 : lw_okq (⟨"SheetFolds$Part", "isThere", "()Z"⟩, 16) := ⟨⟨by decide +kernel, by decide +kernel⟩, List.mem_of_getElem? (i := 203) (by decide +kernel), List.mem_of_getElem? (i := 658) (by decide +kernel), List.mem_of_getElem? (i := 659) (by decide +kernel)⟩
theorem lw_p46 : lw_okq (⟨"SheetFolds$Part", "isPiece", "(I)Z"⟩, 16) := ⟨⟨by decide +kernel, by decide +kernel⟩, List.mem_of_getElem? (i := 203) (by decide +kernel), List.mem_of_getElem? (i := 670) (by decide +kernel), List.mem_of_getElem? (i := 671) (by decide +kernel)⟩
theorem lw_p47 : lw_okq (⟨"SheetFolds$Pose", "placeFlat", "(LSheetFolds$Part;)V"⟩, 8) := ⟨⟨by decide +kernel, by decide +kernel⟩, List.mem_of_getElem? (i := 75) (by decide +kernel), List.mem_of_getElem? (i := 677) (by decide +kernel), List.mem_of_getElem? (i := 678) (by decide +kernel)⟩
def lw_privs_3 : List (MethodName × Nat) := [(⟨"SheetFolds$Reader", "isUp", "()Z"⟩, 7), (⟨"SheetFolds$Part", "chooseTools", "()V"⟩, 16), (⟨"SheetFolds$Part", "widthOfTools", "(I)I"⟩, 16), (⟨"SheetFolds$Part", "offerTools", "(II)V"⟩, 16), (⟨"SheetFolds", "partChanged", "()V"⟩, 14), (⟨"SheetFolds$Part", "isFlange", "(I)Z"⟩, 16), (⟨"SheetFolds$Part", "isBend", "(I)Z"⟩, 16), (⟨"SheetFolds$Part", "countHangers", "(I)I"⟩, 16), (⟨"SheetFolds$Part", "hangsOn", "(II)Z"⟩, 16), (⟨"SheetFolds$Part", "depth", "(I)I"⟩, 16), (⟨"SheetFolds$Part", "lengthOf", "(I)I"⟩, 16), (⟨"SheetFolds$Part", "zoneOf", "(I)I"⟩, 16), (⟨"SheetFolds$Part", "allowanceOf", "(I)I"⟩, 16), (⟨"SheetFolds$Part", "isThere", "()Z"⟩, 16), (⟨"SheetFolds$Part", "isPiece", "(I)Z"⟩, 16), (⟨"SheetFolds$Pose", "placeFlat", "(LSheetFolds$Part;)V"⟩, 8)]
theorem lw_r3 : ∀ q ∈ lw_privs_3, lw_okq q := List.forall_mem_cons.mpr ⟨lw_p32, List.forall_mem_cons.mpr ⟨lw_p33, List.forall_mem_cons.mpr ⟨lw_p34, List.forall_mem_cons.mpr ⟨lw_p35, List.forall_mem_cons.mpr ⟨lw_p36, List.forall_mem_cons.mpr ⟨lw_p37, List.forall_mem_cons.mpr ⟨lw_p38, List.forall_mem_cons.mpr ⟨lw_p39, List.forall_mem_cons.mpr ⟨lw_p40, List.forall_mem_cons.mpr ⟨lw_p41, List.forall_mem_cons.mpr ⟨lw_p42, List.forall_mem_cons.mpr ⟨lw_p43, List.forall_mem_cons.mpr ⟨lw_p44, List.forall_mem_cons.mpr ⟨lw_p45, List.forall_mem_cons.mpr ⟨lw_p46, List.forall_mem_cons.mpr ⟨lw_p47, fun _ h => absurd h List.not_mem_nil⟩⟩⟩⟩⟩⟩⟩⟩⟩⟩⟩⟩⟩⟩⟩⟩
theorem lw_p48 : lw_okq (⟨"SheetFolds$Pose", "place", "(LSheetFolds$Part;II)V"⟩, 8) := ⟨⟨by decide +kernel, by decide +kernel⟩, List.mem_of_getElem? (i := 75) (by decide +kernel), List.mem_of_getElem? (i := 681) (by decide +kernel), List.mem_of_getElem? (i := 682) (by decide +kernel)⟩
theorem lw_p49 : lw_okq (⟨"SheetFolds$Pose", "placeBase", "(LSheetFolds$Part;)V"⟩, 8) := ⟨⟨by decide +kernel, by decide +kernel⟩, List.mem_of_getElem? (i := 75) (by decide +kernel), List.mem_of_getElem? (i := 685) (by decide +kernel), List.mem_of_getElem? (i := 686) (by decide +kernel)⟩
theorem lw_p50 : lw_okq (⟨"SheetFolds$Pose", "setBox", "(IIIII)V"⟩, 8) := ⟨⟨by decide +kernel, by decide +kernel⟩, List.mem_of_getElem? (i := 75) (by decide +kernel), List.mem_of_getElem? (i := 690) (by decide +kernel), List.mem_of_getElem? (i := 691) (by decide +kernel)⟩
theorem lw_p51 : lw_okq (⟨"SheetFolds$Pose", "goToSide", "(LSheetFolds$Part;I)V"⟩, 8) := ⟨⟨by decide +kernel, by decide +kernel⟩, List.mem_of_getElem? (i := 75) (by decide +kernel), List.mem_of_getElem? (i := 706) (by decide +kernel), List.mem_of_getElem? (i := 707) (by decide +kernel)⟩
theorem lw_p52 : lw_okq (⟨"SheetFolds$Pose", "alongSide", "(II)I"⟩, 8) := ⟨⟨by decide +kernel, by decide +kernel⟩, List.mem_of_getElem? (i := 75) (by decide +kernel), List.mem_of_getElem? (i := 710) (by decide +kernel), List.mem_of_getElem? (i := 711) (by decide +kernel)⟩
theorem lw_p53 : lw_okq (⟨"SheetFolds$Pose", "placeFlange", "(LSheetFolds$Part;IZZ)V"⟩, 8) := ⟨⟨by decide +kernel, by decide +kernel⟩, List.mem_of_getElem? (i := 75) (by decide +kernel), List.mem_of_getElem? (i := 718) (by decide +kernel), List.mem_of_getElem? (i := 719) (by decide +kernel)⟩
theorem lw_p54 : lw_okq (⟨"SheetFolds$Pose", "outward", "(II)I"⟩, 8) := ⟨⟨by decide +kernel, by decide +kernel⟩, List.mem_of_getElem? (i := 75) (by decide +kernel), List.mem_of_getElem? (i := 722) (by decide +kernel), List.mem_of_getElem? (i := 723) (by decide +kernel)⟩
theorem lw_p55 : lw_okq (⟨"SheetFolds$Pose", "lowOf", "(II)I"⟩, 8) := ⟨⟨by decide +kernel, by decide +kernel⟩, List.mem_of_getElem? (i := 75) (by decide +kernel), List.mem_of_getElem? (i := 730) (by decide +kernel), List.mem_of_getElem? (i := 731) (by decide +kernel)⟩
theorem lw_p56 : lw_okq (⟨"SheetFolds$Pose", "highOf", "(II)I"⟩, 8) := ⟨⟨by decide +kernel, by decide +kernel⟩, List.mem_of_getElem? (i := 75) (by decide +kernel), List.mem_of_getElem? (i := 734) (by decide +kernel), List.mem_of_getElem? (i := 735) (by decide +kernel)⟩
theorem lw_p57 : lw_okq (⟨"SheetFolds$Pose", "area", "(LSheetFolds$Part;)I"⟩, 8) := ⟨⟨by decide +kernel, by decide +kernel⟩, List.mem_of_getElem? (i := 75) (by decide +kernel), List.mem_of_getElem? (i := 742) (by decide +kernel), List.mem_of_getElem? (i := 743) (by decide +kernel)⟩
theorem lw_p58 : lw_okq (⟨"SheetFolds$Pose", "leastLow", "(II)I"⟩, 8) := ⟨⟨by decide +kernel, by decide +kernel⟩, List.mem_of_getElem? (i := 75) (by decide +kernel), List.mem_of_getElem? (i := 749) (by decide +kernel), List.mem_of_getElem? (i := 750) (by decide +kernel)⟩
theorem lw_p59 : lw_okq (⟨"SheetFolds$Pose", "mostHigh", "(II)I"⟩, 8) := ⟨⟨by decide +kernel, by decide +kernel⟩, List.mem_of_getElem? (i := 75) (by decide +kernel), List.mem_of_getElem? (i := 753) (by decide +kernel), List.mem_of_getElem? (i := 754) (by decide +kernel)⟩
theorem lw_p60 : lw_okq (⟨"SheetFolds$Pose", "overlaps", "(LSheetFolds$Part;I)I"⟩, 8) := ⟨⟨by decide +kernel, by decide +kernel⟩, List.mem_of_getElem? (i := 75) (by decide +kernel), List.mem_of_getElem? (i := 761) (by decide +kernel), List.mem_of_getElem? (i := 762) (by decide +kernel)⟩
theorem lw_p61 : lw_okq (⟨"SheetFolds$Pose", "share", "(III)Z"⟩, 8) := ⟨⟨by decide +kernel, by decide +kernel⟩, List.mem_of_getElem? (i := 75) (by decide +kernel), List.mem_of_getElem? (i := 765) (by decide +kernel), List.mem_of_getElem? (i := 766) (by decide +kernel)⟩
theorem lw_p62 : lw_okq (⟨"SheetFolds", "placeNow", "()V"⟩, 14) := ⟨⟨by decide +kernel, by decide +kernel⟩, List.mem_of_getElem? (i := 20) (by decide +kernel), List.mem_of_getElem? (i := 773) (by decide +kernel), List.mem_of_getElem? (i := 774) (by decide +kernel)⟩
theorem lw_p63 : lw_okq (⟨"SheetFolds$Pose", "extent", "(II)I"⟩, 8) := ⟨⟨by decide +kernel, by decide +kernel⟩, List.mem_of_getElem? (i := 75) (by decide +kernel), List.mem_of_getElem? (i := 782) (by decide +kernel), List.mem_of_getElem? (i := 783) (by decide +kernel)⟩
def lw_privs_4 : List (MethodName × Nat) := [(⟨"SheetFolds$Pose", "place", "(LSheetFolds$Part;II)V"⟩, 8), (⟨"SheetFolds$Pose", "placeBase", "(LSheetFolds$Part;)V"⟩, 8), (⟨"SheetFolds$Pose", "setBox", "(IIIII)V"⟩, 8), (⟨"SheetFolds$Pose", "goToSide", "(LSheetFolds$Part;I)V"⟩, 8), (⟨"SheetFolds$Pose", "alongSide", "(II)I"⟩, 8), (⟨"SheetFolds$Pose", "placeFlange", "(LSheetFolds$Part;IZZ)V"⟩, 8), (⟨"SheetFolds$Pose", "outward", "(II)I"⟩, 8), (⟨"SheetFolds$Pose", "lowOf", "(II)I"⟩, 8), (⟨"SheetFolds$Pose", "highOf", "(II)I"⟩, 8), (⟨"SheetFolds$Pose", "area", "(LSheetFolds$Part;)I"⟩, 8), (⟨"SheetFolds$Pose", "leastLow", "(II)I"⟩, 8), (⟨"SheetFolds$Pose", "mostHigh", "(II)I"⟩, 8), (⟨"SheetFolds$Pose", "overlaps", "(LSheetFolds$Part;I)I"⟩, 8), (⟨"SheetFolds$Pose", "share", "(III)Z"⟩, 8), (⟨"SheetFolds", "placeNow", "()V"⟩, 14), (⟨"SheetFolds$Pose", "extent", "(II)I"⟩, 8)]
theorem lw_r4 : ∀ q ∈ lw_privs_4, lw_okq q := List.forall_mem_cons.mpr ⟨lw_p48, List.forall_mem_cons.mpr ⟨lw_p49, List.forall_mem_cons.mpr ⟨lw_p50, List.forall_mem_cons.mpr ⟨lw_p51, List.forall_mem_cons.mpr ⟨lw_p52, List.forall_mem_cons.mpr ⟨lw_p53, List.forall_mem_cons.mpr ⟨lw_p54, List.forall_mem_cons.mpr ⟨lw_p55, List.forall_mem_cons.mpr ⟨lw_p56, List.forall_mem_cons.mpr ⟨lw_p57, List.forall_mem_cons.mpr ⟨lw_p58, List.forall_mem_cons.mpr ⟨lw_p59, List.forall_mem_cons.mpr ⟨lw_p60, List.forall_mem_cons.mpr ⟨lw_p61, List.forall_mem_cons.mpr ⟨lw_p62, List.forall_mem_cons.mpr ⟨lw_p63, fun _ h => absurd h List.not_mem_nil⟩⟩⟩⟩⟩⟩⟩⟩⟩⟩⟩⟩⟩⟩⟩⟩
theorem lw_p64 : lw_okq (⟨"SheetFolds$Pose", "gapOf", "(II)I"⟩, 8) := ⟨⟨by decide +kernel, by decide +kernel⟩, List.mem_of_getElem? (i := 75) (by decide +kernel), List.mem_of_getElem? (i := 792) (by decide +kernel), List.mem_of_getElem? (i := 793) (by decide +kernel)⟩
theorem lw_p65 : lw_okq (⟨"SheetFolds$Pose", "signedNormal", "(I)I"⟩, 8) := ⟨⟨by decide +kernel, by decide +kernel⟩, List.mem_of_getElem? (i := 75) (by decide +kernel), List.mem_of_getElem? (i := 800) (by decide +kernel), List.mem_of_getElem? (i := 801) (by decide +kernel)⟩
theorem lw_p66 : lw_okq (⟨"SheetFolds$Part", "isState", "(I)Z"⟩, 16) := ⟨⟨by decide +kernel, by decide +kernel⟩, List.mem_of_getElem? (i := 203) (by decide +kernel), List.mem_of_getElem? (i := 808) (by decide +kernel), List.mem_of_getElem? (i := 809) (by decide +kernel)⟩
theorem lw_p67 : lw_okq (⟨"SheetFolds$Part", "allBends", "()I"⟩, 16) := ⟨⟨by decide +kernel, by decide +kernel⟩, List.mem_of_getElem? (i := 203) (by decide +kernel), List.mem_of_getElem? (i := 813) (by decide +kernel), List.mem_of_getElem? (i := 814) (by decide +kernel)⟩
theorem lw_p68 : lw_okq (⟨"SheetFolds$Pose", "clashes", "(II)I"⟩, 8) := ⟨⟨by decide +kernel, by decide +kernel⟩, List.mem_of_getElem? (i := 75) (by decide +kernel), List.mem_of_getElem? (i := 817) (by decide +kernel), List.mem_of_getElem? (i := 818) (by decide +kernel)⟩
theorem lw_p69 : lw_okq (⟨"SheetFolds$Pose", "doClash", "(II)Z"⟩, 8) := ⟨⟨by decide +kernel, by decide +kernel⟩, List.mem_of_getElem? (i := 75) (by decide +kernel), List.mem_of_getElem? (i := 821) (by decide +kernel), List.mem_of_getElem? (i := 822) (by decide +kernel)⟩
theorem lw_p70 : lw_okq (⟨"SheetFolds$Pose", "isWithin", "(III)Z"⟩, 8) := ⟨⟨by decide +kernel, by decide +kernel⟩, List.mem_of_getElem? (i := 75) (by decide +kernel), List.mem_of_getElem? (i := 825) (by decide +kernel), List.mem_of_getElem? (i := 826) (by decide +kernel)⟩
theorem lw_p71 : lw_okq (⟨"SheetFolds$Pose", "metByPunch", "(LSheetFolds$Part;I)I"⟩, 8) := ⟨⟨by decide +kernel, by decide +kernel⟩, List.mem_of_getElem? (i := 75) (by decide +kernel), List.mem_of_getElem? (i := 833) (by decide +kernel), List.mem_of_getElem? (i := 834) (by decide +kernel)⟩
theorem lw_p72 : lw_okq (⟨"SheetFolds$Pose", "standPunch", "(LSheetFolds$Part;IZI)I"⟩, 8) := ⟨⟨by decide +kernel, by decide +kernel⟩, List.mem_of_getElem? (i := 75) (by decide +kernel), List.mem_of_getElem? (i := 837) (by decide +kernel), List.mem_of_getElem? (i := 838) (by decide +kernel)⟩
theorem lw_p73 : lw_okq (⟨"SheetFolds", "reason", "(II)I"⟩, 14) := ⟨⟨by decide +kernel, by decide +kernel⟩, List.mem_of_getElem? (i := 20) (by decide +kernel), List.mem_of_getElem? (i := 850) (by decide +kernel), List.mem_of_getElem? (i := 851) (by decide +kernel)⟩
theorem lw_p74 : lw_okq (⟨"SheetFolds", "clashesIn", "(I)Z"⟩, 14) := ⟨⟨by decide +kernel, by decide +kernel⟩, List.mem_of_getElem? (i := 20) (by decide +kernel), List.mem_of_getElem? (i := 854) (by decide +kernel), List.mem_of_getElem? (i := 855) (by decide +kernel)⟩
theorem lw_p75 : lw_okq (⟨"SheetFolds", "searchOrders", "()Z"⟩, 14) := ⟨⟨by decide +kernel, by decide +kernel⟩, List.mem_of_getElem? (i := 20) (by decide +kernel), List.mem_of_getElem? (i := 862) (by decide +kernel), List.mem_of_getElem? (i := 863) (by decide +kernel)⟩
theorem lw_p76 : lw_okq (⟨"SheetFolds$Orders", "measureRooms", "(LSheetFolds$Pose;LSheetFolds$Part;I)V"⟩, 13) := ⟨⟨by decide +kernel, by decide +kernel⟩, List.mem_of_getElem? (i := 107) (by decide +kernel), List.mem_of_getElem? (i := 866) (by decide +kernel), List.mem_of_getElem? (i := 867) (by decide +kernel)⟩
theorem lw_p77 : lw_okq (⟨"SheetFolds$Pose", "roomFor", "(LSheetFolds$Part;IZ)I"⟩, 8) := ⟨⟨by decide +kernel, by decide +kernel⟩, List.mem_of_getElem? (i := 75) (by decide +kernel), List.mem_of_getElem? (i := 878) (by decide +kernel), List.mem_of_getElem? (i := 879) (by decide +kernel)⟩
theorem lw_p78 : lw_okq (⟨"SheetFolds$Orders", "searchFrom", "(II)V"⟩, 13) := ⟨⟨by decide +kernel, by decide +kernel⟩, List.mem_of_getElem? (i := 107) (by decide +kernel), List.mem_of_getElem? (i := 882) (by decide +kernel), List.mem_of_getElem? (i := 883) (by decide +kernel)⟩
theorem lw_p79 : lw_okq (⟨"SheetFolds$Orders", "isReached", "(I)Z"⟩, 13) := ⟨⟨by decide +kernel, by decide +kernel⟩, List.mem_of_getElem? (i := 107) (by decide +kernel), List.mem_of_getElem? (i := 891) (by decide +kernel), List.mem_of_getElem? (i := 892) (by decide +kernel)⟩
def lw_privs_5 : List (MethodName × Nat) := [(⟨"SheetFolds$Pose", "gapOf", "(II)I"⟩, 8), (⟨"SheetFolds$Pose", "signedNormal", "(I)I"⟩, 8), (⟨"SheetFolds$Part", "isState", "(I)Z"⟩, 16), (⟨"SheetFolds$Part", "allBends", "()I"⟩, 16), (⟨"SheetFolds$Pose", "clashes", "(II)I"⟩, 8), (⟨"SheetFolds$Pose", "doClash", "(II)Z"⟩, 8), (⟨"SheetFolds$Pose", "isWithin", "(III)Z"⟩, 8), (⟨"SheetFolds$Pose", "metByPunch", "(LSheetFolds$Part;I)I"⟩, 8), (⟨"SheetFolds$Pose", "standPunch", "(LSheetFolds$Part;IZI)I"⟩, 8), (⟨"SheetFolds", "reason", "(II)I"⟩, 14), (⟨"SheetFolds", "clashesIn", "(I)Z"⟩, 14), (⟨"SheetFolds", "searchOrders", "()Z"⟩, 14), (⟨"SheetFolds$Orders", "measureRooms", "(LSheetFolds$Pose;LSheetFolds$Part;I)V"⟩, 13), (⟨"SheetFolds$Pose", "roomFor", "(LSheetFolds$Part;IZ)I"⟩, 8), (⟨"SheetFolds$Orders", "searchFrom", "(II)V"⟩, 13), (⟨"SheetFolds$Orders", "isReached", "(I)Z"⟩, 13)]
theorem lw_r5 : ∀ q ∈ lw_privs_5, lw_okq q := List.forall_mem_cons.mpr ⟨lw_p64, List.forall_mem_cons.mpr ⟨lw_p65, List.forall_mem_cons.mpr ⟨lw_p66, List.forall_mem_cons.mpr ⟨lw_p67, List.forall_mem_cons.mpr ⟨lw_p68, List.forall_mem_cons.mpr ⟨lw_p69, List.forall_mem_cons.mpr ⟨lw_p70, List.forall_mem_cons.mpr ⟨lw_p71, List.forall_mem_cons.mpr ⟨lw_p72, List.forall_mem_cons.mpr ⟨lw_p73, List.forall_mem_cons.mpr ⟨lw_p74, List.forall_mem_cons.mpr ⟨lw_p75, List.forall_mem_cons.mpr ⟨lw_p76, List.forall_mem_cons.mpr ⟨lw_p77, List.forall_mem_cons.mpr ⟨lw_p78, List.forall_mem_cons.mpr ⟨lw_p79, fun _ h => absurd h List.not_mem_nil⟩⟩⟩⟩⟩⟩⟩⟩⟩⟩⟩⟩⟩⟩⟩⟩
theorem lw_p80 : lw_okq (⟨"SheetFolds$Orders", "isClear", "(II)Z"⟩, 13) := ⟨⟨by decide +kernel, by decide +kernel⟩, List.mem_of_getElem? (i := 107) (by decide +kernel), List.mem_of_getElem? (i := 895) (by decide +kernel), List.mem_of_getElem? (i := 896) (by decide +kernel)⟩
theorem lw_p81 : lw_okq (⟨"SheetFolds$Orders", "ordersFrom", "(I)I"⟩, 13) := ⟨⟨by decide +kernel, by decide +kernel⟩, List.mem_of_getElem? (i := 107) (by decide +kernel), List.mem_of_getElem? (i := 899) (by decide +kernel), List.mem_of_getElem? (i := 900) (by decide +kernel)⟩
theorem lw_p82 : lw_okq (⟨"SheetFolds$Orders", "walkFirst", "()V"⟩, 13) := ⟨⟨by decide +kernel, by decide +kernel⟩, List.mem_of_getElem? (i := 107) (by decide +kernel), List.mem_of_getElem? (i := 907) (by decide +kernel), List.mem_of_getElem? (i := 908) (by decide +kernel)⟩
theorem lw_p83 : lw_okq (⟨"SheetFolds$Orders", "firstThatGoesOn", "(I)I"⟩, 13) := ⟨⟨by decide +kernel, by decide +kernel⟩, List.mem_of_getElem? (i := 107) (by decide +kernel), List.mem_of_getElem? (i := 911) (by decide +kernel), List.mem_of_getElem? (i := 912) (by decide +kernel)⟩
theorem lw_p84 : lw_okq (⟨"SheetFolds$Orders", "goesOn", "(II)Z"⟩, 13) := ⟨⟨by decide +kernel, by decide +kernel⟩, List.mem_of_getElem? (i := 107) (by decide +kernel), List.mem_of_getElem? (i := 915) (by decide +kernel), List.mem_of_getElem? (i := 916) (by decide +kernel)⟩
theorem lw_p85 : lw_okq (⟨"SheetFolds$Orders", "append", "(II)I"⟩, 13) := ⟨⟨by decide +kernel, by decide +kernel⟩, List.mem_of_getElem? (i := 107) (by decide +kernel), List.mem_of_getElem? (i := 919) (by decide +kernel), List.mem_of_getElem? (i := 920) (by decide +kernel)⟩
theorem lw_p86 : lw_okq (⟨"SheetFolds$Orders", "rowAt", "(I)I"⟩, 13) := ⟨⟨by decide +kernel, by decide +kernel⟩, List.mem_of_getElem? (i := 107) (by decide +kernel), List.mem_of_getElem? (i := 923) (by decide +kernel), List.mem_of_getElem? (i := 924) (by decide +kernel)⟩
theorem lw_p87 : lw_okq (⟨"SheetFolds", "isUnmade", "(I)Z"⟩, 14) := ⟨⟨by decide +kernel, by decide +kernel⟩, List.mem_of_getElem? (i := 20) (by decide +kernel), List.mem_of_getElem? (i := 931) (by decide +kernel), List.mem_of_getElem? (i := 932) (by decide +kernel)⟩
theorem lw_p88 : lw_okq (⟨"SheetFolds$Orders", "canEndWith", "(I)Z"⟩, 13) := ⟨⟨by decide +kernel, by decide +kernel⟩, List.mem_of_getElem? (i := 107) (by decide +kernel), List.mem_of_getElem? (i := 935) (by decide +kernel), List.mem_of_getElem? (i := 936) (by decide +kernel)⟩
theorem lw_p89 : lw_okq (⟨"SheetFolds$Orders", "passesWithout", "(II)Z"⟩, 13) := ⟨⟨by decide +kernel, by decide +kernel⟩, List.mem_of_getElem? (i := 107) (by decide +kernel), List.mem_of_getElem? (i := 943) (by decide +kernel), List.mem_of_getElem? (i := 944) (by decide +kernel)⟩
theorem lw_p90 : lw_okq (⟨"SheetFolds$Orders", "countReached", "()I"⟩, 13) := ⟨⟨by decide +kernel, by decide +kernel⟩, List.mem_of_getElem? (i := 107) (by decide +kernel), List.mem_of_getElem? (i := 951) (by decide +kernel), List.mem_of_getElem? (i := 952) (by decide +kernel)⟩
theorem lw_p91 : lw_okq (⟨"SheetFolds$Orders", "countDeadEnds", "()I"⟩, 13) := ⟨⟨by decide +kernel, by decide +kernel⟩, List.mem_of_getElem? (i := 107) (by decide +kernel), List.mem_of_getElem? (i := 955) (by decide +kernel), List.mem_of_getElem? (i := 956) (by decide +kernel)⟩
theorem lw_p92 : lw_okq (⟨"SheetFolds$Orders", "isDeadEnd", "(I)Z"⟩, 13) := ⟨⟨by decide +kernel, by decide +kernel⟩, List.mem_of_getElem? (i := 107) (by decide +kernel), List.mem_of_getElem? (i := 959) (by decide +kernel), List.mem_of_getElem? (i := 960) (by decide +kernel)⟩
theorem lw_p93 : lw_okq (⟨"SheetFolds$Orders", "clearBends", "(I)I"⟩, 13) := ⟨⟨by decide +kernel, by decide +kernel⟩, List.mem_of_getElem? (i := 107) (by decide +kernel), List.mem_of_getElem? (i := 963) (by decide +kernel), List.mem_of_getElem? (i := 964) (by decide +kernel)⟩
theorem lw_p94 : lw_okq (⟨"SheetFolds$Orders", "fullestDeadEnd", "()I"⟩, 13) := ⟨⟨by decide +kernel, by decide +kernel⟩, List.mem_of_getElem? (i := 107) (by decide +kernel), List.mem_of_getElem? (i := 967) (by decide +kernel), List.mem_of_getElem? (i := 968) (by decide +kernel)⟩
theorem lw_p95 : lw_okq (⟨"SheetFolds$Orders", "blocked", "()I"⟩, 13) := ⟨⟨by decide +kernel, by decide +kernel⟩, List.mem_of_getElem? (i := 107) (by decide +kernel), List.mem_of_getElem? (i := 972) (by decide +kernel), List.mem_of_getElem? (i := 973) (by decide +kernel)⟩
def lw_privs_6 : List (MethodName × Nat) := [(⟨"SheetFolds$Orders", "isClear", "(II)Z"⟩, 13), (⟨"SheetFolds$Orders", "ordersFrom", "(I)I"⟩, 13), (⟨"SheetFolds$Orders", "walkFirst", "()V"⟩, 13), (⟨"SheetFolds$Orders", "firstThatGoesOn", "(I)I"⟩, 13), (⟨"SheetFolds$Orders", "goesOn", "(II)Z"⟩, 13), (⟨"SheetFolds$Orders", "append", "(II)I"⟩, 13), (⟨"SheetFolds$Orders", "rowAt", "(I)I"⟩, 13), (⟨"SheetFolds", "isUnmade", "(I)Z"⟩, 14), (⟨"SheetFolds$Orders", "canEndWith", "(I)Z"⟩, 13), (⟨"SheetFolds$Orders", "passesWithout", "(II)Z"⟩, 13), (⟨"SheetFolds$Orders", "countReached", "()I"⟩, 13), (⟨"SheetFolds$Orders", "countDeadEnds", "()I"⟩, 13), (⟨"SheetFolds$Orders", "isDeadEnd", "(I)Z"⟩, 13), (⟨"SheetFolds$Orders", "clearBends", "(I)I"⟩, 13), (⟨"SheetFolds$Orders", "fullestDeadEnd", "()I"⟩, 13), (⟨"SheetFolds$Orders", "blocked", "()I"⟩, 13)]
theorem lw_r6 : ∀ q ∈ lw_privs_6, lw_okq q := List.forall_mem_cons.mpr ⟨lw_p80, List.forall_mem_cons.mpr ⟨lw_p81, List.forall_mem_cons.mpr ⟨lw_p82, List.forall_mem_cons.mpr ⟨lw_p83, List.forall_mem_cons.mpr ⟨lw_p84, List.forall_mem_cons.mpr ⟨lw_p85, List.forall_mem_cons.mpr ⟨lw_p86, List.forall_mem_cons.mpr ⟨lw_p87, List.forall_mem_cons.mpr ⟨lw_p88, List.forall_mem_cons.mpr ⟨lw_p89, List.forall_mem_cons.mpr ⟨lw_p90, List.forall_mem_cons.mpr ⟨lw_p91, List.forall_mem_cons.mpr ⟨lw_p92, List.forall_mem_cons.mpr ⟨lw_p93, List.forall_mem_cons.mpr ⟨lw_p94, List.forall_mem_cons.mpr ⟨lw_p95, fun _ h => absurd h List.not_mem_nil⟩⟩⟩⟩⟩⟩⟩⟩⟩⟩⟩⟩⟩⟩⟩⟩
theorem lw_p96 : lw_okq (⟨"SheetFolds$Orders", "countSwitches", "(LSheetFolds$Part;I)V"⟩, 13) := ⟨⟨by decide +kernel, by decide +kernel⟩, List.mem_of_getElem? (i := 107) (by decide +kernel), List.mem_of_getElem? (i := 980) (by decide +kernel), List.mem_of_getElem? (i := 981) (by decide +kernel)⟩
theorem lw_p97 : lw_okq (⟨"SheetFolds$Orders", "leastFrom", "(II)I"⟩, 13) := ⟨⟨by decide +kernel, by decide +kernel⟩, List.mem_of_getElem? (i := 107) (by decide +kernel), List.mem_of_getElem? (i := 984) (by decide +kernel), List.mem_of_getElem? (i := 985) (by decide +kernel)⟩
theorem lw_p98 : lw_okq (⟨"SheetFolds$Orders", "switchesWith", "(III)I"⟩, 13) := ⟨⟨by decide +kernel, by decide +kernel⟩, List.mem_of_getElem? (i := 107) (by decide +kernel), List.mem_of_getElem? (i := 988) (by decide +kernel), List.mem_of_getElem? (i := 989) (by decide +kernel)⟩
theorem lw_p99 : lw_okq (⟨"SheetFolds$Orders", "walkThrifty", "()V"⟩, 13) := ⟨⟨by decide +kernel, by decide +kernel⟩, List.mem_of_getElem? (i := 107) (by decide +kernel), List.mem_of_getElem? (i := 998) (by decide +kernel), List.mem_of_getElem? (i := 999) (by decide +kernel)⟩
theorem lw_p100 : lw_okq (⟨"SheetFolds$Orders", "firstThrifty", "(II)I"⟩, 13) := ⟨⟨by decide +kernel, by decide +kernel⟩, List.mem_of_getElem? (i := 107) (by decide +kernel), List.mem_of_getElem? (i := 1002) (by decide +kernel), List.mem_of_getElem? (i := 1003) (by decide +kernel)⟩
theorem lw_p101 : lw_okq (⟨"SheetFolds$Orders", "tallestPunch", "()I"⟩, 13) := ⟨⟨by decide +kernel, by decide +kernel⟩, List.mem_of_getElem? (i := 107) (by decide +kernel), List.mem_of_getElem? (i := 1010) (by decide +kernel), List.mem_of_getElem? (i := 1011) (by decide +kernel)⟩
theorem lw_p102 : lw_okq (⟨"SheetFolds$Mender", "leastTurns", "(LSheetFolds$Pose;LSheetFolds$Part;I)I"⟩, 3) := ⟨⟨by decide +kernel, by decide +kernel⟩, List.mem_of_getElem? (i := 153) (by decide +kernel), List.mem_of_getElem? (i := 1022) (by decide +kernel), List.mem_of_getElem? (i := 1023) (by decide +kernel)⟩
theorem lw_p103 : lw_okq (⟨"SheetFolds$Part", "needsTools", "(I)Z"⟩, 16) := ⟨⟨by decide +kernel, by decide +kernel⟩, List.mem_of_getElem? (i := 203) (by decide +kernel), List.mem_of_getElem? (i := 1026) (by decide +kernel), List.mem_of_getElem? (i := 1027) (by decide +kernel)⟩
theorem lw_p104 : lw_okq (⟨"SheetFolds$Mender", "decode", "(I)V"⟩, 3) := ⟨⟨by decide +kernel, by decide +kernel⟩, List.mem_of_getElem? (i := 153) (by decide +kernel), List.mem_of_getElem? (i := 1038) (by decide +kernel), List.mem_of_getElem? (i := 1039) (by decide +kernel)⟩
theorem lw_p105 : lw_okq (⟨"SheetFolds$Mender", "spread", "(LSheetFolds$Pose;LSheetFolds$Part;I)V"⟩, 3) := ⟨⟨by decide +kernel, by decide +kernel⟩, List.mem_of_getElem? (i := 153) (by decide +kernel), List.mem_of_getElem? (i := 1045) (by decide +kernel), List.mem_of_getElem? (i := 1046) (by decide +kernel)⟩
theorem lw_p106 : lw_okq (⟨"SheetFolds$Mender", "mark", "(LSheetFolds$Pose;LSheetFolds$Part;I)V"⟩, 3) := ⟨⟨by decide +kernel, by decide +kernel⟩, List.mem_of_getElem? (i := 153) (by decide +kernel), List.mem_of_getElem? (i := 1051) (by decide +kernel), List.mem_of_getElem? (i := 1052) (by decide +kernel)⟩
theorem lw_p107 : lw_okq (⟨"SheetFolds$Part", "leastWidthWithoutTools", "()I"⟩, 16) := ⟨⟨by decide +kernel, by decide +kernel⟩, List.mem_of_getElem? (i := 203) (by decide +kernel), List.mem_of_getElem? (i := 1061) (by decide +kernel), List.mem_of_getElem? (i := 1062) (by decide +kernel)⟩
theorem lw_p108 : lw_okq (⟨"SheetFolds$Part", "countWithoutTools", "()I"⟩, 16) := ⟨⟨by decide +kernel, by decide +kernel⟩, List.mem_of_getElem? (i := 203) (by decide +kernel), List.mem_of_getElem? (i := 1065) (by decide +kernel), List.mem_of_getElem? (i := 1066) (by decide +kernel)⟩
theorem lw_p109 : lw_okq (⟨"SheetFolds$Pose", "size", "(I)I"⟩, 8) := ⟨⟨by decide +kernel, by decide +kernel⟩, List.mem_of_getElem? (i := 75) (by decide +kernel), List.mem_of_getElem? (i := 1079) (by decide +kernel), List.mem_of_getElem? (i := 1080) (by decide +kernel)⟩
theorem lw_p110 : lw_okq (⟨"SheetFolds$Part", "bendsBetween", "(II)I"⟩, 16) := ⟨⟨by decide +kernel, by decide +kernel⟩, List.mem_of_getElem? (i := 203) (by decide +kernel), List.mem_of_getElem? (i := 1088) (by decide +kernel), List.mem_of_getElem? (i := 1089) (by decide +kernel)⟩
theorem lw_p111 : lw_okq (⟨"SheetFolds$Measured", "take", "(LSheetFolds$Tape;LSheetFolds$Part;)Z"⟩, 3) := ⟨⟨by decide +kernel, by decide +kernel⟩, List.mem_of_getElem? (i := 186) (by decide +kernel), List.mem_of_getElem? (i := 1096) (by decide +kernel), List.mem_of_getElem? (i := 1097) (by decide +kernel)⟩
def lw_privs_7 : List (MethodName × Nat) := [(⟨"SheetFolds$Orders", "countSwitches", "(LSheetFolds$Part;I)V"⟩, 13), (⟨"SheetFolds$Orders", "leastFrom", "(II)I"⟩, 13), (⟨"SheetFolds$Orders", "switchesWith", "(III)I"⟩, 13), (⟨"SheetFolds$Orders", "walkThrifty", "()V"⟩, 13), (⟨"SheetFolds$Orders", "firstThrifty", "(II)I"⟩, 13), (⟨"SheetFolds$Orders", "tallestPunch", "()I"⟩, 13), (⟨"SheetFolds$Mender", "leastTurns", "(LSheetFolds$Pose;LSheetFolds$Part;I)I"⟩, 3), (⟨"SheetFolds$Part", "needsTools", "(I)Z"⟩, 16), (⟨"SheetFolds$Mender", "decode", "(I)V"⟩, 3), (⟨"SheetFolds$Mender", "spread", "(LSheetFolds$Pose;LSheetFolds$Part;I)V"⟩, 3), (⟨"SheetFolds$Mender", "mark", "(LSheetFolds$Pose;LSheetFolds$Part;I)V"⟩, 3), (⟨"SheetFolds$Part", "leastWidthWithoutTools", "()I"⟩, 16), (⟨"SheetFolds$Part", "countWithoutTools", "()I"⟩, 16), (⟨"SheetFolds$Pose", "size", "(I)I"⟩, 8), (⟨"SheetFolds$Part", "bendsBetween", "(II)I"⟩, 16), (⟨"SheetFolds$Measured", "take", "(LSheetFolds$Tape;LSheetFolds$Part;)Z"⟩, 3)]
theorem lw_r7 : ∀ q ∈ lw_privs_7, lw_okq q := List.forall_mem_cons.mpr ⟨lw_p96, List.forall_mem_cons.mpr ⟨lw_p97, List.forall_mem_cons.mpr ⟨lw_p98, List.forall_mem_cons.mpr ⟨lw_p99, List.forall_mem_cons.mpr ⟨lw_p100, List.forall_mem_cons.mpr ⟨lw_p101, List.forall_mem_cons.mpr ⟨lw_p102, List.forall_mem_cons.mpr ⟨lw_p103, List.forall_mem_cons.mpr ⟨lw_p104, List.forall_mem_cons.mpr ⟨lw_p105, List.forall_mem_cons.mpr ⟨lw_p106, List.forall_mem_cons.mpr ⟨lw_p107, List.forall_mem_cons.mpr ⟨lw_p108, List.forall_mem_cons.mpr ⟨lw_p109, List.forall_mem_cons.mpr ⟨lw_p110, List.forall_mem_cons.mpr ⟨lw_p111, fun _ h => absurd h List.not_mem_nil⟩⟩⟩⟩⟩⟩⟩⟩⟩⟩⟩⟩⟩⟩⟩⟩
theorem lw_p112 : lw_okq (⟨"SheetFolds$Measured", "fitAt", "(LSheetFolds$Part;II)I"⟩, 3) := ⟨⟨by decide +kernel, by decide +kernel⟩, List.mem_of_getElem? (i := 186) (by decide +kernel), List.mem_of_getElem? (i := 1106) (by decide +kernel), List.mem_of_getElem? (i := 1107) (by decide +kernel)⟩
theorem lw_p113 : lw_okq (⟨"SheetFolds$Measured", "explains", "(LSheetFolds$Part;II)Z"⟩, 3) := ⟨⟨by decide +kernel, by decide +kernel⟩, List.mem_of_getElem? (i := 186) (by decide +kernel), List.mem_of_getElem? (i := 1110) (by decide +kernel), List.mem_of_getElem? (i := 1111) (by decide +kernel)⟩
theorem lw_p114 : lw_okq (⟨"SheetFolds$Part", "timesInLength", "(II)I"⟩, 16) := ⟨⟨by decide +kernel, by decide +kernel⟩, List.mem_of_getElem? (i := 203) (by decide +kernel), List.mem_of_getElem? (i := 1116) (by decide +kernel), List.mem_of_getElem? (i := 1117) (by decide +kernel)⟩
theorem lw_p115 : lw_okq (⟨"SheetFolds$Measured", "tellingFlange", "(LSheetFolds$Part;II)I"⟩, 3) := ⟨⟨by decide +kernel, by decide +kernel⟩, List.mem_of_getElem? (i := 186) (by decide +kernel), List.mem_of_getElem? (i := 1124) (by decide +kernel), List.mem_of_getElem? (i := 1125) (by decide +kernel)⟩
theorem lw_p116 : lw_okq (⟨"SheetFolds$Measured", "mostLeft", "(LSheetFolds$Part;III)I"⟩, 3) := ⟨⟨by decide +kernel, by decide +kernel⟩, List.mem_of_getElem? (i := 186) (by decide +kernel), List.mem_of_getElem? (i := 1128) (by decide +kernel), List.mem_of_getElem? (i := 1129) (by decide +kernel)⟩
theorem lw_p117 : lw_okq (⟨"SheetFolds", "remember", "()V"⟩, 14) := ⟨⟨by decide +kernel, by decide +kernel⟩, List.mem_of_getElem? (i := 20) (by decide +kernel), List.mem_of_getElem? (i := 1137) (by decide +kernel), List.mem_of_getElem? (i := 1138) (by decide +kernel)⟩
theorem lw_p118 : lw_okq (⟨"SheetFolds$History", "keep", "(LSheetFolds$Part;I)V"⟩, 3) := ⟨⟨by decide +kernel, by decide +kernel⟩, List.mem_of_getElem? (i := 169) (by decide +kernel), List.mem_of_getElem? (i := 1141) (by decide +kernel), List.mem_of_getElem? (i := 1142) (by decide +kernel)⟩
theorem lw_p119 : lw_okq (⟨"SheetFolds", "setMade", "(I)V"⟩, 14) := ⟨⟨by decide +kernel, by decide +kernel⟩, List.mem_of_getElem? (i := 20) (by decide +kernel), List.mem_of_getElem? (i := 1147) (by decide +kernel), List.mem_of_getElem? (i := 1148) (by decide +kernel)⟩
theorem lw_p120 : lw_okq (⟨"SheetFolds$Orders", "firstOfRow", "(I)I"⟩, 13) := ⟨⟨by decide +kernel, by decide +kernel⟩, List.mem_of_getElem? (i := 107) (by decide +kernel), List.mem_of_getElem? (i := 1167) (by decide +kernel), List.mem_of_getElem? (i := 1168) (by decide +kernel)⟩
theorem lw_p121 : lw_okq (⟨"SheetFolds", "draw", "(I)I"⟩, 14) := ⟨⟨by decide +kernel, by decide +kernel⟩, List.mem_of_getElem? (i := 20) (by decide +kernel), List.mem_of_getElem? (i := 1183) (by decide +kernel), List.mem_of_getElem? (i := 1184) (by decide +kernel)⟩
theorem lw_p122 : lw_okq (⟨"SheetFolds", "tryOne", "(I)V"⟩, 14) := ⟨⟨by decide +kernel, by decide +kernel⟩, List.mem_of_getElem? (i := 20) (by decide +kernel), List.mem_of_getElem? (i := 1190) (by decide +kernel), List.mem_of_getElem? (i := 1191) (by decide +kernel)⟩
theorem lw_p123 : lw_okq (⟨"SheetFolds$History", "takeBack", "(LSheetFolds$Part;)I"⟩, 3) := ⟨⟨by decide +kernel, by decide +kernel⟩, List.mem_of_getElem? (i := 169) (by decide +kernel), List.mem_of_getElem? (i := 1198) (by decide +kernel), List.mem_of_getElem? (i := 1199) (by decide +kernel)⟩
theorem lw_p124 : lw_okq (⟨"SheetFoldsModel", "refuses", "(I)I"⟩, 37) := ⟨⟨by decide +kernel, by decide +kernel⟩, List.mem_of_getElem? (i := 1211) (by decide +kernel), List.mem_of_getElem? (i := 1334) (by decide +kernel), List.mem_of_getElem? (i := 1335) (by decide +kernel)⟩
theorem lw_p125 : lw_okq (⟨"SheetFoldsModel", "lays", "(I)V"⟩, 37) := ⟨⟨by decide +kernel, by decide +kernel⟩, List.mem_of_getElem? (i := 1211) (by decide +kernel), List.mem_of_getElem? (i := 1338) (by decide +kernel), List.mem_of_getElem? (i := 1339) (by decide +kernel)⟩
theorem lw_p126 : lw_okq (⟨"SheetFoldsModel", "isRefused", "(I)Z"⟩, 37) := ⟨⟨by decide +kernel, by decide +kernel⟩, List.mem_of_getElem? (i := 1211) (by decide +kernel), List.mem_of_getElem? (i := 1346) (by decide +kernel), List.mem_of_getElem? (i := 1347) (by decide +kernel)⟩
theorem lw_p127 : lw_okq (⟨"SheetFoldsModel", "taken", "()I"⟩, 37) := ⟨⟨by decide +kernel, by decide +kernel⟩, List.mem_of_getElem? (i := 1211) (by decide +kernel), List.mem_of_getElem? (i := 1354) (by decide +kernel), List.mem_of_getElem? (i := 1355) (by decide +kernel)⟩
def lw_privs_8 : List (MethodName × Nat) := [(⟨"SheetFolds$Measured", "fitAt", "(LSheetFolds$Part;II)I"⟩, 3), (⟨"SheetFolds$Measured", "explains", "(LSheetFolds$Part;II)Z"⟩, 3), (⟨"SheetFolds$Part", "timesInLength", "(II)I"⟩, 16), (⟨"SheetFolds$Measured", "tellingFlange", "(LSheetFolds$Part;II)I"⟩, 3), (⟨"SheetFolds$Measured", "mostLeft", "(LSheetFolds$Part;III)I"⟩, 3), (⟨"SheetFolds", "remember", "()V"⟩, 14), (⟨"SheetFolds$History", "keep", "(LSheetFolds$Part;I)V"⟩, 3), (⟨"SheetFolds", "setMade", "(I)V"⟩, 14), (⟨"SheetFolds$Orders", "firstOfRow", "(I)I"⟩, 13), (⟨"SheetFolds", "draw", "(I)I"⟩, 14), (⟨"SheetFolds", "tryOne", "(I)V"⟩, 14), (⟨"SheetFolds$History", "takeBack", "(LSheetFolds$Part;)I"⟩, 3), (⟨"SheetFoldsModel", "refuses", "(I)I"⟩, 37), (⟨"SheetFoldsModel", "lays", "(I)V"⟩, 37), (⟨"SheetFoldsModel", "isRefused", "(I)Z"⟩, 37), (⟨"SheetFoldsModel", "taken", "()I"⟩, 37)]
theorem lw_r8 : ∀ q ∈ lw_privs_8, lw_okq q := List.forall_mem_cons.mpr ⟨lw_p112, List.forall_mem_cons.mpr ⟨lw_p113, List.forall_mem_cons.mpr ⟨lw_p114, List.forall_mem_cons.mpr ⟨lw_p115, List.forall_mem_cons.mpr ⟨lw_p116, List.forall_mem_cons.mpr ⟨lw_p117, List.forall_mem_cons.mpr ⟨lw_p118, List.forall_mem_cons.mpr ⟨lw_p119, List.forall_mem_cons.mpr ⟨lw_p120, List.forall_mem_cons.mpr ⟨lw_p121, List.forall_mem_cons.mpr ⟨lw_p122, List.forall_mem_cons.mpr ⟨lw_p123, List.forall_mem_cons.mpr ⟨lw_p124, List.forall_mem_cons.mpr ⟨lw_p125, List.forall_mem_cons.mpr ⟨lw_p126, List.forall_mem_cons.mpr ⟨lw_p127, fun _ h => absurd h List.not_mem_nil⟩⟩⟩⟩⟩⟩⟩⟩⟩⟩⟩⟩⟩⟩⟩⟩
theorem lw_p128 : lw_okq (⟨"SheetFoldsModel", "readsAll", "()I"⟩, 37) := ⟨⟨by decide +kernel, by decide +kernel⟩, List.mem_of_getElem? (i := 1211) (by decide +kernel), List.mem_of_getElem? (i := 1358) (by decide +kernel), List.mem_of_getElem? (i := 1359) (by decide +kernel)⟩
theorem lw_p129 : lw_okq (⟨"SheetFoldsModel", "must", "(I)V"⟩, 37) := ⟨⟨by decide +kernel, by decide +kernel⟩, List.mem_of_getElem? (i := 1211) (by decide +kernel), List.mem_of_getElem? (i := 1362) (by decide +kernel), List.mem_of_getElem? (i := 1363) (by decide +kernel)⟩
theorem lw_p130 : lw_okq (⟨"SheetFoldsModel", "word", "()V"⟩, 37) := ⟨⟨by decide +kernel, by decide +kernel⟩, List.mem_of_getElem? (i := 1211) (by decide +kernel), List.mem_of_getElem? (i := 1366) (by decide +kernel), List.mem_of_getElem? (i := 1367) (by decide +kernel)⟩
theorem lw_p131 : lw_okq (⟨"SheetFoldsModel", "goesWell", "()Z"⟩, 37) := ⟨⟨by decide +kernel, by decide +kernel⟩, List.mem_of_getElem? (i := 1211) (by decide +kernel), List.mem_of_getElem? (i := 1370) (by decide +kernel), List.mem_of_getElem? (i := 1371) (by decide +kernel)⟩
theorem lw_p132 : lw_okq (⟨"SheetFoldsModel", "here", "()I"⟩, 37) := ⟨⟨by decide +kernel, by decide +kernel⟩, List.mem_of_getElem? (i := 1211) (by decide +kernel), List.mem_of_getElem? (i := 1374) (by decide +kernel), List.mem_of_getElem? (i := 1375) (by decide +kernel)⟩
theorem lw_p133 : lw_okq (⟨"SheetFoldsModel", "byteAt", "(I)I"⟩, 37) := ⟨⟨by decide +kernel, by decide +kernel⟩, List.mem_of_getElem? (i := 1211) (by decide +kernel), List.mem_of_getElem? (i := 1378) (by decide +kernel), List.mem_of_getElem? (i := 1379) (by decide +kernel)⟩
theorem lw_p134 : lw_okq (⟨"SheetFoldsModel", "isSmall", "(I)Z"⟩, 37) := ⟨⟨by decide +kernel, by decide +kernel⟩, List.mem_of_getElem? (i := 1211) (by decide +kernel), List.mem_of_getElem? (i := 1382) (by decide +kernel), List.mem_of_getElem? (i := 1383) (by decide +kernel)⟩
theorem lw_p135 : lw_okq (⟨"SheetFoldsModel", "isDigit", "(I)Z"⟩, 37) := ⟨⟨by decide +kernel, by decide +kernel⟩, List.mem_of_getElem? (i := 1211) (by decide +kernel), List.mem_of_getElem? (i := 1386) (by decide +kernel), List.mem_of_getElem? (i := 1387) (by decide +kernel)⟩
theorem lw_p136 : lw_okq (⟨"SheetFoldsModel", "faults", "(II)V"⟩, 37) := ⟨⟨by decide +kernel, by decide +kernel⟩, List.mem_of_getElem? (i := 1211) (by decide +kernel), List.mem_of_getElem? (i := 1390) (by decide +kernel), List.mem_of_getElem? (i := 1391) (by decide +kernel)⟩
theorem lw_p137 : lw_okq (⟨"SheetFoldsModel", "own", "()I"⟩, 37) := ⟨⟨by decide +kernel, by decide +kernel⟩, List.mem_of_getElem? (i := 1211) (by decide +kernel), List.mem_of_getElem? (i := 1394) (by decide +kernel), List.mem_of_getElem? (i := 1395) (by decide +kernel)⟩
theorem lw_p138 : lw_okq (⟨"SheetFoldsModel", "after", "(III)I"⟩, 37) := ⟨⟨by decide +kernel, by decide +kernel⟩, List.mem_of_getElem? (i := 1211) (by decide +kernel), List.mem_of_getElem? (i := 1398) (by decide +kernel), List.mem_of_getElem? (i := 1399) (by decide +kernel)⟩
theorem lw_p139 : lw_okq (⟨"SheetFoldsModel", "number", "(II)I"⟩, 37) := ⟨⟨by decide +kernel, by decide +kernel⟩, List.mem_of_getElem? (i := 1211) (by decide +kernel), List.mem_of_getElem? (i := 1402) (by decide +kernel), List.mem_of_getElem? (i := 1403) (by decide +kernel)⟩
theorem lw_p140 : lw_okq (⟨"SheetFoldsModel", "endsWell", "()V"⟩, 37) := ⟨⟨by decide +kernel, by decide +kernel⟩, List.mem_of_getElem? (i := 1211) (by decide +kernel), List.mem_of_getElem? (i := 1409) (by decide +kernel), List.mem_of_getElem? (i := 1410) (by decide +kernel)⟩
theorem lw_p141 : lw_okq (⟨"SheetFoldsModel", "readsLine", "(I)V"⟩, 37) := ⟨⟨by decide +kernel, by decide +kernel⟩, List.mem_of_getElem? (i := 1211) (by decide +kernel), List.mem_of_getElem? (i := 1413) (by decide +kernel), List.mem_of_getElem? (i := 1414) (by decide +kernel)⟩
theorem lw_p142 : lw_okq (⟨"SheetFoldsModel", "readsFlange", "()V"⟩, 37) := ⟨⟨by decide +kernel, by decide +kernel⟩, List.mem_of_getElem? (i := 1211) (by decide +kernel), List.mem_of_getElem? (i := 1417) (by decide +kernel), List.mem_of_getElem? (i := 1418) (by decide +kernel)⟩
theorem lw_p143 : lw_okq (⟨"SheetFoldsModel", "name", "()V"⟩, 37) := ⟨⟨by decide +kernel, by decide +kernel⟩, List.mem_of_getElem? (i := 1211) (by decide +kernel), List.mem_of_getElem? (i := 1421) (by decide +kernel), List.mem_of_getElem? (i := 1422) (by decide +kernel)⟩
def lw_privs_9 : List (MethodName × Nat) := [(⟨"SheetFoldsModel", "readsAll", "()I"⟩, 37), (⟨"SheetFoldsModel", "must", "(I)V"⟩, 37), (⟨"SheetFoldsModel", "word", "()V"⟩, 37), (⟨"SheetFoldsModel", "goesWell", "()Z"⟩, 37), (⟨"SheetFoldsModel", "here", "()I"⟩, 37), (⟨"SheetFoldsModel", "byteAt", "(I)I"⟩, 37), (⟨"SheetFoldsModel", "isSmall", "(I)Z"⟩, 37), (⟨"SheetFoldsModel", "isDigit", "(I)Z"⟩, 37), (⟨"SheetFoldsModel", "faults", "(II)V"⟩, 37), (⟨"SheetFoldsModel", "own", "()I"⟩, 37), (⟨"SheetFoldsModel", "after", "(III)I"⟩, 37), (⟨"SheetFoldsModel", "number", "(II)I"⟩, 37), (⟨"SheetFoldsModel", "endsWell", "()V"⟩, 37), (⟨"SheetFoldsModel", "readsLine", "(I)V"⟩, 37), (⟨"SheetFoldsModel", "readsFlange", "()V"⟩, 37), (⟨"SheetFoldsModel", "name", "()V"⟩, 37)]
theorem lw_r9 : ∀ q ∈ lw_privs_9, lw_okq q := List.forall_mem_cons.mpr ⟨lw_p128, List.forall_mem_cons.mpr ⟨lw_p129, List.forall_mem_cons.mpr ⟨lw_p130, List.forall_mem_cons.mpr ⟨lw_p131, List.forall_mem_cons.mpr ⟨lw_p132, List.forall_mem_cons.mpr ⟨lw_p133, List.forall_mem_cons.mpr ⟨lw_p134, List.forall_mem_cons.mpr ⟨lw_p135, List.forall_mem_cons.mpr ⟨lw_p136, List.forall_mem_cons.mpr ⟨lw_p137, List.forall_mem_cons.mpr ⟨lw_p138, List.forall_mem_cons.mpr ⟨lw_p139, List.forall_mem_cons.mpr ⟨lw_p140, List.forall_mem_cons.mpr ⟨lw_p141, List.forall_mem_cons.mpr ⟨lw_p142, List.forall_mem_cons.mpr ⟨lw_p143, fun _ h => absurd h List.not_mem_nil⟩⟩⟩⟩⟩⟩⟩⟩⟩⟩⟩⟩⟩⟩⟩⟩
theorem lw_p144 : lw_okq (⟨"SheetFoldsModel", "named", "()I"⟩, 37) := ⟨⟨by decide +kernel, by decide +kernel⟩, List.mem_of_getElem? (i := 1211) (by decide +kernel), List.mem_of_getElem? (i := 1425) (by decide +kernel), List.mem_of_getElem? (i := 1426) (by decide +kernel)⟩
theorem lw_p145 : lw_okq (⟨"SheetFoldsModel", "signAt", "(I)I"⟩, 37) := ⟨⟨by decide +kernel, by decide +kernel⟩, List.mem_of_getElem? (i := 1211) (by decide +kernel), List.mem_of_getElem? (i := 1429) (by decide +kernel), List.mem_of_getElem? (i := 1430) (by decide +kernel)⟩
theorem lw_p146 : lw_okq (⟨"SheetFoldsModel", "readsWidth", "(III)V"⟩, 37) := ⟨⟨by decide +kernel, by decide +kernel⟩, List.mem_of_getElem? (i := 1211) (by decide +kernel), List.mem_of_getElem? (i := 1433) (by decide +kernel), List.mem_of_getElem? (i := 1434) (by decide +kernel)⟩
theorem lw_p147 : lw_okq (⟨"SheetFoldsModel", "isFlange", "(I)Z"⟩, 37) := ⟨⟨by decide +kernel, by decide +kernel⟩, List.mem_of_getElem? (i := 1211) (by decide +kernel), List.mem_of_getElem? (i := 1458) (by decide +kernel), List.mem_of_getElem? (i := 1459) (by decide +kernel)⟩
theorem lw_p148 : lw_okq (⟨"SheetFoldsModel", "flangeMany", "()I"⟩, 37) := ⟨⟨by decide +kernel, by decide +kernel⟩, List.mem_of_getElem? (i := 1211) (by decide +kernel), List.mem_of_getElem? (i := 1462) (by decide +kernel), List.mem_of_getElem? (i := 1463) (by decide +kernel)⟩
theorem lw_p149 : lw_okq (⟨"SheetFoldsModel", "isBend", "(I)Z"⟩, 37) := ⟨⟨by decide +kernel, by decide +kernel⟩, List.mem_of_getElem? (i := 1211) (by decide +kernel), List.mem_of_getElem? (i := 1470) (by decide +kernel), List.mem_of_getElem? (i := 1471) (by decide +kernel)⟩
theorem lw_p150 : lw_okq (⟨"SheetFoldsModel", "bendMany", "()I"⟩, 37) := ⟨⟨by decide +kernel, by decide +kernel⟩, List.mem_of_getElem? (i := 1211) (by decide +kernel), List.mem_of_getElem? (i := 1474) (by decide +kernel), List.mem_of_getElem? (i := 1475) (by decide +kernel)⟩
theorem lw_p151 : lw_okq (⟨"SheetFoldsModel", "hangMany", "(I)I"⟩, 37) := ⟨⟨by decide +kernel, by decide +kernel⟩, List.mem_of_getElem? (i := 1211) (by decide +kernel), List.mem_of_getElem? (i := 1478) (by decide +kernel), List.mem_of_getElem? (i := 1479) (by decide +kernel)⟩
theorem lw_p152 : lw_okq (⟨"SheetFoldsModel", "depthOf", "(I)I"⟩, 37) := ⟨⟨by decide +kernel, by decide +kernel⟩, List.mem_of_getElem? (i := 1211) (by decide +kernel), List.mem_of_getElem? (i := 1482) (by decide +kernel), List.mem_of_getElem? (i := 1483) (by decide +kernel)⟩
theorem lw_p153 : lw_okq (⟨"SheetFoldsModel", "lengthOf", "(I)I"⟩, 37) := ⟨⟨by decide +kernel, by decide +kernel⟩, List.mem_of_getElem? (i := 1211) (by decide +kernel), List.mem_of_getElem? (i := 1486) (by decide +kernel), List.mem_of_getElem? (i := 1487) (by decide +kernel)⟩
theorem lw_p154 : lw_okq (⟨"SheetFoldsModel", "allowanceOf", "(I)I"⟩, 37) := ⟨⟨by decide +kernel, by decide +kernel⟩, List.mem_of_getElem? (i := 1211) (by decide +kernel), List.mem_of_getElem? (i := 1490) (by decide +kernel), List.mem_of_getElem? (i := 1491) (by decide +kernel)⟩
theorem lw_p155 : lw_okq (⟨"SheetFoldsModel", "isPiece", "(I)Z"⟩, 37) := ⟨⟨by decide +kernel, by decide +kernel⟩, List.mem_of_getElem? (i := 1211) (by decide +kernel), List.mem_of_getElem? (i := 1506) (by decide +kernel), List.mem_of_getElem? (i := 1507) (by decide +kernel)⟩
theorem lw_p156 : lw_okq (⟨"SheetFoldsModel", "laysFlat", "()V"⟩, 37) := ⟨⟨by decide +kernel, by decide +kernel⟩, List.mem_of_getElem? (i := 1211) (by decide +kernel), List.mem_of_getElem? (i := 1511) (by decide +kernel), List.mem_of_getElem? (i := 1512) (by decide +kernel)⟩
theorem lw_p157 : lw_okq (⟨"SheetFoldsModel", "laysBehind", "(IIII)V"⟩, 37) := ⟨⟨by decide +kernel, by decide +kernel⟩, List.mem_of_getElem? (i := 1211) (by decide +kernel), List.mem_of_getElem? (i := 1515) (by decide +kernel), List.mem_of_getElem? (i := 1516) (by decide +kernel)⟩
theorem lw_p158 : lw_okq (⟨"SheetFoldsModel", "doOverlap", "(II)Z"⟩, 37) := ⟨⟨by decide +kernel, by decide +kernel⟩, List.mem_of_getElem? (i := 1211) (by decide +kernel), List.mem_of_getElem? (i := 1527) (by decide +kernel), List.mem_of_getElem? (i := 1528) (by decide +kernel)⟩
theorem lw_p159 : lw_okq (⟨"SheetFoldsModel", "laysSpace", "(I)V"⟩, 37) := ⟨⟨by decide +kernel, by decide +kernel⟩, List.mem_of_getElem? (i := 1211) (by decide +kernel), List.mem_of_getElem? (i := 1535) (by decide +kernel), List.mem_of_getElem? (i := 1536) (by decide +kernel)⟩
def lw_privs_10 : List (MethodName × Nat) := [(⟨"SheetFoldsModel", "named", "()I"⟩, 37), (⟨"SheetFoldsModel", "signAt", "(I)I"⟩, 37), (⟨"SheetFoldsModel", "readsWidth", "(III)V"⟩, 37), (⟨"SheetFoldsModel", "isFlange", "(I)Z"⟩, 37), (⟨"SheetFoldsModel", "flangeMany", "()I"⟩, 37), (⟨"SheetFoldsModel", "isBend", "(I)Z"⟩, 37), (⟨"SheetFoldsModel", "bendMany", "()I"⟩, 37), (⟨"SheetFoldsModel", "hangMany", "(I)I"⟩, 37), (⟨"SheetFoldsModel", "depthOf", "(I)I"⟩, 37), (⟨"SheetFoldsModel", "lengthOf", "(I)I"⟩, 37), (⟨"SheetFoldsModel", "allowanceOf", "(I)I"⟩, 37), (⟨"SheetFoldsModel", "isPiece", "(I)Z"⟩, 37), (⟨"SheetFoldsModel", "laysFlat", "()V"⟩, 37), (⟨"SheetFoldsModel", "laysBehind", "(IIII)V"⟩, 37), (⟨"SheetFoldsModel", "doOverlap", "(II)Z"⟩, 37), (⟨"SheetFoldsModel", "laysSpace", "(I)V"⟩, 37)]
theorem lw_r10 : ∀ q ∈ lw_privs_10, lw_okq q := List.forall_mem_cons.mpr ⟨lw_p144, List.forall_mem_cons.mpr ⟨lw_p145, List.forall_mem_cons.mpr ⟨lw_p146, List.forall_mem_cons.mpr ⟨lw_p147, List.forall_mem_cons.mpr ⟨lw_p148, List.forall_mem_cons.mpr ⟨lw_p149, List.forall_mem_cons.mpr ⟨lw_p150, List.forall_mem_cons.mpr ⟨lw_p151, List.forall_mem_cons.mpr ⟨lw_p152, List.forall_mem_cons.mpr ⟨lw_p153, List.forall_mem_cons.mpr ⟨lw_p154, List.forall_mem_cons.mpr ⟨lw_p155, List.forall_mem_cons.mpr ⟨lw_p156, List.forall_mem_cons.mpr ⟨lw_p157, List.forall_mem_cons.mpr ⟨lw_p158, List.forall_mem_cons.mpr ⟨lw_p159, fun _ h => absurd h List.not_mem_nil⟩⟩⟩⟩⟩⟩⟩⟩⟩⟩⟩⟩⟩⟩⟩⟩
theorem lw_p160 : lw_okq (⟨"SheetFoldsModel", "laysEnds", "(III)V"⟩, 37) := ⟨⟨by decide +kernel, by decide +kernel⟩, List.mem_of_getElem? (i := 1211) (by decide +kernel), List.mem_of_getElem? (i := 1539) (by decide +kernel), List.mem_of_getElem? (i := 1540) (by decide +kernel)⟩
theorem lw_p161 : lw_okq (⟨"SheetFoldsModel", "standsUp", "(II)V"⟩, 37) := ⟨⟨by decide +kernel, by decide +kernel⟩, List.mem_of_getElem? (i := 1211) (by decide +kernel), List.mem_of_getElem? (i := 1546) (by decide +kernel), List.mem_of_getElem? (i := 1547) (by decide +kernel)⟩
theorem lw_p162 : lw_okq (⟨"SheetFoldsModel", "goesToSide", "(III)V"⟩, 37) := ⟨⟨by decide +kernel, by decide +kernel⟩, List.mem_of_getElem? (i := 1211) (by decide +kernel), List.mem_of_getElem? (i := 1550) (by decide +kernel), List.mem_of_getElem? (i := 1551) (by decide +kernel)⟩
theorem lw_p163 : lw_okq (⟨"SheetFoldsModel", "copiesCorner", "(II)V"⟩, 37) := ⟨⟨by decide +kernel, by decide +kernel⟩, List.mem_of_getElem? (i := 1211) (by decide +kernel), List.mem_of_getElem? (i := 1554) (by decide +kernel), List.mem_of_getElem? (i := 1555) (by decide +kernel)⟩
theorem lw_p164 : lw_okq (⟨"SheetFoldsModel", "moves", "(III)V"⟩, 37) := ⟨⟨by decide +kernel, by decide +kernel⟩, List.mem_of_getElem? (i := 1211) (by decide +kernel), List.mem_of_getElem? (i := 1558) (by decide +kernel), List.mem_of_getElem? (i := 1559) (by decide +kernel)⟩
theorem lw_p165 : lw_okq (⟨"SheetFoldsModel", "alongY", "(I)I"⟩, 37) := ⟨⟨by decide +kernel, by decide +kernel⟩, List.mem_of_getElem? (i := 1211) (by decide +kernel), List.mem_of_getElem? (i := 1562) (by decide +kernel), List.mem_of_getElem? (i := 1563) (by decide +kernel)⟩
theorem lw_p166 : lw_okq (⟨"SheetFoldsModel", "alongX", "(I)I"⟩, 37) := ⟨⟨by decide +kernel, by decide +kernel⟩, List.mem_of_getElem? (i := 1211) (by decide +kernel), List.mem_of_getElem? (i := 1566) (by decide +kernel), List.mem_of_getElem? (i := 1567) (by decide +kernel)⟩
theorem lw_p167 : lw_okq (⟨"SheetFoldsModel", "goesOnFlat", "(II)V"⟩, 37) := ⟨⟨by decide +kernel, by decide +kernel⟩, List.mem_of_getElem? (i := 1211) (by decide +kernel), List.mem_of_getElem? (i := 1570) (by decide +kernel), List.mem_of_getElem? (i := 1571) (by decide +kernel)⟩
theorem lw_p168 : lw_okq (⟨"SheetFoldsModel", "longAlong", "(I)I"⟩, 37) := ⟨⟨by decide +kernel, by decide +kernel⟩, List.mem_of_getElem? (i := 1211) (by decide +kernel), List.mem_of_getElem? (i := 1578) (by decide +kernel), List.mem_of_getElem? (i := 1579) (by decide +kernel)⟩
theorem lw_p169 : lw_okq (⟨"SheetFoldsModel", "laysClear", "()V"⟩, 37) := ⟨⟨by decide +kernel, by decide +kernel⟩, List.mem_of_getElem? (i := 1211) (by decide +kernel), List.mem_of_getElem? (i := 1586) (by decide +kernel), List.mem_of_getElem? (i := 1587) (by decide +kernel)⟩
theorem lw_p170 : lw_okq (⟨"SheetFoldsModel", "forgetsLain", "()V"⟩, 37) := ⟨⟨by decide +kernel, by decide +kernel⟩, List.mem_of_getElem? (i := 1211) (by decide +kernel), List.mem_of_getElem? (i := 1590) (by decide +kernel), List.mem_of_getElem? (i := 1591) (by decide +kernel)⟩
theorem lw_p171 : lw_okq (⟨"SheetFoldsModel", "toolsOf", "(I)I"⟩, 37) := ⟨⟨by decide +kernel, by decide +kernel⟩, List.mem_of_getElem? (i := 1211) (by decide +kernel), List.mem_of_getElem? (i := 1594) (by decide +kernel), List.mem_of_getElem? (i := 1595) (by decide +kernel)⟩
theorem lw_p172 : lw_okq (⟨"SheetFoldsModel", "widthOf", "(I)I"⟩, 37) := ⟨⟨by decide +kernel, by decide +kernel⟩, List.mem_of_getElem? (i := 1211) (by decide +kernel), List.mem_of_getElem? (i := 1598) (by decide +kernel), List.mem_of_getElem? (i := 1599) (by decide +kernel)⟩
theorem lw_p173 : lw_okq (⟨"SheetFoldsModel", "laysClearAgain", "()V"⟩, 37) := ⟨⟨by decide +kernel, by decide +kernel⟩, List.mem_of_getElem? (i := 1211) (by decide +kernel), List.mem_of_getElem? (i := 1605) (by decide +kernel), List.mem_of_getElem? (i := 1606) (by decide +kernel)⟩
theorem lw_p174 : lw_okq (⟨"SheetFoldsModel", "allBends", "()I"⟩, 37) := ⟨⟨by decide +kernel, by decide +kernel⟩, List.mem_of_getElem? (i := 1211) (by decide +kernel), List.mem_of_getElem? (i := 1609) (by decide +kernel), List.mem_of_getElem? (i := 1610) (by decide +kernel)⟩
theorem lw_p175 : lw_okq (⟨"SheetFoldsModel", "lainOf", "(I)I"⟩, 37) := ⟨⟨by decide +kernel, by decide +kernel⟩, List.mem_of_getElem? (i := 1211) (by decide +kernel), List.mem_of_getElem? (i := 1613) (by decide +kernel), List.mem_of_getElem? (i := 1614) (by decide +kernel)⟩
def lw_privs_11 : List (MethodName × Nat) := [(⟨"SheetFoldsModel", "laysEnds", "(III)V"⟩, 37), (⟨"SheetFoldsModel", "standsUp", "(II)V"⟩, 37), (⟨"SheetFoldsModel", "goesToSide", "(III)V"⟩, 37), (⟨"SheetFoldsModel", "copiesCorner", "(II)V"⟩, 37), (⟨"SheetFoldsModel", "moves", "(III)V"⟩, 37), (⟨"SheetFoldsModel", "alongY", "(I)I"⟩, 37), (⟨"SheetFoldsModel", "alongX", "(I)I"⟩, 37), (⟨"SheetFoldsModel", "goesOnFlat", "(II)V"⟩, 37), (⟨"SheetFoldsModel", "longAlong", "(I)I"⟩, 37), (⟨"SheetFoldsModel", "laysClear", "()V"⟩, 37), (⟨"SheetFoldsModel", "forgetsLain", "()V"⟩, 37), (⟨"SheetFoldsModel", "toolsOf", "(I)I"⟩, 37), (⟨"SheetFoldsModel", "widthOf", "(I)I"⟩, 37), (⟨"SheetFoldsModel", "laysClearAgain", "()V"⟩, 37), (⟨"SheetFoldsModel", "allBends", "()I"⟩, 37), (⟨"SheetFoldsModel", "lainOf", "(I)I"⟩, 37)]
theorem lw_r11 : ∀ q ∈ lw_privs_11, lw_okq q := List.forall_mem_cons.mpr ⟨lw_p160, List.forall_mem_cons.mpr ⟨lw_p161, List.forall_mem_cons.mpr ⟨lw_p162, List.forall_mem_cons.mpr ⟨lw_p163, List.forall_mem_cons.mpr ⟨lw_p164, List.forall_mem_cons.mpr ⟨lw_p165, List.forall_mem_cons.mpr ⟨lw_p166, List.forall_mem_cons.mpr ⟨lw_p167, List.forall_mem_cons.mpr ⟨lw_p168, List.forall_mem_cons.mpr ⟨lw_p169, List.forall_mem_cons.mpr ⟨lw_p170, List.forall_mem_cons.mpr ⟨lw_p171, List.forall_mem_cons.mpr ⟨lw_p172, List.forall_mem_cons.mpr ⟨lw_p173, List.forall_mem_cons.mpr ⟨lw_p174, List.forall_mem_cons.mpr ⟨lw_p175, fun _ h => absurd h List.not_mem_nil⟩⟩⟩⟩⟩⟩⟩⟩⟩⟩⟩⟩⟩⟩⟩⟩
theorem lw_p176 : lw_okq (⟨"SheetFoldsModel", "looksAt", "(I)I"⟩, 37) := ⟨⟨by decide +kernel, by decide +kernel⟩, List.mem_of_getElem? (i := 1211) (by decide +kernel), List.mem_of_getElem? (i := 1617) (by decide +kernel), List.mem_of_getElem? (i := 1618) (by decide +kernel)⟩
theorem lw_p177 : lw_okq (⟨"SheetFoldsModel", "metBy", "(I)I"⟩, 37) := ⟨⟨by decide +kernel, by decide +kernel⟩, List.mem_of_getElem? (i := 1211) (by decide +kernel), List.mem_of_getElem? (i := 1621) (by decide +kernel), List.mem_of_getElem? (i := 1622) (by decide +kernel)⟩
theorem lw_p178 : lw_okq (⟨"SheetFoldsModel", "laysPunch", "(I)V"⟩, 37) := ⟨⟨by decide +kernel, by decide +kernel⟩, List.mem_of_getElem? (i := 1211) (by decide +kernel), List.mem_of_getElem? (i := 1625) (by decide +kernel), List.mem_of_getElem? (i := 1626) (by decide +kernel)⟩
theorem lw_p179 : lw_okq (⟨"SheetFoldsModel", "doClash", "(II)Z"⟩, 37) := ⟨⟨by decide +kernel, by decide +kernel⟩, List.mem_of_getElem? (i := 1211) (by decide +kernel), List.mem_of_getElem? (i := 1629) (by decide +kernel), List.mem_of_getElem? (i := 1630) (by decide +kernel)⟩
theorem lw_p180 : lw_okq (⟨"SheetFoldsModel", "axisOf", "(I)I"⟩, 37) := ⟨⟨by decide +kernel, by decide +kernel⟩, List.mem_of_getElem? (i := 1211) (by decide +kernel), List.mem_of_getElem? (i := 1633) (by decide +kernel), List.mem_of_getElem? (i := 1634) (by decide +kernel)⟩
theorem lw_p181 : lw_okq (⟨"SheetFoldsModel", "isBetween", "(III)Z"⟩, 37) := ⟨⟨by decide +kernel, by decide +kernel⟩, List.mem_of_getElem? (i := 1211) (by decide +kernel), List.mem_of_getElem? (i := 1637) (by decide +kernel), List.mem_of_getElem? (i := 1638) (by decide +kernel)⟩
theorem lw_p182 : lw_okq (⟨"SheetFoldsModel", "sharedAlong", "(III)I"⟩, 37) := ⟨⟨by decide +kernel, by decide +kernel⟩, List.mem_of_getElem? (i := 1211) (by decide +kernel), List.mem_of_getElem? (i := 1641) (by decide +kernel), List.mem_of_getElem? (i := 1642) (by decide +kernel)⟩
theorem lw_p183 : lw_okq (⟨"SheetFoldsModel", "anyClash", "()Z"⟩, 37) := ⟨⟨by decide +kernel, by decide +kernel⟩, List.mem_of_getElem? (i := 1211) (by decide +kernel), List.mem_of_getElem? (i := 1645) (by decide +kernel), List.mem_of_getElem? (i := 1646) (by decide +kernel)⟩
theorem lw_p184 : lw_okq (⟨"SheetFoldsModel", "laysReached", "()V"⟩, 37) := ⟨⟨by decide +kernel, by decide +kernel⟩, List.mem_of_getElem? (i := 1211) (by decide +kernel), List.mem_of_getElem? (i := 1650) (by decide +kernel), List.mem_of_getElem? (i := 1651) (by decide +kernel)⟩
theorem lw_p185 : lw_okq (⟨"SheetFoldsModel", "isState", "(I)Z"⟩, 37) := ⟨⟨by decide +kernel, by decide +kernel⟩, List.mem_of_getElem? (i := 1211) (by decide +kernel), List.mem_of_getElem? (i := 1671) (by decide +kernel), List.mem_of_getElem? (i := 1672) (by decide +kernel)⟩
theorem lw_p186 : lw_okq (⟨"SheetFoldsModel", "whyNot", "(II)I"⟩, 37) := ⟨⟨by decide +kernel, by decide +kernel⟩, List.mem_of_getElem? (i := 1211) (by decide +kernel), List.mem_of_getElem? (i := 1687) (by decide +kernel), List.mem_of_getElem? (i := 1688) (by decide +kernel)⟩
theorem lw_p187 : lw_okq (⟨"SheetFoldsModel", "orderMany", "()I"⟩, 37) := ⟨⟨by decide +kernel, by decide +kernel⟩, List.mem_of_getElem? (i := 1211) (by decide +kernel), List.mem_of_getElem? (i := 1696) (by decide +kernel), List.mem_of_getElem? (i := 1697) (by decide +kernel)⟩
theorem lw_p188 : lw_okq (⟨"SheetFoldsModel", "laysWays", "(II)I"⟩, 37) := ⟨⟨by decide +kernel, by decide +kernel⟩, List.mem_of_getElem? (i := 1211) (by decide +kernel), List.mem_of_getElem? (i := 1700) (by decide +kernel), List.mem_of_getElem? (i := 1701) (by decide +kernel)⟩
theorem lw_p189 : lw_okq (⟨"SheetFoldsModel", "isMade", "(I)Z"⟩, 37) := ⟨⟨by decide +kernel, by decide +kernel⟩, List.mem_of_getElem? (i := 1211) (by decide +kernel), List.mem_of_getElem? (i := 1712) (by decide +kernel), List.mem_of_getElem? (i := 1713) (by decide +kernel)⟩
theorem lw_p190 : lw_okq (⟨"SheetFoldsModel", "deadEnds", "(Z)I"⟩, 37) := ⟨⟨by decide +kernel, by decide +kernel⟩, List.mem_of_getElem? (i := 1211) (by decide +kernel), List.mem_of_getElem? (i := 1724) (by decide +kernel), List.mem_of_getElem? (i := 1725) (by decide +kernel)⟩
theorem lw_p191 : lw_okq (⟨"SheetFoldsModel", "laysFewest", "(I)V"⟩, 37) := ⟨⟨by decide +kernel, by decide +kernel⟩, List.mem_of_getElem? (i := 1211) (by decide +kernel), List.mem_of_getElem? (i := 1732) (by decide +kernel), List.mem_of_getElem? (i := 1733) (by decide +kernel)⟩
def lw_privs_12 : List (MethodName × Nat) := [(⟨"SheetFoldsModel", "looksAt", "(I)I"⟩, 37), (⟨"SheetFoldsModel", "metBy", "(I)I"⟩, 37), (⟨"SheetFoldsModel", "laysPunch", "(I)V"⟩, 37), (⟨"SheetFoldsModel", "doClash", "(II)Z"⟩, 37), (⟨"SheetFoldsModel", "axisOf", "(I)I"⟩, 37), (⟨"SheetFoldsModel", "isBetween", "(III)Z"⟩, 37), (⟨"SheetFoldsModel", "sharedAlong", "(III)I"⟩, 37), (⟨"SheetFoldsModel", "anyClash", "()Z"⟩, 37), (⟨"SheetFoldsModel", "laysReached", "()V"⟩, 37), (⟨"SheetFoldsModel", "isState", "(I)Z"⟩, 37), (⟨"SheetFoldsModel", "whyNot", "(II)I"⟩, 37), (⟨"SheetFoldsModel", "orderMany", "()I"⟩, 37), (⟨"SheetFoldsModel", "laysWays", "(II)I"⟩, 37), (⟨"SheetFoldsModel", "isMade", "(I)Z"⟩, 37), (⟨"SheetFoldsModel", "deadEnds", "(Z)I"⟩, 37), (⟨"SheetFoldsModel", "laysFewest", "(I)V"⟩, 37)]
theorem lw_r12 : ∀ q ∈ lw_privs_12, lw_okq q := List.forall_mem_cons.mpr ⟨lw_p176, List.forall_mem_cons.mpr ⟨lw_p177, List.forall_mem_cons.mpr ⟨lw_p178, List.forall_mem_cons.mpr ⟨lw_p179, List.forall_mem_cons.mpr ⟨lw_p180, List.forall_mem_cons.mpr ⟨lw_p181, List.forall_mem_cons.mpr ⟨lw_p182, List.forall_mem_cons.mpr ⟨lw_p183, List.forall_mem_cons.mpr ⟨lw_p184, List.forall_mem_cons.mpr ⟨lw_p185, List.forall_mem_cons.mpr ⟨lw_p186, List.forall_mem_cons.mpr ⟨lw_p187, List.forall_mem_cons.mpr ⟨lw_p188, List.forall_mem_cons.mpr ⟨lw_p189, List.forall_mem_cons.mpr ⟨lw_p190, List.forall_mem_cons.mpr ⟨lw_p191, fun _ h => absurd h List.not_mem_nil⟩⟩⟩⟩⟩⟩⟩⟩⟩⟩⟩⟩⟩⟩⟩⟩
theorem lw_p192 : lw_okq (⟨"SheetFoldsModel", "costAt", "(II)I"⟩, 37) := ⟨⟨by decide +kernel, by decide +kernel⟩, List.mem_of_getElem? (i := 1211) (by decide +kernel), List.mem_of_getElem? (i := 1736) (by decide +kernel), List.mem_of_getElem? (i := 1737) (by decide +kernel)⟩
theorem lw_p193 : lw_okq (⟨"SheetFoldsModel", "isOrderBy", "(I)Z"⟩, 37) := ⟨⟨by decide +kernel, by decide +kernel⟩, List.mem_of_getElem? (i := 1211) (by decide +kernel), List.mem_of_getElem? (i := 1749) (by decide +kernel), List.mem_of_getElem? (i := 1750) (by decide +kernel)⟩
theorem lw_p194 : lw_okq (⟨"SheetFoldsModel", "turnsAll", "(I)V"⟩, 37) := ⟨⟨by decide +kernel, by decide +kernel⟩, List.mem_of_getElem? (i := 1211) (by decide +kernel), List.mem_of_getElem? (i := 1757) (by decide +kernel), List.mem_of_getElem? (i := 1758) (by decide +kernel)⟩
theorem lw_p195 : lw_okq (⟨"SheetFoldsModel", "isFit", "(II)Z"⟩, 37) := ⟨⟨by decide +kernel, by decide +kernel⟩, List.mem_of_getElem? (i := 1211) (by decide +kernel), List.mem_of_getElem? (i := 1777) (by decide +kernel), List.mem_of_getElem? (i := 1778) (by decide +kernel)⟩
theorem lw_p196 : lw_okq (⟨"SheetFoldsModel", "lengthBy", "(III)I"⟩, 37) := ⟨⟨by decide +kernel, by decide +kernel⟩, List.mem_of_getElem? (i := 1211) (by decide +kernel), List.mem_of_getElem? (i := 1781) (by decide +kernel), List.mem_of_getElem? (i := 1782) (by decide +kernel)⟩
theorem lw_p197 : lw_okq (⟨"SheetFoldsModel", "leftBy", "(II)I"⟩, 37) := ⟨⟨by decide +kernel, by decide +kernel⟩, List.mem_of_getElem? (i := 1211) (by decide +kernel), List.mem_of_getElem? (i := 1790) (by decide +kernel), List.mem_of_getElem? (i := 1791) (by decide +kernel)⟩
theorem lw_p198 : lw_okq (⟨"SheetFoldsModel", "remembers", "()V"⟩, 37) := ⟨⟨by decide +kernel, by decide +kernel⟩, List.mem_of_getElem? (i := 1211) (by decide +kernel), List.mem_of_getElem? (i := 1798) (by decide +kernel), List.mem_of_getElem? (i := 1799) (by decide +kernel)⟩
theorem lw_p199 : lw_okq (⟨"SheetFoldsModel", "canOpen", "(I)Z"⟩, 37) := ⟨⟨by decide +kernel, by decide +kernel⟩, List.mem_of_getElem? (i := 1211) (by decide +kernel), List.mem_of_getElem? (i := 1806) (by decide +kernel), List.mem_of_getElem? (i := 1807) (by decide +kernel)⟩
theorem lw_p200 : lw_okq (⟨"SheetFoldsModel", "draw", "(I)I"⟩, 37) := ⟨⟨by decide +kernel, by decide +kernel⟩, List.mem_of_getElem? (i := 1211) (by decide +kernel), List.mem_of_getElem? (i := 1839) (by decide +kernel), List.mem_of_getElem? (i := 1840) (by decide +kernel)⟩
def lw_privs_13 : List (MethodName × Nat) := [(⟨"SheetFoldsModel", "costAt", "(II)I"⟩, 37), (⟨"SheetFoldsModel", "isOrderBy", "(I)Z"⟩, 37), (⟨"SheetFoldsModel", "turnsAll", "(I)V"⟩, 37), (⟨"SheetFoldsModel", "isFit", "(II)Z"⟩, 37), (⟨"SheetFoldsModel", "lengthBy", "(III)I"⟩, 37), (⟨"SheetFoldsModel", "leftBy", "(II)I"⟩, 37), (⟨"SheetFoldsModel", "remembers", "()V"⟩, 37), (⟨"SheetFoldsModel", "canOpen", "(I)Z"⟩, 37), (⟨"SheetFoldsModel", "draw", "(I)I"⟩, 37)]
theorem lw_r13 : ∀ q ∈ lw_privs_13, lw_okq q := List.forall_mem_cons.mpr ⟨lw_p192, List.forall_mem_cons.mpr ⟨lw_p193, List.forall_mem_cons.mpr ⟨lw_p194, List.forall_mem_cons.mpr ⟨lw_p195, List.forall_mem_cons.mpr ⟨lw_p196, List.forall_mem_cons.mpr ⟨lw_p197, List.forall_mem_cons.mpr ⟨lw_p198, List.forall_mem_cons.mpr ⟨lw_p199, List.forall_mem_cons.mpr ⟨lw_p200, fun _ h => absurd h List.not_mem_nil⟩⟩⟩⟩⟩⟩⟩⟩⟩
def lw_privs : List (MethodName × Nat) := lw_privs_1 ++ (lw_privs_2 ++ (lw_privs_3 ++ (lw_privs_4 ++ (lw_privs_5 ++ (lw_privs_6 ++ (lw_privs_7 ++ (lw_privs_8 ++ (lw_privs_9 ++ (lw_privs_10 ++ (lw_privs_11 ++ (lw_privs_12 ++ (lw_privs_13))))))))))))
def lw_tbl : List Cond := k2_sels lw_privs ++ tables_1
theorem lw_privs_ok : ∀ q ∈ lw_privs, lw_okq q := by
  show ∀ q ∈ lw_privs_1 ++ (lw_privs_2 ++ (lw_privs_3 ++ (lw_privs_4 ++ (lw_privs_5 ++ (lw_privs_6 ++ (lw_privs_7 ++ (lw_privs_8 ++ (lw_privs_9 ++ (lw_privs_10 ++ (lw_privs_11 ++ (lw_privs_12 ++ (lw_privs_13)))))))))))), lw_okq q
  exact List.forall_mem_append.mpr ⟨lw_r1, List.forall_mem_append.mpr ⟨lw_r2, List.forall_mem_append.mpr ⟨lw_r3, List.forall_mem_append.mpr ⟨lw_r4, List.forall_mem_append.mpr ⟨lw_r5, List.forall_mem_append.mpr ⟨lw_r6, List.forall_mem_append.mpr ⟨lw_r7, List.forall_mem_append.mpr ⟨lw_r8, List.forall_mem_append.mpr ⟨lw_r9, List.forall_mem_append.mpr ⟨lw_r10, List.forall_mem_append.mpr ⟨lw_r11, List.forall_mem_append.mpr ⟨lw_r12, lw_r13⟩⟩⟩⟩⟩⟩⟩⟩⟩⟩⟩⟩
end
section
def RX0 : String := "SheetFolds$History"
def TX0 : u_T := fun k => match k with
  | 0 => ("SheetFolds$History", "rows", "[I", true)
  | 1 => ("SheetFolds$History", "size", "I", false)
  | _ => ("SheetFolds$History", "next", "I", false)
def tyX0 : Nat → FieldType := fun k => match k with
  | 0 => .array .int
  | 1 => .int
  | _ => .int
abbrev wsX00 : List Cond := u_ws RX0 TX0 3
theorem nmX0 : ∀ a, a < 3 → ∀ b, b < 3 → a ≠ b → (TX0 a).2.1 ≠ (TX0 b).2.1 := by decide +kernel
theorem tyX0_ok : ∀ k, k < 3 → parseFieldDescriptor (TX0 k).2.2.1 = some (tyX0 k) := by decide +kernel
abbrev cX0_init : ByteArray := prog_2_method_1_code
def yX0_init : MethodName := ⟨RX0, "<init>", "()V"⟩
abbrev cX0_keep : ByteArray := prog_2_method_2_code
def yX0_keep : MethodName := ⟨RX0, "keep", "(LSheetFolds$Part;I)V"⟩
abbrev cX0_takeBack : ByteArray := prog_2_method_3_code
def yX0_takeBack : MethodName := ⟨RX0, "takeBack", "(LSheetFolds$Part;)I"⟩
def RX1 : String := "SheetFolds$Measured"
def TX1 : u_T := fun k => match k with
  | 0 => ("SheetFolds$Measured", "flanges", "[I", true)
  | 1 => ("SheetFolds$Measured", "lengths", "[I", true)
  | _ => ("SheetFolds$Measured", "rows", "I", false)
def tyX1 : Nat → FieldType := fun k => match k with
  | 0 => .array .int
  | 1 => .array .int
  | _ => .int
abbrev wsX10 : List Cond := u_ws RX1 TX1 3
theorem nmX1 : ∀ a, a < 3 → ∀ b, b < 3 → a ≠ b → (TX1 a).2.1 ≠ (TX1 b).2.1 := by decide +kernel
theorem tyX1_ok : ∀ k, k < 3 → parseFieldDescriptor (TX1 k).2.2.1 = some (tyX1 k) := by decide +kernel
abbrev cX1_init : ByteArray := prog_3_method_1_code
def yX1_init : MethodName := ⟨RX1, "<init>", "()V"⟩
abbrev cX1_take : ByteArray := prog_3_method_2_code
def yX1_take : MethodName := ⟨RX1, "take", "(LSheetFolds$Tape;LSheetFolds$Part;)Z"⟩
abbrev cX1_explains : ByteArray := prog_3_method_3_code
def yX1_explains : MethodName := ⟨RX1, "explains", "(LSheetFolds$Part;II)Z"⟩
abbrev cX1_fitAt : ByteArray := prog_3_method_4_code
def yX1_fitAt : MethodName := ⟨RX1, "fitAt", "(LSheetFolds$Part;II)I"⟩
abbrev cX1_mostLeft : ByteArray := prog_3_method_5_code
def yX1_mostLeft : MethodName := ⟨RX1, "mostLeft", "(LSheetFolds$Part;III)I"⟩
abbrev cX1_tellingFlange : ByteArray := prog_3_method_6_code
def yX1_tellingFlange : MethodName := ⟨RX1, "tellingFlange", "(LSheetFolds$Part;II)I"⟩
def RX2 : String := "SheetFolds$Mender"
def TX2 : u_T := fun k => match k with
  | 0 => ("SheetFolds$Mender", "marks", "[B", false)
  | 1 => ("SheetFolds$Mender", "codeMade", "I", false)
  | _ => ("SheetFolds$Mender", "codeUps", "I", false)
def tyX2 : Nat → FieldType := fun k => match k with
  | 0 => .array .byte
  | 1 => .int
  | _ => .int
abbrev wsX20 : List Cond := u_ws RX2 TX2 3
theorem nmX2 : ∀ a, a < 3 → ∀ b, b < 3 → a ≠ b → (TX2 a).2.1 ≠ (TX2 b).2.1 := by decide +kernel
theorem tyX2_ok : ∀ k, k < 3 → parseFieldDescriptor (TX2 k).2.2.1 = some (tyX2 k) := by decide +kernel
abbrev cX2_init : ByteArray := prog_4_method_1_code
def yX2_init : MethodName := ⟨RX2, "<init>", "()V"⟩
abbrev cX2_leastTurns : ByteArray := prog_4_method_2_code
def yX2_leastTurns : MethodName := ⟨RX2, "leastTurns", "(LSheetFolds$Pose;LSheetFolds$Part;I)I"⟩
abbrev cX2_codeOf : ByteArray := prog_4_method_3_code
def yX2_codeOf : MethodName := ⟨RX2, "codeOf", "(II)I"⟩
abbrev cX2_decode : ByteArray := prog_4_method_4_code
def yX2_decode : MethodName := ⟨RX2, "decode", "(I)V"⟩
abbrev cX2_spread : ByteArray := prog_4_method_5_code
def yX2_spread : MethodName := ⟨RX2, "spread", "(LSheetFolds$Pose;LSheetFolds$Part;I)V"⟩
abbrev cX2_mark : ByteArray := prog_4_method_6_code
def yX2_mark : MethodName := ⟨RX2, "mark", "(LSheetFolds$Pose;LSheetFolds$Part;I)V"⟩
def RX3 : String := "SheetFolds$Orders"
def TX3 : u_T := fun k => match k with
  | 0 => ("SheetFolds$Orders", "room", "[I", true)
  | 1 => ("SheetFolds$Orders", "clashing", "[B", true)
  | 2 => ("SheetFolds$Orders", "reach", "[B", true)
  | 3 => ("SheetFolds$Orders", "ways", "[I", true)
  | 4 => ("SheetFolds$Orders", "switches", "[I", true)
  | 5 => ("SheetFolds$Orders", "kind", "[I", true)
  | 6 => ("SheetFolds$Orders", "best", "[I", true)
  | 7 => ("SheetFolds$Orders", "row", "[I", true)
  | 8 => ("SheetFolds$Orders", "rowLength", "I", false)
  | 9 => ("SheetFolds$Orders", "bends", "I", false)
  | 10 => ("SheetFolds$Orders", "full", "I", false)
  | 11 => ("SheetFolds$Orders", "first", "I", false)
  | _ => ("SheetFolds$Orders", "punch", "I", false)
def tyX3 : Nat → FieldType := fun k => match k with
  | 0 => .array .int
  | 1 => .array .byte
  | 2 => .array .byte
  | 3 => .array .int
  | 4 => .array .int
  | 5 => .array .int
  | 6 => .array .int
  | 7 => .array .int
  | 8 => .int
  | 9 => .int
  | 10 => .int
  | 11 => .int
  | _ => .int
abbrev wsX30 : List Cond := u_ws RX3 TX3 13
theorem nmX3 : ∀ a, a < 13 → ∀ b, b < 13 → a ≠ b → (TX3 a).2.1 ≠ (TX3 b).2.1 := by decide +kernel
theorem tyX3_ok : ∀ k, k < 13 → parseFieldDescriptor (TX3 k).2.2.1 = some (tyX3 k) := by decide +kernel
abbrev cX3_init : ByteArray := prog_5_method_1_code
def yX3_init : MethodName := ⟨RX3, "<init>", "()V"⟩
abbrev cX3_measureRooms : ByteArray := prog_5_method_2_code
def yX3_measureRooms : MethodName := ⟨RX3, "measureRooms", "(LSheetFolds$Pose;LSheetFolds$Part;I)V"⟩
abbrev cX3_cell : ByteArray := prog_5_method_3_code
def yX3_cell : MethodName := ⟨RX3, "cell", "(II)I"⟩
abbrev cX3_isClear : ByteArray := prog_5_method_4_code
def yX3_isClear : MethodName := ⟨RX3, "isClear", "(II)Z"⟩
abbrev cX3_searchFrom : ByteArray := prog_5_method_5_code
def yX3_searchFrom : MethodName := ⟨RX3, "searchFrom", "(II)V"⟩
abbrev cX3_isReached : ByteArray := prog_5_method_6_code
def yX3_isReached : MethodName := ⟨RX3, "isReached", "(I)Z"⟩
abbrev cX3_ordersFrom : ByteArray := prog_5_method_7_code
def yX3_ordersFrom : MethodName := ⟨RX3, "ordersFrom", "(I)I"⟩
abbrev cX3_goesOn : ByteArray := prog_5_method_8_code
def yX3_goesOn : MethodName := ⟨RX3, "goesOn", "(II)Z"⟩
abbrev cX3_walkFirst : ByteArray := prog_5_method_9_code
def yX3_walkFirst : MethodName := ⟨RX3, "walkFirst", "()V"⟩
abbrev cX3_firstThatGoesOn : ByteArray := prog_5_method_10_code
def yX3_firstThatGoesOn : MethodName := ⟨RX3, "firstThatGoesOn", "(I)I"⟩
abbrev cX3_append : ByteArray := prog_5_method_11_code
def yX3_append : MethodName := ⟨RX3, "append", "(II)I"⟩
abbrev cX3_rowAt : ByteArray := prog_5_method_12_code
def yX3_rowAt : MethodName := ⟨RX3, "rowAt", "(I)I"⟩
abbrev cX3_firstOfRow : ByteArray := prog_5_method_13_code
def yX3_firstOfRow : MethodName := ⟨RX3, "firstOfRow", "(I)I"⟩
abbrev cX3_canEndWith : ByteArray := prog_5_method_14_code
def yX3_canEndWith : MethodName := ⟨RX3, "canEndWith", "(I)Z"⟩
abbrev cX3_passesWithout : ByteArray := prog_5_method_15_code
def yX3_passesWithout : MethodName := ⟨RX3, "passesWithout", "(II)Z"⟩
abbrev cX3_countReached : ByteArray := prog_5_method_16_code
def yX3_countReached : MethodName := ⟨RX3, "countReached", "()I"⟩
abbrev cX3_clearBends : ByteArray := prog_5_method_17_code
def yX3_clearBends : MethodName := ⟨RX3, "clearBends", "(I)I"⟩
abbrev cX3_isDeadEnd : ByteArray := prog_5_method_18_code
def yX3_isDeadEnd : MethodName := ⟨RX3, "isDeadEnd", "(I)Z"⟩
abbrev cX3_countDeadEnds : ByteArray := prog_5_method_19_code
def yX3_countDeadEnds : MethodName := ⟨RX3, "countDeadEnds", "()I"⟩
abbrev cX3_fullestDeadEnd : ByteArray := prog_5_method_20_code
def yX3_fullestDeadEnd : MethodName := ⟨RX3, "fullestDeadEnd", "()I"⟩
abbrev cX3_blocked : ByteArray := prog_5_method_21_code
def yX3_blocked : MethodName := ⟨RX3, "blocked", "()I"⟩
abbrev cX3_countSwitches : ByteArray := prog_5_method_22_code
def yX3_countSwitches : MethodName := ⟨RX3, "countSwitches", "(LSheetFolds$Part;I)V"⟩
abbrev cX3_leastFrom : ByteArray := prog_5_method_23_code
def yX3_leastFrom : MethodName := ⟨RX3, "leastFrom", "(II)I"⟩
abbrev cX3_switchesWith : ByteArray := prog_5_method_24_code
def yX3_switchesWith : MethodName := ⟨RX3, "switchesWith", "(III)I"⟩
abbrev cX3_walkThrifty : ByteArray := prog_5_method_25_code
def yX3_walkThrifty : MethodName := ⟨RX3, "walkThrifty", "()V"⟩
abbrev cX3_firstThrifty : ByteArray := prog_5_method_26_code
def yX3_firstThrifty : MethodName := ⟨RX3, "firstThrifty", "(II)I"⟩
abbrev cX3_tallestPunch : ByteArray := prog_5_method_27_code
def yX3_tallestPunch : MethodName := ⟨RX3, "tallestPunch", "()I"⟩
def RX4 : String := "SheetFolds$Part"
def TX4 : u_T := fun k => match k with
  | 0 => ("SheetFolds$Part", "count", "I", false)
  | 1 => ("SheetFolds$Part", "statements", "I", false)
  | 2 => ("SheetFolds$Part", "thick", "I", false)
  | 3 => ("SheetFolds$Part", "punch", "I", false)
  | 4 => ("SheetFolds$Part", "ups", "I", false)
  | 5 => ("SheetFolds$Part", "toolCount", "I", false)
  | 6 => ("SheetFolds$Part", "toolWidth", "[I", true)
  | 7 => ("SheetFolds$Part", "told", "[I", true)
  | 8 => ("SheetFolds$Part", "name", "[I", true)
  | 9 => ("SheetFolds$Part", "parent", "[I", true)
  | 10 => ("SheetFolds$Part", "side", "[I", true)
  | 11 => ("SheetFolds$Part", "from", "[I", true)
  | 12 => ("SheetFolds$Part", "width", "[I", true)
  | 13 => ("SheetFolds$Part", "height", "[I", true)
  | 14 => ("SheetFolds$Part", "radius", "[I", true)
  | _ => ("SheetFolds$Part", "toolSet", "[I", true)
def tyX4 : Nat → FieldType := fun k => match k with
  | 0 => .int
  | 1 => .int
  | 2 => .int
  | 3 => .int
  | 4 => .int
  | 5 => .int
  | 6 => .array .int
  | 7 => .array .int
  | 8 => .array .int
  | 9 => .array .int
  | 10 => .array .int
  | 11 => .array .int
  | 12 => .array .int
  | 13 => .array .int
  | 14 => .array .int
  | _ => .array .int
abbrev wsX40 : List Cond := u_ws RX4 TX4 16
theorem nmX4 : ∀ a, a < 16 → ∀ b, b < 16 → a ≠ b → (TX4 a).2.1 ≠ (TX4 b).2.1 := by decide +kernel
theorem tyX4_ok : ∀ k, k < 16 → parseFieldDescriptor (TX4 k).2.2.1 = some (tyX4 k) := by decide +kernel
abbrev cX4_init : ByteArray := prog_6_method_1_code
def yX4_init : MethodName := ⟨RX4, "<init>", "()V"⟩
abbrev cX4_clear : ByteArray := prog_6_method_2_code
def yX4_clear : MethodName := ⟨RX4, "clear", "()V"⟩
abbrev cX4_isThere : ByteArray := prog_6_method_3_code
def yX4_isThere : MethodName := ⟨RX4, "isThere", "()Z"⟩
abbrev cX4_isFlange : ByteArray := prog_6_method_4_code
def yX4_isFlange : MethodName := ⟨RX4, "isFlange", "(I)Z"⟩
abbrev cX4_isBend : ByteArray := prog_6_method_5_code
def yX4_isBend : MethodName := ⟨RX4, "isBend", "(I)Z"⟩
abbrev cX4_isPiece : ByteArray := prog_6_method_6_code
def yX4_isPiece : MethodName := ⟨RX4, "isPiece", "(I)Z"⟩
abbrev cX4_isState : ByteArray := prog_6_method_7_code
def yX4_isState : MethodName := ⟨RX4, "isState", "(I)Z"⟩
abbrev cX4_allBends : ByteArray := prog_6_method_8_code
def yX4_allBends : MethodName := ⟨RX4, "allBends", "()I"⟩
abbrev cX4_allowanceOf : ByteArray := prog_6_method_9_code
def yX4_allowanceOf : MethodName := ⟨RX4, "allowanceOf", "(I)I"⟩
abbrev cX4_zoneOf : ByteArray := prog_6_method_10_code
def yX4_zoneOf : MethodName := ⟨RX4, "zoneOf", "(I)I"⟩
abbrev cX4_sizeX : ByteArray := prog_6_method_11_code
def yX4_sizeX : MethodName := ⟨RX4, "sizeX", "(I)I"⟩
abbrev cX4_sizeY : ByteArray := prog_6_method_12_code
def yX4_sizeY : MethodName := ⟨RX4, "sizeY", "(I)I"⟩
abbrev cX4_sideLength : ByteArray := prog_6_method_13_code
def yX4_sideLength : MethodName := ⟨RX4, "sideLength", "(II)I"⟩
abbrev cX4_runsAlongX : ByteArray := prog_6_method_14_code
def yX4_runsAlongX : MethodName := ⟨RX4, "runsAlongX", "(I)Z"⟩
abbrev cX4_hangsBy : ByteArray := prog_6_method_15_code
def yX4_hangsBy : MethodName := ⟨RX4, "hangsBy", "(II)Z"⟩
abbrev cX4_sharesSide : ByteArray := prog_6_method_16_code
def yX4_sharesSide : MethodName := ⟨RX4, "sharesSide", "(II)Z"⟩
abbrev cX4_depth : ByteArray := prog_6_method_17_code
def yX4_depth : MethodName := ⟨RX4, "depth", "(I)I"⟩
abbrev cX4_hangsOn : ByteArray := prog_6_method_18_code
def yX4_hangsOn : MethodName := ⟨RX4, "hangsOn", "(II)Z"⟩
abbrev cX4_countHangers : ByteArray := prog_6_method_19_code
def yX4_countHangers : MethodName := ⟨RX4, "countHangers", "(I)I"⟩
abbrev cX4_bendsBetween : ByteArray := prog_6_method_20_code
def yX4_bendsBetween : MethodName := ⟨RX4, "bendsBetween", "(II)I"⟩
abbrev cX4_lengthOf : ByteArray := prog_6_method_21_code
def yX4_lengthOf : MethodName := ⟨RX4, "lengthOf", "(I)I"⟩
abbrev cX4_timesInLength : ByteArray := prog_6_method_22_code
def yX4_timesInLength : MethodName := ⟨RX4, "timesInLength", "(II)I"⟩
abbrev cX4_chooseTools : ByteArray := prog_6_method_23_code
def yX4_chooseTools : MethodName := ⟨RX4, "chooseTools", "()V"⟩
abbrev cX4_widthOfTools : ByteArray := prog_6_method_24_code
def yX4_widthOfTools : MethodName := ⟨RX4, "widthOfTools", "(I)I"⟩
abbrev cX4_offerTools : ByteArray := prog_6_method_25_code
def yX4_offerTools : MethodName := ⟨RX4, "offerTools", "(II)V"⟩
abbrev cX4_needsTools : ByteArray := prog_6_method_26_code
def yX4_needsTools : MethodName := ⟨RX4, "needsTools", "(I)Z"⟩
abbrev cX4_leastWidthWithoutTools : ByteArray := prog_6_method_27_code
def yX4_leastWidthWithoutTools : MethodName := ⟨RX4, "leastWidthWithoutTools", "()I"⟩
abbrev cX4_countWithoutTools : ByteArray := prog_6_method_28_code
def yX4_countWithoutTools : MethodName := ⟨RX4, "countWithoutTools", "()I"⟩
def RX5 : String := "SheetFolds$Pose"
def TX5 : u_T := fun k => match k with
  | 0 => ("SheetFolds$Pose", "low", "[I", true)
  | 1 => ("SheetFolds$Pose", "high", "[I", true)
  | 2 => ("SheetFolds$Pose", "normal", "[I", true)
  | 3 => ("SheetFolds$Pose", "corner", "[I", true)
  | 4 => ("SheetFolds$Pose", "east", "[I", true)
  | 5 => ("SheetFolds$Pose", "north", "[I", true)
  | 6 => ("SheetFolds$Pose", "start", "[I", true)
  | _ => ("SheetFolds$Pose", "far", "[I", true)
def tyX5 : Nat → FieldType := fun k => match k with
  | 0 => .array .int
  | 1 => .array .int
  | 2 => .array .int
  | 3 => .array .int
  | 4 => .array .int
  | 5 => .array .int
  | 6 => .array .int
  | _ => .array .int
abbrev wsX50 : List Cond := u_ws RX5 TX5 8
theorem nmX5 : ∀ a, a < 8 → ∀ b, b < 8 → a ≠ b → (TX5 a).2.1 ≠ (TX5 b).2.1 := by decide +kernel
theorem tyX5_ok : ∀ k, k < 8 → parseFieldDescriptor (TX5 k).2.2.1 = some (tyX5 k) := by decide +kernel
abbrev cX5_init : ByteArray := prog_7_method_1_code
def yX5_init : MethodName := ⟨RX5, "<init>", "()V"⟩
abbrev cX5_place : ByteArray := prog_7_method_2_code
def yX5_place : MethodName := ⟨RX5, "place", "(LSheetFolds$Part;II)V"⟩
abbrev cX5_placeFlat : ByteArray := prog_7_method_3_code
def yX5_placeFlat : MethodName := ⟨RX5, "placeFlat", "(LSheetFolds$Part;)V"⟩
abbrev cX5_placeBase : ByteArray := prog_7_method_4_code
def yX5_placeBase : MethodName := ⟨RX5, "placeBase", "(LSheetFolds$Part;)V"⟩
abbrev cX5_placeFlange : ByteArray := prog_7_method_5_code
def yX5_placeFlange : MethodName := ⟨RX5, "placeFlange", "(LSheetFolds$Part;IZZ)V"⟩
abbrev cX5_against : ByteArray := prog_7_method_6_code
def yX5_against : MethodName := ⟨RX5, "against", "(I)I"⟩
abbrev cX5_outward : ByteArray := prog_7_method_7_code
def yX5_outward : MethodName := ⟨RX5, "outward", "(II)I"⟩
abbrev cX5_alongSide : ByteArray := prog_7_method_8_code
def yX5_alongSide : MethodName := ⟨RX5, "alongSide", "(II)I"⟩
abbrev cX5_goToSide : ByteArray := prog_7_method_9_code
def yX5_goToSide : MethodName := ⟨RX5, "goToSide", "(LSheetFolds$Part;I)V"⟩
abbrev cX5_move : ByteArray := prog_7_method_10_code
def yX5_move : MethodName := ⟨RX5, "move", "([III)V"⟩
abbrev cX5_setBox : ByteArray := prog_7_method_11_code
def yX5_setBox : MethodName := ⟨RX5, "setBox", "(IIIII)V"⟩
abbrev cX5_lowOf : ByteArray := prog_7_method_12_code
def yX5_lowOf : MethodName := ⟨RX5, "lowOf", "(II)I"⟩
abbrev cX5_highOf : ByteArray := prog_7_method_13_code
def yX5_highOf : MethodName := ⟨RX5, "highOf", "(II)I"⟩
abbrev cX5_signedNormal : ByteArray := prog_7_method_14_code
def yX5_signedNormal : MethodName := ⟨RX5, "signedNormal", "(I)I"⟩
abbrev cX5_leastLow : ByteArray := prog_7_method_15_code
def yX5_leastLow : MethodName := ⟨RX5, "leastLow", "(II)I"⟩
abbrev cX5_mostHigh : ByteArray := prog_7_method_16_code
def yX5_mostHigh : MethodName := ⟨RX5, "mostHigh", "(II)I"⟩
abbrev cX5_extent : ByteArray := prog_7_method_17_code
def yX5_extent : MethodName := ⟨RX5, "extent", "(II)I"⟩
abbrev cX5_size : ByteArray := prog_7_method_18_code
def yX5_size : MethodName := ⟨RX5, "size", "(I)I"⟩
abbrev cX5_area : ByteArray := prog_7_method_19_code
def yX5_area : MethodName := ⟨RX5, "area", "(LSheetFolds$Part;)I"⟩
abbrev cX5_gapOf : ByteArray := prog_7_method_20_code
def yX5_gapOf : MethodName := ⟨RX5, "gapOf", "(II)I"⟩
abbrev cX5_share : ByteArray := prog_7_method_21_code
def yX5_share : MethodName := ⟨RX5, "share", "(III)Z"⟩
abbrev cX5_overlaps : ByteArray := prog_7_method_22_code
def yX5_overlaps : MethodName := ⟨RX5, "overlaps", "(LSheetFolds$Part;I)I"⟩
abbrev cX5_clashes : ByteArray := prog_7_method_23_code
def yX5_clashes : MethodName := ⟨RX5, "clashes", "(II)I"⟩
abbrev cX5_doClash : ByteArray := prog_7_method_24_code
def yX5_doClash : MethodName := ⟨RX5, "doClash", "(II)Z"⟩
abbrev cX5_isWithin : ByteArray := prog_7_method_25_code
def yX5_isWithin : MethodName := ⟨RX5, "isWithin", "(III)Z"⟩
abbrev cX5_standPunch : ByteArray := prog_7_method_26_code
def yX5_standPunch : MethodName := ⟨RX5, "standPunch", "(LSheetFolds$Part;IZI)I"⟩
abbrev cX5_metByPunch : ByteArray := prog_7_method_27_code
def yX5_metByPunch : MethodName := ⟨RX5, "metByPunch", "(LSheetFolds$Part;I)I"⟩
abbrev cX5_roomFor : ByteArray := prog_7_method_28_code
def yX5_roomFor : MethodName := ⟨RX5, "roomFor", "(LSheetFolds$Part;IZ)I"⟩
def RX6 : String := "SheetFolds$Reader"
def TX6 : u_T := fun k => match k with
  | 0 => ("SheetFolds$Reader", "tape", "LSheetFolds$Tape;", true)
  | 1 => ("SheetFolds$Reader", "into", "LSheetFolds$Part;", false)
  | 2 => ("SheetFolds$Reader", "at", "I", false)
  | 3 => ("SheetFolds$Reader", "tokenStart", "I", false)
  | 4 => ("SheetFolds$Reader", "tokenEnd", "I", false)
  | 5 => ("SheetFolds$Reader", "fault", "I", false)
  | _ => ("SheetFolds$Reader", "place", "I", false)
def tyX6 : Nat → FieldType := fun k => match k with
  | 0 => .object "SheetFolds$Tape"
  | 1 => .object "SheetFolds$Part"
  | 2 => .int
  | 3 => .int
  | 4 => .int
  | 5 => .int
  | _ => .int
abbrev wsX60 : List Cond := u_ws RX6 TX6 7
theorem nmX6 : ∀ a, a < 7 → ∀ b, b < 7 → a ≠ b → (TX6 a).2.1 ≠ (TX6 b).2.1 := by decide +kernel
theorem tyX6_ok : ∀ k, k < 7 → parseFieldDescriptor (TX6 k).2.2.1 = some (tyX6 k) := by decide +kernel
abbrev cX6_init : ByteArray := prog_8_method_1_code
def yX6_init : MethodName := ⟨RX6, "<init>", "(LSheetFolds$Tape;)V"⟩
abbrev cX6_read : ByteArray := prog_8_method_2_code
def yX6_read : MethodName := ⟨RX6, "read", "(LSheetFolds$Part;)V"⟩
abbrev cX6_begin : ByteArray := prog_8_method_3_code
def yX6_begin : MethodName := ⟨RX6, "begin", "(LSheetFolds$Part;)V"⟩
abbrev cX6_fail : ByteArray := prog_8_method_4_code
def yX6_fail : MethodName := ⟨RX6, "fail", "(II)V"⟩
abbrev cX6_moreText : ByteArray := prog_8_method_5_code
def yX6_moreText : MethodName := ⟨RX6, "moreText", "()Z"⟩
abbrev cX6_skipBlanks : ByteArray := prog_8_method_6_code
def yX6_skipBlanks : MethodName := ⟨RX6, "skipBlanks", "()V"⟩
abbrev cX6_readWord : ByteArray := prog_8_method_7_code
def yX6_readWord : MethodName := ⟨RX6, "readWord", "()V"⟩
abbrev cX6_isLetter : ByteArray := prog_8_method_8_code
def yX6_isLetter : MethodName := ⟨RX6, "isLetter", "(I)Z"⟩
abbrev cX6_isDigit : ByteArray := prog_8_method_9_code
def yX6_isDigit : MethodName := ⟨RX6, "isDigit", "(I)Z"⟩
abbrev cX6_wordIs : ByteArray := prog_8_method_10_code
def yX6_wordIs : MethodName := ⟨RX6, "wordIs", "(Ljava/lang/String;)Z"⟩
abbrev cX6_isOwnWord : ByteArray := prog_8_method_11_code
def yX6_isOwnWord : MethodName := ⟨RX6, "isOwnWord", "()Z"⟩
abbrev cX6_keyword : ByteArray := prog_8_method_12_code
def yX6_keyword : MethodName := ⟨RX6, "keyword", "(Ljava/lang/String;)V"⟩
abbrev cX6_number : ByteArray := prog_8_method_13_code
def yX6_number : MethodName := ⟨RX6, "number", "(II)I"⟩
abbrev cX6_semicolon : ByteArray := prog_8_method_14_code
def yX6_semicolon : MethodName := ⟨RX6, "semicolon", "()V"⟩
abbrev cX6_readSheet : ByteArray := prog_8_method_15_code
def yX6_readSheet : MethodName := ⟨RX6, "readSheet", "()V"⟩
abbrev cX6_readTool : ByteArray := prog_8_method_16_code
def yX6_readTool : MethodName := ⟨RX6, "readTool", "()V"⟩
abbrev cX6_readAllow : ByteArray := prog_8_method_17_code
def yX6_readAllow : MethodName := ⟨RX6, "readAllow", "()V"⟩
abbrev cX6_readFlange : ByteArray := prog_8_method_18_code
def yX6_readFlange : MethodName := ⟨RX6, "readFlange", "()V"⟩
abbrev cX6_name : ByteArray := prog_8_method_19_code
def yX6_name : MethodName := ⟨RX6, "name", "()I"⟩
abbrev cX6_newName : ByteArray := prog_8_method_20_code
def yX6_newName : MethodName := ⟨RX6, "newName", "()I"⟩
abbrev cX6_find : ByteArray := prog_8_method_21_code
def yX6_find : MethodName := ⟨RX6, "find", "(I)I"⟩
abbrev cX6_where : ByteArray := prog_8_method_22_code
def yX6_where : MethodName := ⟨RX6, "where", "()I"⟩
abbrev cX6_sideOf : ByteArray := prog_8_method_23_code
def yX6_sideOf : MethodName := ⟨RX6, "sideOf", "(I)I"⟩
abbrev cX6_checkWidth : ByteArray := prog_8_method_24_code
def yX6_checkWidth : MethodName := ⟨RX6, "checkWidth", "(I)V"⟩
abbrev cX6_isUp : ByteArray := prog_8_method_25_code
def yX6_isUp : MethodName := ⟨RX6, "isUp", "()Z"⟩
def RX7 : String := "SheetFolds$Tape"
def TX7 : u_T := fun k => match k with
  | 0 => ("SheetFolds$Tape", "bytes", "[B", true)
  | _ => ("SheetFolds$Tape", "length", "I", false)
def tyX7 : Nat → FieldType := fun k => match k with
  | 0 => .array .byte
  | _ => .int
abbrev wsX70 : List Cond := u_ws RX7 TX7 2
theorem nmX7 : ∀ a, a < 2 → ∀ b, b < 2 → a ≠ b → (TX7 a).2.1 ≠ (TX7 b).2.1 := by decide +kernel
theorem tyX7_ok : ∀ k, k < 2 → parseFieldDescriptor (TX7 k).2.2.1 = some (tyX7 k) := by decide +kernel
abbrev cX7_init : ByteArray := prog_9_method_1_code
def yX7_init : MethodName := ⟨RX7, "<init>", "()V"⟩
abbrev cX7_hasRoom : ByteArray := prog_9_method_2_code
def yX7_hasRoom : MethodName := ⟨RX7, "hasRoom", "()Z"⟩
abbrev cX7_put : ByteArray := prog_9_method_3_code
def yX7_put : MethodName := ⟨RX7, "put", "(I)V"⟩
abbrev cX7_at : ByteArray := prog_9_method_4_code
def yX7_at : MethodName := ⟨RX7, "at", "(I)I"⟩
def RX8 : String := "SheetFolds"
def TX8 : u_T := fun k => match k with
  | 0 => ("SheetFolds", "tape", "LSheetFolds$Tape;", true)
  | 1 => ("SheetFolds", "reader", "LSheetFolds$Reader;", true)
  | 2 => ("SheetFolds", "pose", "LSheetFolds$Pose;", true)
  | 3 => ("SheetFolds", "search", "LSheetFolds$Orders;", true)
  | 4 => ("SheetFolds", "mender", "LSheetFolds$Mender;", true)
  | 5 => ("SheetFolds", "history", "LSheetFolds$History;", true)
  | 6 => ("SheetFolds", "measured", "LSheetFolds$Measured;", true)
  | 7 => ("SheetFolds", "refusals", "[I", true)
  | 8 => ("SheetFolds", "part", "LSheetFolds$Part;", false)
  | 9 => ("SheetFolds", "draft", "LSheetFolds$Part;", false)
  | 10 => ("SheetFolds", "made", "I", false)
  | 11 => ("SheetFolds", "draws", "I", false)
  | 12 => ("SheetFolds", "roomsKnown", "Z", false)
  | _ => ("SheetFolds", "searched", "Z", false)
def tyX8 : Nat → FieldType := fun k => match k with
  | 0 => .object "SheetFolds$Tape"
  | 1 => .object "SheetFolds$Reader"
  | 2 => .object "SheetFolds$Pose"
  | 3 => .object "SheetFolds$Orders"
  | 4 => .object "SheetFolds$Mender"
  | 5 => .object "SheetFolds$History"
  | 6 => .object "SheetFolds$Measured"
  | 7 => .array .int
  | 8 => .object "SheetFolds$Part"
  | 9 => .object "SheetFolds$Part"
  | 10 => .int
  | 11 => .int
  | 12 => .boolean
  | _ => .boolean
abbrev wsX80 : List Cond := u_ws RX8 TX8 14
theorem nmX8 : ∀ a, a < 14 → ∀ b, b < 14 → a ≠ b → (TX8 a).2.1 ≠ (TX8 b).2.1 := by decide +kernel
theorem tyX8_ok : ∀ k, k < 14 → parseFieldDescriptor (TX8 k).2.2.1 = some (tyX8 k) := by decide +kernel
abbrev cX8_init : ByteArray := prog_1_method_1_code
def yX8_init : MethodName := ⟨RX8, "<init>", "()V"⟩
abbrev cX8_feed : ByteArray := prog_1_method_2_code
def yX8_feed : MethodName := ⟨RX8, "feed", "(IIIII)I"⟩
abbrev cX8_end : ByteArray := prog_1_method_3_code
def yX8_end : MethodName := ⟨RX8, "end", "(I)Z"⟩
abbrev cX8_part : ByteArray := prog_1_method_4_code
def yX8_part : MethodName := ⟨RX8, "part", "()I"⟩
abbrev cX8_fault : ByteArray := prog_1_method_5_code
def yX8_fault : MethodName := ⟨RX8, "fault", "(I)I"⟩
abbrev cX8_has : ByteArray := prog_1_method_6_code
def yX8_has : MethodName := ⟨RX8, "has", "(I)I"⟩
abbrev cX8_letter : ByteArray := prog_1_method_7_code
def yX8_letter : MethodName := ⟨RX8, "letter", "(II)I"⟩
abbrev cX8_flange : ByteArray := prog_1_method_8_code
def yX8_flange : MethodName := ⟨RX8, "flange", "(II)I"⟩
abbrev cX8_tool : ByteArray := prog_1_method_9_code
def yX8_tool : MethodName := ⟨RX8, "tool", "(I)I"⟩
abbrev cX8_allowance : ByteArray := prog_1_method_10_code
def yX8_allowance : MethodName := ⟨RX8, "allowance", "(I)I"⟩
abbrev cX8_flat : ByteArray := prog_1_method_11_code
def yX8_flat : MethodName := ⟨RX8, "flat", "(II)I"⟩
abbrev cX8_flatBox : ByteArray := prog_1_method_12_code
def yX8_flatBox : MethodName := ⟨RX8, "flatBox", "(I)I"⟩
abbrev cX8_overlap : ByteArray := prog_1_method_13_code
def yX8_overlap : MethodName := ⟨RX8, "overlap", "(II)I"⟩
abbrev cX8_space : ByteArray := prog_1_method_14_code
def yX8_space : MethodName := ⟨RX8, "space", "(II)I"⟩
abbrev cX8_spaceBox : ByteArray := prog_1_method_15_code
def yX8_spaceBox : MethodName := ⟨RX8, "spaceBox", "(I)I"⟩
abbrev cX8_gap : ByteArray := prog_1_method_16_code
def yX8_gap : MethodName := ⟨RX8, "gap", "(II)I"⟩
abbrev cX8_normal : ByteArray := prog_1_method_17_code
def yX8_normal : MethodName := ⟨RX8, "normal", "(I)I"⟩
abbrev cX8_clash : ByteArray := prog_1_method_18_code
def yX8_clash : MethodName := ⟨RX8, "clash", "(II)I"⟩
abbrev cX8_meets : ByteArray := prog_1_method_19_code
def yX8_meets : MethodName := ⟨RX8, "meets", "(II)I"⟩
abbrev cX8_tools : ByteArray := prog_1_method_20_code
def yX8_tools : MethodName := ⟨RX8, "tools", "(II)I"⟩
abbrev cX8_why : ByteArray := prog_1_method_21_code
def yX8_why : MethodName := ⟨RX8, "why", "(II)I"⟩
abbrev cX8_orders : ByteArray := prog_1_method_22_code
def yX8_orders : MethodName := ⟨RX8, "orders", "()I"⟩
abbrev cX8_order : ByteArray := prog_1_method_23_code
def yX8_order : MethodName := ⟨RX8, "order", "(I)I"⟩
abbrev cX8_mayBeLast : ByteArray := prog_1_method_24_code
def yX8_mayBeLast : MethodName := ⟨RX8, "mayBeLast", "(I)I"⟩
abbrev cX8_ahead : ByteArray := prog_1_method_25_code
def yX8_ahead : MethodName := ⟨RX8, "ahead", "(II)I"⟩
abbrev cX8_reached : ByteArray := prog_1_method_26_code
def yX8_reached : MethodName := ⟨RX8, "reached", "(I)I"⟩
abbrev cX8_fewest : ByteArray := prog_1_method_27_code
def yX8_fewest : MethodName := ⟨RX8, "fewest", "(I)I"⟩
abbrev cX8_thrifty : ByteArray := prog_1_method_28_code
def yX8_thrifty : MethodName := ⟨RX8, "thrifty", "(II)I"⟩
abbrev cX8_tallest : ByteArray := prog_1_method_29_code
def yX8_tallest : MethodName := ⟨RX8, "tallest", "()I"⟩
abbrev cX8_turned : ByteArray := prog_1_method_30_code
def yX8_turned : MethodName := ⟨RX8, "turned", "(I)I"⟩
abbrev cX8_mends : ByteArray := prog_1_method_31_code
def yX8_mends : MethodName := ⟨RX8, "mends", "()I"⟩
abbrev cX8_lacks : ByteArray := prog_1_method_32_code
def yX8_lacks : MethodName := ⟨RX8, "lacks", "(I)I"⟩
abbrev cX8_opens : ByteArray := prog_1_method_33_code
def yX8_opens : MethodName := ⟨RX8, "opens", "()I"⟩
abbrev cX8_smallest : ByteArray := prog_1_method_34_code
def yX8_smallest : MethodName := ⟨RX8, "smallest", "(I)I"⟩
abbrev cX8_between : ByteArray := prog_1_method_35_code
def yX8_between : MethodName := ⟨RX8, "between", "(II)I"⟩
abbrev cX8_see : ByteArray := prog_1_method_36_code
def yX8_see : MethodName := ⟨RX8, "see", "()I"⟩
abbrev cX8_fits : ByteArray := prog_1_method_37_code
def yX8_fits : MethodName := ⟨RX8, "fits", "(II)I"⟩
abbrev cX8_tells : ByteArray := prog_1_method_38_code
def yX8_tells : MethodName := ⟨RX8, "tells", "(II)I"⟩
abbrev cX8_bend : ByteArray := prog_1_method_39_code
def yX8_bend : MethodName := ⟨RX8, "bend", "(I)I"⟩
abbrev cX8_open : ByteArray := prog_1_method_40_code
def yX8_open : MethodName := ⟨RX8, "open", "(I)Z"⟩
abbrev cX8_turn : ByteArray := prog_1_method_41_code
def yX8_turn : MethodName := ⟨RX8, "turn", "(I)Z"⟩
abbrev cX8_lay : ByteArray := prog_1_method_42_code
def yX8_lay : MethodName := ⟨RX8, "lay", "(I)Z"⟩
abbrev cX8_follow : ByteArray := prog_1_method_43_code
def yX8_follow : MethodName := ⟨RX8, "follow", "(I)I"⟩
abbrev cX8_allow : ByteArray := prog_1_method_44_code
def yX8_allow : MethodName := ⟨RX8, "allow", "(II)Z"⟩
abbrev cX8_press : ByteArray := prog_1_method_45_code
def yX8_press : MethodName := ⟨RX8, "press", "(I)Z"⟩
abbrev cX8_chance : ByteArray := prog_1_method_46_code
def yX8_chance : MethodName := ⟨RX8, "chance", "(I)I"⟩
abbrev cX8_undo : ByteArray := prog_1_method_47_code
def yX8_undo : MethodName := ⟨RX8, "undo", "()Z"⟩
abbrev cX8_seed : ByteArray := prog_1_method_48_code
def yX8_seed : MethodName := ⟨RX8, "seed", "(I)Z"⟩
abbrev cX8_status : ByteArray := prog_1_method_49_code
def yX8_status : MethodName := ⟨RX8, "status", "(I)I"⟩
abbrev cX8_bit : ByteArray := prog_1_method_50_code
def yX8_bit : MethodName := ⟨RX8, "bit", "(I)I"⟩
abbrev cX8_isIn : ByteArray := prog_1_method_51_code
def yX8_isIn : MethodName := ⟨RX8, "isIn", "(II)Z"⟩
abbrev cX8_isRadius : ByteArray := prog_1_method_52_code
def yX8_isRadius : MethodName := ⟨RX8, "isRadius", "(I)Z"⟩
abbrev cX8_isUnmade : ByteArray := prog_1_method_53_code
def yX8_isUnmade : MethodName := ⟨RX8, "isUnmade", "(I)Z"⟩
abbrev cX8_refuse : ByteArray := prog_1_method_54_code
def yX8_refuse : MethodName := ⟨RX8, "refuse", "(I)I"⟩
abbrev cX8_deny : ByteArray := prog_1_method_55_code
def yX8_deny : MethodName := ⟨RX8, "deny", "(I)Z"⟩
abbrev cX8_remember : ByteArray := prog_1_method_56_code
def yX8_remember : MethodName := ⟨RX8, "remember", "()V"⟩
abbrev cX8_setMade : ByteArray := prog_1_method_57_code
def yX8_setMade : MethodName := ⟨RX8, "setMade", "(I)V"⟩
abbrev cX8_partChanged : ByteArray := prog_1_method_58_code
def yX8_partChanged : MethodName := ⟨RX8, "partChanged", "()V"⟩
abbrev cX8_placeNow : ByteArray := prog_1_method_59_code
def yX8_placeNow : MethodName := ⟨RX8, "placeNow", "()V"⟩
abbrev cX8_clashesIn : ByteArray := prog_1_method_60_code
def yX8_clashesIn : MethodName := ⟨RX8, "clashesIn", "(I)Z"⟩
abbrev cX8_reason : ByteArray := prog_1_method_61_code
def yX8_reason : MethodName := ⟨RX8, "reason", "(II)I"⟩
abbrev cX8_searchOrders : ByteArray := prog_1_method_62_code
def yX8_searchOrders : MethodName := ⟨RX8, "searchOrders", "()Z"⟩
abbrev cX8_draw : ByteArray := prog_1_method_63_code
def yX8_draw : MethodName := ⟨RX8, "draw", "(I)I"⟩
abbrev cX8_tryOne : ByteArray := prog_1_method_64_code
def yX8_tryOne : MethodName := ⟨RX8, "tryOne", "(I)V"⟩
def RX9 : String := "SheetFoldsModel"
def TX9 : u_T := fun k => match k with
  | 0 => ("SheetFoldsModel", "told", "[I", true)
  | 1 => ("SheetFoldsModel", "read", "[I", true)
  | 2 => ("SheetFoldsModel", "now", "[I", true)
  | 3 => ("SheetFoldsModel", "readNow", "[I", true)
  | 4 => ("SheetFoldsModel", "kept", "[I", true)
  | 5 => ("SheetFoldsModel", "undone", "I", false)
  | 6 => ("SheetFoldsModel", "seed", "I", false)
  | 7 => ("SheetFoldsModel", "hasPart", "Z", false)
  | 8 => ("SheetFoldsModel", "tape", "[I", true)
  | 9 => ("SheetFoldsModel", "taped", "I", false)
  | 10 => ("SheetFoldsModel", "refused", "[I", true)
  | 11 => ("SheetFoldsModel", "faultKind", "I", false)
  | 12 => ("SheetFoldsModel", "faultPlace", "I", false)
  | 13 => ("SheetFoldsModel", "size", "I", false)
  | 14 => ("SheetFoldsModel", "at", "I", false)
  | 15 => ("SheetFoldsModel", "from", "I", false)
  | 16 => ("SheetFoldsModel", "wrong", "I", false)
  | 17 => ("SheetFoldsModel", "wrongAt", "I", false)
  | 18 => ("SheetFoldsModel", "ownLetters", "[I", true)
  | 19 => ("SheetFoldsModel", "flats", "[I", true)
  | 20 => ("SheetFoldsModel", "isLaid", "Z", false)
  | 21 => ("SheetFoldsModel", "corner", "[I", true)
  | 22 => ("SheetFoldsModel", "wayX", "[I", true)
  | 23 => ("SheetFoldsModel", "wayY", "[I", true)
  | 24 => ("SheetFoldsModel", "normal", "[I", true)
  | 25 => ("SheetFoldsModel", "low", "[I", true)
  | 26 => ("SheetFoldsModel", "high", "[I", true)
  | 27 => ("SheetFoldsModel", "clear", "[I", true)
  | 28 => ("SheetFoldsModel", "ways", "[I", true)
  | 29 => ("SheetFoldsModel", "canBe", "[Z", true)
  | 30 => ("SheetFoldsModel", "lain", "[I", true)
  | 31 => ("SheetFoldsModel", "canTool", "I", false)
  | 32 => ("SheetFoldsModel", "fewestBy", "[I", true)
  | 33 => ("SheetFoldsModel", "sortOf", "[I", true)
  | 34 => ("SheetFoldsModel", "rows", "I", false)
  | 35 => ("SheetFoldsModel", "seenFlange", "[I", true)
  | _ => ("SheetFoldsModel", "seenLength", "[I", true)
def tyX9 : Nat → FieldType := fun k => match k with
  | 0 => .array .int
  | 1 => .array .int
  | 2 => .array .int
  | 3 => .array .int
  | 4 => .array .int
  | 5 => .int
  | 6 => .int
  | 7 => .boolean
  | 8 => .array .int
  | 9 => .int
  | 10 => .array .int
  | 11 => .int
  | 12 => .int
  | 13 => .int
  | 14 => .int
  | 15 => .int
  | 16 => .int
  | 17 => .int
  | 18 => .array .int
  | 19 => .array .int
  | 20 => .boolean
  | 21 => .array .int
  | 22 => .array .int
  | 23 => .array .int
  | 24 => .array .int
  | 25 => .array .int
  | 26 => .array .int
  | 27 => .array .int
  | 28 => .array .int
  | 29 => .array .boolean
  | 30 => .array .int
  | 31 => .int
  | 32 => .array .int
  | 33 => .array .int
  | 34 => .int
  | 35 => .array .int
  | _ => .array .int
abbrev wsX90 : List Cond := u_ws RX9 TX9 37
theorem nmX9 : ∀ a, a < 37 → ∀ b, b < 37 → a ≠ b → (TX9 a).2.1 ≠ (TX9 b).2.1 := by decide +kernel
theorem tyX9_ok : ∀ k, k < 37 → parseFieldDescriptor (TX9 k).2.2.1 = some (tyX9 k) := by decide +kernel
abbrev cX9_init : ByteArray := prog_11_method_1_code
def yX9_init : MethodName := ⟨RX9, "<init>", "()V"⟩
abbrev cX9_isIn : ByteArray := prog_11_method_2_code
def yX9_isIn : MethodName := ⟨RX9, "isIn", "(III)Z"⟩
abbrev cX9_lesser : ByteArray := prog_11_method_3_code
def yX9_lesser : MethodName := ⟨RX9, "lesser", "(II)I"⟩
abbrev cX9_greater : ByteArray := prog_11_method_4_code
def yX9_greater : MethodName := ⟨RX9, "greater", "(II)I"⟩
abbrev cX9_bits : ByteArray := prog_11_method_5_code
def yX9_bits : MethodName := ⟨RX9, "bits", "(I)I"⟩
abbrev cX9_isOf : ByteArray := prog_11_method_6_code
def yX9_isOf : MethodName := ⟨RX9, "isOf", "(II)Z"⟩
abbrev cX9_refuses : ByteArray := prog_11_method_7_code
def yX9_refuses : MethodName := ⟨RX9, "refuses", "(I)I"⟩
abbrev cX9_isRefused : ByteArray := prog_11_method_8_code
def yX9_isRefused : MethodName := ⟨RX9, "isRefused", "(I)Z"⟩
abbrev cX9_lays : ByteArray := prog_11_method_9_code
def yX9_lays : MethodName := ⟨RX9, "lays", "(I)V"⟩
abbrev cX9_feed : ByteArray := prog_11_method_10_code
def yX9_feed : MethodName := ⟨RX9, "feed", "(IIIII)I"⟩
abbrev cX9_end : ByteArray := prog_11_method_11_code
def yX9_end : MethodName := ⟨RX9, "end", "(I)Z"⟩
abbrev cX9_taken : ByteArray := prog_11_method_12_code
def yX9_taken : MethodName := ⟨RX9, "taken", "()I"⟩
abbrev cX9_byteAt : ByteArray := prog_11_method_13_code
def yX9_byteAt : MethodName := ⟨RX9, "byteAt", "(I)I"⟩
abbrev cX9_isSmall : ByteArray := prog_11_method_14_code
def yX9_isSmall : MethodName := ⟨RX9, "isSmall", "(I)Z"⟩
abbrev cX9_isDigit : ByteArray := prog_11_method_15_code
def yX9_isDigit : MethodName := ⟨RX9, "isDigit", "(I)Z"⟩
abbrev cX9_here : ByteArray := prog_11_method_16_code
def yX9_here : MethodName := ⟨RX9, "here", "()I"⟩
abbrev cX9_faults : ByteArray := prog_11_method_17_code
def yX9_faults : MethodName := ⟨RX9, "faults", "(II)V"⟩
abbrev cX9_goesWell : ByteArray := prog_11_method_18_code
def yX9_goesWell : MethodName := ⟨RX9, "goesWell", "()Z"⟩
abbrev cX9_word : ByteArray := prog_11_method_19_code
def yX9_word : MethodName := ⟨RX9, "word", "()V"⟩
abbrev cX9_own : ByteArray := prog_11_method_20_code
def yX9_own : MethodName := ⟨RX9, "own", "()I"⟩
abbrev cX9_must : ByteArray := prog_11_method_21_code
def yX9_must : MethodName := ⟨RX9, "must", "(I)V"⟩
abbrev cX9_endsWell : ByteArray := prog_11_method_22_code
def yX9_endsWell : MethodName := ⟨RX9, "endsWell", "()V"⟩
abbrev cX9_number : ByteArray := prog_11_method_23_code
def yX9_number : MethodName := ⟨RX9, "number", "(II)I"⟩
abbrev cX9_after : ByteArray := prog_11_method_24_code
def yX9_after : MethodName := ⟨RX9, "after", "(III)I"⟩
abbrev cX9_signAt : ByteArray := prog_11_method_25_code
def yX9_signAt : MethodName := ⟨RX9, "signAt", "(I)I"⟩
abbrev cX9_name : ByteArray := prog_11_method_26_code
def yX9_name : MethodName := ⟨RX9, "name", "()V"⟩
abbrev cX9_named : ByteArray := prog_11_method_27_code
def yX9_named : MethodName := ⟨RX9, "named", "()I"⟩
abbrev cX9_sideOf : ByteArray := prog_11_method_28_code
def yX9_sideOf : MethodName := ⟨RX9, "sideOf", "([III)I"⟩
abbrev cX9_readsWidth : ByteArray := prog_11_method_29_code
def yX9_readsWidth : MethodName := ⟨RX9, "readsWidth", "(III)V"⟩
abbrev cX9_readsFlange : ByteArray := prog_11_method_30_code
def yX9_readsFlange : MethodName := ⟨RX9, "readsFlange", "()V"⟩
abbrev cX9_readsLine : ByteArray := prog_11_method_31_code
def yX9_readsLine : MethodName := ⟨RX9, "readsLine", "(I)V"⟩
abbrev cX9_readsAll : ByteArray := prog_11_method_32_code
def yX9_readsAll : MethodName := ⟨RX9, "readsAll", "()I"⟩
abbrev cX9_part : ByteArray := prog_11_method_33_code
def yX9_part : MethodName := ⟨RX9, "part", "()I"⟩
abbrev cX9_fault : ByteArray := prog_11_method_34_code
def yX9_fault : MethodName := ⟨RX9, "fault", "(I)I"⟩
abbrev cX9_flangeMany : ByteArray := prog_11_method_35_code
def yX9_flangeMany : MethodName := ⟨RX9, "flangeMany", "()I"⟩
abbrev cX9_bendMany : ByteArray := prog_11_method_36_code
def yX9_bendMany : MethodName := ⟨RX9, "bendMany", "()I"⟩
abbrev cX9_allBends : ByteArray := prog_11_method_37_code
def yX9_allBends : MethodName := ⟨RX9, "allBends", "()I"⟩
abbrev cX9_isFlange : ByteArray := prog_11_method_38_code
def yX9_isFlange : MethodName := ⟨RX9, "isFlange", "(I)Z"⟩
abbrev cX9_isBend : ByteArray := prog_11_method_39_code
def yX9_isBend : MethodName := ⟨RX9, "isBend", "(I)Z"⟩
abbrev cX9_isState : ByteArray := prog_11_method_40_code
def yX9_isState : MethodName := ⟨RX9, "isState", "(I)Z"⟩
abbrev cX9_isMade : ByteArray := prog_11_method_41_code
def yX9_isMade : MethodName := ⟨RX9, "isMade", "(I)Z"⟩
abbrev cX9_has : ByteArray := prog_11_method_42_code
def yX9_has : MethodName := ⟨RX9, "has", "(I)I"⟩
abbrev cX9_letter : ByteArray := prog_11_method_43_code
def yX9_letter : MethodName := ⟨RX9, "letter", "(II)I"⟩
abbrev cX9_allowanceOf : ByteArray := prog_11_method_44_code
def yX9_allowanceOf : MethodName := ⟨RX9, "allowanceOf", "(I)I"⟩
abbrev cX9_lengthOf : ByteArray := prog_11_method_45_code
def yX9_lengthOf : MethodName := ⟨RX9, "lengthOf", "(I)I"⟩
abbrev cX9_hangMany : ByteArray := prog_11_method_46_code
def yX9_hangMany : MethodName := ⟨RX9, "hangMany", "(I)I"⟩
abbrev cX9_depthOf : ByteArray := prog_11_method_47_code
def yX9_depthOf : MethodName := ⟨RX9, "depthOf", "(I)I"⟩
abbrev cX9_flange : ByteArray := prog_11_method_48_code
def yX9_flange : MethodName := ⟨RX9, "flange", "(II)I"⟩
abbrev cX9_tool : ByteArray := prog_11_method_49_code
def yX9_tool : MethodName := ⟨RX9, "tool", "(I)I"⟩
abbrev cX9_allowance : ByteArray := prog_11_method_50_code
def yX9_allowance : MethodName := ⟨RX9, "allowance", "(I)I"⟩
abbrev cX9_alongX : ByteArray := prog_11_method_51_code
def yX9_alongX : MethodName := ⟨RX9, "alongX", "(I)I"⟩
abbrev cX9_alongY : ByteArray := prog_11_method_52_code
def yX9_alongY : MethodName := ⟨RX9, "alongY", "(I)I"⟩
abbrev cX9_laysBehind : ByteArray := prog_11_method_53_code
def yX9_laysBehind : MethodName := ⟨RX9, "laysBehind", "(IIII)V"⟩
abbrev cX9_laysFlat : ByteArray := prog_11_method_54_code
def yX9_laysFlat : MethodName := ⟨RX9, "laysFlat", "()V"⟩
abbrev cX9_isPiece : ByteArray := prog_11_method_55_code
def yX9_isPiece : MethodName := ⟨RX9, "isPiece", "(I)Z"⟩
abbrev cX9_flat : ByteArray := prog_11_method_56_code
def yX9_flat : MethodName := ⟨RX9, "flat", "(II)I"⟩
abbrev cX9_flatBox : ByteArray := prog_11_method_57_code
def yX9_flatBox : MethodName := ⟨RX9, "flatBox", "(I)I"⟩
abbrev cX9_doOverlap : ByteArray := prog_11_method_58_code
def yX9_doOverlap : MethodName := ⟨RX9, "doOverlap", "(II)Z"⟩
abbrev cX9_overlap : ByteArray := prog_11_method_59_code
def yX9_overlap : MethodName := ⟨RX9, "overlap", "(II)I"⟩
abbrev cX9_moves : ByteArray := prog_11_method_60_code
def yX9_moves : MethodName := ⟨RX9, "moves", "(III)V"⟩
abbrev cX9_copiesCorner : ByteArray := prog_11_method_61_code
def yX9_copiesCorner : MethodName := ⟨RX9, "copiesCorner", "(II)V"⟩
abbrev cX9_laysEnds : ByteArray := prog_11_method_62_code
def yX9_laysEnds : MethodName := ⟨RX9, "laysEnds", "(III)V"⟩
abbrev cX9_goesOnFlat : ByteArray := prog_11_method_63_code
def yX9_goesOnFlat : MethodName := ⟨RX9, "goesOnFlat", "(II)V"⟩
abbrev cX9_goesToSide : ByteArray := prog_11_method_64_code
def yX9_goesToSide : MethodName := ⟨RX9, "goesToSide", "(III)V"⟩
abbrev cX9_standsUp : ByteArray := prog_11_method_65_code
def yX9_standsUp : MethodName := ⟨RX9, "standsUp", "(II)V"⟩
abbrev cX9_laysSpace : ByteArray := prog_11_method_66_code
def yX9_laysSpace : MethodName := ⟨RX9, "laysSpace", "(I)V"⟩
abbrev cX9_laysPunch : ByteArray := prog_11_method_67_code
def yX9_laysPunch : MethodName := ⟨RX9, "laysPunch", "(I)V"⟩
abbrev cX9_axisOf : ByteArray := prog_11_method_68_code
def yX9_axisOf : MethodName := ⟨RX9, "axisOf", "(I)I"⟩
abbrev cX9_sharedAlong : ByteArray := prog_11_method_69_code
def yX9_sharedAlong : MethodName := ⟨RX9, "sharedAlong", "(III)I"⟩
abbrev cX9_isBetween : ByteArray := prog_11_method_70_code
def yX9_isBetween : MethodName := ⟨RX9, "isBetween", "(III)Z"⟩
abbrev cX9_doClash : ByteArray := prog_11_method_71_code
def yX9_doClash : MethodName := ⟨RX9, "doClash", "(II)Z"⟩
abbrev cX9_space : ByteArray := prog_11_method_72_code
def yX9_space : MethodName := ⟨RX9, "space", "(II)I"⟩
abbrev cX9_spaceBox : ByteArray := prog_11_method_73_code
def yX9_spaceBox : MethodName := ⟨RX9, "spaceBox", "(I)I"⟩
abbrev cX9_longAlong : ByteArray := prog_11_method_74_code
def yX9_longAlong : MethodName := ⟨RX9, "longAlong", "(I)I"⟩
abbrev cX9_smallest : ByteArray := prog_11_method_75_code
def yX9_smallest : MethodName := ⟨RX9, "smallest", "(I)I"⟩
abbrev cX9_between : ByteArray := prog_11_method_76_code
def yX9_between : MethodName := ⟨RX9, "between", "(II)I"⟩
abbrev cX9_gap : ByteArray := prog_11_method_77_code
def yX9_gap : MethodName := ⟨RX9, "gap", "(II)I"⟩
abbrev cX9_normal : ByteArray := prog_11_method_78_code
def yX9_normal : MethodName := ⟨RX9, "normal", "(I)I"⟩
abbrev cX9_anyClash : ByteArray := prog_11_method_79_code
def yX9_anyClash : MethodName := ⟨RX9, "anyClash", "()Z"⟩
abbrev cX9_clash : ByteArray := prog_11_method_80_code
def yX9_clash : MethodName := ⟨RX9, "clash", "(II)I"⟩
abbrev cX9_metBy : ByteArray := prog_11_method_81_code
def yX9_metBy : MethodName := ⟨RX9, "metBy", "(I)I"⟩
abbrev cX9_meets : ByteArray := prog_11_method_82_code
def yX9_meets : MethodName := ⟨RX9, "meets", "(II)I"⟩
abbrev cX9_widthOf : ByteArray := prog_11_method_83_code
def yX9_widthOf : MethodName := ⟨RX9, "widthOf", "(I)I"⟩
abbrev cX9_toolsOf : ByteArray := prog_11_method_84_code
def yX9_toolsOf : MethodName := ⟨RX9, "toolsOf", "(I)I"⟩
abbrev cX9_tools : ByteArray := prog_11_method_85_code
def yX9_tools : MethodName := ⟨RX9, "tools", "(II)I"⟩
abbrev cX9_whyNot : ByteArray := prog_11_method_86_code
def yX9_whyNot : MethodName := ⟨RX9, "whyNot", "(II)I"⟩
abbrev cX9_why : ByteArray := prog_11_method_87_code
def yX9_why : MethodName := ⟨RX9, "why", "(II)I"⟩
abbrev cX9_forgetsLain : ByteArray := prog_11_method_88_code
def yX9_forgetsLain : MethodName := ⟨RX9, "forgetsLain", "()V"⟩
abbrev cX9_lainOf : ByteArray := prog_11_method_89_code
def yX9_lainOf : MethodName := ⟨RX9, "lainOf", "(I)I"⟩
abbrev cX9_looksAt : ByteArray := prog_11_method_90_code
def yX9_looksAt : MethodName := ⟨RX9, "looksAt", "(I)I"⟩
abbrev cX9_laysClear : ByteArray := prog_11_method_91_code
def yX9_laysClear : MethodName := ⟨RX9, "laysClear", "()V"⟩
abbrev cX9_laysClearAgain : ByteArray := prog_11_method_92_code
def yX9_laysClearAgain : MethodName := ⟨RX9, "laysClearAgain", "()V"⟩
abbrev cX9_laysWays : ByteArray := prog_11_method_93_code
def yX9_laysWays : MethodName := ⟨RX9, "laysWays", "(II)I"⟩
abbrev cX9_orderMany : ByteArray := prog_11_method_94_code
def yX9_orderMany : MethodName := ⟨RX9, "orderMany", "()I"⟩
abbrev cX9_laysReached : ByteArray := prog_11_method_95_code
def yX9_laysReached : MethodName := ⟨RX9, "laysReached", "()V"⟩
abbrev cX9_orders : ByteArray := prog_11_method_96_code
def yX9_orders : MethodName := ⟨RX9, "orders", "()I"⟩
abbrev cX9_order : ByteArray := prog_11_method_97_code
def yX9_order : MethodName := ⟨RX9, "order", "(I)I"⟩
abbrev cX9_mayBeLast : ByteArray := prog_11_method_98_code
def yX9_mayBeLast : MethodName := ⟨RX9, "mayBeLast", "(I)I"⟩
abbrev cX9_ahead : ByteArray := prog_11_method_99_code
def yX9_ahead : MethodName := ⟨RX9, "ahead", "(II)I"⟩
abbrev cX9_deadEnds : ByteArray := prog_11_method_100_code
def yX9_deadEnds : MethodName := ⟨RX9, "deadEnds", "(Z)I"⟩
abbrev cX9_reached : ByteArray := prog_11_method_101_code
def yX9_reached : MethodName := ⟨RX9, "reached", "(I)I"⟩
abbrev cX9_costAt : ByteArray := prog_11_method_102_code
def yX9_costAt : MethodName := ⟨RX9, "costAt", "(II)I"⟩
abbrev cX9_laysFewest : ByteArray := prog_11_method_103_code
def yX9_laysFewest : MethodName := ⟨RX9, "laysFewest", "(I)V"⟩
abbrev cX9_fewest : ByteArray := prog_11_method_104_code
def yX9_fewest : MethodName := ⟨RX9, "fewest", "(I)I"⟩
abbrev cX9_thrifty : ByteArray := prog_11_method_105_code
def yX9_thrifty : MethodName := ⟨RX9, "thrifty", "(II)I"⟩
abbrev cX9_isOrderBy : ByteArray := prog_11_method_106_code
def yX9_isOrderBy : MethodName := ⟨RX9, "isOrderBy", "(I)Z"⟩
abbrev cX9_tallest : ByteArray := prog_11_method_107_code
def yX9_tallest : MethodName := ⟨RX9, "tallest", "()I"⟩
abbrev cX9_turnsAll : ByteArray := prog_11_method_108_code
def yX9_turnsAll : MethodName := ⟨RX9, "turnsAll", "(I)V"⟩
abbrev cX9_turned : ByteArray := prog_11_method_109_code
def yX9_turned : MethodName := ⟨RX9, "turned", "(I)I"⟩
abbrev cX9_mends : ByteArray := prog_11_method_110_code
def yX9_mends : MethodName := ⟨RX9, "mends", "()I"⟩
abbrev cX9_lacks : ByteArray := prog_11_method_111_code
def yX9_lacks : MethodName := ⟨RX9, "lacks", "(I)I"⟩
abbrev cX9_see : ByteArray := prog_11_method_112_code
def yX9_see : MethodName := ⟨RX9, "see", "()I"⟩
abbrev cX9_lengthBy : ByteArray := prog_11_method_113_code
def yX9_lengthBy : MethodName := ⟨RX9, "lengthBy", "(III)I"⟩
abbrev cX9_isFit : ByteArray := prog_11_method_114_code
def yX9_isFit : MethodName := ⟨RX9, "isFit", "(II)Z"⟩
abbrev cX9_fits : ByteArray := prog_11_method_115_code
def yX9_fits : MethodName := ⟨RX9, "fits", "(II)I"⟩
abbrev cX9_leftBy : ByteArray := prog_11_method_116_code
def yX9_leftBy : MethodName := ⟨RX9, "leftBy", "(II)I"⟩
abbrev cX9_tells : ByteArray := prog_11_method_117_code
def yX9_tells : MethodName := ⟨RX9, "tells", "(II)I"⟩
abbrev cX9_remembers : ByteArray := prog_11_method_118_code
def yX9_remembers : MethodName := ⟨RX9, "remembers", "()V"⟩
abbrev cX9_bend : ByteArray := prog_11_method_119_code
def yX9_bend : MethodName := ⟨RX9, "bend", "(I)I"⟩
abbrev cX9_canOpen : ByteArray := prog_11_method_120_code
def yX9_canOpen : MethodName := ⟨RX9, "canOpen", "(I)Z"⟩
abbrev cX9_opens : ByteArray := prog_11_method_121_code
def yX9_opens : MethodName := ⟨RX9, "opens", "()I"⟩
abbrev cX9_open : ByteArray := prog_11_method_122_code
def yX9_open : MethodName := ⟨RX9, "open", "(I)Z"⟩
abbrev cX9_turn : ByteArray := prog_11_method_123_code
def yX9_turn : MethodName := ⟨RX9, "turn", "(I)Z"⟩
abbrev cX9_lay : ByteArray := prog_11_method_124_code
def yX9_lay : MethodName := ⟨RX9, "lay", "(I)Z"⟩
abbrev cX9_follow : ByteArray := prog_11_method_125_code
def yX9_follow : MethodName := ⟨RX9, "follow", "(I)I"⟩
abbrev cX9_allow : ByteArray := prog_11_method_126_code
def yX9_allow : MethodName := ⟨RX9, "allow", "(II)Z"⟩
abbrev cX9_press : ByteArray := prog_11_method_127_code
def yX9_press : MethodName := ⟨RX9, "press", "(I)Z"⟩
abbrev cX9_draw : ByteArray := prog_11_method_128_code
def yX9_draw : MethodName := ⟨RX9, "draw", "(I)I"⟩
abbrev cX9_chance : ByteArray := prog_11_method_129_code
def yX9_chance : MethodName := ⟨RX9, "chance", "(I)I"⟩
abbrev cX9_undo : ByteArray := prog_11_method_130_code
def yX9_undo : MethodName := ⟨RX9, "undo", "()Z"⟩
abbrev cX9_seed : ByteArray := prog_11_method_131_code
def yX9_seed : MethodName := ⟨RX9, "seed", "(I)Z"⟩
abbrev cX9_status : ByteArray := prog_11_method_132_code
def yX9_status : MethodName := ⟨RX9, "status", "(I)I"⟩
def RJx145de : String := "java/io/Serializable"
def TJx145de : u_T := fun k => match k with
  | _ => ("", "", "", false)
def tyJx145de : Nat → FieldType := fun k => match k with
  | _ => .int
abbrev wsJx145de0 : List Cond := u_ws RJx145de TJx145de 0
theorem nmJx145de : ∀ a, a < 0 → ∀ b, b < 0 → a ≠ b → (TJx145de a).2.1 ≠ (TJx145de b).2.1 := by decide +kernel
theorem tyJx145de_ok : ∀ k, k < 0 → parseFieldDescriptor (TJx145de k).2.2.1 = some (tyJx145de k) := by decide +kernel
def RJx9f9b0 : String := "java/lang/CharSequence"
def TJx9f9b0 : u_T := fun k => match k with
  | _ => ("", "", "", false)
def tyJx9f9b0 : Nat → FieldType := fun k => match k with
  | _ => .int
abbrev wsJx9f9b00 : List Cond := u_ws RJx9f9b0 TJx9f9b0 0
theorem nmJx9f9b0 : ∀ a, a < 0 → ∀ b, b < 0 → a ≠ b → (TJx9f9b0 a).2.1 ≠ (TJx9f9b0 b).2.1 := by decide +kernel
theorem tyJx9f9b0_ok : ∀ k, k < 0 → parseFieldDescriptor (TJx9f9b0 k).2.2.1 = some (tyJx9f9b0 k) := by decide +kernel
def RJxb160c : String := "java/lang/Comparable"
def TJxb160c : u_T := fun k => match k with
  | _ => ("", "", "", false)
def tyJxb160c : Nat → FieldType := fun k => match k with
  | _ => .int
abbrev wsJxb160c0 : List Cond := u_ws RJxb160c TJxb160c 0
theorem nmJxb160c : ∀ a, a < 0 → ∀ b, b < 0 → a ≠ b → (TJxb160c a).2.1 ≠ (TJxb160c b).2.1 := by decide +kernel
theorem tyJxb160c_ok : ∀ k, k < 0 → parseFieldDescriptor (TJxb160c k).2.2.1 = some (tyJxb160c k) := by decide +kernel
def RJ6 : String := "java/lang/Integer"
def TJ6 : u_T := fun k => match k with
  | _ => ("", "", "", false)
def tyJ6 : Nat → FieldType := fun k => match k with
  | _ => .int
abbrev wsJ60 : List Cond := u_ws RJ6 TJ6 0
theorem nmJ6 : ∀ a, a < 0 → ∀ b, b < 0 → a ≠ b → (TJ6 a).2.1 ≠ (TJ6 b).2.1 := by decide +kernel
theorem tyJ6_ok : ∀ k, k < 0 → parseFieldDescriptor (TJ6 k).2.2.1 = some (tyJ6 k) := by decide +kernel
abbrev cJ6_bitCount_0f7a4 : ByteArray := prog_12_method_49_code
def yJ6_bitCount_0f7a4 : MethodName := ⟨RJ6, "bitCount", "(I)I"⟩
def RJ9 : String := "java/lang/Math"
def TJ9 : u_T := fun k => match k with
  | _ => ("", "", "", false)
def tyJ9 : Nat → FieldType := fun k => match k with
  | _ => .int
abbrev wsJ90 : List Cond := u_ws RJ9 TJ9 0
theorem nmJ9 : ∀ a, a < 0 → ∀ b, b < 0 → a ≠ b → (TJ9 a).2.1 ≠ (TJ9 b).2.1 := by decide +kernel
theorem tyJ9_ok : ∀ k, k < 0 → parseFieldDescriptor (TJ9 k).2.2.1 = some (tyJ9 k) := by decide +kernel
abbrev cJ9_max_7cf53 : ByteArray := prog_13_method_65_code
def yJ9_max_7cf53 : MethodName := ⟨RJ9, "max", "(II)I"⟩
abbrev cJ9_min_7cf53 : ByteArray := prog_13_method_69_code
def yJ9_min_7cf53 : MethodName := ⟨RJ9, "min", "(II)I"⟩
def RJ0 : String := "java/lang/String"
def TJ0 : u_T := fun k => match k with
  | _ => ("", "", "", false)
def tyJ0 : Nat → FieldType := fun k => match k with
  | _ => .int
abbrev wsJ00 : List Cond := u_ws RJ0 TJ0 0
theorem nmJ0 : ∀ a, a < 0 → ∀ b, b < 0 → a ≠ b → (TJ0 a).2.1 ≠ (TJ0 b).2.1 := by decide +kernel
theorem tyJ0_ok : ∀ k, k < 0 → parseFieldDescriptor (TJ0 k).2.2.1 = some (tyJ0 k) := by decide +kernel
abbrev cJ0_length_8abf5 : ByteArray := prog_14_method_54_code
def yJ0_length_8abf5 : MethodName := ⟨RJ0, "length", "()I"⟩
abbrev cJ0_charAt_5068e : ByteArray := prog_14_method_56_code
def yJ0_charAt_5068e : MethodName := ⟨RJ0, "charAt", "(I)C"⟩
abbrev cJ0_coder_7d493 : ByteArray := prog_14_method_152_code
def yJ0_coder_7d493 : MethodName := ⟨RJ0, "coder", "()B"⟩
abbrev cJ0_isLatin1_aae02 : ByteArray := prog_14_method_154_code
def yJ0_isLatin1_aae02 : MethodName := ⟨RJ0, "isLatin1", "()Z"⟩
abbrev cJ0_checkIndex_df160 : ByteArray := prog_14_method_155_code
def yJ0_checkIndex_df160 : MethodName := ⟨RJ0, "checkIndex", "(II)V"⟩
def RJ1 : String := "java/lang/StringLatin1"
def TJ1 : u_T := fun k => match k with
  | _ => ("", "", "", false)
def tyJ1 : Nat → FieldType := fun k => match k with
  | _ => .int
abbrev wsJ10 : List Cond := u_ws RJ1 TJ1 0
theorem nmJ1 : ∀ a, a < 0 → ∀ b, b < 0 → a ≠ b → (TJ1 a).2.1 ≠ (TJ1 b).2.1 := by decide +kernel
theorem tyJ1_ok : ∀ k, k < 0 → parseFieldDescriptor (TJ1 k).2.2.1 = some (tyJ1 k) := by decide +kernel
abbrev cJ1_charAt_3b067 : ByteArray := prog_15_method_2_code
def yJ1_charAt_3b067 : MethodName := ⟨RJ1, "charAt", "([BI)C"⟩
def RJ2 : String := "java/lang/StringUTF16"
def TJ2 : u_T := fun k => match k with
  | _ => ("", "", "", false)
def tyJ2 : Nat → FieldType := fun k => match k with
  | _ => .int
abbrev wsJ20 : List Cond := u_ws RJ2 TJ2 0
theorem nmJ2 : ∀ a, a < 0 → ∀ b, b < 0 → a ≠ b → (TJ2 a).2.1 ≠ (TJ2 b).2.1 := by decide +kernel
theorem tyJ2_ok : ∀ k, k < 0 → parseFieldDescriptor (TJ2 k).2.2.1 = some (tyJ2 k) := by decide +kernel
abbrev cJ2_getChar_3b067 : ByteArray := prog_16_method_5_code
def yJ2_getChar_3b067 : MethodName := ⟨RJ2, "getChar", "([BI)C"⟩
abbrev cJ2_length_9d52b : ByteArray := prog_16_method_6_code
def yJ2_length_9d52b : MethodName := ⟨RJ2, "length", "([B)I"⟩
abbrev cJ2_charAt_3b067 : ByteArray := prog_16_method_83_code
def yJ2_charAt_3b067 : MethodName := ⟨RJ2, "charAt", "([BI)C"⟩
abbrev cJ2_checkIndex_2214a : ByteArray := prog_16_method_91_code
def yJ2_checkIndex_2214a : MethodName := ⟨RJ2, "checkIndex", "(I[B)V"⟩
def RJ10 : String := "java/lang/System"
def TJ10 : u_T := fun k => match k with
  | _ => ("", "", "", false)
def tyJ10 : Nat → FieldType := fun k => match k with
  | _ => .int
abbrev wsJ100 : List Cond := u_ws RJ10 TJ10 0
theorem nmJ10 : ∀ a, a < 0 → ∀ b, b < 0 → a ≠ b → (TJ10 a).2.1 ≠ (TJ10 b).2.1 := by decide +kernel
theorem tyJ10_ok : ∀ k, k < 0 → parseFieldDescriptor (TJ10 k).2.2.1 = some (tyJ10 k) := by decide +kernel
def RJxfd54e : String := "java/lang/constant/Constable"
def TJxfd54e : u_T := fun k => match k with
  | _ => ("", "", "", false)
def tyJxfd54e : Nat → FieldType := fun k => match k with
  | _ => .int
abbrev wsJxfd54e0 : List Cond := u_ws RJxfd54e TJxfd54e 0
theorem nmJxfd54e : ∀ a, a < 0 → ∀ b, b < 0 → a ≠ b → (TJxfd54e a).2.1 ≠ (TJxfd54e b).2.1 := by decide +kernel
theorem tyJxfd54e_ok : ∀ k, k < 0 → parseFieldDescriptor (TJxfd54e k).2.2.1 = some (tyJxfd54e k) := by decide +kernel
def RJx3cf43 : String := "java/lang/constant/ConstantDesc"
def TJx3cf43 : u_T := fun k => match k with
  | _ => ("", "", "", false)
def tyJx3cf43 : Nat → FieldType := fun k => match k with
  | _ => .int
abbrev wsJx3cf430 : List Cond := u_ws RJx3cf43 TJx3cf43 0
theorem nmJx3cf43 : ∀ a, a < 0 → ∀ b, b < 0 → a ≠ b → (TJx3cf43 a).2.1 ≠ (TJx3cf43 b).2.1 := by decide +kernel
theorem tyJx3cf43_ok : ∀ k, k < 0 → parseFieldDescriptor (TJx3cf43 k).2.2.1 = some (tyJx3cf43 k) := by decide +kernel
def RJ7 : String := "java/util/Arrays"
def TJ7 : u_T := fun k => match k with
  | _ => ("", "", "", false)
def tyJ7 : Nat → FieldType := fun k => match k with
  | _ => .int
abbrev wsJ70 : List Cond := u_ws RJ7 TJ7 0
theorem nmJ7 : ∀ a, a < 0 → ∀ b, b < 0 → a ≠ b → (TJ7 a).2.1 ≠ (TJ7 b).2.1 := by decide +kernel
theorem tyJ7_ok : ∀ k, k < 0 → parseFieldDescriptor (TJ7 k).2.2.1 = some (tyJ7 k) := by decide +kernel
abbrev cJ7_fill_53178 : ByteArray := prog_18_method_103_code
def yJ7_fill_53178 : MethodName := ⟨RJ7, "fill", "([II)V"⟩
abbrev cJ7_fill_031fb : ByteArray := prog_18_method_109_code
def yJ7_fill_031fb : MethodName := ⟨RJ7, "fill", "([BB)V"⟩
def RJ3 : String := "jdk/internal/util/Preconditions"
def TJ3 : u_T := fun k => match k with
  | _ => ("", "", "", false)
def tyJ3 : Nat → FieldType := fun k => match k with
  | _ => .int
abbrev wsJ30 : List Cond := u_ws RJ3 TJ3 0
theorem nmJ3 : ∀ a, a < 0 → ∀ b, b < 0 → a ≠ b → (TJ3 a).2.1 ≠ (TJ3 b).2.1 := by decide +kernel
theorem tyJ3_ok : ∀ k, k < 0 → parseFieldDescriptor (TJ3 k).2.2.1 = some (tyJ3 k) := by decide +kernel
abbrev cJ3_checkIndex_8e157 : ByteArray := prog_19_method_11_code
def yJ3_checkIndex_8e157 : MethodName := ⟨RJ3, "checkIndex", "(IILjava/util/function/BiFunction;)I"⟩
def RL : String := "SheetFoldsLaw"
abbrev cL_law : ByteArray := code
def yL_law : MethodName := ⟨RL, "law", "([I)Z"⟩
abbrev vwCl : List vw_C := [(RX0, TX0, 3), (RX1, TX1, 3), (RX2, TX2, 3), (RX3, TX3, 13), (RX4, TX4, 16), (RX5, TX5, 8), (RX6, TX6, 7), (RX7, TX7, 2), (RX8, TX8, 14), (RX9, TX9, 37)]
abbrev zSp : List Nat := [121, 127, 131, 36, 55, 60, 65, 113, 158, 206, 208, 210, 212, 172, 176, 182, 224, 226, 193]
abbrev zSt : List String := ["sheet", "thick", "base", "press", "tool", "allow", "flange", " sheet thick base press tool allow flange on north east south west from wide high up down round ", "on", "east", "south", "west", "north", "from", "wide", "high", "up", "down", "round"]
abbrev zSl : List Nat := [5, 5, 4, 5, 4, 5, 6, 96, 2, 4, 5, 4, 5, 4, 4, 4, 2, 4, 5]
abbrev zSb : List (List Int32) := [[115, 104, 101, 101, 116], [116, 104, 105, 99, 107], [98, 97, 115, 101], [112, 114, 101, 115, 115], [116, 111, 111, 108], [97, 108, 108, 111, 119], [102, 108, 97, 110, 103, 101], [32, 115, 104, 101, 101, 116, 32, 116, 104, 105, 99, 107, 32, 98, 97, 115, 101, 32, 112, 114, 101, 115, 115, 32, 116, 111, 111, 108, 32, 97, 108, 108, 111, 119, 32, 102, 108, 97, 110, 103, 101, 32, 111, 110, 32, 110, 111, 114, 116, 104, 32, 101, 97, 115, 116, 32, 115, 111, 117, 116, 104, 32, 119, 101, 115, 116, 32, 102, 114, 111, 109, 32, 119, 105, 100, 101, 32, 104, 105, 103, 104, 32, 117, 112, 32, 100, 111, 119, 110, 32, 114, 111, 117, 110, 100, 32], [111, 110], [101, 97, 115, 116], [115, 111, 117, 116, 104], [119, 101, 115, 116], [110, 111, 114, 116, 104], [102, 114, 111, 109], [119, 105, 100, 101], [104, 105, 103, 104], [117, 112], [100, 111, 119, 110], [114, 111, 117, 110, 100]]
end
section
/-! THE FRAME OF ALL CONTRACTS: one list of words, one context, a contract by the cells that a method reaches -/
def zN : Cond → Bool
  | .fieldLinkNest .. => true
  | .methodLinkNest .. => true
  | _ => false
def zG : List Cond := lw_tbl.filter goodWord
theorem zgm {w : Cond} (h : w ∈ lw_tbl) (h2 : goodWord w = true) : w ∈ zG := List.mem_filter.mpr ⟨h, h2⟩
theorem zsel {q : MethodName × Nat} (h : q ∈ lw_privs) : Cond.selects q.1.cls q.1 q.1 ∈ lw_tbl := List.mem_append_left _ (List.mem_map.mpr ⟨q, h, rfl⟩)
theorem zG_all {ws : List Cond} (h : ∀ w ∈ ws, w ∈ lw_tbl) (h2 : ws.all goodWord = true) : ∀ w ∈ ws, w ∈ zG := fun w hw => List.mem_filter.mpr ⟨h w hw, List.all_eq_true.mp h2 w hw⟩
theorem zG_tbl {w : Cond} (h : w ∈ zG) : w ∈ lw_tbl := (List.mem_filter.mp h).1
/-- the callee's words among the caller's -/
theorem zGood {y : MethodName} {cc : ByteArray} {n : Nat} {r : Option FieldType} (h : Cond.code y cc n r ∈ zG) : GoodIn zG (.code y cc n r :: zG) := by
  intro w hw
  have hm : w ∈ zG := (List.mem_cons.mp hw).elim (fun e => by rw [e]; exact h) id
  exact ⟨hm, good_of_word (List.mem_filter.mp hm).2⟩
def zNW (U : State) : Prop := ∀ w ∈ lw_tbl, zN w = true → va_Nw w U
theorem zNW.warm {s U : State} (hW : s.WarmedH U.vm) (h : zNW s) : zNW U := by
  intro w hw hn
  have h1 := h w hw hn
  cases w <;> first | exact va_Nw.warmF hW h1 | exact va_Nw.warmM hW h1 | cases hn
theorem zNW.same {s U : State} (hv : s.vm = U.vm) (h : zNW s) : zNW U := by
  intro w hw hn
  refine va_Nw.same ?_ hv (h w hw hn)
  cases w <;> first | rfl | cases hn
theorem zNW.fl {s : State} {args : Array Value} (h : zNW s) {a : String} {k : Nat} {b n d o : String} (hi : Cond.fieldLinkNest a k b n d o ∈ lw_tbl) : (Cond.fieldLinkNest a k b n d o).before args s = true := va_Nw.use rfl (h _ hi rfl)
theorem zNW.ml {s : State} (h : zNW s) {a : String} {k : Nat} {x : MethodName} {o : String} (hi : Cond.methodLinkNest a k x o ∈ lw_tbl) : va_Nw (.methodLinkNest a k x o) s := h _ hi rfl
theorem zc_lt {x y : Int32} {X Y : Int} (hx : x.toInt = X) (hy : y.toInt = Y) : x < y ↔ X < Y := by rw [← hx, ← hy]; exact Int32.lt_iff_toInt_lt
theorem zc_le {x y : Int32} {X Y : Int} (hx : x.toInt = X) (hy : y.toInt = Y) : x ≤ y ↔ X ≤ Y := by rw [← hx, ← hy]; exact Int32.le_iff_toInt_le
theorem zc_eq {x y : Int32} {X Y : Int} (hx : x.toInt = X) (hy : y.toInt = Y) : x = y ↔ X = Y := by rw [← hx, ← hy]; exact Int32.toInt_inj.symm
/-- what is fixed in a run: the classes' numbers and slots; the classes of int[], byte[], boolean[]; the String constants and their rows; the row of powers -/
abbrev zL : Type := va_G × (ClassId × ClassId × ClassId) × (Nat → Nat) × (Nat → Nat) × Nat
abbrev zTy (g : zL) : List (ClassId × FieldType) := [(g.2.1.1, .int), (g.2.1.2.1, .byte), (g.2.1.2.2, .boolean)]
abbrev zPow : List Int32 := [1, 3, 9, 27, 81, 243, 729, 2187, 6561]
def zX (g : zL) (A : Nat → Prop) (U : State) (H : Heap) : Prop :=
  va_K g.1 vwCl (zTy g) U ∧ zNW U ∧ (∀ i : Nat, i < 19 → vk_R RX6 (zSp.getD i 0) (zSt.getD i "") (g.2.2.1 i) U) ∧ vk_S 19 zSl zSb g.2.2.1 g.2.2.2.1 A U H ∧
  va_Z "java/lang/String" "COMPACT_STRINGS" "Z" (.int 1) A U H ∧ va_Z "SheetFolds$Mender" "POWERS" "[I" (.ref g.2.2.2.2) A U H ∧ va_T .int g.2.2.2.2 9 (fun j => .int (zPow.getD j 0)) A U H
theorem zX.warm {g : zL} {A : Nat → Prop} {s U : State} {H : Heap} (hW : s.WarmedH U.vm) (h : zX g A s H) : zX g A U H := by
  obtain ⟨h1, h2, h3, h4, h5, h6, h7⟩ := h
  exact ⟨h1.moved hW.alike, h2.warm hW, fun i hi => (h3 i hi).warm hW, h4.moved hW.alike, h5.moved hW.alike, h6.moved hW.alike, h7.moved hW.alike⟩
theorem zX.same {g : zL} {A : Nat → Prop} {s U : State} {H : Heap} (hv : U.vm = s.vm) (h : zX g A s H) : zX g A U H := by
  obtain ⟨h1, h2, h3, h4, h5, h6, h7⟩ := h
  have ha : s.vm.Alike U.vm := by rw [hv]; exact Vm.Alike.refl s.vm
  exact ⟨h1.moved ha, h2.same hv.symm, fun i hi => (h3 i hi).same hv, h4.moved ha, h5.moved ha, h6.moved ha, h7.moved ha⟩
theorem zX.kept {g : zL} {A : Nat → Prop} {U : State} {H H1 : Heap} (h : zX g A U H) (hq : ∀ a : Nat, a < H.size → ¬ A a → H1[a]? = H[a]?) : zX g A U H1 := by
  obtain ⟨h1, h2, h3, h4, h5, h6, h7⟩ := h
  exact ⟨h1, h2, h3, h4.kept hq, h5.kept hq, h6.kept hq, h7.kept hq⟩
theorem zX.narrow {g : zL} {A B : Nat → Prop} {U : State} {H : Heap} (h : zX g A U H) (hAB : ∀ q, B q → A q) : zX g B U H := by
  obtain ⟨h1, h2, h3, h4, h5, h6, h7⟩ := h
  exact ⟨h1, h2, h3, h4.narrow hAB, h5.narrow hAB, h6.narrow hAB, h7.narrow hAB⟩
/-- a contract's start: these arguments, these cells, the context -/
def zP (g : zL) (av : List Value) (wc : va_W) (sz : Nat) : Array Value → State → Prop :=
  va_Pc av (fun U => U.heap.size = sz ∧ va_P g.1 vwCl wc U.heap ∧ zX g (va_A wc sz) U U.heap ∧ va_D (fun _ => True) wc)
theorem zP.blind (g : zL) (av : List Value) (wc : va_W) (sz : Nat) : FrameBlind (zP g av wc sz) := by
  intro a U gf mk q
  obtain ⟨q0, q1, qP, qX, qD⟩ := q
  exact ⟨q0, q1, qP, zX.same (s := U) (U := U.calling gf mk a) rfl qX, qD⟩
/-- a contract's end: the cells behind it -/
def zB (g : zL) (wc : va_W) (sz : Nat) (w : va_W) (t : State) : Prop := va_P g.1 vwCl w t.heap ∧ va_D (va_A wc sz) w
def zCi {S : Type} (l : Launch) (g : zL) (y : MethodName) (cc : ByteArray) (mL : Nat) (ret : Option FieldType) (rm : Room) (av : List Value) (wc : va_W) (post : Int32 → S → Prop) (w' : S → va_W) : Prop :=
  ∀ sz : Nat, Met l y (.code y cc mL ret :: zG) rm (zP g av wc sz) (va_Qi post (fun u t => zB g wc sz (w' u) t) (va_A wc sz)) rm.cells rm.slots (va_A wc sz)
def zCv {S : Type} (l : Launch) (g : zL) (y : MethodName) (cc : ByteArray) (mL : Nat) (ret : Option FieldType) (rm : Room) (av : List Value) (wc : va_W) (post : S → Prop) (w' : S → va_W) : Prop :=
  ∀ sz : Nat, Met l y (.code y cc mL ret :: zG) rm (zP g av wc sz) (va_Qv post (fun u t => zB g wc sz (w' u) t) (va_A wc sz)) rm.cells rm.slots (va_A wc sz)
/-- what a method's walk has at its entry -/
def zE (p : Program) (s : State) (m : MethodId) (meth : Method) (c : Code) (g : zL) (A : Nat → Prop) (y : MethodName) (cc : ByteArray) (mL : Nat) (ret : Option FieldType) (args : Array Value) : Prop :=
  p.tables.exec = Jvm.exec ∧ c.code = cc ∧ meth.sig.returnType = ret ∧ c.maxLocals = mL ∧ s.vm.findClass y.cls = some m.cls ∧ (∀ w ∈ zG, w.before args s = true) ∧ meth.locks = false ∧ meth.name = y.name ∧ zX g A s s.heap ∧ (∀ q : Nat, s.heap.size ≤ q → A q)
theorem zCi.mk {S : Type} {l : Launch} {g : zL} {y : MethodName} {cc : ByteArray} {mL : Nat} {ret : Option FieldType} {rm : Room} {av : List Value} {wc : va_W} {post : Int32 → S → Prop} {w' : S → va_W} (hy : plainName y.cls = true) (hn : (lg_sl av).length ≤ mL)
    (body : ∀ (p : Program) (e : Env) (s : State) (m : MethodId) (below : List Frame) (meth : Method) (c : Code) (A : Nat → Prop), zE p s m meth c g A y cc mL ret av.toArray → va_P g.1 vwCl wc s.heap → va_D A wc → va_S A s.heap s.heap [] → ∀ ls : Array Slot, lv_has ls mL (lv_args 0 av) →
      W p l e rm s m av.toArray below meth c s.heap [] 0 0 (MQ below (va_Qi post (fun u t => va_P g.1 vwCl (w' u) t.heap ∧ va_D A (w' u)) A) av.toArray s rm.cells rm.slots A) (F0 m 0 ls [])) : zCi l g y cc mL ret rm av wc post w' := by
  intro sz
  refine Met.ofW (cc := cc) (maxL := mL) (ret := ret) hy rfl ?_
  intro p e s m args below meth c s₁ B hml hv
  obtain ⟨rfl, hsz, hP, hX, hD0⟩ := hv
  subst hsz
  have hts := atoms_spec (ws := Cond.code y cc mL ret :: zG) B.pre
  have hl := lv_entry av (n := mL) hn
  rw [lg_entry_eq]
  exact body p e s m below meth c _ ⟨B.exec, B.bytes, B.returns, hml, findClass_of_methodNamed B.named, fun w h => hts w (List.mem_cons_of_mem _ h), B.notSynchronized, (name_of_methodNamed B.named B.method).1, hX, fun q h => Or.inr h⟩ hP (hD0.self (sz := s.heap.size)) va_S.rf _ hl
theorem zCv.mk {S : Type} {l : Launch} {g : zL} {y : MethodName} {cc : ByteArray} {mL : Nat} {ret : Option FieldType} {rm : Room} {av : List Value} {wc : va_W} {post : S → Prop} {w' : S → va_W} (hy : plainName y.cls = true) (hn : (lg_sl av).length ≤ mL)
    (body : ∀ (p : Program) (e : Env) (s : State) (m : MethodId) (below : List Frame) (meth : Method) (c : Code) (A : Nat → Prop), zE p s m meth c g A y cc mL ret av.toArray → va_P g.1 vwCl wc s.heap → va_D A wc → va_S A s.heap s.heap [] → ∀ ls : Array Slot, lv_has ls mL (lv_args 0 av) →
      W p l e rm s m av.toArray below meth c s.heap [] 0 0 (MQ below (va_Qv post (fun u t => va_P g.1 vwCl (w' u) t.heap ∧ va_D A (w' u)) A) av.toArray s rm.cells rm.slots A) (F0 m 0 ls [])) : zCv l g y cc mL ret rm av wc post w' := by
  intro sz
  refine Met.ofW (cc := cc) (maxL := mL) (ret := ret) hy rfl ?_
  intro p e s m args below meth c s₁ B hml hv
  obtain ⟨rfl, hsz, hP, hX, hD0⟩ := hv
  subst hsz
  have hts := atoms_spec (ws := Cond.code y cc mL ret :: zG) B.pre
  have hl := lv_entry av (n := mL) hn
  rw [lg_entry_eq]
  exact body p e s m below meth c _ ⟨B.exec, B.bytes, B.returns, hml, findClass_of_methodNamed B.named, fun w h => hts w (List.mem_cons_of_mem _ h), B.notSynchronized, (name_of_methodNamed B.named B.method).1, hX, fun q h => Or.inr h⟩ hP (hD0.self (sz := s.heap.size)) va_S.rf _ hl
section ZS
variable {p : Program} {l : Launch} {e : Env} {R : Room} {s : State} {m : MethodId} {args : Array Value} {below : List Frame} {meth : Method} {c : Code} {H : Heap} {locs : List Loc} {cells slots : Nat} {Q : State → Prop} {pc : Nat} {ls : Array Slot} {rest st0 : List Value} {g : zL} {A : Nat → Prop} {ws wc wr : va_W} {y : MethodName} {bytes cc : ByteArray} {maxL nL n index : Nat} {ret : Option FieldType} {rm : Room} {own C host : String} {As av : List Value} {b : Nat}
/-- another name for the number on top -/
theorem zt {x z : Int32} (h : x = z) (k : W p l e R s m args below meth c H locs cells slots Q (F0 m pc ls (.int z :: rest))) : W p l e R s m args below meth c H locs cells slots Q (F0 m pc ls (.int x :: rest)) := by rw [h]; exact k
theorem zri {S : Type} {post : Int32 → S → Prop} {w' : S → va_W} {a : Array Value} {v : Int32} (u : S) (hx : p.tables.exec = Jvm.exec) (hb : c.code = cc) (hr : meth.sig.returnType = some .int) (hlocks : meth.locks = false) (hc : cells ≤ rm.cells) (hs : slots ≤ rm.slots) (hp : post v u) (hP : va_P g.1 vwCl (w' u) H) (hD : va_D A (w' u)) (hS : va_S A s.heap H locs) (hd : decode cc pc = .ok (.ireturn, 1)) :
    W p l e R s m args below meth c H locs cells slots (MQ below (va_Qi post (fun u t => va_P g.1 vwCl (w' u) t.heap ∧ va_D A (w' u)) A) args s rm.cells rm.slots A) (F0 m pc ls [.int v]) := by
  refine W.widen (k := rm.cells) (n := rm.slots) hc hs ?_
  exact W.iret (v := v) hx hb hr (fun t ht hW => ⟨⟨v, u, rfl, hp, by rw [ht]; exact hP, hD⟩, hS.F ht⟩) hS.2.2 hd hlocks
theorem zrz {S : Type} {ty : FieldType} {post : Int32 → S → Prop} {w' : S → va_W} {v : Int32} (u : S) (hx : p.tables.exec = Jvm.exec) (hb : c.code = cc) (hr : meth.sig.returnType = some ty) (hlocks : meth.locks = false) (hnr : narrow ty (.int v) = .int v) (hc : cells ≤ rm.cells) (hs : slots ≤ rm.slots) (hp : post v u) (hP : va_P g.1 vwCl (w' u) H) (hD : va_D A (w' u)) (hS : va_S A s.heap H locs) (hd : decode cc pc = .ok (.ireturn, 1)) :
    W p l e R s m args below meth c H locs cells slots (MQ below (va_Qi post (fun u t => va_P g.1 vwCl (w' u) t.heap ∧ va_D A (w' u)) A) args s rm.cells rm.slots A) (F0 m pc ls [.int v]) := by
  refine W.widen (k := rm.cells) (n := rm.slots) hc hs ?_
  exact W.zret (v := v) hx hb hr hnr (fun t ht hW => ⟨⟨v, u, rfl, hp, by rw [ht]; exact hP, hD⟩, hS.F ht⟩) hS.2.2 hd hlocks
theorem zrv {S : Type} {post : S → Prop} {w' : S → va_W} (u : S) (hx : p.tables.exec = Jvm.exec) (hb : c.code = cc) (hr : meth.sig.returnType = none) (hlocks : meth.locks = false) (hc : cells ≤ rm.cells) (hs : slots ≤ rm.slots) (hp : post u) (hP : va_P g.1 vwCl (w' u) H) (hD : va_D A (w' u)) (hS : va_S A s.heap H locs) (hd : decode cc pc = .ok (.return_, 1)) :
    W p l e R s m args below meth c H locs cells slots (MQ below (va_Qv post (fun u t => va_P g.1 vwCl (w' u) t.heap ∧ va_D A (w' u)) A) args s rm.cells rm.slots A) (F0 m pc ls []) := by
  refine W.widen (k := rm.cells) (n := rm.slots) hc hs ?_
  exact W.vret hx hb hr (fun t ht hW => ⟨⟨u, rfl, hp, by rw [ht]; exact hP, hD⟩, hS.F ht⟩) hS.2.2 hd hlocks
/-- a new row of a known class -/
theorem zna {atype : ArrayType} (hx : p.tables.exec = Jvm.exec) (hb : c.code = cc) (harr : (Cond.arrayClass (newarray.typeOf atype)).before args s = true) {ty : FieldType} (hty : newarray.typeOf atype = ty) (t0 : Nat) {cA0 : ClassId} (ht : (zTy g)[t0]? = some (cA0, ty)) {nm : String} (hname : ∀ cA, va_RA s cA ty → s.vm.findClass nm = some cA) (hX : zX g A s s.heap) (hP : va_P g.1 vwCl ws H) (hD : va_D A ws) (hS : va_S A s.heap H locs) (hA : ∀ q : Nat, s.heap.size ≤ q → A q)
    {n : Int32} {N' : Nat} {a0 : vp_A} (ha : ∀ cA : ClassId, vp_cell cA a0 = arrV cA N' (fun _ => defaultValue ty)) (hn : ¬ n < 0) (hN : n.toNatClampNeg = N') (hbytes : N' * componentBytes ty ≤ 536870912) (hcells : cells + 1 ≤ R.cells) (hslots : slots + N' ≤ R.slots) (hdg : decode cc pc = .ok (.newarray atype, 2))
    (kk : ∀ (q : Nat) (H1 : Heap), va_P g.1 vwCl (ws ++ [(q, .inl (cA0, a0))]) H1 → va_D A (ws ++ [(q, .inl (cA0, a0))]) → va_S A s.heap H1 locs → W p l e R s m args below meth c H1 locs (cells + 1) (slots + N') Q (F0 m (pc + 2) ls (.ref q :: rest))) : W p l e R s m args below meth c H locs cells slots Q (F0 m pc ls (.int n :: rest)) := by
  refine va_newa hx hb harr hty hX.1 hP hD hS hA ha hn hN hbytes hcells hslots hdg (fun q cA H1 hK1 hP1 hD1 hS1 => ?_)
  have h1 := hname _ (hK1.2 3 (cA, ty) rfl).2
  have h2 := hname _ (hX.1.2 t0 _ ht).2
  have h3 : cA = cA0 := Option.some.inj (h1.symm.trans h2)
  subst h3
  exact kk q H1 hP1 hD1 hS1
/-- the cells of a call, cut out of the caller's -/
theorem zpick {D : va_G} {cl : List vw_C} (hP : va_P D cl ws H) (isC : List Nat) (hC : isC.map (fun i => ws[i]?) = wc.map some) : va_P D cl wc H := by
  intro k q hq
  have h1 : (isC.map (fun i => ws[i]?))[k]? = some (some q) := by rw [hC, List.getElem?_map, hq]; rfl
  rw [List.getElem?_map] at h1
  cases hi : isC[k]? with
  | none => rw [hi] at h1; cases h1
  | some i => rw [hi] at h1; exact hP i q (Option.some.inj h1)
/-- the callee's start holds in every state that has this heap -/
theorem zpre (hX : zX g A s s.heap) (hP : va_P g.1 vwCl ws H) (hD : va_D A ws) (hS : va_S A s.heap H locs) (hA : ∀ q : Nat, s.heap.size ≤ q → A q) (isC : List Nat) (hC : isC.map (fun i => ws[i]?) = wc.map some) (hn : va_nd isC = true) : ∀ U : State, U.heap = H → s.WarmedH U.vm → zP g av wc H.size av.toArray U := by
  intro U hU hW
  have hF := va_free (wc := wc) hD hS hA isC hC
  refine ⟨rfl, by rw [hU], by rw [hU]; exact zpick hP isC hC, ?_, (hD.sub isC hn hC).weaken (fun _ _ _ _ => trivial)⟩
  rw [hU]
  exact ((hX.kept hS.2.1).warm hW).narrow hF
theorem zpreS (hX : zX g A s s.heap) (hP : va_P g.1 vwCl ws H) (hD : va_D A ws) (hS : va_S A s.heap H locs) (hA : ∀ q : Nat, s.heap.size ≤ q → A q) (isC : List Nat) (hC : isC.map (fun i => ws[i]?) = wc.map some) (hn : va_nd isC = true) : PreS s H (zP g av wc H.size) av :=
  ⟨zP.blind g av wc H.size, zpre hX hP hD hS hA isC hC hn⟩
theorem zpreV (hrecv : ∃ cell : Cell, H[b]? = some cell ∧ cell.vm.isStatics = false ∧ s.vm.findClass C = some cell.cls) (hX : zX g A s s.heap) (hP : va_P g.1 vwCl ws H) (hD : va_D A ws) (hS : va_S A s.heap H locs) (hA : ∀ q : Nat, s.heap.size ≤ q → A q) (isC : List Nat) (hC : isC.map (fun i => ws[i]?) = wc.map some) (hn : va_nd isC = true) : PreV s H C b (zP g (.ref b :: As) wc H.size) As :=
  ⟨zP.blind g _ wc H.size, hrecv, zpre hX hP hD hS hA isC hC hn⟩
/-- behind a call that answers an int -/
theorem zfi {S : Type} {post : Int32 → S → Prop} {w' : S → va_W} {mc ms : Nat} {a : Array Value} (hr : va_Run p l e R s m args below meth c H locs cells slots mc ms (F0 m pc ls st0) rest (va_Qi post (fun u t => zB g wc H.size (w' u) t) (va_A wc H.size) a) (va_A wc H.size)) (hP : va_P g.1 vwCl ws H) (hD : va_D A ws) (hS : va_S A s.heap H locs) (hA : ∀ q : Nat, s.heap.size ≤ q → A q)
    (isC isR : List Nat) (hC : isC.map (fun i => ws[i]?) = wc.map some) (hR : isR.map (fun i => ws[i]?) = wr.map some) (hn : va_nd isR = true) (hdis : ∀ i ∈ isR, i ∉ isC)
    (kk : ∀ (r : Int32) (u : S) (H1 : Heap) (locs1 : List Loc), post r u → va_P g.1 vwCl (wr ++ w' u) H1 → va_D A (wr ++ w' u) → va_S A s.heap H1 locs1 → W p l e R s m args below meth c H1 locs1 (cells + mc) (slots + ms) Q (F0 m (pc + 3) ls (.int r :: rest))) : W p l e R s m args below meth c H locs cells slots Q (F0 m pc ls st0) := by
  have hF := va_free (wc := wc) hD hS hA isC hC
  refine va_calli hr hS (fun q _ h => hF q h) hF (fun r u t H1 locs1 ht hvm hp hB hz1 hk1 hS1 => ?_)
  obtain ⟨hP1, hD1⟩ := hB
  rw [ht] at hP1
  obtain ⟨hP2, hD2⟩ := va_join (wr := wr) (w1 := w' u) hP hD isC isR hC hR hn hdis hk1 hF hP1 hD1
  exact kk r u H1 locs1 hp hP2 hD2 hS1
theorem zfv {S : Type} {post : S → Prop} {w' : S → va_W} {mc ms : Nat} {a : Array Value} (hr : va_Run p l e R s m args below meth c H locs cells slots mc ms (F0 m pc ls st0) rest (va_Qv post (fun u t => zB g wc H.size (w' u) t) (va_A wc H.size) a) (va_A wc H.size)) (hP : va_P g.1 vwCl ws H) (hD : va_D A ws) (hS : va_S A s.heap H locs) (hA : ∀ q : Nat, s.heap.size ≤ q → A q)
    (isC isR : List Nat) (hC : isC.map (fun i => ws[i]?) = wc.map some) (hR : isR.map (fun i => ws[i]?) = wr.map some) (hn : va_nd isR = true) (hdis : ∀ i ∈ isR, i ∉ isC)
    (kk : ∀ (u : S) (H1 : Heap) (locs1 : List Loc), post u → va_P g.1 vwCl (wr ++ w' u) H1 → va_D A (wr ++ w' u) → va_S A s.heap H1 locs1 → W p l e R s m args below meth c H1 locs1 (cells + mc) (slots + ms) Q (F0 m (pc + 3) ls rest)) : W p l e R s m args below meth c H locs cells slots Q (F0 m pc ls st0) := by
  have hF := va_free (wc := wc) hD hS hA isC hC
  refine va_callv hr hS (fun q _ h => hF q h) hF (fun u t H1 locs1 ht hvm hp hB hz1 hk1 hS1 => ?_)
  obtain ⟨hP1, hD1⟩ := hB
  rw [ht] at hP1
  obtain ⟨hP2, hD2⟩ := va_join (wr := wr) (w1 := w' u) hP hD isC isR hC hR hn hdis hk1 hF hP1 hD1
  exact kk u H1 locs1 hp hP2 hD2 hS1
end ZS
end
section
theorem zt1 {w : Cond} (h : w ∈ tables_1_1) : w ∈ lw_tbl := List.mem_append_right _ (List.mem_append_left _ h)
theorem zt2 {w : Cond} (h : w ∈ tables_1_2) : w ∈ lw_tbl := List.mem_append_right _ (List.mem_append_right _ (List.mem_append_left _ h))
theorem zt3 {w : Cond} (h : w ∈ tables_1_3) : w ∈ lw_tbl := List.mem_append_right _ (List.mem_append_right _ (List.mem_append_right _ (List.mem_append_left _ h)))
theorem zt4 {w : Cond} (h : w ∈ tables_1_4) : w ∈ lw_tbl := List.mem_append_right _ (List.mem_append_right _ (List.mem_append_right _ (List.mem_append_right _ (List.mem_append_left _ h))))
theorem zt5 {w : Cond} (h : w ∈ tables_1_5) : w ∈ lw_tbl := List.mem_append_right _ (List.mem_append_right _ (List.mem_append_right _ (List.mem_append_right _ (List.mem_append_right _ (List.mem_append_left _ h)))))
theorem zt6 {w : Cond} (h : w ∈ tables_1_6) : w ∈ lw_tbl := List.mem_append_right _ (List.mem_append_right _ (List.mem_append_right _ (List.mem_append_right _ (List.mem_append_right _ (List.mem_append_right _ (List.mem_append_left _ h))))))
theorem zt7 {w : Cond} (h : w ∈ tables_1_7) : w ∈ lw_tbl := List.mem_append_right _ (List.mem_append_right _ (List.mem_append_right _ (List.mem_append_right _ (List.mem_append_right _ (List.mem_append_right _ (List.mem_append_right _ (List.mem_append_left _ h)))))))
theorem zt8 {w : Cond} (h : w ∈ tables_1_8) : w ∈ lw_tbl := List.mem_append_right _ (List.mem_append_right _ (List.mem_append_right _ (List.mem_append_right _ (List.mem_append_right _ (List.mem_append_right _ (List.mem_append_right _ (List.mem_append_right _ (h))))))))
theorem zp1 {q : MethodName × Nat} (h : q ∈ lw_privs_1) : q ∈ lw_privs := List.mem_append_left _ h
theorem zp2 {q : MethodName × Nat} (h : q ∈ lw_privs_2) : q ∈ lw_privs := List.mem_append_right _ (List.mem_append_left _ h)
theorem zp3 {q : MethodName × Nat} (h : q ∈ lw_privs_3) : q ∈ lw_privs := List.mem_append_right _ (List.mem_append_right _ (List.mem_append_left _ h))
theorem zp4 {q : MethodName × Nat} (h : q ∈ lw_privs_4) : q ∈ lw_privs := List.mem_append_right _ (List.mem_append_right _ (List.mem_append_right _ (List.mem_append_left _ h)))
theorem zp5 {q : MethodName × Nat} (h : q ∈ lw_privs_5) : q ∈ lw_privs := List.mem_append_right _ (List.mem_append_right _ (List.mem_append_right _ (List.mem_append_right _ (List.mem_append_left _ h))))
theorem zp6 {q : MethodName × Nat} (h : q ∈ lw_privs_6) : q ∈ lw_privs := List.mem_append_right _ (List.mem_append_right _ (List.mem_append_right _ (List.mem_append_right _ (List.mem_append_right _ (List.mem_append_left _ h)))))
theorem zp7 {q : MethodName × Nat} (h : q ∈ lw_privs_7) : q ∈ lw_privs := List.mem_append_right _ (List.mem_append_right _ (List.mem_append_right _ (List.mem_append_right _ (List.mem_append_right _ (List.mem_append_right _ (List.mem_append_left _ h))))))
theorem zp8 {q : MethodName × Nat} (h : q ∈ lw_privs_8) : q ∈ lw_privs := List.mem_append_right _ (List.mem_append_right _ (List.mem_append_right _ (List.mem_append_right _ (List.mem_append_right _ (List.mem_append_right _ (List.mem_append_right _ (List.mem_append_left _ h)))))))
theorem zp9 {q : MethodName × Nat} (h : q ∈ lw_privs_9) : q ∈ lw_privs := List.mem_append_right _ (List.mem_append_right _ (List.mem_append_right _ (List.mem_append_right _ (List.mem_append_right _ (List.mem_append_right _ (List.mem_append_right _ (List.mem_append_right _ (List.mem_append_left _ h))))))))
theorem zp10 {q : MethodName × Nat} (h : q ∈ lw_privs_10) : q ∈ lw_privs := List.mem_append_right _ (List.mem_append_right _ (List.mem_append_right _ (List.mem_append_right _ (List.mem_append_right _ (List.mem_append_right _ (List.mem_append_right _ (List.mem_append_right _ (List.mem_append_right _ (List.mem_append_left _ h)))))))))
theorem zp11 {q : MethodName × Nat} (h : q ∈ lw_privs_11) : q ∈ lw_privs := List.mem_append_right _ (List.mem_append_right _ (List.mem_append_right _ (List.mem_append_right _ (List.mem_append_right _ (List.mem_append_right _ (List.mem_append_right _ (List.mem_append_right _ (List.mem_append_right _ (List.mem_append_right _ (List.mem_append_left _ h))))))))))
theorem zp12 {q : MethodName × Nat} (h : q ∈ lw_privs_12) : q ∈ lw_privs := List.mem_append_right _ (List.mem_append_right _ (List.mem_append_right _ (List.mem_append_right _ (List.mem_append_right _ (List.mem_append_right _ (List.mem_append_right _ (List.mem_append_right _ (List.mem_append_right _ (List.mem_append_right _ (List.mem_append_right _ (List.mem_append_left _ h)))))))))))
theorem zp13 {q : MethodName × Nat} (h : q ∈ lw_privs_13) : q ∈ lw_privs := List.mem_append_right _ (List.mem_append_right _ (List.mem_append_right _ (List.mem_append_right _ (List.mem_append_right _ (List.mem_append_right _ (List.mem_append_right _ (List.mem_append_right _ (List.mem_append_right _ (List.mem_append_right _ (List.mem_append_right _ (List.mem_append_right _ (h))))))))))))
theorem g0 : Cond.selects RX7 yX7_hasRoom yX7_hasRoom ∈ zG := zgm (zsel (zp1 (List.mem_of_getElem? (i := 0) rfl))) rfl
theorem g1 : Cond.selects RX8 yX8_refuse yX8_refuse ∈ zG := zgm (zsel (zp1 (List.mem_of_getElem? (i := 1) rfl))) rfl
theorem g2 : Cond.selects RX7 yX7_put yX7_put ∈ zG := zgm (zsel (zp1 (List.mem_of_getElem? (i := 2) rfl))) rfl
theorem g3 : Cond.selects RX8 yX8_deny yX8_deny ∈ zG := zgm (zsel (zp1 (List.mem_of_getElem? (i := 3) rfl))) rfl
theorem g4 : Cond.selects RX6 yX6_read yX6_read ∈ zG := zgm (zsel (zp1 (List.mem_of_getElem? (i := 4) rfl))) rfl
theorem g5 : Cond.selects RX6 yX6_begin yX6_begin ∈ zG := zgm (zsel (zp1 (List.mem_of_getElem? (i := 5) rfl))) rfl
theorem g6 : Cond.selects RX4 yX4_clear yX4_clear ∈ zG := zgm (zsel (zp1 (List.mem_of_getElem? (i := 6) rfl))) rfl
theorem g7 : Cond.selects RX6 yX6_readSheet yX6_readSheet ∈ zG := zgm (zsel (zp1 (List.mem_of_getElem? (i := 7) rfl))) rfl
theorem g8 : Cond.selects RX6 yX6_keyword yX6_keyword ∈ zG := zgm (zsel (zp1 (List.mem_of_getElem? (i := 8) rfl))) rfl
theorem g9 : Cond.selects RX6 yX6_readWord yX6_readWord ∈ zG := zgm (zsel (zp1 (List.mem_of_getElem? (i := 9) rfl))) rfl
theorem g10 : Cond.selects RX6 yX6_skipBlanks yX6_skipBlanks ∈ zG := zgm (zsel (zp1 (List.mem_of_getElem? (i := 10) rfl))) rfl
theorem g11 : Cond.selects RX7 yX7_at yX7_at ∈ zG := zgm (zsel (zp1 (List.mem_of_getElem? (i := 11) rfl))) rfl
theorem g12 : Cond.selects RX6 yX6_fail yX6_fail ∈ zG := zgm (zsel (zp1 (List.mem_of_getElem? (i := 12) rfl))) rfl
theorem g13 : Cond.selects RX6 yX6_wordIs yX6_wordIs ∈ zG := zgm (zsel (zp1 (List.mem_of_getElem? (i := 13) rfl))) rfl
theorem g14 : Cond.selects RX6 yX6_number yX6_number ∈ zG := zgm (zsel (zp1 (List.mem_of_getElem? (i := 14) rfl))) rfl
theorem g15 : Cond.selects RX6 yX6_semicolon yX6_semicolon ∈ zG := zgm (zsel (zp1 (List.mem_of_getElem? (i := 15) rfl))) rfl
theorem g16 : Cond.selects RX6 yX6_moreText yX6_moreText ∈ zG := zgm (zsel (zp2 (List.mem_of_getElem? (i := 0) rfl))) rfl
theorem g17 : Cond.selects RX6 yX6_readTool yX6_readTool ∈ zG := zgm (zsel (zp2 (List.mem_of_getElem? (i := 1) rfl))) rfl
theorem g18 : Cond.selects RX6 yX6_readAllow yX6_readAllow ∈ zG := zgm (zsel (zp2 (List.mem_of_getElem? (i := 2) rfl))) rfl
theorem g19 : Cond.selects RX6 yX6_readFlange yX6_readFlange ∈ zG := zgm (zsel (zp2 (List.mem_of_getElem? (i := 3) rfl))) rfl
theorem g20 : Cond.selects RX6 yX6_newName yX6_newName ∈ zG := zgm (zsel (zp2 (List.mem_of_getElem? (i := 4) rfl))) rfl
theorem g21 : Cond.selects RX6 yX6_name yX6_name ∈ zG := zgm (zsel (zp2 (List.mem_of_getElem? (i := 5) rfl))) rfl
theorem g22 : Cond.selects RX6 yX6_isOwnWord yX6_isOwnWord ∈ zG := zgm (zsel (zp2 (List.mem_of_getElem? (i := 6) rfl))) rfl
theorem g23 : Cond.selects RX6 yX6_find yX6_find ∈ zG := zgm (zsel (zp2 (List.mem_of_getElem? (i := 7) rfl))) rfl
theorem g24 : Cond.selects RX6 yX6_where yX6_where ∈ zG := zgm (zsel (zp2 (List.mem_of_getElem? (i := 8) rfl))) rfl
theorem g25 : Cond.selects RX6 yX6_sideOf yX6_sideOf ∈ zG := zgm (zsel (zp2 (List.mem_of_getElem? (i := 9) rfl))) rfl
theorem g26 : Cond.selects RX4 yX4_hangsBy yX4_hangsBy ∈ zG := zgm (zsel (zp2 (List.mem_of_getElem? (i := 10) rfl))) rfl
theorem g27 : Cond.selects RX6 yX6_checkWidth yX6_checkWidth ∈ zG := zgm (zsel (zp2 (List.mem_of_getElem? (i := 11) rfl))) rfl
theorem g28 : Cond.selects RX4 yX4_sideLength yX4_sideLength ∈ zG := zgm (zsel (zp2 (List.mem_of_getElem? (i := 12) rfl))) rfl
theorem g29 : Cond.selects RX4 yX4_sizeX yX4_sizeX ∈ zG := zgm (zsel (zp2 (List.mem_of_getElem? (i := 13) rfl))) rfl
theorem g30 : Cond.selects RX4 yX4_sizeY yX4_sizeY ∈ zG := zgm (zsel (zp2 (List.mem_of_getElem? (i := 14) rfl))) rfl
theorem g31 : Cond.selects RX4 yX4_sharesSide yX4_sharesSide ∈ zG := zgm (zsel (zp2 (List.mem_of_getElem? (i := 15) rfl))) rfl
theorem g32 : Cond.selects RX6 yX6_isUp yX6_isUp ∈ zG := zgm (zsel (zp3 (List.mem_of_getElem? (i := 0) rfl))) rfl
theorem g33 : Cond.selects RX4 yX4_chooseTools yX4_chooseTools ∈ zG := zgm (zsel (zp3 (List.mem_of_getElem? (i := 1) rfl))) rfl
theorem g34 : Cond.selects RX4 yX4_widthOfTools yX4_widthOfTools ∈ zG := zgm (zsel (zp3 (List.mem_of_getElem? (i := 2) rfl))) rfl
theorem g35 : Cond.selects RX4 yX4_offerTools yX4_offerTools ∈ zG := zgm (zsel (zp3 (List.mem_of_getElem? (i := 3) rfl))) rfl
theorem g36 : Cond.selects RX8 yX8_partChanged yX8_partChanged ∈ zG := zgm (zsel (zp3 (List.mem_of_getElem? (i := 4) rfl))) rfl
theorem g37 : Cond.selects RX4 yX4_isFlange yX4_isFlange ∈ zG := zgm (zsel (zp3 (List.mem_of_getElem? (i := 5) rfl))) rfl
theorem g38 : Cond.selects RX4 yX4_isBend yX4_isBend ∈ zG := zgm (zsel (zp3 (List.mem_of_getElem? (i := 6) rfl))) rfl
theorem g39 : Cond.selects RX4 yX4_countHangers yX4_countHangers ∈ zG := zgm (zsel (zp3 (List.mem_of_getElem? (i := 7) rfl))) rfl
theorem g40 : Cond.selects RX4 yX4_hangsOn yX4_hangsOn ∈ zG := zgm (zsel (zp3 (List.mem_of_getElem? (i := 8) rfl))) rfl
theorem g41 : Cond.selects RX4 yX4_depth yX4_depth ∈ zG := zgm (zsel (zp3 (List.mem_of_getElem? (i := 9) rfl))) rfl
theorem g42 : Cond.selects RX4 yX4_lengthOf yX4_lengthOf ∈ zG := zgm (zsel (zp3 (List.mem_of_getElem? (i := 10) rfl))) rfl
theorem g43 : Cond.selects RX4 yX4_zoneOf yX4_zoneOf ∈ zG := zgm (zsel (zp3 (List.mem_of_getElem? (i := 11) rfl))) rfl
theorem g44 : Cond.selects RX4 yX4_allowanceOf yX4_allowanceOf ∈ zG := zgm (zsel (zp3 (List.mem_of_getElem? (i := 12) rfl))) rfl
theorem g45 : Cond.selects RX4 yX4_isThere yX4_isThere ∈ zG := zgm (zsel (zp3 (List.mem_of_getElem? (i := 13) rfl))) rfl
theorem g46 : Cond.selects RX4 yX4_isPiece yX4_isPiece ∈ zG := zgm (zsel (zp3 (List.mem_of_getElem? (i := 14) rfl))) rfl
theorem g47 : Cond.selects RX5 yX5_placeFlat yX5_placeFlat ∈ zG := zgm (zsel (zp3 (List.mem_of_getElem? (i := 15) rfl))) rfl
theorem g48 : Cond.selects RX5 yX5_place yX5_place ∈ zG := zgm (zsel (zp4 (List.mem_of_getElem? (i := 0) rfl))) rfl
theorem g49 : Cond.selects RX5 yX5_placeBase yX5_placeBase ∈ zG := zgm (zsel (zp4 (List.mem_of_getElem? (i := 1) rfl))) rfl
theorem g50 : Cond.selects RX5 yX5_setBox yX5_setBox ∈ zG := zgm (zsel (zp4 (List.mem_of_getElem? (i := 2) rfl))) rfl
theorem g51 : Cond.selects RX5 yX5_goToSide yX5_goToSide ∈ zG := zgm (zsel (zp4 (List.mem_of_getElem? (i := 3) rfl))) rfl
theorem g52 : Cond.selects RX5 yX5_alongSide yX5_alongSide ∈ zG := zgm (zsel (zp4 (List.mem_of_getElem? (i := 4) rfl))) rfl
theorem g53 : Cond.selects RX5 yX5_placeFlange yX5_placeFlange ∈ zG := zgm (zsel (zp4 (List.mem_of_getElem? (i := 5) rfl))) rfl
theorem g54 : Cond.selects RX5 yX5_outward yX5_outward ∈ zG := zgm (zsel (zp4 (List.mem_of_getElem? (i := 6) rfl))) rfl
theorem g55 : Cond.selects RX5 yX5_lowOf yX5_lowOf ∈ zG := zgm (zsel (zp4 (List.mem_of_getElem? (i := 7) rfl))) rfl
theorem g56 : Cond.selects RX5 yX5_highOf yX5_highOf ∈ zG := zgm (zsel (zp4 (List.mem_of_getElem? (i := 8) rfl))) rfl
theorem g57 : Cond.selects RX5 yX5_area yX5_area ∈ zG := zgm (zsel (zp4 (List.mem_of_getElem? (i := 9) rfl))) rfl
theorem g58 : Cond.selects RX5 yX5_leastLow yX5_leastLow ∈ zG := zgm (zsel (zp4 (List.mem_of_getElem? (i := 10) rfl))) rfl
theorem g59 : Cond.selects RX5 yX5_mostHigh yX5_mostHigh ∈ zG := zgm (zsel (zp4 (List.mem_of_getElem? (i := 11) rfl))) rfl
theorem g60 : Cond.selects RX5 yX5_overlaps yX5_overlaps ∈ zG := zgm (zsel (zp4 (List.mem_of_getElem? (i := 12) rfl))) rfl
theorem g61 : Cond.selects RX5 yX5_share yX5_share ∈ zG := zgm (zsel (zp4 (List.mem_of_getElem? (i := 13) rfl))) rfl
theorem g62 : Cond.selects RX8 yX8_placeNow yX8_placeNow ∈ zG := zgm (zsel (zp4 (List.mem_of_getElem? (i := 14) rfl))) rfl
theorem g63 : Cond.selects RX5 yX5_extent yX5_extent ∈ zG := zgm (zsel (zp4 (List.mem_of_getElem? (i := 15) rfl))) rfl
theorem g64 : Cond.selects RX5 yX5_gapOf yX5_gapOf ∈ zG := zgm (zsel (zp5 (List.mem_of_getElem? (i := 0) rfl))) rfl
theorem g65 : Cond.selects RX5 yX5_signedNormal yX5_signedNormal ∈ zG := zgm (zsel (zp5 (List.mem_of_getElem? (i := 1) rfl))) rfl
theorem g66 : Cond.selects RX4 yX4_isState yX4_isState ∈ zG := zgm (zsel (zp5 (List.mem_of_getElem? (i := 2) rfl))) rfl
theorem g67 : Cond.selects RX4 yX4_allBends yX4_allBends ∈ zG := zgm (zsel (zp5 (List.mem_of_getElem? (i := 3) rfl))) rfl
theorem g68 : Cond.selects RX5 yX5_clashes yX5_clashes ∈ zG := zgm (zsel (zp5 (List.mem_of_getElem? (i := 4) rfl))) rfl
theorem g69 : Cond.selects RX5 yX5_doClash yX5_doClash ∈ zG := zgm (zsel (zp5 (List.mem_of_getElem? (i := 5) rfl))) rfl
theorem g70 : Cond.selects RX5 yX5_isWithin yX5_isWithin ∈ zG := zgm (zsel (zp5 (List.mem_of_getElem? (i := 6) rfl))) rfl
theorem g71 : Cond.selects RX5 yX5_metByPunch yX5_metByPunch ∈ zG := zgm (zsel (zp5 (List.mem_of_getElem? (i := 7) rfl))) rfl
theorem g72 : Cond.selects RX5 yX5_standPunch yX5_standPunch ∈ zG := zgm (zsel (zp5 (List.mem_of_getElem? (i := 8) rfl))) rfl
theorem g73 : Cond.selects RX8 yX8_reason yX8_reason ∈ zG := zgm (zsel (zp5 (List.mem_of_getElem? (i := 9) rfl))) rfl
theorem g74 : Cond.selects RX8 yX8_clashesIn yX8_clashesIn ∈ zG := zgm (zsel (zp5 (List.mem_of_getElem? (i := 10) rfl))) rfl
theorem g75 : Cond.selects RX8 yX8_searchOrders yX8_searchOrders ∈ zG := zgm (zsel (zp5 (List.mem_of_getElem? (i := 11) rfl))) rfl
theorem g76 : Cond.selects RX3 yX3_measureRooms yX3_measureRooms ∈ zG := zgm (zsel (zp5 (List.mem_of_getElem? (i := 12) rfl))) rfl
theorem g77 : Cond.selects RX5 yX5_roomFor yX5_roomFor ∈ zG := zgm (zsel (zp5 (List.mem_of_getElem? (i := 13) rfl))) rfl
theorem g78 : Cond.selects RX3 yX3_searchFrom yX3_searchFrom ∈ zG := zgm (zsel (zp5 (List.mem_of_getElem? (i := 14) rfl))) rfl
theorem g79 : Cond.selects RX3 yX3_isReached yX3_isReached ∈ zG := zgm (zsel (zp5 (List.mem_of_getElem? (i := 15) rfl))) rfl
theorem g80 : Cond.selects RX3 yX3_isClear yX3_isClear ∈ zG := zgm (zsel (zp6 (List.mem_of_getElem? (i := 0) rfl))) rfl
theorem g81 : Cond.selects RX3 yX3_ordersFrom yX3_ordersFrom ∈ zG := zgm (zsel (zp6 (List.mem_of_getElem? (i := 1) rfl))) rfl
theorem g82 : Cond.selects RX3 yX3_walkFirst yX3_walkFirst ∈ zG := zgm (zsel (zp6 (List.mem_of_getElem? (i := 2) rfl))) rfl
theorem g83 : Cond.selects RX3 yX3_firstThatGoesOn yX3_firstThatGoesOn ∈ zG := zgm (zsel (zp6 (List.mem_of_getElem? (i := 3) rfl))) rfl
theorem g84 : Cond.selects RX3 yX3_goesOn yX3_goesOn ∈ zG := zgm (zsel (zp6 (List.mem_of_getElem? (i := 4) rfl))) rfl
theorem g85 : Cond.selects RX3 yX3_append yX3_append ∈ zG := zgm (zsel (zp6 (List.mem_of_getElem? (i := 5) rfl))) rfl
theorem g86 : Cond.selects RX3 yX3_rowAt yX3_rowAt ∈ zG := zgm (zsel (zp6 (List.mem_of_getElem? (i := 6) rfl))) rfl
theorem g87 : Cond.selects RX8 yX8_isUnmade yX8_isUnmade ∈ zG := zgm (zsel (zp6 (List.mem_of_getElem? (i := 7) rfl))) rfl
theorem g88 : Cond.selects RX3 yX3_canEndWith yX3_canEndWith ∈ zG := zgm (zsel (zp6 (List.mem_of_getElem? (i := 8) rfl))) rfl
theorem g89 : Cond.selects RX3 yX3_passesWithout yX3_passesWithout ∈ zG := zgm (zsel (zp6 (List.mem_of_getElem? (i := 9) rfl))) rfl
theorem g90 : Cond.selects RX3 yX3_countReached yX3_countReached ∈ zG := zgm (zsel (zp6 (List.mem_of_getElem? (i := 10) rfl))) rfl
theorem g91 : Cond.selects RX3 yX3_countDeadEnds yX3_countDeadEnds ∈ zG := zgm (zsel (zp6 (List.mem_of_getElem? (i := 11) rfl))) rfl
theorem g92 : Cond.selects RX3 yX3_isDeadEnd yX3_isDeadEnd ∈ zG := zgm (zsel (zp6 (List.mem_of_getElem? (i := 12) rfl))) rfl
theorem g93 : Cond.selects RX3 yX3_clearBends yX3_clearBends ∈ zG := zgm (zsel (zp6 (List.mem_of_getElem? (i := 13) rfl))) rfl
theorem g94 : Cond.selects RX3 yX3_fullestDeadEnd yX3_fullestDeadEnd ∈ zG := zgm (zsel (zp6 (List.mem_of_getElem? (i := 14) rfl))) rfl
theorem g95 : Cond.selects RX3 yX3_blocked yX3_blocked ∈ zG := zgm (zsel (zp6 (List.mem_of_getElem? (i := 15) rfl))) rfl
theorem g96 : Cond.selects RX3 yX3_countSwitches yX3_countSwitches ∈ zG := zgm (zsel (zp7 (List.mem_of_getElem? (i := 0) rfl))) rfl
theorem g97 : Cond.selects RX3 yX3_leastFrom yX3_leastFrom ∈ zG := zgm (zsel (zp7 (List.mem_of_getElem? (i := 1) rfl))) rfl
theorem g98 : Cond.selects RX3 yX3_switchesWith yX3_switchesWith ∈ zG := zgm (zsel (zp7 (List.mem_of_getElem? (i := 2) rfl))) rfl
theorem g99 : Cond.selects RX3 yX3_walkThrifty yX3_walkThrifty ∈ zG := zgm (zsel (zp7 (List.mem_of_getElem? (i := 3) rfl))) rfl
theorem g100 : Cond.selects RX3 yX3_firstThrifty yX3_firstThrifty ∈ zG := zgm (zsel (zp7 (List.mem_of_getElem? (i := 4) rfl))) rfl
theorem g101 : Cond.selects RX3 yX3_tallestPunch yX3_tallestPunch ∈ zG := zgm (zsel (zp7 (List.mem_of_getElem? (i := 5) rfl))) rfl
theorem g102 : Cond.selects RX2 yX2_leastTurns yX2_leastTurns ∈ zG := zgm (zsel (zp7 (List.mem_of_getElem? (i := 6) rfl))) rfl
theorem g103 : Cond.selects RX4 yX4_needsTools yX4_needsTools ∈ zG := zgm (zsel (zp7 (List.mem_of_getElem? (i := 7) rfl))) rfl
theorem g104 : Cond.selects RX2 yX2_decode yX2_decode ∈ zG := zgm (zsel (zp7 (List.mem_of_getElem? (i := 8) rfl))) rfl
theorem g105 : Cond.selects RX2 yX2_spread yX2_spread ∈ zG := zgm (zsel (zp7 (List.mem_of_getElem? (i := 9) rfl))) rfl
theorem g106 : Cond.selects RX2 yX2_mark yX2_mark ∈ zG := zgm (zsel (zp7 (List.mem_of_getElem? (i := 10) rfl))) rfl
theorem g107 : Cond.selects RX4 yX4_leastWidthWithoutTools yX4_leastWidthWithoutTools ∈ zG := zgm (zsel (zp7 (List.mem_of_getElem? (i := 11) rfl))) rfl
theorem g108 : Cond.selects RX4 yX4_countWithoutTools yX4_countWithoutTools ∈ zG := zgm (zsel (zp7 (List.mem_of_getElem? (i := 12) rfl))) rfl
theorem g109 : Cond.selects RX5 yX5_size yX5_size ∈ zG := zgm (zsel (zp7 (List.mem_of_getElem? (i := 13) rfl))) rfl
theorem g110 : Cond.selects RX4 yX4_bendsBetween yX4_bendsBetween ∈ zG := zgm (zsel (zp7 (List.mem_of_getElem? (i := 14) rfl))) rfl
theorem g111 : Cond.selects RX1 yX1_take yX1_take ∈ zG := zgm (zsel (zp7 (List.mem_of_getElem? (i := 15) rfl))) rfl
theorem g112 : Cond.selects RX1 yX1_fitAt yX1_fitAt ∈ zG := zgm (zsel (zp8 (List.mem_of_getElem? (i := 0) rfl))) rfl
theorem g113 : Cond.selects RX1 yX1_explains yX1_explains ∈ zG := zgm (zsel (zp8 (List.mem_of_getElem? (i := 1) rfl))) rfl
theorem g114 : Cond.selects RX4 yX4_timesInLength yX4_timesInLength ∈ zG := zgm (zsel (zp8 (List.mem_of_getElem? (i := 2) rfl))) rfl
theorem g115 : Cond.selects RX1 yX1_tellingFlange yX1_tellingFlange ∈ zG := zgm (zsel (zp8 (List.mem_of_getElem? (i := 3) rfl))) rfl
theorem g116 : Cond.selects RX1 yX1_mostLeft yX1_mostLeft ∈ zG := zgm (zsel (zp8 (List.mem_of_getElem? (i := 4) rfl))) rfl
theorem g117 : Cond.selects RX8 yX8_remember yX8_remember ∈ zG := zgm (zsel (zp8 (List.mem_of_getElem? (i := 5) rfl))) rfl
theorem g118 : Cond.selects RX0 yX0_keep yX0_keep ∈ zG := zgm (zsel (zp8 (List.mem_of_getElem? (i := 6) rfl))) rfl
theorem g119 : Cond.selects RX8 yX8_setMade yX8_setMade ∈ zG := zgm (zsel (zp8 (List.mem_of_getElem? (i := 7) rfl))) rfl
theorem g120 : Cond.selects RX3 yX3_firstOfRow yX3_firstOfRow ∈ zG := zgm (zsel (zp8 (List.mem_of_getElem? (i := 8) rfl))) rfl
theorem g121 : Cond.selects RX8 yX8_draw yX8_draw ∈ zG := zgm (zsel (zp8 (List.mem_of_getElem? (i := 9) rfl))) rfl
theorem g122 : Cond.selects RX8 yX8_tryOne yX8_tryOne ∈ zG := zgm (zsel (zp8 (List.mem_of_getElem? (i := 10) rfl))) rfl
theorem g123 : Cond.selects RX0 yX0_takeBack yX0_takeBack ∈ zG := zgm (zsel (zp8 (List.mem_of_getElem? (i := 11) rfl))) rfl
theorem g124 : Cond.selects RX9 yX9_refuses yX9_refuses ∈ zG := zgm (zsel (zp8 (List.mem_of_getElem? (i := 12) rfl))) rfl
theorem g125 : Cond.selects RX9 yX9_lays yX9_lays ∈ zG := zgm (zsel (zp8 (List.mem_of_getElem? (i := 13) rfl))) rfl
theorem g126 : Cond.selects RX9 yX9_isRefused yX9_isRefused ∈ zG := zgm (zsel (zp8 (List.mem_of_getElem? (i := 14) rfl))) rfl
theorem g127 : Cond.selects RX9 yX9_taken yX9_taken ∈ zG := zgm (zsel (zp8 (List.mem_of_getElem? (i := 15) rfl))) rfl
theorem g128 : Cond.selects RX9 yX9_readsAll yX9_readsAll ∈ zG := zgm (zsel (zp9 (List.mem_of_getElem? (i := 0) rfl))) rfl
theorem g129 : Cond.selects RX9 yX9_must yX9_must ∈ zG := zgm (zsel (zp9 (List.mem_of_getElem? (i := 1) rfl))) rfl
theorem g130 : Cond.selects RX9 yX9_word yX9_word ∈ zG := zgm (zsel (zp9 (List.mem_of_getElem? (i := 2) rfl))) rfl
theorem g131 : Cond.selects RX9 yX9_goesWell yX9_goesWell ∈ zG := zgm (zsel (zp9 (List.mem_of_getElem? (i := 3) rfl))) rfl
theorem g132 : Cond.selects RX9 yX9_here yX9_here ∈ zG := zgm (zsel (zp9 (List.mem_of_getElem? (i := 4) rfl))) rfl
theorem g133 : Cond.selects RX9 yX9_byteAt yX9_byteAt ∈ zG := zgm (zsel (zp9 (List.mem_of_getElem? (i := 5) rfl))) rfl
theorem g134 : Cond.selects RX9 yX9_isSmall yX9_isSmall ∈ zG := zgm (zsel (zp9 (List.mem_of_getElem? (i := 6) rfl))) rfl
theorem g135 : Cond.selects RX9 yX9_isDigit yX9_isDigit ∈ zG := zgm (zsel (zp9 (List.mem_of_getElem? (i := 7) rfl))) rfl
theorem g136 : Cond.selects RX9 yX9_faults yX9_faults ∈ zG := zgm (zsel (zp9 (List.mem_of_getElem? (i := 8) rfl))) rfl
theorem g137 : Cond.selects RX9 yX9_own yX9_own ∈ zG := zgm (zsel (zp9 (List.mem_of_getElem? (i := 9) rfl))) rfl
theorem g138 : Cond.selects RX9 yX9_after yX9_after ∈ zG := zgm (zsel (zp9 (List.mem_of_getElem? (i := 10) rfl))) rfl
theorem g139 : Cond.selects RX9 yX9_number yX9_number ∈ zG := zgm (zsel (zp9 (List.mem_of_getElem? (i := 11) rfl))) rfl
theorem g140 : Cond.selects RX9 yX9_endsWell yX9_endsWell ∈ zG := zgm (zsel (zp9 (List.mem_of_getElem? (i := 12) rfl))) rfl
theorem g141 : Cond.selects RX9 yX9_readsLine yX9_readsLine ∈ zG := zgm (zsel (zp9 (List.mem_of_getElem? (i := 13) rfl))) rfl
theorem g142 : Cond.selects RX9 yX9_readsFlange yX9_readsFlange ∈ zG := zgm (zsel (zp9 (List.mem_of_getElem? (i := 14) rfl))) rfl
theorem g143 : Cond.selects RX9 yX9_name yX9_name ∈ zG := zgm (zsel (zp9 (List.mem_of_getElem? (i := 15) rfl))) rfl
theorem g144 : Cond.selects RX9 yX9_named yX9_named ∈ zG := zgm (zsel (zp10 (List.mem_of_getElem? (i := 0) rfl))) rfl
theorem g145 : Cond.selects RX9 yX9_signAt yX9_signAt ∈ zG := zgm (zsel (zp10 (List.mem_of_getElem? (i := 1) rfl))) rfl
theorem g146 : Cond.selects RX9 yX9_readsWidth yX9_readsWidth ∈ zG := zgm (zsel (zp10 (List.mem_of_getElem? (i := 2) rfl))) rfl
theorem g147 : Cond.selects RX9 yX9_isFlange yX9_isFlange ∈ zG := zgm (zsel (zp10 (List.mem_of_getElem? (i := 3) rfl))) rfl
theorem g148 : Cond.selects RX9 yX9_flangeMany yX9_flangeMany ∈ zG := zgm (zsel (zp10 (List.mem_of_getElem? (i := 4) rfl))) rfl
theorem g149 : Cond.selects RX9 yX9_isBend yX9_isBend ∈ zG := zgm (zsel (zp10 (List.mem_of_getElem? (i := 5) rfl))) rfl
theorem g150 : Cond.selects RX9 yX9_bendMany yX9_bendMany ∈ zG := zgm (zsel (zp10 (List.mem_of_getElem? (i := 6) rfl))) rfl
theorem g151 : Cond.selects RX9 yX9_hangMany yX9_hangMany ∈ zG := zgm (zsel (zp10 (List.mem_of_getElem? (i := 7) rfl))) rfl
theorem g152 : Cond.selects RX9 yX9_depthOf yX9_depthOf ∈ zG := zgm (zsel (zp10 (List.mem_of_getElem? (i := 8) rfl))) rfl
theorem g153 : Cond.selects RX9 yX9_lengthOf yX9_lengthOf ∈ zG := zgm (zsel (zp10 (List.mem_of_getElem? (i := 9) rfl))) rfl
theorem g154 : Cond.selects RX9 yX9_allowanceOf yX9_allowanceOf ∈ zG := zgm (zsel (zp10 (List.mem_of_getElem? (i := 10) rfl))) rfl
theorem g155 : Cond.selects RX9 yX9_isPiece yX9_isPiece ∈ zG := zgm (zsel (zp10 (List.mem_of_getElem? (i := 11) rfl))) rfl
theorem g156 : Cond.selects RX9 yX9_laysFlat yX9_laysFlat ∈ zG := zgm (zsel (zp10 (List.mem_of_getElem? (i := 12) rfl))) rfl
theorem g157 : Cond.selects RX9 yX9_laysBehind yX9_laysBehind ∈ zG := zgm (zsel (zp10 (List.mem_of_getElem? (i := 13) rfl))) rfl
theorem g158 : Cond.selects RX9 yX9_doOverlap yX9_doOverlap ∈ zG := zgm (zsel (zp10 (List.mem_of_getElem? (i := 14) rfl))) rfl
theorem g159 : Cond.selects RX9 yX9_laysSpace yX9_laysSpace ∈ zG := zgm (zsel (zp10 (List.mem_of_getElem? (i := 15) rfl))) rfl
theorem g160 : Cond.selects RX9 yX9_laysEnds yX9_laysEnds ∈ zG := zgm (zsel (zp11 (List.mem_of_getElem? (i := 0) rfl))) rfl
theorem g161 : Cond.selects RX9 yX9_standsUp yX9_standsUp ∈ zG := zgm (zsel (zp11 (List.mem_of_getElem? (i := 1) rfl))) rfl
theorem g162 : Cond.selects RX9 yX9_goesToSide yX9_goesToSide ∈ zG := zgm (zsel (zp11 (List.mem_of_getElem? (i := 2) rfl))) rfl
theorem g163 : Cond.selects RX9 yX9_copiesCorner yX9_copiesCorner ∈ zG := zgm (zsel (zp11 (List.mem_of_getElem? (i := 3) rfl))) rfl
theorem g164 : Cond.selects RX9 yX9_moves yX9_moves ∈ zG := zgm (zsel (zp11 (List.mem_of_getElem? (i := 4) rfl))) rfl
theorem g165 : Cond.selects RX9 yX9_alongY yX9_alongY ∈ zG := zgm (zsel (zp11 (List.mem_of_getElem? (i := 5) rfl))) rfl
theorem g166 : Cond.selects RX9 yX9_alongX yX9_alongX ∈ zG := zgm (zsel (zp11 (List.mem_of_getElem? (i := 6) rfl))) rfl
theorem g167 : Cond.selects RX9 yX9_goesOnFlat yX9_goesOnFlat ∈ zG := zgm (zsel (zp11 (List.mem_of_getElem? (i := 7) rfl))) rfl
theorem g168 : Cond.selects RX9 yX9_longAlong yX9_longAlong ∈ zG := zgm (zsel (zp11 (List.mem_of_getElem? (i := 8) rfl))) rfl
theorem g169 : Cond.selects RX9 yX9_laysClear yX9_laysClear ∈ zG := zgm (zsel (zp11 (List.mem_of_getElem? (i := 9) rfl))) rfl
theorem g170 : Cond.selects RX9 yX9_forgetsLain yX9_forgetsLain ∈ zG := zgm (zsel (zp11 (List.mem_of_getElem? (i := 10) rfl))) rfl
theorem g171 : Cond.selects RX9 yX9_toolsOf yX9_toolsOf ∈ zG := zgm (zsel (zp11 (List.mem_of_getElem? (i := 11) rfl))) rfl
theorem g172 : Cond.selects RX9 yX9_widthOf yX9_widthOf ∈ zG := zgm (zsel (zp11 (List.mem_of_getElem? (i := 12) rfl))) rfl
theorem g173 : Cond.selects RX9 yX9_laysClearAgain yX9_laysClearAgain ∈ zG := zgm (zsel (zp11 (List.mem_of_getElem? (i := 13) rfl))) rfl
theorem g174 : Cond.selects RX9 yX9_allBends yX9_allBends ∈ zG := zgm (zsel (zp11 (List.mem_of_getElem? (i := 14) rfl))) rfl
theorem g175 : Cond.selects RX9 yX9_lainOf yX9_lainOf ∈ zG := zgm (zsel (zp11 (List.mem_of_getElem? (i := 15) rfl))) rfl
theorem g176 : Cond.selects RX9 yX9_looksAt yX9_looksAt ∈ zG := zgm (zsel (zp12 (List.mem_of_getElem? (i := 0) rfl))) rfl
theorem g177 : Cond.selects RX9 yX9_metBy yX9_metBy ∈ zG := zgm (zsel (zp12 (List.mem_of_getElem? (i := 1) rfl))) rfl
theorem g178 : Cond.selects RX9 yX9_laysPunch yX9_laysPunch ∈ zG := zgm (zsel (zp12 (List.mem_of_getElem? (i := 2) rfl))) rfl
theorem g179 : Cond.selects RX9 yX9_doClash yX9_doClash ∈ zG := zgm (zsel (zp12 (List.mem_of_getElem? (i := 3) rfl))) rfl
theorem g180 : Cond.selects RX9 yX9_axisOf yX9_axisOf ∈ zG := zgm (zsel (zp12 (List.mem_of_getElem? (i := 4) rfl))) rfl
theorem g181 : Cond.selects RX9 yX9_isBetween yX9_isBetween ∈ zG := zgm (zsel (zp12 (List.mem_of_getElem? (i := 5) rfl))) rfl
theorem g182 : Cond.selects RX9 yX9_sharedAlong yX9_sharedAlong ∈ zG := zgm (zsel (zp12 (List.mem_of_getElem? (i := 6) rfl))) rfl
theorem g183 : Cond.selects RX9 yX9_anyClash yX9_anyClash ∈ zG := zgm (zsel (zp12 (List.mem_of_getElem? (i := 7) rfl))) rfl
theorem g184 : Cond.selects RX9 yX9_laysReached yX9_laysReached ∈ zG := zgm (zsel (zp12 (List.mem_of_getElem? (i := 8) rfl))) rfl
theorem g185 : Cond.selects RX9 yX9_isState yX9_isState ∈ zG := zgm (zsel (zp12 (List.mem_of_getElem? (i := 9) rfl))) rfl
theorem g186 : Cond.selects RX9 yX9_whyNot yX9_whyNot ∈ zG := zgm (zsel (zp12 (List.mem_of_getElem? (i := 10) rfl))) rfl
theorem g187 : Cond.selects RX9 yX9_orderMany yX9_orderMany ∈ zG := zgm (zsel (zp12 (List.mem_of_getElem? (i := 11) rfl))) rfl
theorem g188 : Cond.selects RX9 yX9_laysWays yX9_laysWays ∈ zG := zgm (zsel (zp12 (List.mem_of_getElem? (i := 12) rfl))) rfl
theorem g189 : Cond.selects RX9 yX9_isMade yX9_isMade ∈ zG := zgm (zsel (zp12 (List.mem_of_getElem? (i := 13) rfl))) rfl
theorem g190 : Cond.selects RX9 yX9_deadEnds yX9_deadEnds ∈ zG := zgm (zsel (zp12 (List.mem_of_getElem? (i := 14) rfl))) rfl
theorem g191 : Cond.selects RX9 yX9_laysFewest yX9_laysFewest ∈ zG := zgm (zsel (zp12 (List.mem_of_getElem? (i := 15) rfl))) rfl
theorem g192 : Cond.selects RX9 yX9_costAt yX9_costAt ∈ zG := zgm (zsel (zp13 (List.mem_of_getElem? (i := 0) rfl))) rfl
theorem g193 : Cond.selects RX9 yX9_isOrderBy yX9_isOrderBy ∈ zG := zgm (zsel (zp13 (List.mem_of_getElem? (i := 1) rfl))) rfl
theorem g194 : Cond.selects RX9 yX9_turnsAll yX9_turnsAll ∈ zG := zgm (zsel (zp13 (List.mem_of_getElem? (i := 2) rfl))) rfl
theorem g195 : Cond.selects RX9 yX9_isFit yX9_isFit ∈ zG := zgm (zsel (zp13 (List.mem_of_getElem? (i := 3) rfl))) rfl
theorem g196 : Cond.selects RX9 yX9_lengthBy yX9_lengthBy ∈ zG := zgm (zsel (zp13 (List.mem_of_getElem? (i := 4) rfl))) rfl
theorem g197 : Cond.selects RX9 yX9_leftBy yX9_leftBy ∈ zG := zgm (zsel (zp13 (List.mem_of_getElem? (i := 5) rfl))) rfl
theorem g198 : Cond.selects RX9 yX9_remembers yX9_remembers ∈ zG := zgm (zsel (zp13 (List.mem_of_getElem? (i := 6) rfl))) rfl
theorem g199 : Cond.selects RX9 yX9_canOpen yX9_canOpen ∈ zG := zgm (zsel (zp13 (List.mem_of_getElem? (i := 7) rfl))) rfl
theorem g200 : Cond.selects RX9 yX9_draw yX9_draw ∈ zG := zgm (zsel (zp13 (List.mem_of_getElem? (i := 8) rfl))) rfl
theorem g201 : Cond.initialized RL ∈ zG := zgm (zt1 (List.mem_of_getElem? (i := 0) rfl)) rfl
theorem g202 : Cond.initialized RX8 ∈ zG := zgm (zt1 (List.mem_of_getElem? (i := 1) rfl)) rfl
theorem g203 : Cond.initialized RX7 ∈ zG := zgm (zt1 (List.mem_of_getElem? (i := 2) rfl)) rfl
theorem g204 : Cond.initialized RX6 ∈ zG := zgm (zt1 (List.mem_of_getElem? (i := 3) rfl)) rfl
theorem g205 : Cond.initialized RX5 ∈ zG := zgm (zt1 (List.mem_of_getElem? (i := 4) rfl)) rfl
theorem g206 : Cond.initialized RX3 ∈ zG := zgm (zt1 (List.mem_of_getElem? (i := 5) rfl)) rfl
theorem g207 : Cond.initialized RX2 ∈ zG := zgm (zt1 (List.mem_of_getElem? (i := 6) rfl)) rfl
theorem g208 : Cond.initialized RX0 ∈ zG := zgm (zt1 (List.mem_of_getElem? (i := 7) rfl)) rfl
theorem g209 : Cond.initialized RX1 ∈ zG := zgm (zt1 (List.mem_of_getElem? (i := 8) rfl)) rfl
theorem g210 : Cond.initialized RX4 ∈ zG := zgm (zt1 (List.mem_of_getElem? (i := 9) rfl)) rfl
theorem g211 : Cond.initialized RX9 ∈ zG := zgm (zt1 (List.mem_of_getElem? (i := 10) rfl)) rfl
theorem g212 : Cond.initialized RJ7 ∈ zG := zgm (zt1 (List.mem_of_getElem? (i := 11) rfl)) rfl
theorem g213 : Cond.initialized RJ0 ∈ zG := zgm (zt1 (List.mem_of_getElem? (i := 12) rfl)) rfl
theorem g214 : Cond.initialized RJ1 ∈ zG := zgm (zt1 (List.mem_of_getElem? (i := 13) rfl)) rfl
theorem g215 : Cond.initialized RJ3 ∈ zG := zgm (zt1 (List.mem_of_getElem? (i := 14) rfl)) rfl
theorem g216 : Cond.initialized RJ2 ∈ zG := zgm (zt1 (List.mem_of_getElem? (i := 15) rfl)) rfl
theorem g217 : Cond.initialized RJ6 ∈ zG := zgm (zt1 (List.mem_of_getElem? (i := 16) rfl)) rfl
theorem g218 : Cond.initialized RJ10 ∈ zG := zgm (zt1 (List.mem_of_getElem? (i := 17) rfl)) rfl
theorem g219 : Cond.initialized RJ9 ∈ zG := zgm (zt1 (List.mem_of_getElem? (i := 18) rfl)) rfl
theorem g220 : Cond.classLink RL 7 RX8 ∈ zG := zgm (zt1 (List.mem_of_getElem? (i := 19) rfl)) rfl
theorem g221 : Cond.instantiable RX8 14 ∈ zG := zgm (zt1 (List.mem_of_getElem? (i := 20) rfl)) rfl
theorem g222 : Cond.methodLink RL 9 yX8_init ∈ zG := zgm (zt1 (List.mem_of_getElem? (i := 21) rfl)) rfl
theorem g223 : Cond.instanceMethod yX8_init ∈ zG := zgm (zt1 (List.mem_of_getElem? (i := 22) rfl)) rfl
theorem g224 : Cond.code yX8_init cX8_init 1 none ∈ zG := zgm (zt1 (List.mem_of_getElem? (i := 23) rfl)) rfl
theorem g225 : Cond.methodLink RX8 1 objectInit ∈ zG := zgm (zt1 (List.mem_of_getElem? (i := 24) rfl)) rfl
theorem g226 : Cond.instanceMethod objectInit ∈ zG := zgm (zt1 (List.mem_of_getElem? (i := 25) rfl)) rfl
theorem g227 : Cond.code objectInit ⟨#[0xb1]⟩ 1 none ∈ zG := zgm (zt1 (List.mem_of_getElem? (i := 26) rfl)) rfl
theorem g228 : Cond.classLink RX8 7 RX7 ∈ zG := zgm (zt1 (List.mem_of_getElem? (i := 27) rfl)) rfl
theorem g229 : Cond.instantiable RX7 2 ∈ zG := zgm (zt1 (List.mem_of_getElem? (i := 28) rfl)) rfl
theorem g230 : Cond.methodLinkNest RX8 9 yX7_init "SheetFolds" ∈ lw_tbl := (zt1 (List.mem_of_getElem? (i := 29) rfl))
theorem g231 : Cond.instanceMethod yX7_init ∈ zG := zgm (zt1 (List.mem_of_getElem? (i := 30) rfl)) rfl
theorem g232 : Cond.code yX7_init cX7_init 1 none ∈ zG := zgm (zt1 (List.mem_of_getElem? (i := 31) rfl)) rfl
theorem g233 : Cond.methodLink RX7 3 objectInit ∈ zG := zgm (zt1 (List.mem_of_getElem? (i := 32) rfl)) rfl
theorem g234 : Cond.fieldLink RX7 9 "SheetFolds$Tape" "bytes" "[B" ∈ zG := zgm (zt1 (List.mem_of_getElem? (i := 33) rfl)) rfl
theorem g235 : Cond.fieldLink RX7 15 "SheetFolds$Tape" "length" "I" ∈ zG := zgm (zt1 (List.mem_of_getElem? (i := 34) rfl)) rfl
theorem g236 : Cond.fieldLinkNest RX1 18 "SheetFolds$Tape" "length" "I" "SheetFolds" ∈ lw_tbl := (zt1 (List.mem_of_getElem? (i := 35) rfl))
theorem g237 : Cond.fieldLinkNest RX8 90 "SheetFolds$Tape" "length" "I" "SheetFolds" ∈ lw_tbl := (zt1 (List.mem_of_getElem? (i := 36) rfl))
theorem g238 : Cond.fieldLinkNest RX6 92 "SheetFolds$Tape" "length" "I" "SheetFolds" ∈ lw_tbl := (zt1 (List.mem_of_getElem? (i := 37) rfl))
theorem g244 : Cond.arrayClass .byte ∈ zG := zgm (zt1 (List.mem_of_getElem? (i := 43) rfl)) rfl
theorem g245 : Cond.classLink RX8 16 RX6 ∈ zG := zgm (zt1 (List.mem_of_getElem? (i := 44) rfl)) rfl
theorem g246 : Cond.instantiable RX6 7 ∈ zG := zgm (zt1 (List.mem_of_getElem? (i := 45) rfl)) rfl
theorem g247 : Cond.methodLinkNest RX8 18 yX6_init "SheetFolds" ∈ lw_tbl := (zt1 (List.mem_of_getElem? (i := 46) rfl))
theorem g248 : Cond.instanceMethod yX6_init ∈ zG := zgm (zt1 (List.mem_of_getElem? (i := 47) rfl)) rfl
theorem g249 : Cond.code yX6_init cX6_init 2 none ∈ zG := zgm (zt1 (List.mem_of_getElem? (i := 48) rfl)) rfl
theorem g250 : Cond.methodLink RX6 3 objectInit ∈ zG := zgm (zt1 (List.mem_of_getElem? (i := 49) rfl)) rfl
theorem g251 : Cond.fieldLink RX6 15 "SheetFolds$Reader" "tape" "LSheetFolds$Tape;" ∈ zG := zgm (zt1 (List.mem_of_getElem? (i := 50) rfl)) rfl
theorem g252 : Cond.fieldLink RX6 42 "SheetFolds$Reader" "into" "LSheetFolds$Part;" ∈ zG := zgm (zt1 (List.mem_of_getElem? (i := 51) rfl)) rfl
theorem g253 : Cond.fieldLink RX6 83 "SheetFolds$Reader" "at" "I" ∈ zG := zgm (zt1 (List.mem_of_getElem? (i := 52) rfl)) rfl
theorem g254 : Cond.fieldLink RX6 70 "SheetFolds$Reader" "tokenStart" "I" ∈ zG := zgm (zt1 (List.mem_of_getElem? (i := 53) rfl)) rfl
theorem g255 : Cond.fieldLink RX6 86 "SheetFolds$Reader" "tokenEnd" "I" ∈ zG := zgm (zt1 (List.mem_of_getElem? (i := 54) rfl)) rfl
theorem g256 : Cond.fieldLink RX6 26 "SheetFolds$Reader" "fault" "I" ∈ zG := zgm (zt1 (List.mem_of_getElem? (i := 55) rfl)) rfl
theorem g257 : Cond.fieldLinkNest RX8 101 "SheetFolds$Reader" "fault" "I" "SheetFolds" ∈ lw_tbl := (zt1 (List.mem_of_getElem? (i := 56) rfl))
theorem g258 : Cond.fieldLink RX6 9 "SheetFolds$Reader" "place" "I" ∈ zG := zgm (zt1 (List.mem_of_getElem? (i := 57) rfl)) rfl
theorem g259 : Cond.fieldLinkNest RX8 122 "SheetFolds$Reader" "place" "I" "SheetFolds" ∈ lw_tbl := (zt1 (List.mem_of_getElem? (i := 58) rfl))
theorem g275 : Cond.classLink RX8 25 RX5 ∈ zG := zgm (zt1 (List.mem_of_getElem? (i := 74) rfl)) rfl
theorem g276 : Cond.instantiable RX5 8 ∈ zG := zgm (zt1 (List.mem_of_getElem? (i := 75) rfl)) rfl
theorem g277 : Cond.methodLinkNest RX8 27 yX5_init "SheetFolds" ∈ lw_tbl := (zt1 (List.mem_of_getElem? (i := 76) rfl))
theorem g278 : Cond.instanceMethod yX5_init ∈ zG := zgm (zt1 (List.mem_of_getElem? (i := 77) rfl)) rfl
theorem g279 : Cond.code yX5_init cX5_init 1 none ∈ zG := zgm (zt1 (List.mem_of_getElem? (i := 78) rfl)) rfl
theorem g280 : Cond.methodLink RX5 5 objectInit ∈ zG := zgm (zt1 (List.mem_of_getElem? (i := 79) rfl)) rfl
theorem g281 : Cond.fieldLink RX5 11 "SheetFolds$Pose" "low" "[I" ∈ zG := zgm (zt1 (List.mem_of_getElem? (i := 80) rfl)) rfl
theorem g282 : Cond.fieldLink RX5 15 "SheetFolds$Pose" "high" "[I" ∈ zG := zgm (zt1 (List.mem_of_getElem? (i := 81) rfl)) rfl
theorem g283 : Cond.fieldLink RX5 18 "SheetFolds$Pose" "normal" "[I" ∈ zG := zgm (zt1 (List.mem_of_getElem? (i := 82) rfl)) rfl
theorem g284 : Cond.fieldLink RX5 21 "SheetFolds$Pose" "corner" "[I" ∈ zG := zgm (zt1 (List.mem_of_getElem? (i := 83) rfl)) rfl
theorem g285 : Cond.fieldLink RX5 24 "SheetFolds$Pose" "east" "[I" ∈ zG := zgm (zt1 (List.mem_of_getElem? (i := 84) rfl)) rfl
theorem g286 : Cond.fieldLink RX5 27 "SheetFolds$Pose" "north" "[I" ∈ zG := zgm (zt1 (List.mem_of_getElem? (i := 85) rfl)) rfl
theorem g287 : Cond.fieldLink RX5 30 "SheetFolds$Pose" "start" "[I" ∈ zG := zgm (zt1 (List.mem_of_getElem? (i := 86) rfl)) rfl
theorem g288 : Cond.fieldLink RX5 33 "SheetFolds$Pose" "far" "[I" ∈ zG := zgm (zt1 (List.mem_of_getElem? (i := 87) rfl)) rfl
theorem g306 : Cond.arrayClass .int ∈ zG := zgm (zt1 (List.mem_of_getElem? (i := 105) rfl)) rfl
theorem g307 : Cond.classLink RX8 32 RX3 ∈ zG := zgm (zt1 (List.mem_of_getElem? (i := 106) rfl)) rfl
theorem g308 : Cond.instantiable RX3 13 ∈ zG := zgm (zt1 (List.mem_of_getElem? (i := 107) rfl)) rfl
theorem g309 : Cond.methodLinkNest RX8 34 yX3_init "SheetFolds" ∈ lw_tbl := (zt1 (List.mem_of_getElem? (i := 108) rfl))
theorem g310 : Cond.instanceMethod yX3_init ∈ zG := zgm (zt1 (List.mem_of_getElem? (i := 109) rfl)) rfl
theorem g311 : Cond.code yX3_init cX3_init 1 none ∈ zG := zgm (zt1 (List.mem_of_getElem? (i := 110) rfl)) rfl
theorem g312 : Cond.methodLink RX3 3 objectInit ∈ zG := zgm (zt1 (List.mem_of_getElem? (i := 111) rfl)) rfl
theorem g313 : Cond.fieldLink RX3 9 "SheetFolds$Orders" "room" "[I" ∈ zG := zgm (zt1 (List.mem_of_getElem? (i := 112) rfl)) rfl
theorem g314 : Cond.fieldLink RX3 15 "SheetFolds$Orders" "clashing" "[B" ∈ zG := zgm (zt1 (List.mem_of_getElem? (i := 113) rfl)) rfl
theorem g315 : Cond.fieldLink RX3 19 "SheetFolds$Orders" "reach" "[B" ∈ zG := zgm (zt1 (List.mem_of_getElem? (i := 114) rfl)) rfl
theorem g316 : Cond.fieldLink RX3 22 "SheetFolds$Orders" "ways" "[I" ∈ zG := zgm (zt1 (List.mem_of_getElem? (i := 115) rfl)) rfl
theorem g317 : Cond.fieldLink RX3 25 "SheetFolds$Orders" "switches" "[I" ∈ zG := zgm (zt1 (List.mem_of_getElem? (i := 116) rfl)) rfl
theorem g318 : Cond.fieldLink RX3 28 "SheetFolds$Orders" "kind" "[I" ∈ zG := zgm (zt1 (List.mem_of_getElem? (i := 117) rfl)) rfl
theorem g319 : Cond.fieldLink RX3 31 "SheetFolds$Orders" "best" "[I" ∈ zG := zgm (zt1 (List.mem_of_getElem? (i := 118) rfl)) rfl
theorem g320 : Cond.fieldLink RX3 34 "SheetFolds$Orders" "row" "[I" ∈ zG := zgm (zt1 (List.mem_of_getElem? (i := 119) rfl)) rfl
theorem g321 : Cond.fieldLink RX3 108 "SheetFolds$Orders" "rowLength" "I" ∈ zG := zgm (zt1 (List.mem_of_getElem? (i := 120) rfl)) rfl
theorem g322 : Cond.fieldLink RX3 50 "SheetFolds$Orders" "bends" "I" ∈ zG := zgm (zt1 (List.mem_of_getElem? (i := 121) rfl)) rfl
theorem g323 : Cond.fieldLink RX3 43 "SheetFolds$Orders" "full" "I" ∈ zG := zgm (zt1 (List.mem_of_getElem? (i := 122) rfl)) rfl
theorem g324 : Cond.fieldLink RX3 84 "SheetFolds$Orders" "first" "I" ∈ zG := zgm (zt1 (List.mem_of_getElem? (i := 123) rfl)) rfl
theorem g325 : Cond.fieldLink RX3 81 "SheetFolds$Orders" "punch" "I" ∈ zG := zgm (zt1 (List.mem_of_getElem? (i := 124) rfl)) rfl
theorem g353 : Cond.classLink RX8 39 RX2 ∈ zG := zgm (zt1 (List.mem_of_getElem? (i := 152) rfl)) rfl
theorem g354 : Cond.instantiable RX2 3 ∈ zG := zgm (zt1 (List.mem_of_getElem? (i := 153) rfl)) rfl
theorem g355 : Cond.methodLinkNest RX8 41 yX2_init "SheetFolds" ∈ lw_tbl := (zt1 (List.mem_of_getElem? (i := 154) rfl))
theorem g356 : Cond.instanceMethod yX2_init ∈ zG := zgm (zt1 (List.mem_of_getElem? (i := 155) rfl)) rfl
theorem g357 : Cond.code yX2_init cX2_init 1 none ∈ zG := zgm (zt1 (List.mem_of_getElem? (i := 156) rfl)) rfl
theorem g358 : Cond.methodLink RX2 3 objectInit ∈ zG := zgm (zt1 (List.mem_of_getElem? (i := 157) rfl)) rfl
theorem g359 : Cond.fieldLink RX2 15 "SheetFolds$Mender" "marks" "[B" ∈ zG := zgm (zt1 (List.mem_of_getElem? (i := 158) rfl)) rfl
theorem g360 : Cond.fieldLink RX2 46 "SheetFolds$Mender" "codeMade" "I" ∈ zG := zgm (zt1 (List.mem_of_getElem? (i := 159) rfl)) rfl
theorem g361 : Cond.fieldLink RX2 53 "SheetFolds$Mender" "codeUps" "I" ∈ zG := zgm (zt1 (List.mem_of_getElem? (i := 160) rfl)) rfl
theorem g369 : Cond.classLink RX8 46 RX0 ∈ zG := zgm (zt1 (List.mem_of_getElem? (i := 168) rfl)) rfl
theorem g370 : Cond.instantiable RX0 3 ∈ zG := zgm (zt1 (List.mem_of_getElem? (i := 169) rfl)) rfl
theorem g371 : Cond.methodLinkNest RX8 48 yX0_init "SheetFolds" ∈ lw_tbl := (zt1 (List.mem_of_getElem? (i := 170) rfl))
theorem g372 : Cond.instanceMethod yX0_init ∈ zG := zgm (zt1 (List.mem_of_getElem? (i := 171) rfl)) rfl
theorem g373 : Cond.code yX0_init cX0_init 1 none ∈ zG := zgm (zt1 (List.mem_of_getElem? (i := 172) rfl)) rfl
theorem g374 : Cond.methodLink RX0 3 objectInit ∈ zG := zgm (zt1 (List.mem_of_getElem? (i := 173) rfl)) rfl
theorem g375 : Cond.fieldLink RX0 11 "SheetFolds$History" "rows" "[I" ∈ zG := zgm (zt1 (List.mem_of_getElem? (i := 174) rfl)) rfl
theorem g376 : Cond.fieldLink RX0 36 "SheetFolds$History" "size" "I" ∈ zG := zgm (zt1 (List.mem_of_getElem? (i := 175) rfl)) rfl
theorem g377 : Cond.fieldLinkNest RX8 113 "SheetFolds$History" "size" "I" "SheetFolds" ∈ lw_tbl := (zt1 (List.mem_of_getElem? (i := 176) rfl))
theorem g378 : Cond.fieldLink RX0 15 "SheetFolds$History" "next" "I" ∈ zG := zgm (zt1 (List.mem_of_getElem? (i := 177) rfl)) rfl
theorem g386 : Cond.classLink RX8 53 RX1 ∈ zG := zgm (zt1 (List.mem_of_getElem? (i := 185) rfl)) rfl
theorem g387 : Cond.instantiable RX1 3 ∈ zG := zgm (zt1 (List.mem_of_getElem? (i := 186) rfl)) rfl
theorem g388 : Cond.methodLinkNest RX8 55 yX1_init "SheetFolds" ∈ lw_tbl := (zt1 (List.mem_of_getElem? (i := 187) rfl))
theorem g389 : Cond.instanceMethod yX1_init ∈ zG := zgm (zt1 (List.mem_of_getElem? (i := 188) rfl)) rfl
theorem g390 : Cond.code yX1_init cX1_init 1 none ∈ zG := zgm (zt1 (List.mem_of_getElem? (i := 189) rfl)) rfl
theorem g391 : Cond.methodLink RX1 3 objectInit ∈ zG := zgm (zt1 (List.mem_of_getElem? (i := 190) rfl)) rfl
theorem g392 : Cond.fieldLink RX1 11 "SheetFolds$Measured" "flanges" "[I" ∈ zG := zgm (zt1 (List.mem_of_getElem? (i := 191) rfl)) rfl
theorem g393 : Cond.fieldLink RX1 15 "SheetFolds$Measured" "lengths" "[I" ∈ zG := zgm (zt1 (List.mem_of_getElem? (i := 192) rfl)) rfl
theorem g394 : Cond.fieldLink RX1 34 "SheetFolds$Measured" "rows" "I" ∈ zG := zgm (zt1 (List.mem_of_getElem? (i := 193) rfl)) rfl
theorem g395 : Cond.fieldLinkNest RX8 110 "SheetFolds$Measured" "rows" "I" "SheetFolds" ∈ lw_tbl := (zt1 (List.mem_of_getElem? (i := 194) rfl))
theorem g403 : Cond.classLink RX8 64 RX4 ∈ zG := zgm (zt1 (List.mem_of_getElem? (i := 202) rfl)) rfl
theorem g404 : Cond.instantiable RX4 16 ∈ zG := zgm (zt1 (List.mem_of_getElem? (i := 203) rfl)) rfl
theorem g405 : Cond.methodLinkNest RX8 66 yX4_init "SheetFolds" ∈ lw_tbl := (zt1 (List.mem_of_getElem? (i := 204) rfl))
theorem g406 : Cond.instanceMethod yX4_init ∈ zG := zgm (zt1 (List.mem_of_getElem? (i := 205) rfl)) rfl
theorem g407 : Cond.code yX4_init cX4_init 1 none ∈ zG := zgm (zt1 (List.mem_of_getElem? (i := 206) rfl)) rfl
theorem g408 : Cond.methodLink RX4 3 objectInit ∈ zG := zgm (zt1 (List.mem_of_getElem? (i := 207) rfl)) rfl
theorem g409 : Cond.fieldLink RX4 42 "SheetFolds$Part" "count" "I" ∈ zG := zgm (zt1 (List.mem_of_getElem? (i := 208) rfl)) rfl
theorem g410 : Cond.fieldLinkNest RX3 47 "SheetFolds$Part" "count" "I" "SheetFolds" ∈ lw_tbl := (zt1 (List.mem_of_getElem? (i := 209) rfl))
theorem g411 : Cond.fieldLinkNest RX5 40 "SheetFolds$Part" "count" "I" "SheetFolds" ∈ lw_tbl := (zt1 (List.mem_of_getElem? (i := 210) rfl))
theorem g412 : Cond.fieldLinkNest RX2 39 "SheetFolds$Part" "count" "I" "SheetFolds" ∈ lw_tbl := (zt1 (List.mem_of_getElem? (i := 211) rfl))
theorem g413 : Cond.fieldLinkNest RX1 51 "SheetFolds$Part" "count" "I" "SheetFolds" ∈ lw_tbl := (zt1 (List.mem_of_getElem? (i := 212) rfl))
theorem g414 : Cond.fieldLinkNest RX8 125 "SheetFolds$Part" "count" "I" "SheetFolds" ∈ lw_tbl := (zt1 (List.mem_of_getElem? (i := 213) rfl))
theorem g415 : Cond.fieldLinkNest RX6 140 "SheetFolds$Part" "count" "I" "SheetFolds" ∈ lw_tbl := (zt1 (List.mem_of_getElem? (i := 214) rfl))
theorem g416 : Cond.fieldLink RX4 46 "SheetFolds$Part" "statements" "I" ∈ zG := zgm (zt1 (List.mem_of_getElem? (i := 215) rfl)) rfl
theorem g417 : Cond.fieldLinkNest RX8 119 "SheetFolds$Part" "statements" "I" "SheetFolds" ∈ lw_tbl := (zt1 (List.mem_of_getElem? (i := 216) rfl))
theorem g418 : Cond.fieldLinkNest RX6 118 "SheetFolds$Part" "statements" "I" "SheetFolds" ∈ lw_tbl := (zt1 (List.mem_of_getElem? (i := 217) rfl))
theorem g419 : Cond.fieldLinkNest RX8 131 "SheetFolds$Part" "thick" "I" "SheetFolds" ∈ lw_tbl := (zt1 (List.mem_of_getElem? (i := 218) rfl))
theorem g420 : Cond.fieldLink RX4 79 "SheetFolds$Part" "thick" "I" ∈ zG := zgm (zt1 (List.mem_of_getElem? (i := 219) rfl)) rfl
theorem g421 : Cond.fieldLinkNest RX6 129 "SheetFolds$Part" "thick" "I" "SheetFolds" ∈ lw_tbl := (zt1 (List.mem_of_getElem? (i := 220) rfl))
theorem g422 : Cond.fieldLink RX4 55 "SheetFolds$Part" "punch" "I" ∈ zG := zgm (zt1 (List.mem_of_getElem? (i := 221) rfl)) rfl
theorem g423 : Cond.fieldLinkNest RX0 24 "SheetFolds$Part" "punch" "I" "SheetFolds" ∈ lw_tbl := (zt1 (List.mem_of_getElem? (i := 222) rfl))
theorem g424 : Cond.fieldLinkNest RX6 50 "SheetFolds$Part" "punch" "I" "SheetFolds" ∈ lw_tbl := (zt1 (List.mem_of_getElem? (i := 223) rfl))
theorem g425 : Cond.fieldLinkNest RX2 83 "SheetFolds$Part" "punch" "I" "SheetFolds" ∈ lw_tbl := (zt1 (List.mem_of_getElem? (i := 224) rfl))
theorem g426 : Cond.fieldLinkNest RX8 134 "SheetFolds$Part" "punch" "I" "SheetFolds" ∈ lw_tbl := (zt1 (List.mem_of_getElem? (i := 225) rfl))
theorem g427 : Cond.fieldLinkNest RX5 160 "SheetFolds$Part" "punch" "I" "SheetFolds" ∈ lw_tbl := (zt1 (List.mem_of_getElem? (i := 226) rfl))
theorem g428 : Cond.fieldLink RX4 49 "SheetFolds$Part" "ups" "I" ∈ zG := zgm (zt1 (List.mem_of_getElem? (i := 227) rfl)) rfl
theorem g429 : Cond.fieldLinkNest RX0 19 "SheetFolds$Part" "ups" "I" "SheetFolds" ∈ lw_tbl := (zt1 (List.mem_of_getElem? (i := 228) rfl))
theorem g430 : Cond.fieldLinkNest RX2 31 "SheetFolds$Part" "ups" "I" "SheetFolds" ∈ lw_tbl := (zt1 (List.mem_of_getElem? (i := 229) rfl))
theorem g431 : Cond.fieldLinkNest RX8 161 "SheetFolds$Part" "ups" "I" "SheetFolds" ∈ lw_tbl := (zt1 (List.mem_of_getElem? (i := 230) rfl))
theorem g432 : Cond.fieldLinkNest RX6 187 "SheetFolds$Part" "ups" "I" "SheetFolds" ∈ lw_tbl := (zt1 (List.mem_of_getElem? (i := 231) rfl))
theorem g433 : Cond.fieldLinkNest RX3 131 "SheetFolds$Part" "ups" "I" "SheetFolds" ∈ lw_tbl := (zt1 (List.mem_of_getElem? (i := 232) rfl))
theorem g434 : Cond.fieldLinkNest RX5 157 "SheetFolds$Part" "ups" "I" "SheetFolds" ∈ lw_tbl := (zt1 (List.mem_of_getElem? (i := 233) rfl))
theorem g435 : Cond.fieldLink RX4 52 "SheetFolds$Part" "toolCount" "I" ∈ zG := zgm (zt1 (List.mem_of_getElem? (i := 234) rfl)) rfl
theorem g436 : Cond.fieldLinkNest RX8 128 "SheetFolds$Part" "toolCount" "I" "SheetFolds" ∈ lw_tbl := (zt1 (List.mem_of_getElem? (i := 235) rfl))
theorem g437 : Cond.fieldLinkNest RX6 143 "SheetFolds$Part" "toolCount" "I" "SheetFolds" ∈ lw_tbl := (zt1 (List.mem_of_getElem? (i := 236) rfl))
theorem g438 : Cond.fieldLink RX4 9 "SheetFolds$Part" "toolWidth" "[I" ∈ zG := zgm (zt1 (List.mem_of_getElem? (i := 237) rfl)) rfl
theorem g439 : Cond.fieldLinkNest RX8 180 "SheetFolds$Part" "toolWidth" "[I" "SheetFolds" ∈ lw_tbl := (zt1 (List.mem_of_getElem? (i := 238) rfl))
theorem g440 : Cond.fieldLinkNest RX6 146 "SheetFolds$Part" "toolWidth" "[I" "SheetFolds" ∈ lw_tbl := (zt1 (List.mem_of_getElem? (i := 239) rfl))
theorem g441 : Cond.fieldLink RX4 15 "SheetFolds$Part" "told" "[I" ∈ zG := zgm (zt2 (List.mem_of_getElem? (i := 0) rfl)) rfl
theorem g442 : Cond.fieldLinkNest RX0 27 "SheetFolds$Part" "told" "[I" "SheetFolds" ∈ lw_tbl := (zt2 (List.mem_of_getElem? (i := 1) rfl))
theorem g443 : Cond.fieldLinkNest RX6 149 "SheetFolds$Part" "told" "[I" "SheetFolds" ∈ lw_tbl := (zt2 (List.mem_of_getElem? (i := 2) rfl))
theorem g444 : Cond.fieldLinkNest RX8 361 "SheetFolds$Part" "told" "[I" "SheetFolds" ∈ lw_tbl := (zt2 (List.mem_of_getElem? (i := 3) rfl))
theorem g445 : Cond.fieldLink RX4 18 "SheetFolds$Part" "name" "[I" ∈ zG := zgm (zt2 (List.mem_of_getElem? (i := 4) rfl)) rfl
theorem g446 : Cond.fieldLinkNest RX8 140 "SheetFolds$Part" "name" "[I" "SheetFolds" ∈ lw_tbl := (zt2 (List.mem_of_getElem? (i := 5) rfl))
theorem g447 : Cond.fieldLinkNest RX6 152 "SheetFolds$Part" "name" "[I" "SheetFolds" ∈ lw_tbl := (zt2 (List.mem_of_getElem? (i := 6) rfl))
theorem g448 : Cond.fieldLink RX4 21 "SheetFolds$Part" "parent" "[I" ∈ zG := zgm (zt2 (List.mem_of_getElem? (i := 7) rfl)) rfl
theorem g449 : Cond.fieldLinkNest RX5 62 "SheetFolds$Part" "parent" "[I" "SheetFolds" ∈ lw_tbl := (zt2 (List.mem_of_getElem? (i := 8) rfl))
theorem g450 : Cond.fieldLinkNest RX8 146 "SheetFolds$Part" "parent" "[I" "SheetFolds" ∈ lw_tbl := (zt2 (List.mem_of_getElem? (i := 9) rfl))
theorem g451 : Cond.fieldLinkNest RX6 160 "SheetFolds$Part" "parent" "[I" "SheetFolds" ∈ lw_tbl := (zt2 (List.mem_of_getElem? (i := 10) rfl))
theorem g452 : Cond.fieldLink RX4 24 "SheetFolds$Part" "side" "[I" ∈ zG := zgm (zt2 (List.mem_of_getElem? (i := 11) rfl)) rfl
theorem g453 : Cond.fieldLinkNest RX5 65 "SheetFolds$Part" "side" "[I" "SheetFolds" ∈ lw_tbl := (zt2 (List.mem_of_getElem? (i := 12) rfl))
theorem g454 : Cond.fieldLinkNest RX8 149 "SheetFolds$Part" "side" "[I" "SheetFolds" ∈ lw_tbl := (zt2 (List.mem_of_getElem? (i := 13) rfl))
theorem g455 : Cond.fieldLinkNest RX6 166 "SheetFolds$Part" "side" "[I" "SheetFolds" ∈ lw_tbl := (zt2 (List.mem_of_getElem? (i := 14) rfl))
theorem g456 : Cond.fieldLink RX4 27 "SheetFolds$Part" "from" "[I" ∈ zG := zgm (zt2 (List.mem_of_getElem? (i := 15) rfl)) rfl
theorem g457 : Cond.fieldLinkNest RX8 152 "SheetFolds$Part" "from" "[I" "SheetFolds" ∈ lw_tbl := (zt2 (List.mem_of_getElem? (i := 16) rfl))
theorem g458 : Cond.fieldLinkNest RX5 112 "SheetFolds$Part" "from" "[I" "SheetFolds" ∈ lw_tbl := (zt2 (List.mem_of_getElem? (i := 17) rfl))
theorem g459 : Cond.fieldLinkNest RX6 174 "SheetFolds$Part" "from" "[I" "SheetFolds" ∈ lw_tbl := (zt2 (List.mem_of_getElem? (i := 18) rfl))
theorem g460 : Cond.fieldLink RX4 30 "SheetFolds$Part" "width" "[I" ∈ zG := zgm (zt2 (List.mem_of_getElem? (i := 19) rfl)) rfl
theorem g461 : Cond.fieldLinkNest RX5 72 "SheetFolds$Part" "width" "[I" "SheetFolds" ∈ lw_tbl := (zt2 (List.mem_of_getElem? (i := 20) rfl))
theorem g462 : Cond.fieldLinkNest RX8 155 "SheetFolds$Part" "width" "[I" "SheetFolds" ∈ lw_tbl := (zt2 (List.mem_of_getElem? (i := 21) rfl))
theorem g463 : Cond.fieldLinkNest RX6 133 "SheetFolds$Part" "width" "[I" "SheetFolds" ∈ lw_tbl := (zt2 (List.mem_of_getElem? (i := 22) rfl))
theorem g464 : Cond.fieldLink RX4 33 "SheetFolds$Part" "height" "[I" ∈ zG := zgm (zt2 (List.mem_of_getElem? (i := 23) rfl)) rfl
theorem g465 : Cond.fieldLinkNest RX5 92 "SheetFolds$Part" "height" "[I" "SheetFolds" ∈ lw_tbl := (zt2 (List.mem_of_getElem? (i := 24) rfl))
theorem g466 : Cond.fieldLinkNest RX8 158 "SheetFolds$Part" "height" "[I" "SheetFolds" ∈ lw_tbl := (zt2 (List.mem_of_getElem? (i := 25) rfl))
theorem g467 : Cond.fieldLinkNest RX6 137 "SheetFolds$Part" "height" "[I" "SheetFolds" ∈ lw_tbl := (zt2 (List.mem_of_getElem? (i := 26) rfl))
theorem g468 : Cond.fieldLink RX4 36 "SheetFolds$Part" "radius" "[I" ∈ zG := zgm (zt2 (List.mem_of_getElem? (i := 27) rfl)) rfl
theorem g469 : Cond.fieldLinkNest RX8 168 "SheetFolds$Part" "radius" "[I" "SheetFolds" ∈ lw_tbl := (zt2 (List.mem_of_getElem? (i := 28) rfl))
theorem g470 : Cond.fieldLinkNest RX6 195 "SheetFolds$Part" "radius" "[I" "SheetFolds" ∈ lw_tbl := (zt2 (List.mem_of_getElem? (i := 29) rfl))
theorem g471 : Cond.fieldLink RX4 39 "SheetFolds$Part" "toolSet" "[I" ∈ zG := zgm (zt2 (List.mem_of_getElem? (i := 30) rfl)) rfl
theorem g472 : Cond.fieldLinkNest RX3 67 "SheetFolds$Part" "toolSet" "[I" "SheetFolds" ∈ lw_tbl := (zt2 (List.mem_of_getElem? (i := 31) rfl))
theorem g473 : Cond.fieldLinkNest RX8 244 "SheetFolds$Part" "toolSet" "[I" "SheetFolds" ∈ lw_tbl := (zt2 (List.mem_of_getElem? (i := 32) rfl))
theorem g507 : Cond.fieldLink RX8 10 "SheetFolds" "tape" "LSheetFolds$Tape;" ∈ zG := zgm (zt2 (List.mem_of_getElem? (i := 66) rfl)) rfl
theorem g508 : Cond.fieldLink RX8 21 "SheetFolds" "reader" "LSheetFolds$Reader;" ∈ zG := zgm (zt2 (List.mem_of_getElem? (i := 67) rfl)) rfl
theorem g509 : Cond.fieldLink RX8 28 "SheetFolds" "pose" "LSheetFolds$Pose;" ∈ zG := zgm (zt2 (List.mem_of_getElem? (i := 68) rfl)) rfl
theorem g510 : Cond.fieldLink RX8 35 "SheetFolds" "search" "LSheetFolds$Orders;" ∈ zG := zgm (zt2 (List.mem_of_getElem? (i := 69) rfl)) rfl
theorem g511 : Cond.fieldLink RX8 42 "SheetFolds" "mender" "LSheetFolds$Mender;" ∈ zG := zgm (zt2 (List.mem_of_getElem? (i := 70) rfl)) rfl
theorem g512 : Cond.fieldLink RX8 49 "SheetFolds" "history" "LSheetFolds$History;" ∈ zG := zgm (zt2 (List.mem_of_getElem? (i := 71) rfl)) rfl
theorem g513 : Cond.fieldLink RX8 56 "SheetFolds" "measured" "LSheetFolds$Measured;" ∈ zG := zgm (zt2 (List.mem_of_getElem? (i := 72) rfl)) rfl
theorem g514 : Cond.fieldLink RX8 60 "SheetFolds" "refusals" "[I" ∈ zG := zgm (zt2 (List.mem_of_getElem? (i := 73) rfl)) rfl
theorem g515 : Cond.fieldLink RX8 67 "SheetFolds" "part" "LSheetFolds$Part;" ∈ zG := zgm (zt2 (List.mem_of_getElem? (i := 74) rfl)) rfl
theorem g516 : Cond.fieldLink RX8 71 "SheetFolds" "draft" "LSheetFolds$Part;" ∈ zG := zgm (zt2 (List.mem_of_getElem? (i := 75) rfl)) rfl
theorem g517 : Cond.fieldLink RX8 107 "SheetFolds" "made" "I" ∈ zG := zgm (zt2 (List.mem_of_getElem? (i := 76) rfl)) rfl
theorem g518 : Cond.fieldLink RX8 74 "SheetFolds" "draws" "I" ∈ zG := zgm (zt2 (List.mem_of_getElem? (i := 77) rfl)) rfl
theorem g519 : Cond.fieldLink RX8 380 "SheetFolds" "roomsKnown" "Z" ∈ zG := zgm (zt2 (List.mem_of_getElem? (i := 78) rfl)) rfl
theorem g520 : Cond.fieldLink RX8 364 "SheetFolds" "searched" "Z" ∈ zG := zgm (zt2 (List.mem_of_getElem? (i := 79) rfl)) rfl
theorem g550 : Cond.methodLink RL 13 yX8_feed ∈ zG := zgm (zt2 (List.mem_of_getElem? (i := 109) rfl)) rfl
theorem g551 : Cond.instanceMethod yX8_feed ∈ zG := zgm (zt2 (List.mem_of_getElem? (i := 110) rfl)) rfl
theorem g552 : Cond.selects RX8 yX8_feed yX8_feed ∈ zG := zgm (zt2 (List.mem_of_getElem? (i := 111) rfl)) rfl
theorem g553 : Cond.code yX8_feed cX8_feed 6 (some .int) ∈ zG := zgm (zt2 (List.mem_of_getElem? (i := 112) rfl)) rfl
theorem g554 : Cond.methodLinkNest RX8 78 yX7_hasRoom "SheetFolds" ∈ lw_tbl := (zt2 (List.mem_of_getElem? (i := 113) rfl))
theorem g556 : Cond.instanceMethod yX7_hasRoom ∈ zG := zgm (zt2 (List.mem_of_getElem? (i := 115) rfl)) rfl
theorem g557 : Cond.code yX7_hasRoom cX7_hasRoom 1 (some .boolean) ∈ zG := zgm (zt2 (List.mem_of_getElem? (i := 116) rfl)) rfl
theorem g558 : Cond.methodLink RX8 82 yX8_refuse ∈ zG := zgm (zt2 (List.mem_of_getElem? (i := 117) rfl)) rfl
theorem g560 : Cond.instanceMethod yX8_refuse ∈ zG := zgm (zt2 (List.mem_of_getElem? (i := 119) rfl)) rfl
theorem g561 : Cond.code yX8_refuse cX8_refuse 2 (some .int) ∈ zG := zgm (zt2 (List.mem_of_getElem? (i := 120) rfl)) rfl
theorem g562 : Cond.methodLinkNest RX8 86 yX7_put "SheetFolds" ∈ lw_tbl := (zt2 (List.mem_of_getElem? (i := 121) rfl))
theorem g564 : Cond.instanceMethod yX7_put ∈ zG := zgm (zt2 (List.mem_of_getElem? (i := 123) rfl)) rfl
theorem g565 : Cond.code yX7_put cX7_put 3 none ∈ zG := zgm (zt2 (List.mem_of_getElem? (i := 124) rfl)) rfl
theorem g566 : Cond.methodLink RL 18 yX8_end ∈ zG := zgm (zt2 (List.mem_of_getElem? (i := 125) rfl)) rfl
theorem g567 : Cond.instanceMethod yX8_end ∈ zG := zgm (zt2 (List.mem_of_getElem? (i := 126) rfl)) rfl
theorem g568 : Cond.selects RX8 yX8_end yX8_end ∈ zG := zgm (zt2 (List.mem_of_getElem? (i := 127) rfl)) rfl
theorem g569 : Cond.code yX8_end cX8_end 2 (some .boolean) ∈ zG := zgm (zt2 (List.mem_of_getElem? (i := 128) rfl)) rfl
theorem g570 : Cond.methodLink RX8 93 yX8_deny ∈ zG := zgm (zt2 (List.mem_of_getElem? (i := 129) rfl)) rfl
theorem g572 : Cond.instanceMethod yX8_deny ∈ zG := zgm (zt2 (List.mem_of_getElem? (i := 131) rfl)) rfl
theorem g573 : Cond.code yX8_deny cX8_deny 2 (some .boolean) ∈ zG := zgm (zt2 (List.mem_of_getElem? (i := 132) rfl)) rfl
theorem g574 : Cond.methodLink RL 23 yX8_part ∈ zG := zgm (zt2 (List.mem_of_getElem? (i := 133) rfl)) rfl
theorem g575 : Cond.instanceMethod yX8_part ∈ zG := zgm (zt2 (List.mem_of_getElem? (i := 134) rfl)) rfl
theorem g576 : Cond.selects RX8 yX8_part yX8_part ∈ zG := zgm (zt2 (List.mem_of_getElem? (i := 135) rfl)) rfl
theorem g577 : Cond.code yX8_part cX8_part 2 (some .int) ∈ zG := zgm (zt2 (List.mem_of_getElem? (i := 136) rfl)) rfl
theorem g578 : Cond.methodLinkNest RX8 97 yX6_read "SheetFolds" ∈ lw_tbl := (zt2 (List.mem_of_getElem? (i := 137) rfl))
theorem g580 : Cond.instanceMethod yX6_read ∈ zG := zgm (zt2 (List.mem_of_getElem? (i := 139) rfl)) rfl
theorem g581 : Cond.code yX6_read cX6_read 3 none ∈ zG := zgm (zt2 (List.mem_of_getElem? (i := 140) rfl)) rfl
theorem g582 : Cond.methodLink RX6 19 yX6_begin ∈ zG := zgm (zt2 (List.mem_of_getElem? (i := 141) rfl)) rfl
theorem g584 : Cond.instanceMethod yX6_begin ∈ zG := zgm (zt2 (List.mem_of_getElem? (i := 143) rfl)) rfl
theorem g585 : Cond.code yX6_begin cX6_begin 2 none ∈ zG := zgm (zt2 (List.mem_of_getElem? (i := 144) rfl)) rfl
theorem g586 : Cond.methodLinkNest RX6 80 yX4_clear "SheetFolds" ∈ lw_tbl := (zt2 (List.mem_of_getElem? (i := 145) rfl))
theorem g588 : Cond.instanceMethod yX4_clear ∈ zG := zgm (zt2 (List.mem_of_getElem? (i := 147) rfl)) rfl
theorem g589 : Cond.code yX4_clear cX4_clear 1 none ∈ zG := zgm (zt2 (List.mem_of_getElem? (i := 148) rfl)) rfl
theorem g590 : Cond.methodLink RX4 58 yJ7_fill_53178 ∈ zG := zgm (zt2 (List.mem_of_getElem? (i := 149) rfl)) rfl
theorem g591 : Cond.static yJ7_fill_53178 ∈ zG := zgm (zt2 (List.mem_of_getElem? (i := 150) rfl)) rfl
theorem g592 : Cond.code yJ7_fill_53178 cJ7_fill_53178 4 none ∈ zG := zgm (zt2 (List.mem_of_getElem? (i := 151) rfl)) rfl
theorem g593 : Cond.methodLink RX6 23 yX6_readSheet ∈ zG := zgm (zt2 (List.mem_of_getElem? (i := 152) rfl)) rfl
theorem g595 : Cond.instanceMethod yX6_readSheet ∈ zG := zgm (zt2 (List.mem_of_getElem? (i := 154) rfl)) rfl
theorem g596 : Cond.code yX6_readSheet cX6_readSheet 1 none ∈ zG := zgm (zt2 (List.mem_of_getElem? (i := 155) rfl)) rfl
theorem g598 : Cond.methodLink RX6 123 yX6_keyword ∈ zG := zgm (zt2 (List.mem_of_getElem? (i := 157) rfl)) rfl
theorem g600 : Cond.instanceMethod yX6_keyword ∈ zG := zgm (zt2 (List.mem_of_getElem? (i := 159) rfl)) rfl
theorem g601 : Cond.code yX6_keyword cX6_keyword 2 none ∈ zG := zgm (zt2 (List.mem_of_getElem? (i := 160) rfl)) rfl
theorem g602 : Cond.methodLink RX6 33 yX6_readWord ∈ zG := zgm (zt2 (List.mem_of_getElem? (i := 161) rfl)) rfl
theorem g604 : Cond.instanceMethod yX6_readWord ∈ zG := zgm (zt2 (List.mem_of_getElem? (i := 163) rfl)) rfl
theorem g605 : Cond.code yX6_readWord cX6_readWord 1 none ∈ zG := zgm (zt2 (List.mem_of_getElem? (i := 164) rfl)) rfl
theorem g606 : Cond.methodLink RX6 89 yX6_skipBlanks ∈ zG := zgm (zt2 (List.mem_of_getElem? (i := 165) rfl)) rfl
theorem g608 : Cond.instanceMethod yX6_skipBlanks ∈ zG := zgm (zt2 (List.mem_of_getElem? (i := 167) rfl)) rfl
theorem g609 : Cond.code yX6_skipBlanks cX6_skipBlanks 1 none ∈ zG := zgm (zt2 (List.mem_of_getElem? (i := 168) rfl)) rfl
theorem g610 : Cond.methodLinkNest RX6 97 yX7_at "SheetFolds" ∈ lw_tbl := (zt2 (List.mem_of_getElem? (i := 169) rfl))
theorem g612 : Cond.instanceMethod yX7_at ∈ zG := zgm (zt2 (List.mem_of_getElem? (i := 171) rfl)) rfl
theorem g613 : Cond.code yX7_at cX7_at 2 (some .int) ∈ zG := zgm (zt2 (List.mem_of_getElem? (i := 172) rfl)) rfl
theorem g614 : Cond.methodLink RX6 100 yX6_isLetter ∈ zG := zgm (zt2 (List.mem_of_getElem? (i := 173) rfl)) rfl
theorem g615 : Cond.static yX6_isLetter ∈ zG := zgm (zt2 (List.mem_of_getElem? (i := 174) rfl)) rfl
theorem g616 : Cond.code yX6_isLetter cX6_isLetter 1 (some .boolean) ∈ zG := zgm (zt2 (List.mem_of_getElem? (i := 175) rfl)) rfl
theorem g617 : Cond.methodLink RX6 73 yX6_fail ∈ zG := zgm (zt2 (List.mem_of_getElem? (i := 176) rfl)) rfl
theorem g619 : Cond.instanceMethod yX6_fail ∈ zG := zgm (zt2 (List.mem_of_getElem? (i := 178) rfl)) rfl
theorem g620 : Cond.code yX6_fail cX6_fail 3 none ∈ zG := zgm (zt2 (List.mem_of_getElem? (i := 179) rfl)) rfl
theorem g621 : Cond.methodLink RX6 38 yX6_wordIs ∈ zG := zgm (zt2 (List.mem_of_getElem? (i := 180) rfl)) rfl
theorem g623 : Cond.instanceMethod yX6_wordIs ∈ zG := zgm (zt2 (List.mem_of_getElem? (i := 182) rfl)) rfl
theorem g624 : Cond.code yX6_wordIs cX6_wordIs 4 (some .boolean) ∈ zG := zgm (zt2 (List.mem_of_getElem? (i := 183) rfl)) rfl
theorem g625 : Cond.methodLink RX6 104 yJ0_length_8abf5 ∈ zG := zgm (zt2 (List.mem_of_getElem? (i := 184) rfl)) rfl
theorem g626 : Cond.instanceMethod yJ0_length_8abf5 ∈ zG := zgm (zt2 (List.mem_of_getElem? (i := 185) rfl)) rfl
theorem g627 : Cond.selects RJ0 yJ0_length_8abf5 yJ0_length_8abf5 ∈ zG := zgm (zt2 (List.mem_of_getElem? (i := 186) rfl)) rfl
theorem g628 : Cond.code yJ0_length_8abf5 cJ0_length_8abf5 1 (some .int) ∈ zG := zgm (zt2 (List.mem_of_getElem? (i := 187) rfl)) rfl
theorem g629 : Cond.methodLink RJ0 335 yJ0_coder_7d493 ∈ zG := zgm (zt2 (List.mem_of_getElem? (i := 188) rfl)) rfl
theorem g630 : Cond.instanceMethod yJ0_coder_7d493 ∈ zG := zgm (zt2 (List.mem_of_getElem? (i := 189) rfl)) rfl
theorem g631 : Cond.selects RJ0 yJ0_coder_7d493 yJ0_coder_7d493 ∈ zG := zgm (zt2 (List.mem_of_getElem? (i := 190) rfl)) rfl
theorem g632 : Cond.code yJ0_coder_7d493 cJ0_coder_7d493 1 (some .byte) ∈ zG := zgm (zt2 (List.mem_of_getElem? (i := 191) rfl)) rfl
theorem g633 : Cond.fieldLink RJ0 38 "java/lang/String" "COMPACT_STRINGS" "Z" ∈ zG := zgm (zt2 (List.mem_of_getElem? (i := 192) rfl)) rfl
theorem g635 : Cond.methodLink RX6 109 yJ0_charAt_5068e ∈ zG := zgm (zt2 (List.mem_of_getElem? (i := 194) rfl)) rfl
theorem g636 : Cond.instanceMethod yJ0_charAt_5068e ∈ zG := zgm (zt2 (List.mem_of_getElem? (i := 195) rfl)) rfl
theorem g637 : Cond.selects RJ0 yJ0_charAt_5068e yJ0_charAt_5068e ∈ zG := zgm (zt2 (List.mem_of_getElem? (i := 196) rfl)) rfl
theorem g638 : Cond.code yJ0_charAt_5068e cJ0_charAt_5068e 2 (some .char) ∈ zG := zgm (zt2 (List.mem_of_getElem? (i := 197) rfl)) rfl
theorem g639 : Cond.methodLink RJ0 492 yJ0_isLatin1_aae02 ∈ zG := zgm (zt2 (List.mem_of_getElem? (i := 198) rfl)) rfl
theorem g640 : Cond.instanceMethod yJ0_isLatin1_aae02 ∈ zG := zgm (zt2 (List.mem_of_getElem? (i := 199) rfl)) rfl
theorem g641 : Cond.selects RJ0 yJ0_isLatin1_aae02 yJ0_isLatin1_aae02 ∈ zG := zgm (zt2 (List.mem_of_getElem? (i := 200) rfl)) rfl
theorem g642 : Cond.code yJ0_isLatin1_aae02 cJ0_isLatin1_aae02 1 (some .boolean) ∈ zG := zgm (zt2 (List.mem_of_getElem? (i := 201) rfl)) rfl
theorem g643 : Cond.methodLink RJ0 495 yJ1_charAt_3b067 ∈ zG := zgm (zt2 (List.mem_of_getElem? (i := 202) rfl)) rfl
theorem g644 : Cond.static yJ1_charAt_3b067 ∈ zG := zgm (zt2 (List.mem_of_getElem? (i := 203) rfl)) rfl
theorem g645 : Cond.code yJ1_charAt_3b067 cJ1_charAt_3b067 2 (some .char) ∈ zG := zgm (zt2 (List.mem_of_getElem? (i := 204) rfl)) rfl
theorem g646 : Cond.methodLink RJ1 9 yJ0_checkIndex_df160 ∈ zG := zgm (zt2 (List.mem_of_getElem? (i := 205) rfl)) rfl
theorem g647 : Cond.static yJ0_checkIndex_df160 ∈ zG := zgm (zt2 (List.mem_of_getElem? (i := 206) rfl)) rfl
theorem g648 : Cond.code yJ0_checkIndex_df160 cJ0_checkIndex_df160 2 none ∈ zG := zgm (zt2 (List.mem_of_getElem? (i := 207) rfl)) rfl
theorem g649 : Cond.fieldLink RJ0 1053 "jdk/internal/util/Preconditions" "SIOOBE_FORMATTER" "Ljava/util/function/BiFunction;" ∈ zG := zgm (zt2 (List.mem_of_getElem? (i := 208) rfl)) rfl
theorem g651 : Cond.methodLink RJ0 1059 yJ3_checkIndex_8e157 ∈ zG := zgm (zt2 (List.mem_of_getElem? (i := 210) rfl)) rfl
theorem g652 : Cond.static yJ3_checkIndex_8e157 ∈ zG := zgm (zt2 (List.mem_of_getElem? (i := 211) rfl)) rfl
theorem g653 : Cond.code yJ3_checkIndex_8e157 cJ3_checkIndex_8e157 3 (some .int) ∈ zG := zgm (zt2 (List.mem_of_getElem? (i := 212) rfl)) rfl
theorem g654 : Cond.methodLink RJ0 498 yJ2_charAt_3b067 ∈ zG := zgm (zt2 (List.mem_of_getElem? (i := 213) rfl)) rfl
theorem g655 : Cond.static yJ2_charAt_3b067 ∈ zG := zgm (zt2 (List.mem_of_getElem? (i := 214) rfl)) rfl
theorem g656 : Cond.code yJ2_charAt_3b067 cJ2_charAt_3b067 2 (some .char) ∈ zG := zgm (zt2 (List.mem_of_getElem? (i := 215) rfl)) rfl
theorem g657 : Cond.methodLink RJ2 67 yJ2_checkIndex_2214a ∈ zG := zgm (zt2 (List.mem_of_getElem? (i := 216) rfl)) rfl
theorem g658 : Cond.static yJ2_checkIndex_2214a ∈ zG := zgm (zt2 (List.mem_of_getElem? (i := 217) rfl)) rfl
theorem g659 : Cond.code yJ2_checkIndex_2214a cJ2_checkIndex_2214a 2 none ∈ zG := zgm (zt2 (List.mem_of_getElem? (i := 218) rfl)) rfl
theorem g660 : Cond.methodLink RJ2 48 yJ2_length_9d52b ∈ zG := zgm (zt2 (List.mem_of_getElem? (i := 219) rfl)) rfl
theorem g661 : Cond.static yJ2_length_9d52b ∈ zG := zgm (zt2 (List.mem_of_getElem? (i := 220) rfl)) rfl
theorem g662 : Cond.code yJ2_length_9d52b cJ2_length_9d52b 1 (some .int) ∈ zG := zgm (zt2 (List.mem_of_getElem? (i := 221) rfl)) rfl
theorem g663 : Cond.methodLink RJ2 414 yJ0_checkIndex_df160 ∈ zG := zgm (zt2 (List.mem_of_getElem? (i := 222) rfl)) rfl
theorem g664 : Cond.methodLink RJ2 71 yJ2_getChar_3b067 ∈ zG := zgm (zt2 (List.mem_of_getElem? (i := 223) rfl)) rfl
theorem g665 : Cond.static yJ2_getChar_3b067 ∈ zG := zgm (zt2 (List.mem_of_getElem? (i := 224) rfl)) rfl
theorem g666 : Cond.code yJ2_getChar_3b067 cJ2_getChar_3b067 2 (some .char) ∈ zG := zgm (zt2 (List.mem_of_getElem? (i := 225) rfl)) rfl
theorem g667 : Cond.fieldLink RJ2 44 "java/lang/StringUTF16" "$assertionsDisabled" "Z" ∈ zG := zgm (zt2 (List.mem_of_getElem? (i := 226) rfl)) rfl
theorem g669 : Cond.fieldLink RJ2 59 "java/lang/StringUTF16" "HI_BYTE_SHIFT" "I" ∈ zG := zgm (zt2 (List.mem_of_getElem? (i := 228) rfl)) rfl
theorem g671 : Cond.fieldLink RJ2 63 "java/lang/StringUTF16" "LO_BYTE_SHIFT" "I" ∈ zG := zgm (zt2 (List.mem_of_getElem? (i := 230) rfl)) rfl
theorem g674 : Cond.methodLink RX6 46 yX6_number ∈ zG := zgm (zt2 (List.mem_of_getElem? (i := 233) rfl)) rfl
theorem g676 : Cond.instanceMethod yX6_number ∈ zG := zgm (zt2 (List.mem_of_getElem? (i := 235) rfl)) rfl
theorem g677 : Cond.code yX6_number cX6_number 4 (some .int) ∈ zG := zgm (zt2 (List.mem_of_getElem? (i := 236) rfl)) rfl
theorem g678 : Cond.methodLink RX6 115 yX6_isDigit ∈ zG := zgm (zt2 (List.mem_of_getElem? (i := 237) rfl)) rfl
theorem g679 : Cond.static yX6_isDigit ∈ zG := zgm (zt2 (List.mem_of_getElem? (i := 238) rfl)) rfl
theorem g680 : Cond.code yX6_isDigit cX6_isDigit 1 (some .boolean) ∈ zG := zgm (zt2 (List.mem_of_getElem? (i := 239) rfl)) rfl
theorem g682 : Cond.methodLink RX6 77 yX6_semicolon ∈ zG := zgm (zt3 (List.mem_of_getElem? (i := 1) rfl)) rfl
theorem g684 : Cond.instanceMethod yX6_semicolon ∈ zG := zgm (zt3 (List.mem_of_getElem? (i := 3) rfl)) rfl
theorem g685 : Cond.code yX6_semicolon cX6_semicolon 1 none ∈ zG := zgm (zt3 (List.mem_of_getElem? (i := 4) rfl)) rfl
theorem g686 : Cond.methodLink RX6 29 yX6_moreText ∈ zG := zgm (zt3 (List.mem_of_getElem? (i := 5) rfl)) rfl
theorem g688 : Cond.instanceMethod yX6_moreText ∈ zG := zgm (zt3 (List.mem_of_getElem? (i := 7) rfl)) rfl
theorem g689 : Cond.code yX6_moreText cX6_moreText 1 (some .boolean) ∈ zG := zgm (zt3 (List.mem_of_getElem? (i := 8) rfl)) rfl
theorem g692 : Cond.methodLink RX6 57 yX6_readTool ∈ zG := zgm (zt3 (List.mem_of_getElem? (i := 11) rfl)) rfl
theorem g694 : Cond.instanceMethod yX6_readTool ∈ zG := zgm (zt3 (List.mem_of_getElem? (i := 13) rfl)) rfl
theorem g695 : Cond.code yX6_readTool cX6_readTool 1 none ∈ zG := zgm (zt3 (List.mem_of_getElem? (i := 14) rfl)) rfl
theorem g697 : Cond.methodLink RX6 62 yX6_readAllow ∈ zG := zgm (zt3 (List.mem_of_getElem? (i := 16) rfl)) rfl
theorem g699 : Cond.instanceMethod yX6_readAllow ∈ zG := zgm (zt3 (List.mem_of_getElem? (i := 18) rfl)) rfl
theorem g700 : Cond.code yX6_readAllow cX6_readAllow 3 none ∈ zG := zgm (zt3 (List.mem_of_getElem? (i := 19) rfl)) rfl
theorem g702 : Cond.methodLink RX6 67 yX6_readFlange ∈ zG := zgm (zt3 (List.mem_of_getElem? (i := 21) rfl)) rfl
theorem g704 : Cond.instanceMethod yX6_readFlange ∈ zG := zgm (zt3 (List.mem_of_getElem? (i := 23) rfl)) rfl
theorem g705 : Cond.code yX6_readFlange cX6_readFlange 2 none ∈ zG := zgm (zt3 (List.mem_of_getElem? (i := 24) rfl)) rfl
theorem g706 : Cond.methodLink RX6 155 yX6_newName ∈ zG := zgm (zt3 (List.mem_of_getElem? (i := 25) rfl)) rfl
theorem g708 : Cond.instanceMethod yX6_newName ∈ zG := zgm (zt3 (List.mem_of_getElem? (i := 27) rfl)) rfl
theorem g709 : Cond.code yX6_newName cX6_newName 2 (some .int) ∈ zG := zgm (zt3 (List.mem_of_getElem? (i := 28) rfl)) rfl
theorem g710 : Cond.methodLink RX6 201 yX6_name ∈ zG := zgm (zt3 (List.mem_of_getElem? (i := 29) rfl)) rfl
theorem g712 : Cond.instanceMethod yX6_name ∈ zG := zgm (zt3 (List.mem_of_getElem? (i := 31) rfl)) rfl
theorem g713 : Cond.code yX6_name cX6_name 4 (some .int) ∈ zG := zgm (zt3 (List.mem_of_getElem? (i := 32) rfl)) rfl
theorem g714 : Cond.methodLink RX6 198 yX6_isOwnWord ∈ zG := zgm (zt3 (List.mem_of_getElem? (i := 33) rfl)) rfl
theorem g716 : Cond.instanceMethod yX6_isOwnWord ∈ zG := zgm (zt3 (List.mem_of_getElem? (i := 35) rfl)) rfl
theorem g717 : Cond.code yX6_isOwnWord cX6_isOwnWord 4 (some .boolean) ∈ zG := zgm (zt3 (List.mem_of_getElem? (i := 36) rfl)) rfl
theorem g719 : Cond.methodLink RX6 203 yX6_find ∈ zG := zgm (zt3 (List.mem_of_getElem? (i := 38) rfl)) rfl
theorem g721 : Cond.instanceMethod yX6_find ∈ zG := zgm (zt3 (List.mem_of_getElem? (i := 40) rfl)) rfl
theorem g722 : Cond.code yX6_find cX6_find 3 (some .int) ∈ zG := zgm (zt3 (List.mem_of_getElem? (i := 41) rfl)) rfl
theorem g724 : Cond.methodLink RX6 163 yX6_where ∈ zG := zgm (zt3 (List.mem_of_getElem? (i := 43) rfl)) rfl
theorem g726 : Cond.instanceMethod yX6_where ∈ zG := zgm (zt3 (List.mem_of_getElem? (i := 45) rfl)) rfl
theorem g727 : Cond.code yX6_where cX6_where 2 (some .int) ∈ zG := zgm (zt3 (List.mem_of_getElem? (i := 46) rfl)) rfl
theorem g728 : Cond.methodLink RX6 169 yX6_sideOf ∈ zG := zgm (zt3 (List.mem_of_getElem? (i := 47) rfl)) rfl
theorem g730 : Cond.instanceMethod yX6_sideOf ∈ zG := zgm (zt3 (List.mem_of_getElem? (i := 49) rfl)) rfl
theorem g731 : Cond.code yX6_sideOf cX6_sideOf 3 (some .int) ∈ zG := zgm (zt3 (List.mem_of_getElem? (i := 50) rfl)) rfl
theorem g736 : Cond.methodLinkNest RX6 214 yX4_hangsBy "SheetFolds" ∈ lw_tbl := (zt3 (List.mem_of_getElem? (i := 55) rfl))
theorem g738 : Cond.instanceMethod yX4_hangsBy ∈ zG := zgm (zt3 (List.mem_of_getElem? (i := 57) rfl)) rfl
theorem g739 : Cond.code yX4_hangsBy cX4_hangsBy 3 (some .boolean) ∈ zG := zgm (zt3 (List.mem_of_getElem? (i := 58) rfl)) rfl
theorem g742 : Cond.methodLink RX6 178 yX6_checkWidth ∈ zG := zgm (zt3 (List.mem_of_getElem? (i := 61) rfl)) rfl
theorem g744 : Cond.instanceMethod yX6_checkWidth ∈ zG := zgm (zt3 (List.mem_of_getElem? (i := 63) rfl)) rfl
theorem g745 : Cond.code yX6_checkWidth cX6_checkWidth 4 none ∈ zG := zgm (zt3 (List.mem_of_getElem? (i := 64) rfl)) rfl
theorem g746 : Cond.methodLinkNest RX6 218 yX4_sideLength "SheetFolds" ∈ lw_tbl := (zt3 (List.mem_of_getElem? (i := 65) rfl))
theorem g748 : Cond.instanceMethod yX4_sideLength ∈ zG := zgm (zt3 (List.mem_of_getElem? (i := 67) rfl)) rfl
theorem g749 : Cond.code yX4_sideLength cX4_sideLength 3 (some .int) ∈ zG := zgm (zt3 (List.mem_of_getElem? (i := 68) rfl)) rfl
theorem g750 : Cond.methodLink RX4 86 yX4_runsAlongX ∈ zG := zgm (zt3 (List.mem_of_getElem? (i := 69) rfl)) rfl
theorem g751 : Cond.static yX4_runsAlongX ∈ zG := zgm (zt3 (List.mem_of_getElem? (i := 70) rfl)) rfl
theorem g752 : Cond.code yX4_runsAlongX cX4_runsAlongX 1 (some .boolean) ∈ zG := zgm (zt3 (List.mem_of_getElem? (i := 71) rfl)) rfl
theorem g753 : Cond.methodLink RX4 89 yX4_sizeX ∈ zG := zgm (zt3 (List.mem_of_getElem? (i := 72) rfl)) rfl
theorem g755 : Cond.instanceMethod yX4_sizeX ∈ zG := zgm (zt3 (List.mem_of_getElem? (i := 74) rfl)) rfl
theorem g756 : Cond.code yX4_sizeX cX4_sizeX 2 (some .int) ∈ zG := zgm (zt3 (List.mem_of_getElem? (i := 75) rfl)) rfl
theorem g757 : Cond.methodLink RX4 92 yX4_sizeY ∈ zG := zgm (zt3 (List.mem_of_getElem? (i := 76) rfl)) rfl
theorem g759 : Cond.instanceMethod yX4_sizeY ∈ zG := zgm (zt3 (List.mem_of_getElem? (i := 78) rfl)) rfl
theorem g760 : Cond.code yX4_sizeY cX4_sizeY 2 (some .int) ∈ zG := zgm (zt3 (List.mem_of_getElem? (i := 79) rfl)) rfl
theorem g761 : Cond.methodLinkNest RX6 221 yX4_sharesSide "SheetFolds" ∈ lw_tbl := (zt3 (List.mem_of_getElem? (i := 80) rfl))
theorem g763 : Cond.instanceMethod yX4_sharesSide ∈ zG := zgm (zt3 (List.mem_of_getElem? (i := 82) rfl)) rfl
theorem g764 : Cond.code yX4_sharesSide cX4_sharesSide 3 (some .boolean) ∈ zG := zgm (zt3 (List.mem_of_getElem? (i := 83) rfl)) rfl
theorem g766 : Cond.methodLink RX6 184 yX6_isUp ∈ zG := zgm (zt3 (List.mem_of_getElem? (i := 85) rfl)) rfl
theorem g768 : Cond.instanceMethod yX6_isUp ∈ zG := zgm (zt3 (List.mem_of_getElem? (i := 87) rfl)) rfl
theorem g769 : Cond.code yX6_isUp cX6_isUp 2 (some .boolean) ∈ zG := zgm (zt3 (List.mem_of_getElem? (i := 88) rfl)) rfl
theorem g772 : Cond.methodLinkNest RX6 190 yX8_bit "SheetFolds" ∈ lw_tbl := (zt3 (List.mem_of_getElem? (i := 91) rfl))
theorem g773 : Cond.static yX8_bit ∈ zG := zgm (zt3 (List.mem_of_getElem? (i := 92) rfl)) rfl
theorem g774 : Cond.code yX8_bit cX8_bit 1 (some .int) ∈ zG := zgm (zt3 (List.mem_of_getElem? (i := 93) rfl)) rfl
theorem g776 : Cond.methodLinkNest RX8 104 yX4_chooseTools "SheetFolds" ∈ lw_tbl := (zt3 (List.mem_of_getElem? (i := 95) rfl))
theorem g778 : Cond.instanceMethod yX4_chooseTools ∈ zG := zgm (zt3 (List.mem_of_getElem? (i := 97) rfl)) rfl
theorem g779 : Cond.code yX4_chooseTools cX4_chooseTools 3 none ∈ zG := zgm (zt3 (List.mem_of_getElem? (i := 98) rfl)) rfl
theorem g780 : Cond.methodLink RX4 102 yX4_widthOfTools ∈ zG := zgm (zt3 (List.mem_of_getElem? (i := 99) rfl)) rfl
theorem g782 : Cond.instanceMethod yX4_widthOfTools ∈ zG := zgm (zt3 (List.mem_of_getElem? (i := 101) rfl)) rfl
theorem g783 : Cond.code yX4_widthOfTools cX4_widthOfTools 4 (some .int) ∈ zG := zgm (zt3 (List.mem_of_getElem? (i := 102) rfl)) rfl
theorem g784 : Cond.methodLink RX4 105 yX4_offerTools ∈ zG := zgm (zt3 (List.mem_of_getElem? (i := 103) rfl)) rfl
theorem g786 : Cond.instanceMethod yX4_offerTools ∈ zG := zgm (zt3 (List.mem_of_getElem? (i := 105) rfl)) rfl
theorem g787 : Cond.code yX4_offerTools cX4_offerTools 5 none ∈ zG := zgm (zt3 (List.mem_of_getElem? (i := 106) rfl)) rfl
theorem g788 : Cond.methodLink RX4 109 yJ6_bitCount_0f7a4 ∈ zG := zgm (zt3 (List.mem_of_getElem? (i := 107) rfl)) rfl
theorem g789 : Cond.static yJ6_bitCount_0f7a4 ∈ zG := zgm (zt3 (List.mem_of_getElem? (i := 108) rfl)) rfl
theorem g790 : Cond.code yJ6_bitCount_0f7a4 cJ6_bitCount_0f7a4 1 (some .int) ∈ zG := zgm (zt3 (List.mem_of_getElem? (i := 109) rfl)) rfl
theorem g791 : Cond.constant RJ6 265 (1431655765) ∈ zG := zgm (zt3 (List.mem_of_getElem? (i := 110) rfl)) rfl
theorem g792 : Cond.constant RJ6 266 (858993459) ∈ zG := zgm (zt3 (List.mem_of_getElem? (i := 111) rfl)) rfl
theorem g793 : Cond.constant RJ6 267 (252645135) ∈ zG := zgm (zt3 (List.mem_of_getElem? (i := 112) rfl)) rfl
theorem g794 : Cond.methodLink RX8 116 yX8_partChanged ∈ zG := zgm (zt3 (List.mem_of_getElem? (i := 113) rfl)) rfl
theorem g796 : Cond.instanceMethod yX8_partChanged ∈ zG := zgm (zt3 (List.mem_of_getElem? (i := 115) rfl)) rfl
theorem g797 : Cond.code yX8_partChanged cX8_partChanged 1 none ∈ zG := zgm (zt3 (List.mem_of_getElem? (i := 116) rfl)) rfl
theorem g798 : Cond.methodLink RL 28 yX8_fault ∈ zG := zgm (zt3 (List.mem_of_getElem? (i := 117) rfl)) rfl
theorem g799 : Cond.instanceMethod yX8_fault ∈ zG := zgm (zt3 (List.mem_of_getElem? (i := 118) rfl)) rfl
theorem g800 : Cond.selects RX8 yX8_fault yX8_fault ∈ zG := zgm (zt3 (List.mem_of_getElem? (i := 119) rfl)) rfl
theorem g801 : Cond.code yX8_fault cX8_fault 2 (some .int) ∈ zG := zgm (zt3 (List.mem_of_getElem? (i := 120) rfl)) rfl
theorem g802 : Cond.methodLink RL 33 yX8_has ∈ zG := zgm (zt3 (List.mem_of_getElem? (i := 121) rfl)) rfl
theorem g803 : Cond.instanceMethod yX8_has ∈ zG := zgm (zt3 (List.mem_of_getElem? (i := 122) rfl)) rfl
theorem g804 : Cond.selects RX8 yX8_has yX8_has ∈ zG := zgm (zt3 (List.mem_of_getElem? (i := 123) rfl)) rfl
theorem g805 : Cond.code yX8_has cX8_has 2 (some .int) ∈ zG := zgm (zt3 (List.mem_of_getElem? (i := 124) rfl)) rfl
theorem g806 : Cond.methodLink RL 37 yX8_letter ∈ zG := zgm (zt3 (List.mem_of_getElem? (i := 125) rfl)) rfl
theorem g807 : Cond.instanceMethod yX8_letter ∈ zG := zgm (zt3 (List.mem_of_getElem? (i := 126) rfl)) rfl
theorem g808 : Cond.selects RX8 yX8_letter yX8_letter ∈ zG := zgm (zt3 (List.mem_of_getElem? (i := 127) rfl)) rfl
theorem g809 : Cond.code yX8_letter cX8_letter 3 (some .int) ∈ zG := zgm (zt3 (List.mem_of_getElem? (i := 128) rfl)) rfl
theorem g810 : Cond.methodLinkNest RX8 137 yX4_isFlange "SheetFolds" ∈ lw_tbl := (zt3 (List.mem_of_getElem? (i := 129) rfl))
theorem g812 : Cond.instanceMethod yX4_isFlange ∈ zG := zgm (zt3 (List.mem_of_getElem? (i := 131) rfl)) rfl
theorem g813 : Cond.code yX4_isFlange cX4_isFlange 2 (some .boolean) ∈ zG := zgm (zt3 (List.mem_of_getElem? (i := 132) rfl)) rfl
theorem g814 : Cond.methodLink RL 42 yX8_flange ∈ zG := zgm (zt3 (List.mem_of_getElem? (i := 133) rfl)) rfl
theorem g815 : Cond.instanceMethod yX8_flange ∈ zG := zgm (zt3 (List.mem_of_getElem? (i := 134) rfl)) rfl
theorem g816 : Cond.selects RX8 yX8_flange yX8_flange ∈ zG := zgm (zt3 (List.mem_of_getElem? (i := 135) rfl)) rfl
theorem g817 : Cond.code yX8_flange cX8_flange 3 (some .int) ∈ zG := zgm (zt3 (List.mem_of_getElem? (i := 136) rfl)) rfl
theorem g818 : Cond.methodLinkNest RX8 143 yX4_isBend "SheetFolds" ∈ lw_tbl := (zt3 (List.mem_of_getElem? (i := 137) rfl))
theorem g820 : Cond.instanceMethod yX4_isBend ∈ zG := zgm (zt3 (List.mem_of_getElem? (i := 139) rfl)) rfl
theorem g821 : Cond.code yX4_isBend cX4_isBend 2 (some .boolean) ∈ zG := zgm (zt3 (List.mem_of_getElem? (i := 140) rfl)) rfl
theorem g822 : Cond.methodLink RX8 164 yX8_isIn ∈ zG := zgm (zt3 (List.mem_of_getElem? (i := 141) rfl)) rfl
theorem g823 : Cond.static yX8_isIn ∈ zG := zgm (zt3 (List.mem_of_getElem? (i := 142) rfl)) rfl
theorem g824 : Cond.code yX8_isIn cX8_isIn 2 (some .boolean) ∈ zG := zgm (zt3 (List.mem_of_getElem? (i := 143) rfl)) rfl
theorem g825 : Cond.methodLink RX8 302 yX8_bit ∈ zG := zgm (zt3 (List.mem_of_getElem? (i := 144) rfl)) rfl
theorem g826 : Cond.methodLinkNest RX8 171 yX4_countHangers "SheetFolds" ∈ lw_tbl := (zt3 (List.mem_of_getElem? (i := 145) rfl))
theorem g828 : Cond.instanceMethod yX4_countHangers ∈ zG := zgm (zt3 (List.mem_of_getElem? (i := 147) rfl)) rfl
theorem g829 : Cond.code yX4_countHangers cX4_countHangers 4 (some .int) ∈ zG := zgm (zt3 (List.mem_of_getElem? (i := 148) rfl)) rfl
theorem g830 : Cond.methodLink RX4 95 yX4_hangsOn ∈ zG := zgm (zt3 (List.mem_of_getElem? (i := 149) rfl)) rfl
theorem g832 : Cond.instanceMethod yX4_hangsOn ∈ zG := zgm (zt3 (List.mem_of_getElem? (i := 151) rfl)) rfl
theorem g833 : Cond.code yX4_hangsOn cX4_hangsOn 5 (some .boolean) ∈ zG := zgm (zt3 (List.mem_of_getElem? (i := 152) rfl)) rfl
theorem g834 : Cond.methodLinkNest RX8 174 yX4_depth "SheetFolds" ∈ lw_tbl := (zt3 (List.mem_of_getElem? (i := 153) rfl))
theorem g836 : Cond.instanceMethod yX4_depth ∈ zG := zgm (zt3 (List.mem_of_getElem? (i := 155) rfl)) rfl
theorem g837 : Cond.code yX4_depth cX4_depth 4 (some .int) ∈ zG := zgm (zt3 (List.mem_of_getElem? (i := 156) rfl)) rfl
theorem g838 : Cond.methodLinkNest RX8 177 yX4_lengthOf "SheetFolds" ∈ lw_tbl := (zt3 (List.mem_of_getElem? (i := 157) rfl))
theorem g840 : Cond.instanceMethod yX4_lengthOf ∈ zG := zgm (zt3 (List.mem_of_getElem? (i := 159) rfl)) rfl
theorem g841 : Cond.code yX4_lengthOf cX4_lengthOf 5 (some .int) ∈ zG := zgm (zt3 (List.mem_of_getElem? (i := 160) rfl)) rfl
theorem g842 : Cond.methodLink RX4 99 yX4_zoneOf ∈ zG := zgm (zt3 (List.mem_of_getElem? (i := 161) rfl)) rfl
theorem g844 : Cond.instanceMethod yX4_zoneOf ∈ zG := zgm (zt3 (List.mem_of_getElem? (i := 163) rfl)) rfl
theorem g845 : Cond.code yX4_zoneOf cX4_zoneOf 2 (some .int) ∈ zG := zgm (zt3 (List.mem_of_getElem? (i := 164) rfl)) rfl
theorem g846 : Cond.methodLink RX4 82 yX4_allowanceOf ∈ zG := zgm (zt3 (List.mem_of_getElem? (i := 165) rfl)) rfl
theorem g848 : Cond.instanceMethod yX4_allowanceOf ∈ zG := zgm (zt3 (List.mem_of_getElem? (i := 167) rfl)) rfl
theorem g849 : Cond.code yX4_allowanceOf cX4_allowanceOf 2 (some .int) ∈ zG := zgm (zt3 (List.mem_of_getElem? (i := 168) rfl)) rfl
theorem g850 : Cond.methodLink RL 46 yX8_tool ∈ zG := zgm (zt3 (List.mem_of_getElem? (i := 169) rfl)) rfl
theorem g851 : Cond.instanceMethod yX8_tool ∈ zG := zgm (zt3 (List.mem_of_getElem? (i := 170) rfl)) rfl
theorem g852 : Cond.selects RX8 yX8_tool yX8_tool ∈ zG := zgm (zt3 (List.mem_of_getElem? (i := 171) rfl)) rfl
theorem g853 : Cond.code yX8_tool cX8_tool 2 (some .int) ∈ zG := zgm (zt3 (List.mem_of_getElem? (i := 172) rfl)) rfl
theorem g854 : Cond.methodLink RL 50 yX8_allowance ∈ zG := zgm (zt3 (List.mem_of_getElem? (i := 173) rfl)) rfl
theorem g855 : Cond.instanceMethod yX8_allowance ∈ zG := zgm (zt3 (List.mem_of_getElem? (i := 174) rfl)) rfl
theorem g856 : Cond.selects RX8 yX8_allowance yX8_allowance ∈ zG := zgm (zt3 (List.mem_of_getElem? (i := 175) rfl)) rfl
theorem g857 : Cond.code yX8_allowance cX8_allowance 2 (some .int) ∈ zG := zgm (zt3 (List.mem_of_getElem? (i := 176) rfl)) rfl
theorem g858 : Cond.methodLinkNest RX8 183 yX4_isThere "SheetFolds" ∈ lw_tbl := (zt3 (List.mem_of_getElem? (i := 177) rfl))
theorem g860 : Cond.instanceMethod yX4_isThere ∈ zG := zgm (zt3 (List.mem_of_getElem? (i := 179) rfl)) rfl
theorem g861 : Cond.code yX4_isThere cX4_isThere 1 (some .boolean) ∈ zG := zgm (zt3 (List.mem_of_getElem? (i := 180) rfl)) rfl
theorem g862 : Cond.methodLink RX8 186 yX8_isRadius ∈ zG := zgm (zt3 (List.mem_of_getElem? (i := 181) rfl)) rfl
theorem g863 : Cond.static yX8_isRadius ∈ zG := zgm (zt3 (List.mem_of_getElem? (i := 182) rfl)) rfl
theorem g864 : Cond.code yX8_isRadius cX8_isRadius 1 (some .boolean) ∈ zG := zgm (zt3 (List.mem_of_getElem? (i := 183) rfl)) rfl
theorem g865 : Cond.methodLinkNest RX8 189 yX4_allowanceOf "SheetFolds" ∈ lw_tbl := (zt3 (List.mem_of_getElem? (i := 184) rfl))
theorem g866 : Cond.methodLink RL 54 yX8_flat ∈ zG := zgm (zt3 (List.mem_of_getElem? (i := 185) rfl)) rfl
theorem g867 : Cond.instanceMethod yX8_flat ∈ zG := zgm (zt3 (List.mem_of_getElem? (i := 186) rfl)) rfl
theorem g868 : Cond.selects RX8 yX8_flat yX8_flat ∈ zG := zgm (zt3 (List.mem_of_getElem? (i := 187) rfl)) rfl
theorem g869 : Cond.code yX8_flat cX8_flat 3 (some .int) ∈ zG := zgm (zt3 (List.mem_of_getElem? (i := 188) rfl)) rfl
theorem g870 : Cond.methodLinkNest RX8 192 yX4_isPiece "SheetFolds" ∈ lw_tbl := (zt3 (List.mem_of_getElem? (i := 189) rfl))
theorem g872 : Cond.instanceMethod yX4_isPiece ∈ zG := zgm (zt3 (List.mem_of_getElem? (i := 191) rfl)) rfl
theorem g873 : Cond.code yX4_isPiece cX4_isPiece 2 (some .boolean) ∈ zG := zgm (zt3 (List.mem_of_getElem? (i := 192) rfl)) rfl
theorem g874 : Cond.methodLink RX4 64 yX4_isFlange ∈ zG := zgm (zt3 (List.mem_of_getElem? (i := 193) rfl)) rfl
theorem g875 : Cond.methodLink RX4 68 yX4_isBend ∈ zG := zgm (zt3 (List.mem_of_getElem? (i := 194) rfl)) rfl
theorem g876 : Cond.constant RX8 195 (-1000000) ∈ zG := zgm (zt3 (List.mem_of_getElem? (i := 195) rfl)) rfl
theorem g877 : Cond.methodLinkNest RX8 196 yX5_placeFlat "SheetFolds" ∈ lw_tbl := (zt3 (List.mem_of_getElem? (i := 196) rfl))
theorem g879 : Cond.instanceMethod yX5_placeFlat ∈ zG := zgm (zt3 (List.mem_of_getElem? (i := 198) rfl)) rfl
theorem g880 : Cond.code yX5_placeFlat cX5_placeFlat 5 none ∈ zG := zgm (zt3 (List.mem_of_getElem? (i := 199) rfl)) rfl
theorem g881 : Cond.methodLink RX5 58 yX5_place ∈ zG := zgm (zt3 (List.mem_of_getElem? (i := 200) rfl)) rfl
theorem g883 : Cond.instanceMethod yX5_place ∈ zG := zgm (zt3 (List.mem_of_getElem? (i := 202) rfl)) rfl
theorem g884 : Cond.code yX5_place cX5_place 5 none ∈ zG := zgm (zt3 (List.mem_of_getElem? (i := 203) rfl)) rfl
theorem g885 : Cond.methodLink RX5 36 yX5_placeBase ∈ zG := zgm (zt3 (List.mem_of_getElem? (i := 204) rfl)) rfl
theorem g887 : Cond.instanceMethod yX5_placeBase ∈ zG := zgm (zt3 (List.mem_of_getElem? (i := 206) rfl)) rfl
theorem g888 : Cond.code yX5_placeBase cX5_placeBase 2 none ∈ zG := zgm (zt3 (List.mem_of_getElem? (i := 207) rfl)) rfl
theorem g889 : Cond.methodLink RX5 86 yJ7_fill_53178 ∈ zG := zgm (zt3 (List.mem_of_getElem? (i := 208) rfl)) rfl
theorem g890 : Cond.methodLink RX5 82 yX5_setBox ∈ zG := zgm (zt3 (List.mem_of_getElem? (i := 209) rfl)) rfl
theorem g892 : Cond.instanceMethod yX5_setBox ∈ zG := zgm (zt3 (List.mem_of_getElem? (i := 211) rfl)) rfl
theorem g893 : Cond.code yX5_setBox cX5_setBox 7 none ∈ zG := zgm (zt3 (List.mem_of_getElem? (i := 212) rfl)) rfl
theorem g894 : Cond.methodLink RX5 106 (⟨"java/lang/System", "arraycopy", "(Ljava/lang/Object;ILjava/lang/Object;II)V"⟩ : MethodName) ∈ zG := zgm (zt3 (List.mem_of_getElem? (i := 213) rfl)) rfl
theorem g895 : Cond.static (⟨"java/lang/System", "arraycopy", "(Ljava/lang/Object;ILjava/lang/Object;II)V"⟩ : MethodName) ∈ zG := zgm (zt3 (List.mem_of_getElem? (i := 214) rfl)) rfl
theorem g896 : Cond.native (⟨"java/lang/System", "arraycopy", "(Ljava/lang/Object;ILjava/lang/Object;II)V"⟩ : MethodName) ∈ zG := zgm (zt3 (List.mem_of_getElem? (i := 215) rfl)) rfl
theorem g897 : Cond.methodLink RX5 98 yX5_move ∈ zG := zgm (zt3 (List.mem_of_getElem? (i := 216) rfl)) rfl
theorem g898 : Cond.static yX5_move ∈ zG := zgm (zt3 (List.mem_of_getElem? (i := 217) rfl)) rfl
theorem g899 : Cond.code yX5_move cX5_move 3 none ∈ zG := zgm (zt3 (List.mem_of_getElem? (i := 218) rfl)) rfl
theorem g900 : Cond.methodLink RX5 121 yJ9_min_7cf53 ∈ zG := zgm (zt3 (List.mem_of_getElem? (i := 219) rfl)) rfl
theorem g901 : Cond.static yJ9_min_7cf53 ∈ zG := zgm (zt3 (List.mem_of_getElem? (i := 220) rfl)) rfl
theorem g902 : Cond.code yJ9_min_7cf53 cJ9_min_7cf53 2 (some .int) ∈ zG := zgm (zt3 (List.mem_of_getElem? (i := 221) rfl)) rfl
theorem g903 : Cond.methodLink RX5 126 yJ9_max_7cf53 ∈ zG := zgm (zt3 (List.mem_of_getElem? (i := 222) rfl)) rfl
theorem g904 : Cond.static yJ9_max_7cf53 ∈ zG := zgm (zt3 (List.mem_of_getElem? (i := 223) rfl)) rfl
theorem g905 : Cond.code yJ9_max_7cf53 cJ9_max_7cf53 2 (some .int) ∈ zG := zgm (zt3 (List.mem_of_getElem? (i := 224) rfl)) rfl
theorem g906 : Cond.methodLink RX5 46 yX5_goToSide ∈ zG := zgm (zt3 (List.mem_of_getElem? (i := 225) rfl)) rfl
theorem g908 : Cond.instanceMethod yX5_goToSide ∈ zG := zgm (zt3 (List.mem_of_getElem? (i := 227) rfl)) rfl
theorem g909 : Cond.code yX5_goToSide cX5_goToSide 5 none ∈ zG := zgm (zt3 (List.mem_of_getElem? (i := 228) rfl)) rfl
theorem g910 : Cond.methodLink RX5 68 yX5_alongSide ∈ zG := zgm (zt3 (List.mem_of_getElem? (i := 229) rfl)) rfl
theorem g912 : Cond.instanceMethod yX5_alongSide ∈ zG := zgm (zt3 (List.mem_of_getElem? (i := 231) rfl)) rfl
theorem g913 : Cond.code yX5_alongSide cX5_alongSide 3 (some .int) ∈ zG := zgm (zt3 (List.mem_of_getElem? (i := 232) rfl)) rfl
theorem g914 : Cond.methodLinkNest RX5 102 yX4_runsAlongX "SheetFolds" ∈ lw_tbl := (zt3 (List.mem_of_getElem? (i := 233) rfl))
theorem g915 : Cond.methodLinkNest RX5 115 yX4_sizeY "SheetFolds" ∈ lw_tbl := (zt3 (List.mem_of_getElem? (i := 234) rfl))
theorem g916 : Cond.methodLinkNest RX5 118 yX4_sizeX "SheetFolds" ∈ lw_tbl := (zt3 (List.mem_of_getElem? (i := 235) rfl))
theorem g917 : Cond.methodLinkNest RX5 50 yX8_isIn "SheetFolds" ∈ lw_tbl := (zt3 (List.mem_of_getElem? (i := 236) rfl))
theorem g918 : Cond.methodLink RX5 54 yX5_placeFlange ∈ zG := zgm (zt3 (List.mem_of_getElem? (i := 237) rfl)) rfl
theorem g920 : Cond.instanceMethod yX5_placeFlange ∈ zG := zgm (zt3 (List.mem_of_getElem? (i := 239) rfl)) rfl
theorem g921 : Cond.code yX5_placeFlange cX5_placeFlange 11 none ∈ zG := zgm (zt4 (List.mem_of_getElem? (i := 0) rfl)) rfl
theorem g922 : Cond.methodLink RX5 75 yX5_outward ∈ zG := zgm (zt4 (List.mem_of_getElem? (i := 1) rfl)) rfl
theorem g924 : Cond.instanceMethod yX5_outward ∈ zG := zgm (zt4 (List.mem_of_getElem? (i := 3) rfl)) rfl
theorem g925 : Cond.code yX5_outward cX5_outward 4 (some .int) ∈ zG := zgm (zt4 (List.mem_of_getElem? (i := 4) rfl)) rfl
theorem g926 : Cond.methodLink RX5 95 yX5_against ∈ zG := zgm (zt4 (List.mem_of_getElem? (i := 5) rfl)) rfl
theorem g927 : Cond.static yX5_against ∈ zG := zgm (zt4 (List.mem_of_getElem? (i := 6) rfl)) rfl
theorem g928 : Cond.code yX5_against cX5_against 1 (some .int) ∈ zG := zgm (zt4 (List.mem_of_getElem? (i := 7) rfl)) rfl
theorem g929 : Cond.methodLinkNest RX5 78 yX4_zoneOf "SheetFolds" ∈ lw_tbl := (zt4 (List.mem_of_getElem? (i := 8) rfl))
theorem g930 : Cond.methodLinkNest RX8 199 yX5_lowOf "SheetFolds" ∈ lw_tbl := (zt4 (List.mem_of_getElem? (i := 9) rfl))
theorem g932 : Cond.instanceMethod yX5_lowOf ∈ zG := zgm (zt4 (List.mem_of_getElem? (i := 11) rfl)) rfl
theorem g933 : Cond.code yX5_lowOf cX5_lowOf 3 (some .int) ∈ zG := zgm (zt4 (List.mem_of_getElem? (i := 12) rfl)) rfl
theorem g934 : Cond.methodLinkNest RX8 203 yX5_highOf "SheetFolds" ∈ lw_tbl := (zt4 (List.mem_of_getElem? (i := 13) rfl))
theorem g936 : Cond.instanceMethod yX5_highOf ∈ zG := zgm (zt4 (List.mem_of_getElem? (i := 15) rfl)) rfl
theorem g937 : Cond.code yX5_highOf cX5_highOf 3 (some .int) ∈ zG := zgm (zt4 (List.mem_of_getElem? (i := 16) rfl)) rfl
theorem g938 : Cond.methodLink RL 58 yX8_flatBox ∈ zG := zgm (zt4 (List.mem_of_getElem? (i := 17) rfl)) rfl
theorem g939 : Cond.instanceMethod yX8_flatBox ∈ zG := zgm (zt4 (List.mem_of_getElem? (i := 18) rfl)) rfl
theorem g940 : Cond.selects RX8 yX8_flatBox yX8_flatBox ∈ zG := zgm (zt4 (List.mem_of_getElem? (i := 19) rfl)) rfl
theorem g941 : Cond.code yX8_flatBox cX8_flatBox 2 (some .int) ∈ zG := zgm (zt4 (List.mem_of_getElem? (i := 20) rfl)) rfl
theorem g942 : Cond.methodLinkNest RX8 206 yX5_area "SheetFolds" ∈ lw_tbl := (zt4 (List.mem_of_getElem? (i := 21) rfl))
theorem g944 : Cond.instanceMethod yX5_area ∈ zG := zgm (zt4 (List.mem_of_getElem? (i := 23) rfl)) rfl
theorem g945 : Cond.code yX5_area cX5_area 4 (some .int) ∈ zG := zgm (zt4 (List.mem_of_getElem? (i := 24) rfl)) rfl
theorem g946 : Cond.methodLinkNest RX5 144 yX4_isPiece "SheetFolds" ∈ lw_tbl := (zt4 (List.mem_of_getElem? (i := 25) rfl))
theorem g947 : Cond.methodLink RX5 132 yX5_highOf ∈ zG := zgm (zt4 (List.mem_of_getElem? (i := 26) rfl)) rfl
theorem g948 : Cond.methodLink RX5 129 yX5_lowOf ∈ zG := zgm (zt4 (List.mem_of_getElem? (i := 27) rfl)) rfl
theorem g949 : Cond.methodLinkNest RX8 210 yX5_leastLow "SheetFolds" ∈ lw_tbl := (zt4 (List.mem_of_getElem? (i := 28) rfl))
theorem g951 : Cond.instanceMethod yX5_leastLow ∈ zG := zgm (zt4 (List.mem_of_getElem? (i := 30) rfl)) rfl
theorem g952 : Cond.code yX5_leastLow cX5_leastLow 5 (some .int) ∈ zG := zgm (zt4 (List.mem_of_getElem? (i := 31) rfl)) rfl
theorem g953 : Cond.methodLinkNest RX8 213 yX5_mostHigh "SheetFolds" ∈ lw_tbl := (zt4 (List.mem_of_getElem? (i := 32) rfl))
theorem g955 : Cond.instanceMethod yX5_mostHigh ∈ zG := zgm (zt4 (List.mem_of_getElem? (i := 34) rfl)) rfl
theorem g956 : Cond.code yX5_mostHigh cX5_mostHigh 5 (some .int) ∈ zG := zgm (zt4 (List.mem_of_getElem? (i := 35) rfl)) rfl
theorem g957 : Cond.methodLink RL 62 yX8_overlap ∈ zG := zgm (zt4 (List.mem_of_getElem? (i := 36) rfl)) rfl
theorem g958 : Cond.instanceMethod yX8_overlap ∈ zG := zgm (zt4 (List.mem_of_getElem? (i := 37) rfl)) rfl
theorem g959 : Cond.selects RX8 yX8_overlap yX8_overlap ∈ zG := zgm (zt4 (List.mem_of_getElem? (i := 38) rfl)) rfl
theorem g960 : Cond.code yX8_overlap cX8_overlap 4 (some .int) ∈ zG := zgm (zt4 (List.mem_of_getElem? (i := 39) rfl)) rfl
theorem g961 : Cond.methodLinkNest RX8 216 yX5_overlaps "SheetFolds" ∈ lw_tbl := (zt4 (List.mem_of_getElem? (i := 40) rfl))
theorem g963 : Cond.instanceMethod yX5_overlaps ∈ zG := zgm (zt4 (List.mem_of_getElem? (i := 42) rfl)) rfl
theorem g964 : Cond.code yX5_overlaps cX5_overlaps 7 (some .int) ∈ zG := zgm (zt4 (List.mem_of_getElem? (i := 43) rfl)) rfl
theorem g965 : Cond.methodLink RX5 147 yX5_share ∈ zG := zgm (zt4 (List.mem_of_getElem? (i := 44) rfl)) rfl
theorem g967 : Cond.instanceMethod yX5_share ∈ zG := zgm (zt4 (List.mem_of_getElem? (i := 46) rfl)) rfl
theorem g968 : Cond.code yX5_share cX5_share 8 (some .boolean) ∈ zG := zgm (zt4 (List.mem_of_getElem? (i := 47) rfl)) rfl
theorem g969 : Cond.methodLink RL 66 yX8_space ∈ zG := zgm (zt4 (List.mem_of_getElem? (i := 48) rfl)) rfl
theorem g970 : Cond.instanceMethod yX8_space ∈ zG := zgm (zt4 (List.mem_of_getElem? (i := 49) rfl)) rfl
theorem g971 : Cond.selects RX8 yX8_space yX8_space ∈ zG := zgm (zt4 (List.mem_of_getElem? (i := 50) rfl)) rfl
theorem g972 : Cond.code yX8_space cX8_space 3 (some .int) ∈ zG := zgm (zt4 (List.mem_of_getElem? (i := 51) rfl)) rfl
theorem g973 : Cond.methodLink RX8 220 yX8_placeNow ∈ zG := zgm (zt4 (List.mem_of_getElem? (i := 52) rfl)) rfl
theorem g975 : Cond.instanceMethod yX8_placeNow ∈ zG := zgm (zt4 (List.mem_of_getElem? (i := 54) rfl)) rfl
theorem g976 : Cond.code yX8_placeNow cX8_placeNow 1 none ∈ zG := zgm (zt4 (List.mem_of_getElem? (i := 55) rfl)) rfl
theorem g977 : Cond.methodLinkNest RX8 235 yX5_place "SheetFolds" ∈ lw_tbl := (zt4 (List.mem_of_getElem? (i := 56) rfl))
theorem g978 : Cond.methodLink RL 70 yX8_spaceBox ∈ zG := zgm (zt4 (List.mem_of_getElem? (i := 57) rfl)) rfl
theorem g979 : Cond.instanceMethod yX8_spaceBox ∈ zG := zgm (zt4 (List.mem_of_getElem? (i := 58) rfl)) rfl
theorem g980 : Cond.selects RX8 yX8_spaceBox yX8_spaceBox ∈ zG := zgm (zt4 (List.mem_of_getElem? (i := 59) rfl)) rfl
theorem g981 : Cond.code yX8_spaceBox cX8_spaceBox 2 (some .int) ∈ zG := zgm (zt4 (List.mem_of_getElem? (i := 60) rfl)) rfl
theorem g982 : Cond.methodLinkNest RX8 223 yX5_extent "SheetFolds" ∈ lw_tbl := (zt4 (List.mem_of_getElem? (i := 61) rfl))
theorem g984 : Cond.instanceMethod yX5_extent ∈ zG := zgm (zt4 (List.mem_of_getElem? (i := 63) rfl)) rfl
theorem g985 : Cond.code yX5_extent cX5_extent 3 (some .int) ∈ zG := zgm (zt4 (List.mem_of_getElem? (i := 64) rfl)) rfl
theorem g986 : Cond.methodLink RX5 135 yX5_mostHigh ∈ zG := zgm (zt4 (List.mem_of_getElem? (i := 65) rfl)) rfl
theorem g987 : Cond.methodLink RX5 138 yX5_leastLow ∈ zG := zgm (zt4 (List.mem_of_getElem? (i := 66) rfl)) rfl
theorem g988 : Cond.methodLink RL 74 yX8_gap ∈ zG := zgm (zt4 (List.mem_of_getElem? (i := 67) rfl)) rfl
theorem g989 : Cond.instanceMethod yX8_gap ∈ zG := zgm (zt4 (List.mem_of_getElem? (i := 68) rfl)) rfl
theorem g990 : Cond.selects RX8 yX8_gap yX8_gap ∈ zG := zgm (zt4 (List.mem_of_getElem? (i := 69) rfl)) rfl
theorem g991 : Cond.code yX8_gap cX8_gap 3 (some .int) ∈ zG := zgm (zt4 (List.mem_of_getElem? (i := 70) rfl)) rfl
theorem g992 : Cond.methodLinkNest RX8 226 yX5_gapOf "SheetFolds" ∈ lw_tbl := (zt4 (List.mem_of_getElem? (i := 71) rfl))
theorem g994 : Cond.instanceMethod yX5_gapOf ∈ zG := zgm (zt4 (List.mem_of_getElem? (i := 73) rfl)) rfl
theorem g995 : Cond.code yX5_gapOf cX5_gapOf 7 (some .int) ∈ zG := zgm (zt4 (List.mem_of_getElem? (i := 74) rfl)) rfl
theorem g996 : Cond.methodLink RL 78 yX8_normal ∈ zG := zgm (zt4 (List.mem_of_getElem? (i := 75) rfl)) rfl
theorem g997 : Cond.instanceMethod yX8_normal ∈ zG := zgm (zt4 (List.mem_of_getElem? (i := 76) rfl)) rfl
theorem g998 : Cond.selects RX8 yX8_normal yX8_normal ∈ zG := zgm (zt4 (List.mem_of_getElem? (i := 77) rfl)) rfl
theorem g999 : Cond.code yX8_normal cX8_normal 2 (some .int) ∈ zG := zgm (zt4 (List.mem_of_getElem? (i := 78) rfl)) rfl
theorem g1000 : Cond.methodLinkNest RX8 229 yX5_signedNormal "SheetFolds" ∈ lw_tbl := (zt4 (List.mem_of_getElem? (i := 79) rfl))
theorem g1002 : Cond.instanceMethod yX5_signedNormal ∈ zG := zgm (zt4 (List.mem_of_getElem? (i := 81) rfl)) rfl
theorem g1003 : Cond.code yX5_signedNormal cX5_signedNormal 3 (some .int) ∈ zG := zgm (zt4 (List.mem_of_getElem? (i := 82) rfl)) rfl
theorem g1004 : Cond.methodLink RL 82 yX8_clash ∈ zG := zgm (zt4 (List.mem_of_getElem? (i := 83) rfl)) rfl
theorem g1005 : Cond.instanceMethod yX8_clash ∈ zG := zgm (zt4 (List.mem_of_getElem? (i := 84) rfl)) rfl
theorem g1006 : Cond.selects RX8 yX8_clash yX8_clash ∈ zG := zgm (zt4 (List.mem_of_getElem? (i := 85) rfl)) rfl
theorem g1007 : Cond.code yX8_clash cX8_clash 3 (some .int) ∈ zG := zgm (zt4 (List.mem_of_getElem? (i := 86) rfl)) rfl
theorem g1008 : Cond.methodLinkNest RX8 232 yX4_isState "SheetFolds" ∈ lw_tbl := (zt4 (List.mem_of_getElem? (i := 87) rfl))
theorem g1010 : Cond.instanceMethod yX4_isState ∈ zG := zgm (zt4 (List.mem_of_getElem? (i := 89) rfl)) rfl
theorem g1011 : Cond.code yX4_isState cX4_isState 2 (some .boolean) ∈ zG := zgm (zt4 (List.mem_of_getElem? (i := 90) rfl)) rfl
theorem g1012 : Cond.methodLink RX4 71 yX4_isThere ∈ zG := zgm (zt4 (List.mem_of_getElem? (i := 91) rfl)) rfl
theorem g1013 : Cond.methodLink RX4 75 yX4_allBends ∈ zG := zgm (zt4 (List.mem_of_getElem? (i := 92) rfl)) rfl
theorem g1015 : Cond.instanceMethod yX4_allBends ∈ zG := zgm (zt4 (List.mem_of_getElem? (i := 94) rfl)) rfl
theorem g1016 : Cond.code yX4_allBends cX4_allBends 1 (some .int) ∈ zG := zgm (zt4 (List.mem_of_getElem? (i := 95) rfl)) rfl
theorem g1017 : Cond.methodLinkNest RX8 238 yX5_clashes "SheetFolds" ∈ lw_tbl := (zt4 (List.mem_of_getElem? (i := 96) rfl))
theorem g1019 : Cond.instanceMethod yX5_clashes ∈ zG := zgm (zt4 (List.mem_of_getElem? (i := 98) rfl)) rfl
theorem g1020 : Cond.code yX5_clashes cX5_clashes 6 (some .int) ∈ zG := zgm (zt4 (List.mem_of_getElem? (i := 99) rfl)) rfl
theorem g1021 : Cond.methodLink RX5 151 yX5_doClash ∈ zG := zgm (zt4 (List.mem_of_getElem? (i := 100) rfl)) rfl
theorem g1023 : Cond.instanceMethod yX5_doClash ∈ zG := zgm (zt4 (List.mem_of_getElem? (i := 102) rfl)) rfl
theorem g1024 : Cond.code yX5_doClash cX5_doClash 5 (some .boolean) ∈ zG := zgm (zt4 (List.mem_of_getElem? (i := 103) rfl)) rfl
theorem g1025 : Cond.methodLink RX5 154 yX5_isWithin ∈ zG := zgm (zt4 (List.mem_of_getElem? (i := 104) rfl)) rfl
theorem g1027 : Cond.instanceMethod yX5_isWithin ∈ zG := zgm (zt4 (List.mem_of_getElem? (i := 106) rfl)) rfl
theorem g1028 : Cond.code yX5_isWithin cX5_isWithin 5 (some .boolean) ∈ zG := zgm (zt4 (List.mem_of_getElem? (i := 107) rfl)) rfl
theorem g1029 : Cond.methodLink RL 86 yX8_meets ∈ zG := zgm (zt4 (List.mem_of_getElem? (i := 108) rfl)) rfl
theorem g1030 : Cond.instanceMethod yX8_meets ∈ zG := zgm (zt4 (List.mem_of_getElem? (i := 109) rfl)) rfl
theorem g1031 : Cond.selects RX8 yX8_meets yX8_meets ∈ zG := zgm (zt4 (List.mem_of_getElem? (i := 110) rfl)) rfl
theorem g1032 : Cond.code yX8_meets cX8_meets 3 (some .int) ∈ zG := zgm (zt4 (List.mem_of_getElem? (i := 111) rfl)) rfl
theorem g1033 : Cond.methodLinkNest RX8 241 yX5_metByPunch "SheetFolds" ∈ lw_tbl := (zt4 (List.mem_of_getElem? (i := 112) rfl))
theorem g1035 : Cond.instanceMethod yX5_metByPunch ∈ zG := zgm (zt4 (List.mem_of_getElem? (i := 114) rfl)) rfl
theorem g1036 : Cond.code yX5_metByPunch cX5_metByPunch 5 (some .int) ∈ zG := zgm (zt4 (List.mem_of_getElem? (i := 115) rfl)) rfl
theorem g1037 : Cond.methodLink RX5 163 yX5_standPunch ∈ zG := zgm (zt4 (List.mem_of_getElem? (i := 116) rfl)) rfl
theorem g1039 : Cond.instanceMethod yX5_standPunch ∈ zG := zgm (zt4 (List.mem_of_getElem? (i := 118) rfl)) rfl
theorem g1040 : Cond.code yX5_standPunch cX5_standPunch 8 (some .int) ∈ zG := zgm (zt4 (List.mem_of_getElem? (i := 119) rfl)) rfl
theorem g1041 : Cond.methodLink RL 90 yX8_tools ∈ zG := zgm (zt4 (List.mem_of_getElem? (i := 120) rfl)) rfl
theorem g1042 : Cond.instanceMethod yX8_tools ∈ zG := zgm (zt4 (List.mem_of_getElem? (i := 121) rfl)) rfl
theorem g1043 : Cond.selects RX8 yX8_tools yX8_tools ∈ zG := zgm (zt4 (List.mem_of_getElem? (i := 122) rfl)) rfl
theorem g1044 : Cond.code yX8_tools cX8_tools 3 (some .int) ∈ zG := zgm (zt4 (List.mem_of_getElem? (i := 123) rfl)) rfl
theorem g1045 : Cond.methodLink RX8 247 yJ6_bitCount_0f7a4 ∈ zG := zgm (zt4 (List.mem_of_getElem? (i := 124) rfl)) rfl
theorem g1046 : Cond.methodLink RL 94 yX8_why ∈ zG := zgm (zt4 (List.mem_of_getElem? (i := 125) rfl)) rfl
theorem g1047 : Cond.instanceMethod yX8_why ∈ zG := zgm (zt4 (List.mem_of_getElem? (i := 126) rfl)) rfl
theorem g1048 : Cond.selects RX8 yX8_why yX8_why ∈ zG := zgm (zt4 (List.mem_of_getElem? (i := 127) rfl)) rfl
theorem g1049 : Cond.code yX8_why cX8_why 3 (some .int) ∈ zG := zgm (zt4 (List.mem_of_getElem? (i := 128) rfl)) rfl
theorem g1050 : Cond.methodLink RX8 252 yX8_reason ∈ zG := zgm (zt4 (List.mem_of_getElem? (i := 129) rfl)) rfl
theorem g1052 : Cond.instanceMethod yX8_reason ∈ zG := zgm (zt4 (List.mem_of_getElem? (i := 131) rfl)) rfl
theorem g1053 : Cond.code yX8_reason cX8_reason 3 (some .int) ∈ zG := zgm (zt4 (List.mem_of_getElem? (i := 132) rfl)) rfl
theorem g1054 : Cond.methodLink RX8 323 yX8_clashesIn ∈ zG := zgm (zt4 (List.mem_of_getElem? (i := 133) rfl)) rfl
theorem g1056 : Cond.instanceMethod yX8_clashesIn ∈ zG := zgm (zt4 (List.mem_of_getElem? (i := 135) rfl)) rfl
theorem g1057 : Cond.code yX8_clashesIn cX8_clashesIn 2 (some .boolean) ∈ zG := zgm (zt4 (List.mem_of_getElem? (i := 136) rfl)) rfl
theorem g1058 : Cond.methodLink RL 98 yX8_orders ∈ zG := zgm (zt4 (List.mem_of_getElem? (i := 137) rfl)) rfl
theorem g1059 : Cond.instanceMethod yX8_orders ∈ zG := zgm (zt4 (List.mem_of_getElem? (i := 138) rfl)) rfl
theorem g1060 : Cond.selects RX8 yX8_orders yX8_orders ∈ zG := zgm (zt4 (List.mem_of_getElem? (i := 139) rfl)) rfl
theorem g1061 : Cond.code yX8_orders cX8_orders 1 (some .int) ∈ zG := zgm (zt4 (List.mem_of_getElem? (i := 140) rfl)) rfl
theorem g1062 : Cond.methodLink RX8 255 yX8_searchOrders ∈ zG := zgm (zt4 (List.mem_of_getElem? (i := 141) rfl)) rfl
theorem g1064 : Cond.instanceMethod yX8_searchOrders ∈ zG := zgm (zt4 (List.mem_of_getElem? (i := 143) rfl)) rfl
theorem g1065 : Cond.code yX8_searchOrders cX8_searchOrders 1 (some .boolean) ∈ zG := zgm (zt4 (List.mem_of_getElem? (i := 144) rfl)) rfl
theorem g1066 : Cond.methodLinkNest RX8 305 yX3_measureRooms "SheetFolds" ∈ lw_tbl := (zt4 (List.mem_of_getElem? (i := 145) rfl))
theorem g1068 : Cond.instanceMethod yX3_measureRooms ∈ zG := zgm (zt4 (List.mem_of_getElem? (i := 147) rfl)) rfl
theorem g1069 : Cond.code yX3_measureRooms cX3_measureRooms 7 none ∈ zG := zgm (zt4 (List.mem_of_getElem? (i := 148) rfl)) rfl
theorem g1070 : Cond.methodLinkNest RX3 37 yX4_allBends "SheetFolds" ∈ lw_tbl := (zt4 (List.mem_of_getElem? (i := 149) rfl))
theorem g1071 : Cond.methodLinkNest RX3 53 yX5_place "SheetFolds" ∈ lw_tbl := (zt4 (List.mem_of_getElem? (i := 150) rfl))
theorem g1072 : Cond.methodLinkNest RX3 59 yX5_clashes "SheetFolds" ∈ lw_tbl := (zt4 (List.mem_of_getElem? (i := 151) rfl))
theorem g1073 : Cond.methodLinkNest RX3 63 yX8_isIn "SheetFolds" ∈ lw_tbl := (zt4 (List.mem_of_getElem? (i := 152) rfl))
theorem g1074 : Cond.methodLinkNest RX3 70 yX8_bit "SheetFolds" ∈ lw_tbl := (zt4 (List.mem_of_getElem? (i := 153) rfl))
theorem g1075 : Cond.methodLink RX3 74 yX3_cell ∈ zG := zgm (zt4 (List.mem_of_getElem? (i := 154) rfl)) rfl
theorem g1076 : Cond.static yX3_cell ∈ zG := zgm (zt4 (List.mem_of_getElem? (i := 155) rfl)) rfl
theorem g1077 : Cond.code yX3_cell cX3_cell 2 (some .int) ∈ zG := zgm (zt4 (List.mem_of_getElem? (i := 156) rfl)) rfl
theorem g1078 : Cond.methodLinkNest RX3 77 yX5_roomFor "SheetFolds" ∈ lw_tbl := (zt4 (List.mem_of_getElem? (i := 157) rfl))
theorem g1080 : Cond.instanceMethod yX5_roomFor ∈ zG := zgm (zt4 (List.mem_of_getElem? (i := 159) rfl)) rfl
theorem g1081 : Cond.code yX5_roomFor cX5_roomFor 9 (some .int) ∈ zG := zgm (zt4 (List.mem_of_getElem? (i := 160) rfl)) rfl
theorem g1082 : Cond.methodLinkNest RX8 309 yX3_searchFrom "SheetFolds" ∈ lw_tbl := (zt4 (List.mem_of_getElem? (i := 161) rfl))
theorem g1084 : Cond.instanceMethod yX3_searchFrom ∈ zG := zgm (zt4 (List.mem_of_getElem? (i := 163) rfl)) rfl
theorem g1085 : Cond.code yX3_searchFrom cX3_searchFrom 5 none ∈ zG := zgm (zt4 (List.mem_of_getElem? (i := 164) rfl)) rfl
theorem g1086 : Cond.methodLink RX3 87 yJ9_max_7cf53 ∈ zG := zgm (zt4 (List.mem_of_getElem? (i := 165) rfl)) rfl
theorem g1087 : Cond.methodLink RX3 92 yJ7_fill_031fb ∈ zG := zgm (zt4 (List.mem_of_getElem? (i := 166) rfl)) rfl
theorem g1088 : Cond.static yJ7_fill_031fb ∈ zG := zgm (zt4 (List.mem_of_getElem? (i := 167) rfl)) rfl
theorem g1089 : Cond.code yJ7_fill_031fb cJ7_fill_031fb 4 none ∈ zG := zgm (zt4 (List.mem_of_getElem? (i := 168) rfl)) rfl
theorem g1090 : Cond.methodLink RX3 98 yJ7_fill_53178 ∈ zG := zgm (zt4 (List.mem_of_getElem? (i := 169) rfl)) rfl
theorem g1091 : Cond.methodLink RX3 101 yX3_isReached ∈ zG := zgm (zt4 (List.mem_of_getElem? (i := 170) rfl)) rfl
theorem g1093 : Cond.instanceMethod yX3_isReached ∈ zG := zgm (zt4 (List.mem_of_getElem? (i := 172) rfl)) rfl
theorem g1094 : Cond.code yX3_isReached cX3_isReached 2 (some .boolean) ∈ zG := zgm (zt4 (List.mem_of_getElem? (i := 173) rfl)) rfl
theorem g1095 : Cond.methodLink RX3 105 yX3_isClear ∈ zG := zgm (zt4 (List.mem_of_getElem? (i := 174) rfl)) rfl
theorem g1097 : Cond.instanceMethod yX3_isClear ∈ zG := zgm (zt4 (List.mem_of_getElem? (i := 176) rfl)) rfl
theorem g1098 : Cond.code yX3_isClear cX3_isClear 3 (some .boolean) ∈ zG := zgm (zt4 (List.mem_of_getElem? (i := 177) rfl)) rfl
theorem g1099 : Cond.methodLinkNest RX8 258 yX3_ordersFrom "SheetFolds" ∈ lw_tbl := (zt4 (List.mem_of_getElem? (i := 178) rfl))
theorem g1101 : Cond.instanceMethod yX3_ordersFrom ∈ zG := zgm (zt4 (List.mem_of_getElem? (i := 180) rfl)) rfl
theorem g1102 : Cond.code yX3_ordersFrom cX3_ordersFrom 2 (some .int) ∈ zG := zgm (zt4 (List.mem_of_getElem? (i := 181) rfl)) rfl
theorem g1103 : Cond.methodLink RL 102 yX8_order ∈ zG := zgm (zt4 (List.mem_of_getElem? (i := 182) rfl)) rfl
theorem g1104 : Cond.instanceMethod yX8_order ∈ zG := zgm (zt4 (List.mem_of_getElem? (i := 183) rfl)) rfl
theorem g1105 : Cond.selects RX8 yX8_order yX8_order ∈ zG := zgm (zt4 (List.mem_of_getElem? (i := 184) rfl)) rfl
theorem g1106 : Cond.code yX8_order cX8_order 2 (some .int) ∈ zG := zgm (zt4 (List.mem_of_getElem? (i := 185) rfl)) rfl
theorem g1107 : Cond.methodLinkNest RX8 261 yX3_walkFirst "SheetFolds" ∈ lw_tbl := (zt4 (List.mem_of_getElem? (i := 186) rfl))
theorem g1109 : Cond.instanceMethod yX3_walkFirst ∈ zG := zgm (zt4 (List.mem_of_getElem? (i := 188) rfl)) rfl
theorem g1110 : Cond.code yX3_walkFirst cX3_walkFirst 4 none ∈ zG := zgm (zt4 (List.mem_of_getElem? (i := 189) rfl)) rfl
theorem g1111 : Cond.methodLink RX3 111 yX3_firstThatGoesOn ∈ zG := zgm (zt4 (List.mem_of_getElem? (i := 190) rfl)) rfl
theorem g1113 : Cond.instanceMethod yX3_firstThatGoesOn ∈ zG := zgm (zt4 (List.mem_of_getElem? (i := 192) rfl)) rfl
theorem g1114 : Cond.code yX3_firstThatGoesOn cX3_firstThatGoesOn 3 (some .int) ∈ zG := zgm (zt4 (List.mem_of_getElem? (i := 193) rfl)) rfl
theorem g1115 : Cond.methodLink RX3 117 yX3_goesOn ∈ zG := zgm (zt4 (List.mem_of_getElem? (i := 194) rfl)) rfl
theorem g1117 : Cond.instanceMethod yX3_goesOn ∈ zG := zgm (zt4 (List.mem_of_getElem? (i := 196) rfl)) rfl
theorem g1118 : Cond.code yX3_goesOn cX3_goesOn 3 (some .boolean) ∈ zG := zgm (zt4 (List.mem_of_getElem? (i := 197) rfl)) rfl
theorem g1119 : Cond.methodLink RX3 114 yX3_append ∈ zG := zgm (zt4 (List.mem_of_getElem? (i := 198) rfl)) rfl
theorem g1121 : Cond.instanceMethod yX3_append ∈ zG := zgm (zt4 (List.mem_of_getElem? (i := 200) rfl)) rfl
theorem g1122 : Cond.code yX3_append cX3_append 3 (some .int) ∈ zG := zgm (zt4 (List.mem_of_getElem? (i := 201) rfl)) rfl
theorem g1123 : Cond.methodLinkNest RX8 264 yX3_rowAt "SheetFolds" ∈ lw_tbl := (zt4 (List.mem_of_getElem? (i := 202) rfl))
theorem g1125 : Cond.instanceMethod yX3_rowAt ∈ zG := zgm (zt4 (List.mem_of_getElem? (i := 204) rfl)) rfl
theorem g1126 : Cond.code yX3_rowAt cX3_rowAt 2 (some .int) ∈ zG := zgm (zt4 (List.mem_of_getElem? (i := 205) rfl)) rfl
theorem g1127 : Cond.methodLink RL 106 yX8_mayBeLast ∈ zG := zgm (zt4 (List.mem_of_getElem? (i := 206) rfl)) rfl
theorem g1128 : Cond.instanceMethod yX8_mayBeLast ∈ zG := zgm (zt4 (List.mem_of_getElem? (i := 207) rfl)) rfl
theorem g1129 : Cond.selects RX8 yX8_mayBeLast yX8_mayBeLast ∈ zG := zgm (zt4 (List.mem_of_getElem? (i := 208) rfl)) rfl
theorem g1130 : Cond.code yX8_mayBeLast cX8_mayBeLast 2 (some .int) ∈ zG := zgm (zt4 (List.mem_of_getElem? (i := 209) rfl)) rfl
theorem g1131 : Cond.methodLink RX8 267 yX8_isUnmade ∈ zG := zgm (zt4 (List.mem_of_getElem? (i := 210) rfl)) rfl
theorem g1133 : Cond.instanceMethod yX8_isUnmade ∈ zG := zgm (zt4 (List.mem_of_getElem? (i := 212) rfl)) rfl
theorem g1134 : Cond.code yX8_isUnmade cX8_isUnmade 2 (some .boolean) ∈ zG := zgm (zt4 (List.mem_of_getElem? (i := 213) rfl)) rfl
theorem g1135 : Cond.methodLinkNest RX8 270 yX3_canEndWith "SheetFolds" ∈ lw_tbl := (zt4 (List.mem_of_getElem? (i := 214) rfl))
theorem g1137 : Cond.instanceMethod yX3_canEndWith ∈ zG := zgm (zt4 (List.mem_of_getElem? (i := 216) rfl)) rfl
theorem g1138 : Cond.code yX3_canEndWith cX3_canEndWith 3 (some .boolean) ∈ zG := zgm (zt4 (List.mem_of_getElem? (i := 217) rfl)) rfl
theorem g1139 : Cond.methodLink RL 110 yX8_ahead ∈ zG := zgm (zt4 (List.mem_of_getElem? (i := 218) rfl)) rfl
theorem g1140 : Cond.instanceMethod yX8_ahead ∈ zG := zgm (zt4 (List.mem_of_getElem? (i := 219) rfl)) rfl
theorem g1141 : Cond.selects RX8 yX8_ahead yX8_ahead ∈ zG := zgm (zt4 (List.mem_of_getElem? (i := 220) rfl)) rfl
theorem g1142 : Cond.code yX8_ahead cX8_ahead 3 (some .int) ∈ zG := zgm (zt4 (List.mem_of_getElem? (i := 221) rfl)) rfl
theorem g1143 : Cond.methodLinkNest RX8 273 yX3_passesWithout "SheetFolds" ∈ lw_tbl := (zt4 (List.mem_of_getElem? (i := 222) rfl))
theorem g1145 : Cond.instanceMethod yX3_passesWithout ∈ zG := zgm (zt4 (List.mem_of_getElem? (i := 224) rfl)) rfl
theorem g1146 : Cond.code yX3_passesWithout cX3_passesWithout 4 (some .boolean) ∈ zG := zgm (zt4 (List.mem_of_getElem? (i := 225) rfl)) rfl
theorem g1147 : Cond.methodLink RL 114 yX8_reached ∈ zG := zgm (zt4 (List.mem_of_getElem? (i := 226) rfl)) rfl
theorem g1148 : Cond.instanceMethod yX8_reached ∈ zG := zgm (zt4 (List.mem_of_getElem? (i := 227) rfl)) rfl
theorem g1149 : Cond.selects RX8 yX8_reached yX8_reached ∈ zG := zgm (zt4 (List.mem_of_getElem? (i := 228) rfl)) rfl
theorem g1150 : Cond.code yX8_reached cX8_reached 2 (some .int) ∈ zG := zgm (zt4 (List.mem_of_getElem? (i := 229) rfl)) rfl
theorem g1151 : Cond.methodLinkNest RX8 276 yX3_countReached "SheetFolds" ∈ lw_tbl := (zt4 (List.mem_of_getElem? (i := 230) rfl))
theorem g1153 : Cond.instanceMethod yX3_countReached ∈ zG := zgm (zt4 (List.mem_of_getElem? (i := 232) rfl)) rfl
theorem g1154 : Cond.code yX3_countReached cX3_countReached 3 (some .int) ∈ zG := zgm (zt4 (List.mem_of_getElem? (i := 233) rfl)) rfl
theorem g1155 : Cond.methodLinkNest RX8 280 yX3_countDeadEnds "SheetFolds" ∈ lw_tbl := (zt4 (List.mem_of_getElem? (i := 234) rfl))
theorem g1157 : Cond.instanceMethod yX3_countDeadEnds ∈ zG := zgm (zt4 (List.mem_of_getElem? (i := 236) rfl)) rfl
theorem g1158 : Cond.code yX3_countDeadEnds cX3_countDeadEnds 3 (some .int) ∈ zG := zgm (zt4 (List.mem_of_getElem? (i := 237) rfl)) rfl
theorem g1159 : Cond.methodLink RX3 123 yX3_isDeadEnd ∈ zG := zgm (zt4 (List.mem_of_getElem? (i := 238) rfl)) rfl
theorem g1161 : Cond.instanceMethod yX3_isDeadEnd ∈ zG := zgm (zt5 (List.mem_of_getElem? (i := 0) rfl)) rfl
theorem g1162 : Cond.code yX3_isDeadEnd cX3_isDeadEnd 2 (some .boolean) ∈ zG := zgm (zt5 (List.mem_of_getElem? (i := 1) rfl)) rfl
theorem g1163 : Cond.methodLink RX3 120 yX3_clearBends ∈ zG := zgm (zt5 (List.mem_of_getElem? (i := 2) rfl)) rfl
theorem g1165 : Cond.instanceMethod yX3_clearBends ∈ zG := zgm (zt5 (List.mem_of_getElem? (i := 4) rfl)) rfl
theorem g1166 : Cond.code yX3_clearBends cX3_clearBends 4 (some .int) ∈ zG := zgm (zt5 (List.mem_of_getElem? (i := 5) rfl)) rfl
theorem g1167 : Cond.methodLinkNest RX8 283 yX3_fullestDeadEnd "SheetFolds" ∈ lw_tbl := (zt5 (List.mem_of_getElem? (i := 6) rfl))
theorem g1169 : Cond.instanceMethod yX3_fullestDeadEnd ∈ zG := zgm (zt5 (List.mem_of_getElem? (i := 8) rfl)) rfl
theorem g1170 : Cond.code yX3_fullestDeadEnd cX3_fullestDeadEnd 3 (some .int) ∈ zG := zgm (zt5 (List.mem_of_getElem? (i := 9) rfl)) rfl
theorem g1171 : Cond.methodLink RX3 126 yJ6_bitCount_0f7a4 ∈ zG := zgm (zt5 (List.mem_of_getElem? (i := 10) rfl)) rfl
theorem g1172 : Cond.methodLinkNest RX8 286 yX3_blocked "SheetFolds" ∈ lw_tbl := (zt5 (List.mem_of_getElem? (i := 11) rfl))
theorem g1174 : Cond.instanceMethod yX3_blocked ∈ zG := zgm (zt5 (List.mem_of_getElem? (i := 13) rfl)) rfl
theorem g1175 : Cond.code yX3_blocked cX3_blocked 3 (some .int) ∈ zG := zgm (zt5 (List.mem_of_getElem? (i := 14) rfl)) rfl
theorem g1176 : Cond.methodLink RL 118 yX8_fewest ∈ zG := zgm (zt5 (List.mem_of_getElem? (i := 15) rfl)) rfl
theorem g1177 : Cond.instanceMethod yX8_fewest ∈ zG := zgm (zt5 (List.mem_of_getElem? (i := 16) rfl)) rfl
theorem g1178 : Cond.selects RX8 yX8_fewest yX8_fewest ∈ zG := zgm (zt5 (List.mem_of_getElem? (i := 17) rfl)) rfl
theorem g1179 : Cond.code yX8_fewest cX8_fewest 2 (some .int) ∈ zG := zgm (zt5 (List.mem_of_getElem? (i := 18) rfl)) rfl
theorem g1180 : Cond.methodLinkNest RX8 289 yX3_countSwitches "SheetFolds" ∈ lw_tbl := (zt5 (List.mem_of_getElem? (i := 19) rfl))
theorem g1182 : Cond.instanceMethod yX3_countSwitches ∈ zG := zgm (zt5 (List.mem_of_getElem? (i := 21) rfl)) rfl
theorem g1183 : Cond.code yX3_countSwitches cX3_countSwitches 5 none ∈ zG := zgm (zt5 (List.mem_of_getElem? (i := 22) rfl)) rfl
theorem g1184 : Cond.methodLink RX3 134 yX3_leastFrom ∈ zG := zgm (zt5 (List.mem_of_getElem? (i := 23) rfl)) rfl
theorem g1186 : Cond.instanceMethod yX3_leastFrom ∈ zG := zgm (zt5 (List.mem_of_getElem? (i := 25) rfl)) rfl
theorem g1187 : Cond.code yX3_leastFrom cX3_leastFrom 5 (some .int) ∈ zG := zgm (zt5 (List.mem_of_getElem? (i := 26) rfl)) rfl
theorem g1188 : Cond.methodLink RX3 137 yX3_switchesWith ∈ zG := zgm (zt5 (List.mem_of_getElem? (i := 27) rfl)) rfl
theorem g1190 : Cond.instanceMethod yX3_switchesWith ∈ zG := zgm (zt5 (List.mem_of_getElem? (i := 29) rfl)) rfl
theorem g1191 : Cond.code yX3_switchesWith cX3_switchesWith 5 (some .int) ∈ zG := zgm (zt5 (List.mem_of_getElem? (i := 30) rfl)) rfl
theorem g1192 : Cond.methodLink RX3 141 yJ9_min_7cf53 ∈ zG := zgm (zt5 (List.mem_of_getElem? (i := 31) rfl)) rfl
theorem g1193 : Cond.methodLinkNest RX8 293 yX3_leastFrom "SheetFolds" ∈ lw_tbl := (zt5 (List.mem_of_getElem? (i := 32) rfl))
theorem g1194 : Cond.methodLink RL 122 yX8_thrifty ∈ zG := zgm (zt5 (List.mem_of_getElem? (i := 33) rfl)) rfl
theorem g1195 : Cond.instanceMethod yX8_thrifty ∈ zG := zgm (zt5 (List.mem_of_getElem? (i := 34) rfl)) rfl
theorem g1196 : Cond.selects RX8 yX8_thrifty yX8_thrifty ∈ zG := zgm (zt5 (List.mem_of_getElem? (i := 35) rfl)) rfl
theorem g1197 : Cond.code yX8_thrifty cX8_thrifty 3 (some .int) ∈ zG := zgm (zt5 (List.mem_of_getElem? (i := 36) rfl)) rfl
theorem g1198 : Cond.methodLinkNest RX8 296 yX3_walkThrifty "SheetFolds" ∈ lw_tbl := (zt5 (List.mem_of_getElem? (i := 37) rfl))
theorem g1200 : Cond.instanceMethod yX3_walkThrifty ∈ zG := zgm (zt5 (List.mem_of_getElem? (i := 39) rfl)) rfl
theorem g1201 : Cond.code yX3_walkThrifty cX3_walkThrifty 4 none ∈ zG := zgm (zt5 (List.mem_of_getElem? (i := 40) rfl)) rfl
theorem g1202 : Cond.methodLink RX3 144 yX3_firstThrifty ∈ zG := zgm (zt5 (List.mem_of_getElem? (i := 41) rfl)) rfl
theorem g1204 : Cond.instanceMethod yX3_firstThrifty ∈ zG := zgm (zt5 (List.mem_of_getElem? (i := 43) rfl)) rfl
theorem g1205 : Cond.code yX3_firstThrifty cX3_firstThrifty 5 (some .int) ∈ zG := zgm (zt5 (List.mem_of_getElem? (i := 44) rfl)) rfl
theorem g1206 : Cond.methodLink RL 126 yX8_tallest ∈ zG := zgm (zt5 (List.mem_of_getElem? (i := 45) rfl)) rfl
theorem g1207 : Cond.instanceMethod yX8_tallest ∈ zG := zgm (zt5 (List.mem_of_getElem? (i := 46) rfl)) rfl
theorem g1208 : Cond.selects RX8 yX8_tallest yX8_tallest ∈ zG := zgm (zt5 (List.mem_of_getElem? (i := 47) rfl)) rfl
theorem g1209 : Cond.code yX8_tallest cX8_tallest 2 (some .int) ∈ zG := zgm (zt5 (List.mem_of_getElem? (i := 48) rfl)) rfl
theorem g1210 : Cond.methodLinkNest RX8 299 yX3_tallestPunch "SheetFolds" ∈ lw_tbl := (zt5 (List.mem_of_getElem? (i := 49) rfl))
theorem g1212 : Cond.instanceMethod yX3_tallestPunch ∈ zG := zgm (zt5 (List.mem_of_getElem? (i := 51) rfl)) rfl
theorem g1213 : Cond.code yX3_tallestPunch cX3_tallestPunch 3 (some .int) ∈ zG := zgm (zt5 (List.mem_of_getElem? (i := 52) rfl)) rfl
theorem g1214 : Cond.methodLink RL 130 yX8_turned ∈ zG := zgm (zt5 (List.mem_of_getElem? (i := 53) rfl)) rfl
theorem g1215 : Cond.instanceMethod yX8_turned ∈ zG := zgm (zt5 (List.mem_of_getElem? (i := 54) rfl)) rfl
theorem g1216 : Cond.selects RX8 yX8_turned yX8_turned ∈ zG := zgm (zt5 (List.mem_of_getElem? (i := 55) rfl)) rfl
theorem g1217 : Cond.code yX8_turned cX8_turned 2 (some .int) ∈ zG := zgm (zt5 (List.mem_of_getElem? (i := 56) rfl)) rfl
theorem g1218 : Cond.methodLink RL 134 yX8_mends ∈ zG := zgm (zt5 (List.mem_of_getElem? (i := 57) rfl)) rfl
theorem g1219 : Cond.instanceMethod yX8_mends ∈ zG := zgm (zt5 (List.mem_of_getElem? (i := 58) rfl)) rfl
theorem g1220 : Cond.selects RX8 yX8_mends yX8_mends ∈ zG := zgm (zt5 (List.mem_of_getElem? (i := 59) rfl)) rfl
theorem g1221 : Cond.code yX8_mends cX8_mends 1 (some .int) ∈ zG := zgm (zt5 (List.mem_of_getElem? (i := 60) rfl)) rfl
theorem g1222 : Cond.methodLinkNest RX8 313 yX2_leastTurns "SheetFolds" ∈ lw_tbl := (zt5 (List.mem_of_getElem? (i := 61) rfl))
theorem g1224 : Cond.instanceMethod yX2_leastTurns ∈ zG := zgm (zt5 (List.mem_of_getElem? (i := 63) rfl)) rfl
theorem g1225 : Cond.code yX2_leastTurns cX2_leastTurns 10 (some .int) ∈ zG := zgm (zt5 (List.mem_of_getElem? (i := 64) rfl)) rfl
theorem g1226 : Cond.methodLinkNest RX2 9 yX4_needsTools "SheetFolds" ∈ lw_tbl := (zt5 (List.mem_of_getElem? (i := 65) rfl))
theorem g1228 : Cond.instanceMethod yX4_needsTools ∈ zG := zgm (zt5 (List.mem_of_getElem? (i := 67) rfl)) rfl
theorem g1229 : Cond.code yX4_needsTools cX4_needsTools 4 (some .boolean) ∈ zG := zgm (zt5 (List.mem_of_getElem? (i := 68) rfl)) rfl
theorem g1230 : Cond.methodLinkNest RX4 114 yX8_isIn "SheetFolds" ∈ lw_tbl := (zt5 (List.mem_of_getElem? (i := 69) rfl))
theorem g1231 : Cond.fieldLink RX2 21 "SheetFolds$Mender" "POWERS" "[I" ∈ zG := zgm (zt5 (List.mem_of_getElem? (i := 70) rfl)) rfl
theorem g1233 : Cond.methodLink RX2 25 yJ7_fill_031fb ∈ zG := zgm (zt5 (List.mem_of_getElem? (i := 72) rfl)) rfl
theorem g1234 : Cond.methodLink RX2 35 yX2_codeOf ∈ zG := zgm (zt5 (List.mem_of_getElem? (i := 73) rfl)) rfl
theorem g1235 : Cond.static yX2_codeOf ∈ zG := zgm (zt5 (List.mem_of_getElem? (i := 74) rfl)) rfl
theorem g1236 : Cond.code yX2_codeOf cX2_codeOf 4 (some .int) ∈ zG := zgm (zt5 (List.mem_of_getElem? (i := 75) rfl)) rfl
theorem g1237 : Cond.methodLinkNest RX2 65 yX8_isIn "SheetFolds" ∈ lw_tbl := (zt5 (List.mem_of_getElem? (i := 76) rfl))
theorem g1238 : Cond.methodLink RX2 42 yX2_decode ∈ zG := zgm (zt5 (List.mem_of_getElem? (i := 77) rfl)) rfl
theorem g1240 : Cond.instanceMethod yX2_decode ∈ zG := zgm (zt5 (List.mem_of_getElem? (i := 79) rfl)) rfl
theorem g1241 : Cond.code yX2_decode cX2_decode 4 none ∈ zG := zgm (zt5 (List.mem_of_getElem? (i := 80) rfl)) rfl
theorem g1242 : Cond.methodLinkNest RX2 69 yX8_bit "SheetFolds" ∈ lw_tbl := (zt5 (List.mem_of_getElem? (i := 81) rfl))
theorem g1243 : Cond.methodLinkNest RX2 49 yX4_allBends "SheetFolds" ∈ lw_tbl := (zt5 (List.mem_of_getElem? (i := 82) rfl))
theorem g1244 : Cond.methodLink RX2 56 yJ9_min_7cf53 ∈ zG := zgm (zt5 (List.mem_of_getElem? (i := 83) rfl)) rfl
theorem g1245 : Cond.methodLink RX2 61 yX2_spread ∈ zG := zgm (zt5 (List.mem_of_getElem? (i := 84) rfl)) rfl
theorem g1247 : Cond.instanceMethod yX2_spread ∈ zG := zgm (zt5 (List.mem_of_getElem? (i := 86) rfl)) rfl
theorem g1248 : Cond.code yX2_spread cX2_spread 7 none ∈ zG := zgm (zt5 (List.mem_of_getElem? (i := 87) rfl)) rfl
theorem g1249 : Cond.methodLinkNest RX2 73 yX5_place "SheetFolds" ∈ lw_tbl := (zt5 (List.mem_of_getElem? (i := 88) rfl))
theorem g1250 : Cond.methodLinkNest RX2 79 yX5_roomFor "SheetFolds" ∈ lw_tbl := (zt5 (List.mem_of_getElem? (i := 89) rfl))
theorem g1251 : Cond.methodLink RX2 86 yX2_mark ∈ zG := zgm (zt5 (List.mem_of_getElem? (i := 90) rfl)) rfl
theorem g1253 : Cond.instanceMethod yX2_mark ∈ zG := zgm (zt5 (List.mem_of_getElem? (i := 92) rfl)) rfl
theorem g1254 : Cond.code yX2_mark cX2_mark 5 none ∈ zG := zgm (zt5 (List.mem_of_getElem? (i := 93) rfl)) rfl
theorem g1255 : Cond.methodLink RX2 89 yJ6_bitCount_0f7a4 ∈ zG := zgm (zt5 (List.mem_of_getElem? (i := 94) rfl)) rfl
theorem g1256 : Cond.methodLinkNest RX2 94 yX5_clashes "SheetFolds" ∈ lw_tbl := (zt5 (List.mem_of_getElem? (i := 95) rfl))
theorem g1257 : Cond.methodLink RL 138 yX8_lacks ∈ zG := zgm (zt5 (List.mem_of_getElem? (i := 96) rfl)) rfl
theorem g1258 : Cond.instanceMethod yX8_lacks ∈ zG := zgm (zt5 (List.mem_of_getElem? (i := 97) rfl)) rfl
theorem g1259 : Cond.selects RX8 yX8_lacks yX8_lacks ∈ zG := zgm (zt5 (List.mem_of_getElem? (i := 98) rfl)) rfl
theorem g1260 : Cond.code yX8_lacks cX8_lacks 2 (some .int) ∈ zG := zgm (zt5 (List.mem_of_getElem? (i := 99) rfl)) rfl
theorem g1261 : Cond.methodLinkNest RX8 317 yX4_leastWidthWithoutTools "SheetFolds" ∈ lw_tbl := (zt5 (List.mem_of_getElem? (i := 100) rfl))
theorem g1263 : Cond.instanceMethod yX4_leastWidthWithoutTools ∈ zG := zgm (zt5 (List.mem_of_getElem? (i := 102) rfl)) rfl
theorem g1264 : Cond.code yX4_leastWidthWithoutTools cX4_leastWidthWithoutTools 3 (some .int) ∈ zG := zgm (zt5 (List.mem_of_getElem? (i := 103) rfl)) rfl
theorem g1265 : Cond.methodLinkNest RX8 320 yX4_countWithoutTools "SheetFolds" ∈ lw_tbl := (zt5 (List.mem_of_getElem? (i := 104) rfl))
theorem g1267 : Cond.instanceMethod yX4_countWithoutTools ∈ zG := zgm (zt5 (List.mem_of_getElem? (i := 106) rfl)) rfl
theorem g1268 : Cond.code yX4_countWithoutTools cX4_countWithoutTools 3 (some .int) ∈ zG := zgm (zt5 (List.mem_of_getElem? (i := 107) rfl)) rfl
theorem g1269 : Cond.methodLink RL 142 yX8_opens ∈ zG := zgm (zt5 (List.mem_of_getElem? (i := 108) rfl)) rfl
theorem g1270 : Cond.instanceMethod yX8_opens ∈ zG := zgm (zt5 (List.mem_of_getElem? (i := 109) rfl)) rfl
theorem g1271 : Cond.selects RX8 yX8_opens yX8_opens ∈ zG := zgm (zt5 (List.mem_of_getElem? (i := 110) rfl)) rfl
theorem g1272 : Cond.code yX8_opens cX8_opens 3 (some .int) ∈ zG := zgm (zt5 (List.mem_of_getElem? (i := 111) rfl)) rfl
theorem g1273 : Cond.methodLink RL 146 yX8_smallest ∈ zG := zgm (zt5 (List.mem_of_getElem? (i := 112) rfl)) rfl
theorem g1274 : Cond.instanceMethod yX8_smallest ∈ zG := zgm (zt5 (List.mem_of_getElem? (i := 113) rfl)) rfl
theorem g1275 : Cond.selects RX8 yX8_smallest yX8_smallest ∈ zG := zgm (zt5 (List.mem_of_getElem? (i := 114) rfl)) rfl
theorem g1276 : Cond.code yX8_smallest cX8_smallest 6 (some .int) ∈ zG := zgm (zt5 (List.mem_of_getElem? (i := 115) rfl)) rfl
theorem g1277 : Cond.methodLinkNest RX8 326 yX4_allBends "SheetFolds" ∈ lw_tbl := (zt5 (List.mem_of_getElem? (i := 116) rfl))
theorem g1278 : Cond.methodLinkNest RX8 329 yX3_isReached "SheetFolds" ∈ lw_tbl := (zt5 (List.mem_of_getElem? (i := 117) rfl))
theorem g1279 : Cond.methodLinkNest RX8 332 yX5_size "SheetFolds" ∈ lw_tbl := (zt5 (List.mem_of_getElem? (i := 118) rfl))
theorem g1281 : Cond.instanceMethod yX5_size ∈ zG := zgm (zt5 (List.mem_of_getElem? (i := 120) rfl)) rfl
theorem g1282 : Cond.code yX5_size cX5_size 2 (some .int) ∈ zG := zgm (zt5 (List.mem_of_getElem? (i := 121) rfl)) rfl
theorem g1283 : Cond.methodLink RX5 141 yX5_extent ∈ zG := zgm (zt5 (List.mem_of_getElem? (i := 122) rfl)) rfl
theorem g1284 : Cond.methodLink RL 150 yX8_between ∈ zG := zgm (zt5 (List.mem_of_getElem? (i := 123) rfl)) rfl
theorem g1285 : Cond.instanceMethod yX8_between ∈ zG := zgm (zt5 (List.mem_of_getElem? (i := 124) rfl)) rfl
theorem g1286 : Cond.selects RX8 yX8_between yX8_between ∈ zG := zgm (zt5 (List.mem_of_getElem? (i := 125) rfl)) rfl
theorem g1287 : Cond.code yX8_between cX8_between 3 (some .int) ∈ zG := zgm (zt5 (List.mem_of_getElem? (i := 126) rfl)) rfl
theorem g1288 : Cond.methodLinkNest RX8 334 yX4_bendsBetween "SheetFolds" ∈ lw_tbl := (zt5 (List.mem_of_getElem? (i := 127) rfl))
theorem g1290 : Cond.instanceMethod yX4_bendsBetween ∈ zG := zgm (zt5 (List.mem_of_getElem? (i := 129) rfl)) rfl
theorem g1291 : Cond.code yX4_bendsBetween cX4_bendsBetween 6 (some .int) ∈ zG := zgm (zt5 (List.mem_of_getElem? (i := 130) rfl)) rfl
theorem g1292 : Cond.methodLink RL 154 yX8_see ∈ zG := zgm (zt5 (List.mem_of_getElem? (i := 131) rfl)) rfl
theorem g1293 : Cond.instanceMethod yX8_see ∈ zG := zgm (zt5 (List.mem_of_getElem? (i := 132) rfl)) rfl
theorem g1294 : Cond.selects RX8 yX8_see yX8_see ∈ zG := zgm (zt5 (List.mem_of_getElem? (i := 133) rfl)) rfl
theorem g1295 : Cond.code yX8_see cX8_see 2 (some .int) ∈ zG := zgm (zt5 (List.mem_of_getElem? (i := 134) rfl)) rfl
theorem g1296 : Cond.methodLinkNest RX8 337 yX1_take "SheetFolds" ∈ lw_tbl := (zt5 (List.mem_of_getElem? (i := 135) rfl))
theorem g1298 : Cond.instanceMethod yX1_take ∈ zG := zgm (zt5 (List.mem_of_getElem? (i := 137) rfl)) rfl
theorem g1299 : Cond.code yX1_take cX1_take 6 (some .boolean) ∈ zG := zgm (zt5 (List.mem_of_getElem? (i := 138) rfl)) rfl
theorem g1300 : Cond.methodLinkNest RX1 24 yX7_at "SheetFolds" ∈ lw_tbl := (zt5 (List.mem_of_getElem? (i := 139) rfl))
theorem g1301 : Cond.methodLinkNest RX1 28 yX4_isBend "SheetFolds" ∈ lw_tbl := (zt5 (List.mem_of_getElem? (i := 140) rfl))
theorem g1302 : Cond.methodLink RL 158 yX8_fits ∈ zG := zgm (zt5 (List.mem_of_getElem? (i := 141) rfl)) rfl
theorem g1303 : Cond.instanceMethod yX8_fits ∈ zG := zgm (zt5 (List.mem_of_getElem? (i := 142) rfl)) rfl
theorem g1304 : Cond.selects RX8 yX8_fits yX8_fits ∈ zG := zgm (zt5 (List.mem_of_getElem? (i := 143) rfl)) rfl
theorem g1305 : Cond.code yX8_fits cX8_fits 3 (some .int) ∈ zG := zgm (zt5 (List.mem_of_getElem? (i := 144) rfl)) rfl
theorem g1306 : Cond.methodLinkNest RX8 341 yX1_fitAt "SheetFolds" ∈ lw_tbl := (zt5 (List.mem_of_getElem? (i := 145) rfl))
theorem g1308 : Cond.instanceMethod yX1_fitAt ∈ zG := zgm (zt5 (List.mem_of_getElem? (i := 147) rfl)) rfl
theorem g1309 : Cond.code yX1_fitAt cX1_fitAt 6 (some .int) ∈ zG := zgm (zt5 (List.mem_of_getElem? (i := 148) rfl)) rfl
theorem g1310 : Cond.methodLink RX1 47 yX1_explains ∈ zG := zgm (zt5 (List.mem_of_getElem? (i := 149) rfl)) rfl
theorem g1312 : Cond.instanceMethod yX1_explains ∈ zG := zgm (zt5 (List.mem_of_getElem? (i := 151) rfl)) rfl
theorem g1313 : Cond.code yX1_explains cX1_explains 8 (some .boolean) ∈ zG := zgm (zt5 (List.mem_of_getElem? (i := 152) rfl)) rfl
theorem g1314 : Cond.methodLinkNest RX1 37 yX4_allowanceOf "SheetFolds" ∈ lw_tbl := (zt5 (List.mem_of_getElem? (i := 153) rfl))
theorem g1315 : Cond.methodLinkNest RX1 40 yX4_lengthOf "SheetFolds" ∈ lw_tbl := (zt5 (List.mem_of_getElem? (i := 154) rfl))
theorem g1316 : Cond.methodLinkNest RX1 43 yX4_timesInLength "SheetFolds" ∈ lw_tbl := (zt5 (List.mem_of_getElem? (i := 155) rfl))
theorem g1318 : Cond.instanceMethod yX4_timesInLength ∈ zG := zgm (zt5 (List.mem_of_getElem? (i := 157) rfl)) rfl
theorem g1319 : Cond.code yX4_timesInLength cX4_timesInLength 6 (some .int) ∈ zG := zgm (zt5 (List.mem_of_getElem? (i := 158) rfl)) rfl
theorem g1320 : Cond.methodLink RL 162 yX8_tells ∈ zG := zgm (zt5 (List.mem_of_getElem? (i := 159) rfl)) rfl
theorem g1321 : Cond.instanceMethod yX8_tells ∈ zG := zgm (zt5 (List.mem_of_getElem? (i := 160) rfl)) rfl
theorem g1322 : Cond.selects RX8 yX8_tells yX8_tells ∈ zG := zgm (zt5 (List.mem_of_getElem? (i := 161) rfl)) rfl
theorem g1323 : Cond.code yX8_tells cX8_tells 5 (some .int) ∈ zG := zgm (zt5 (List.mem_of_getElem? (i := 162) rfl)) rfl
theorem g1324 : Cond.methodLinkNest RX8 345 yX1_tellingFlange "SheetFolds" ∈ lw_tbl := (zt5 (List.mem_of_getElem? (i := 163) rfl))
theorem g1326 : Cond.instanceMethod yX1_tellingFlange ∈ zG := zgm (zt5 (List.mem_of_getElem? (i := 165) rfl)) rfl
theorem g1327 : Cond.code yX1_tellingFlange cX1_tellingFlange 6 (some .int) ∈ zG := zgm (zt5 (List.mem_of_getElem? (i := 166) rfl)) rfl
theorem g1328 : Cond.methodLink RX1 54 yX1_mostLeft ∈ zG := zgm (zt5 (List.mem_of_getElem? (i := 167) rfl)) rfl
theorem g1330 : Cond.instanceMethod yX1_mostLeft ∈ zG := zgm (zt5 (List.mem_of_getElem? (i := 169) rfl)) rfl
theorem g1331 : Cond.code yX1_mostLeft cX1_mostLeft 5 (some .int) ∈ zG := zgm (zt5 (List.mem_of_getElem? (i := 170) rfl)) rfl
theorem g1332 : Cond.methodLinkNest RX8 348 yX1_mostLeft "SheetFolds" ∈ lw_tbl := (zt5 (List.mem_of_getElem? (i := 171) rfl))
theorem g1333 : Cond.methodLink RL 166 yX8_bend ∈ zG := zgm (zt5 (List.mem_of_getElem? (i := 172) rfl)) rfl
theorem g1334 : Cond.instanceMethod yX8_bend ∈ zG := zgm (zt5 (List.mem_of_getElem? (i := 173) rfl)) rfl
theorem g1335 : Cond.selects RX8 yX8_bend yX8_bend ∈ zG := zgm (zt5 (List.mem_of_getElem? (i := 174) rfl)) rfl
theorem g1336 : Cond.code yX8_bend cX8_bend 3 (some .int) ∈ zG := zgm (zt5 (List.mem_of_getElem? (i := 175) rfl)) rfl
theorem g1337 : Cond.methodLink RX8 352 yX8_remember ∈ zG := zgm (zt5 (List.mem_of_getElem? (i := 176) rfl)) rfl
theorem g1339 : Cond.instanceMethod yX8_remember ∈ zG := zgm (zt5 (List.mem_of_getElem? (i := 178) rfl)) rfl
theorem g1340 : Cond.code yX8_remember cX8_remember 1 none ∈ zG := zgm (zt5 (List.mem_of_getElem? (i := 179) rfl)) rfl
theorem g1341 : Cond.methodLinkNest RX8 377 yX0_keep "SheetFolds" ∈ lw_tbl := (zt5 (List.mem_of_getElem? (i := 180) rfl))
theorem g1343 : Cond.instanceMethod yX0_keep ∈ zG := zgm (zt5 (List.mem_of_getElem? (i := 182) rfl)) rfl
theorem g1344 : Cond.code yX0_keep cX0_keep 4 none ∈ zG := zgm (zt5 (List.mem_of_getElem? (i := 183) rfl)) rfl
theorem g1345 : Cond.methodLink RX0 30 (⟨"java/lang/System", "arraycopy", "(Ljava/lang/Object;ILjava/lang/Object;II)V"⟩ : MethodName) ∈ zG := zgm (zt5 (List.mem_of_getElem? (i := 184) rfl)) rfl
theorem g1346 : Cond.methodLink RX0 39 yJ9_min_7cf53 ∈ zG := zgm (zt5 (List.mem_of_getElem? (i := 185) rfl)) rfl
theorem g1347 : Cond.methodLink RX8 355 yX8_setMade ∈ zG := zgm (zt5 (List.mem_of_getElem? (i := 186) rfl)) rfl
theorem g1349 : Cond.instanceMethod yX8_setMade ∈ zG := zgm (zt5 (List.mem_of_getElem? (i := 188) rfl)) rfl
theorem g1350 : Cond.code yX8_setMade cX8_setMade 2 none ∈ zG := zgm (zt5 (List.mem_of_getElem? (i := 189) rfl)) rfl
theorem g1351 : Cond.methodLink RL 170 yX8_open ∈ zG := zgm (zt5 (List.mem_of_getElem? (i := 190) rfl)) rfl
theorem g1352 : Cond.instanceMethod yX8_open ∈ zG := zgm (zt5 (List.mem_of_getElem? (i := 191) rfl)) rfl
theorem g1353 : Cond.selects RX8 yX8_open yX8_open ∈ zG := zgm (zt5 (List.mem_of_getElem? (i := 192) rfl)) rfl
theorem g1354 : Cond.code yX8_open cX8_open 2 (some .boolean) ∈ zG := zgm (zt5 (List.mem_of_getElem? (i := 193) rfl)) rfl
theorem g1355 : Cond.methodLink RL 174 yX8_turn ∈ zG := zgm (zt5 (List.mem_of_getElem? (i := 194) rfl)) rfl
theorem g1356 : Cond.instanceMethod yX8_turn ∈ zG := zgm (zt5 (List.mem_of_getElem? (i := 195) rfl)) rfl
theorem g1357 : Cond.selects RX8 yX8_turn yX8_turn ∈ zG := zgm (zt5 (List.mem_of_getElem? (i := 196) rfl)) rfl
theorem g1358 : Cond.code yX8_turn cX8_turn 2 (some .boolean) ∈ zG := zgm (zt5 (List.mem_of_getElem? (i := 197) rfl)) rfl
theorem g1359 : Cond.methodLink RL 178 yX8_lay ∈ zG := zgm (zt5 (List.mem_of_getElem? (i := 198) rfl)) rfl
theorem g1360 : Cond.instanceMethod yX8_lay ∈ zG := zgm (zt5 (List.mem_of_getElem? (i := 199) rfl)) rfl
theorem g1361 : Cond.selects RX8 yX8_lay yX8_lay ∈ zG := zgm (zt5 (List.mem_of_getElem? (i := 200) rfl)) rfl
theorem g1362 : Cond.code yX8_lay cX8_lay 2 (some .boolean) ∈ zG := zgm (zt5 (List.mem_of_getElem? (i := 201) rfl)) rfl
theorem g1363 : Cond.methodLink RL 182 yX8_follow ∈ zG := zgm (zt5 (List.mem_of_getElem? (i := 202) rfl)) rfl
theorem g1364 : Cond.instanceMethod yX8_follow ∈ zG := zgm (zt5 (List.mem_of_getElem? (i := 203) rfl)) rfl
theorem g1365 : Cond.selects RX8 yX8_follow yX8_follow ∈ zG := zgm (zt5 (List.mem_of_getElem? (i := 204) rfl)) rfl
theorem g1366 : Cond.code yX8_follow cX8_follow 2 (some .int) ∈ zG := zgm (zt5 (List.mem_of_getElem? (i := 205) rfl)) rfl
theorem g1367 : Cond.methodLinkNest RX8 358 yX3_firstOfRow "SheetFolds" ∈ lw_tbl := (zt5 (List.mem_of_getElem? (i := 206) rfl))
theorem g1369 : Cond.instanceMethod yX3_firstOfRow ∈ zG := zgm (zt5 (List.mem_of_getElem? (i := 208) rfl)) rfl
theorem g1370 : Cond.code yX3_firstOfRow cX3_firstOfRow 4 (some .int) ∈ zG := zgm (zt5 (List.mem_of_getElem? (i := 209) rfl)) rfl
theorem g1371 : Cond.methodLink RL 186 yX8_allow ∈ zG := zgm (zt5 (List.mem_of_getElem? (i := 210) rfl)) rfl
theorem g1372 : Cond.instanceMethod yX8_allow ∈ zG := zgm (zt5 (List.mem_of_getElem? (i := 211) rfl)) rfl
theorem g1373 : Cond.selects RX8 yX8_allow yX8_allow ∈ zG := zgm (zt5 (List.mem_of_getElem? (i := 212) rfl)) rfl
theorem g1374 : Cond.code yX8_allow cX8_allow 4 (some .boolean) ∈ zG := zgm (zt5 (List.mem_of_getElem? (i := 213) rfl)) rfl
theorem g1375 : Cond.methodLink RL 191 yX8_press ∈ zG := zgm (zt5 (List.mem_of_getElem? (i := 214) rfl)) rfl
theorem g1376 : Cond.instanceMethod yX8_press ∈ zG := zgm (zt5 (List.mem_of_getElem? (i := 215) rfl)) rfl
theorem g1377 : Cond.selects RX8 yX8_press yX8_press ∈ zG := zgm (zt5 (List.mem_of_getElem? (i := 216) rfl)) rfl
theorem g1378 : Cond.code yX8_press cX8_press 2 (some .boolean) ∈ zG := zgm (zt5 (List.mem_of_getElem? (i := 217) rfl)) rfl
theorem g1379 : Cond.methodLink RL 195 yX8_chance ∈ zG := zgm (zt5 (List.mem_of_getElem? (i := 218) rfl)) rfl
theorem g1380 : Cond.instanceMethod yX8_chance ∈ zG := zgm (zt5 (List.mem_of_getElem? (i := 219) rfl)) rfl
theorem g1381 : Cond.selects RX8 yX8_chance yX8_chance ∈ zG := zgm (zt5 (List.mem_of_getElem? (i := 220) rfl)) rfl
theorem g1382 : Cond.code yX8_chance cX8_chance 3 (some .int) ∈ zG := zgm (zt5 (List.mem_of_getElem? (i := 221) rfl)) rfl
theorem g1383 : Cond.methodLink RX8 368 yX8_draw ∈ zG := zgm (zt5 (List.mem_of_getElem? (i := 222) rfl)) rfl
theorem g1385 : Cond.instanceMethod yX8_draw ∈ zG := zgm (zt5 (List.mem_of_getElem? (i := 224) rfl)) rfl
theorem g1386 : Cond.code yX8_draw cX8_draw 2 (some .int) ∈ zG := zgm (zt5 (List.mem_of_getElem? (i := 225) rfl)) rfl
theorem g1387 : Cond.constantLong RX8 383 (1103515245) ∈ zG := zgm (zt5 (List.mem_of_getElem? (i := 226) rfl)) rfl
theorem g1388 : Cond.constantLong RX8 385 (12345) ∈ zG := zgm (zt5 (List.mem_of_getElem? (i := 227) rfl)) rfl
theorem g1389 : Cond.constantLong RX8 387 (2147483647) ∈ zG := zgm (zt5 (List.mem_of_getElem? (i := 228) rfl)) rfl
theorem g1390 : Cond.methodLink RX8 371 yX8_tryOne ∈ zG := zgm (zt5 (List.mem_of_getElem? (i := 229) rfl)) rfl
theorem g1392 : Cond.instanceMethod yX8_tryOne ∈ zG := zgm (zt5 (List.mem_of_getElem? (i := 231) rfl)) rfl
theorem g1393 : Cond.code yX8_tryOne cX8_tryOne 2 none ∈ zG := zgm (zt5 (List.mem_of_getElem? (i := 232) rfl)) rfl
theorem g1394 : Cond.methodLink RL 199 yX8_undo ∈ zG := zgm (zt5 (List.mem_of_getElem? (i := 233) rfl)) rfl
theorem g1395 : Cond.instanceMethod yX8_undo ∈ zG := zgm (zt5 (List.mem_of_getElem? (i := 234) rfl)) rfl
theorem g1396 : Cond.selects RX8 yX8_undo yX8_undo ∈ zG := zgm (zt5 (List.mem_of_getElem? (i := 235) rfl)) rfl
theorem g1397 : Cond.code yX8_undo cX8_undo 1 (some .boolean) ∈ zG := zgm (zt5 (List.mem_of_getElem? (i := 236) rfl)) rfl
theorem g1398 : Cond.methodLinkNest RX8 374 yX0_takeBack "SheetFolds" ∈ lw_tbl := (zt5 (List.mem_of_getElem? (i := 237) rfl))
theorem g1400 : Cond.instanceMethod yX0_takeBack ∈ zG := zgm (zt5 (List.mem_of_getElem? (i := 239) rfl)) rfl
theorem g1401 : Cond.code yX0_takeBack cX0_takeBack 3 (some .int) ∈ zG := zgm (zt6 (List.mem_of_getElem? (i := 0) rfl)) rfl
theorem g1402 : Cond.methodLink RX0 45 yJ9_max_7cf53 ∈ zG := zgm (zt6 (List.mem_of_getElem? (i := 1) rfl)) rfl
theorem g1403 : Cond.methodLink RL 204 yX8_seed ∈ zG := zgm (zt6 (List.mem_of_getElem? (i := 2) rfl)) rfl
theorem g1404 : Cond.instanceMethod yX8_seed ∈ zG := zgm (zt6 (List.mem_of_getElem? (i := 3) rfl)) rfl
theorem g1405 : Cond.selects RX8 yX8_seed yX8_seed ∈ zG := zgm (zt6 (List.mem_of_getElem? (i := 4) rfl)) rfl
theorem g1406 : Cond.code yX8_seed cX8_seed 2 (some .boolean) ∈ zG := zgm (zt6 (List.mem_of_getElem? (i := 5) rfl)) rfl
theorem g1407 : Cond.methodLink RL 208 yX8_status ∈ zG := zgm (zt6 (List.mem_of_getElem? (i := 6) rfl)) rfl
theorem g1408 : Cond.instanceMethod yX8_status ∈ zG := zgm (zt6 (List.mem_of_getElem? (i := 7) rfl)) rfl
theorem g1409 : Cond.selects RX8 yX8_status yX8_status ∈ zG := zgm (zt6 (List.mem_of_getElem? (i := 8) rfl)) rfl
theorem g1410 : Cond.code yX8_status cX8_status 2 (some .int) ∈ zG := zgm (zt6 (List.mem_of_getElem? (i := 9) rfl)) rfl
theorem g1411 : Cond.classLink RL 10 RX9 ∈ zG := zgm (zt6 (List.mem_of_getElem? (i := 10) rfl)) rfl
theorem g1412 : Cond.instantiable RX9 37 ∈ zG := zgm (zt6 (List.mem_of_getElem? (i := 11) rfl)) rfl
theorem g1413 : Cond.methodLink RL 12 yX9_init ∈ zG := zgm (zt6 (List.mem_of_getElem? (i := 12) rfl)) rfl
theorem g1414 : Cond.instanceMethod yX9_init ∈ zG := zgm (zt6 (List.mem_of_getElem? (i := 13) rfl)) rfl
theorem g1415 : Cond.code yX9_init cX9_init 1 none ∈ zG := zgm (zt6 (List.mem_of_getElem? (i := 14) rfl)) rfl
theorem g1416 : Cond.methodLink RX9 1 objectInit ∈ zG := zgm (zt6 (List.mem_of_getElem? (i := 15) rfl)) rfl
theorem g1417 : Cond.fieldLink RX9 7 "SheetFoldsModel" "told" "[I" ∈ zG := zgm (zt6 (List.mem_of_getElem? (i := 16) rfl)) rfl
theorem g1418 : Cond.fieldLink RX9 13 "SheetFoldsModel" "read" "[I" ∈ zG := zgm (zt6 (List.mem_of_getElem? (i := 17) rfl)) rfl
theorem g1419 : Cond.fieldLink RX9 16 "SheetFoldsModel" "now" "[I" ∈ zG := zgm (zt6 (List.mem_of_getElem? (i := 18) rfl)) rfl
theorem g1420 : Cond.fieldLink RX9 19 "SheetFoldsModel" "readNow" "[I" ∈ zG := zgm (zt6 (List.mem_of_getElem? (i := 19) rfl)) rfl
theorem g1421 : Cond.fieldLink RX9 22 "SheetFoldsModel" "kept" "[I" ∈ zG := zgm (zt6 (List.mem_of_getElem? (i := 20) rfl)) rfl
theorem g1422 : Cond.fieldLink RX9 25 "SheetFoldsModel" "undone" "I" ∈ zG := zgm (zt6 (List.mem_of_getElem? (i := 21) rfl)) rfl
theorem g1423 : Cond.fieldLink RX9 29 "SheetFoldsModel" "seed" "I" ∈ zG := zgm (zt6 (List.mem_of_getElem? (i := 22) rfl)) rfl
theorem g1424 : Cond.fieldLink RX9 32 "SheetFoldsModel" "hasPart" "Z" ∈ zG := zgm (zt6 (List.mem_of_getElem? (i := 23) rfl)) rfl
theorem g1425 : Cond.fieldLink RX9 36 "SheetFoldsModel" "tape" "[I" ∈ zG := zgm (zt6 (List.mem_of_getElem? (i := 24) rfl)) rfl
theorem g1426 : Cond.fieldLink RX9 39 "SheetFoldsModel" "taped" "I" ∈ zG := zgm (zt6 (List.mem_of_getElem? (i := 25) rfl)) rfl
theorem g1427 : Cond.fieldLink RX9 42 "SheetFoldsModel" "refused" "[I" ∈ zG := zgm (zt6 (List.mem_of_getElem? (i := 26) rfl)) rfl
theorem g1428 : Cond.fieldLink RX9 45 "SheetFoldsModel" "faultKind" "I" ∈ zG := zgm (zt6 (List.mem_of_getElem? (i := 27) rfl)) rfl
theorem g1429 : Cond.fieldLink RX9 48 "SheetFoldsModel" "faultPlace" "I" ∈ zG := zgm (zt6 (List.mem_of_getElem? (i := 28) rfl)) rfl
theorem g1430 : Cond.fieldLink RX9 51 "SheetFoldsModel" "size" "I" ∈ zG := zgm (zt6 (List.mem_of_getElem? (i := 29) rfl)) rfl
theorem g1431 : Cond.fieldLink RX9 54 "SheetFoldsModel" "at" "I" ∈ zG := zgm (zt6 (List.mem_of_getElem? (i := 30) rfl)) rfl
theorem g1432 : Cond.fieldLink RX9 57 "SheetFoldsModel" "from" "I" ∈ zG := zgm (zt6 (List.mem_of_getElem? (i := 31) rfl)) rfl
theorem g1433 : Cond.fieldLink RX9 60 "SheetFoldsModel" "wrong" "I" ∈ zG := zgm (zt6 (List.mem_of_getElem? (i := 32) rfl)) rfl
theorem g1434 : Cond.fieldLink RX9 63 "SheetFoldsModel" "wrongAt" "I" ∈ zG := zgm (zt6 (List.mem_of_getElem? (i := 33) rfl)) rfl
theorem g1435 : Cond.fieldLink RX9 66 "SheetFoldsModel" "ownLetters" "[I" ∈ zG := zgm (zt6 (List.mem_of_getElem? (i := 34) rfl)) rfl
theorem g1436 : Cond.fieldLink RX9 69 "SheetFoldsModel" "flats" "[I" ∈ zG := zgm (zt6 (List.mem_of_getElem? (i := 35) rfl)) rfl
theorem g1437 : Cond.fieldLink RX9 72 "SheetFoldsModel" "isLaid" "Z" ∈ zG := zgm (zt6 (List.mem_of_getElem? (i := 36) rfl)) rfl
theorem g1438 : Cond.fieldLink RX9 75 "SheetFoldsModel" "corner" "[I" ∈ zG := zgm (zt6 (List.mem_of_getElem? (i := 37) rfl)) rfl
theorem g1439 : Cond.fieldLink RX9 78 "SheetFoldsModel" "wayX" "[I" ∈ zG := zgm (zt6 (List.mem_of_getElem? (i := 38) rfl)) rfl
theorem g1440 : Cond.fieldLink RX9 81 "SheetFoldsModel" "wayY" "[I" ∈ zG := zgm (zt6 (List.mem_of_getElem? (i := 39) rfl)) rfl
theorem g1441 : Cond.fieldLink RX9 84 "SheetFoldsModel" "normal" "[I" ∈ zG := zgm (zt6 (List.mem_of_getElem? (i := 40) rfl)) rfl
theorem g1442 : Cond.fieldLink RX9 87 "SheetFoldsModel" "low" "[I" ∈ zG := zgm (zt6 (List.mem_of_getElem? (i := 41) rfl)) rfl
theorem g1443 : Cond.fieldLink RX9 90 "SheetFoldsModel" "high" "[I" ∈ zG := zgm (zt6 (List.mem_of_getElem? (i := 42) rfl)) rfl
theorem g1444 : Cond.fieldLink RX9 93 "SheetFoldsModel" "clear" "[I" ∈ zG := zgm (zt6 (List.mem_of_getElem? (i := 43) rfl)) rfl
theorem g1445 : Cond.fieldLink RX9 96 "SheetFoldsModel" "ways" "[I" ∈ zG := zgm (zt6 (List.mem_of_getElem? (i := 44) rfl)) rfl
theorem g1446 : Cond.fieldLink RX9 99 "SheetFoldsModel" "canBe" "[Z" ∈ zG := zgm (zt6 (List.mem_of_getElem? (i := 45) rfl)) rfl
theorem g1447 : Cond.fieldLink RX9 103 "SheetFoldsModel" "lain" "[I" ∈ zG := zgm (zt6 (List.mem_of_getElem? (i := 46) rfl)) rfl
theorem g1448 : Cond.fieldLink RX9 106 "SheetFoldsModel" "canTool" "I" ∈ zG := zgm (zt6 (List.mem_of_getElem? (i := 47) rfl)) rfl
theorem g1449 : Cond.fieldLink RX9 109 "SheetFoldsModel" "fewestBy" "[I" ∈ zG := zgm (zt6 (List.mem_of_getElem? (i := 48) rfl)) rfl
theorem g1450 : Cond.fieldLink RX9 112 "SheetFoldsModel" "sortOf" "[I" ∈ zG := zgm (zt6 (List.mem_of_getElem? (i := 49) rfl)) rfl
theorem g1451 : Cond.fieldLink RX9 115 "SheetFoldsModel" "rows" "I" ∈ zG := zgm (zt6 (List.mem_of_getElem? (i := 50) rfl)) rfl
theorem g1452 : Cond.fieldLink RX9 118 "SheetFoldsModel" "seenFlange" "[I" ∈ zG := zgm (zt6 (List.mem_of_getElem? (i := 51) rfl)) rfl
theorem g1453 : Cond.fieldLink RX9 121 "SheetFoldsModel" "seenLength" "[I" ∈ zG := zgm (zt6 (List.mem_of_getElem? (i := 52) rfl)) rfl
theorem g1529 : Cond.arrayClass .boolean ∈ zG := zgm (zt6 (List.mem_of_getElem? (i := 128) rfl)) rfl
theorem g1530 : Cond.methodLink RL 17 yX9_feed ∈ zG := zgm (zt6 (List.mem_of_getElem? (i := 129) rfl)) rfl
theorem g1531 : Cond.instanceMethod yX9_feed ∈ zG := zgm (zt6 (List.mem_of_getElem? (i := 130) rfl)) rfl
theorem g1532 : Cond.selects RX9 yX9_feed yX9_feed ∈ zG := zgm (zt6 (List.mem_of_getElem? (i := 131) rfl)) rfl
theorem g1533 : Cond.code yX9_feed cX9_feed 6 (some .int) ∈ zG := zgm (zt6 (List.mem_of_getElem? (i := 132) rfl)) rfl
theorem g1534 : Cond.methodLink RX9 124 yX9_refuses ∈ zG := zgm (zt6 (List.mem_of_getElem? (i := 133) rfl)) rfl
theorem g1536 : Cond.instanceMethod yX9_refuses ∈ zG := zgm (zt6 (List.mem_of_getElem? (i := 135) rfl)) rfl
theorem g1537 : Cond.code yX9_refuses cX9_refuses 2 (some .int) ∈ zG := zgm (zt6 (List.mem_of_getElem? (i := 136) rfl)) rfl
theorem g1538 : Cond.methodLink RX9 128 yX9_lays ∈ zG := zgm (zt6 (List.mem_of_getElem? (i := 137) rfl)) rfl
theorem g1540 : Cond.instanceMethod yX9_lays ∈ zG := zgm (zt6 (List.mem_of_getElem? (i := 139) rfl)) rfl
theorem g1541 : Cond.code yX9_lays cX9_lays 3 none ∈ zG := zgm (zt6 (List.mem_of_getElem? (i := 140) rfl)) rfl
theorem g1542 : Cond.methodLink RL 22 yX9_end ∈ zG := zgm (zt6 (List.mem_of_getElem? (i := 141) rfl)) rfl
theorem g1543 : Cond.instanceMethod yX9_end ∈ zG := zgm (zt6 (List.mem_of_getElem? (i := 142) rfl)) rfl
theorem g1544 : Cond.selects RX9 yX9_end yX9_end ∈ zG := zgm (zt6 (List.mem_of_getElem? (i := 143) rfl)) rfl
theorem g1545 : Cond.code yX9_end cX9_end 2 (some .boolean) ∈ zG := zgm (zt6 (List.mem_of_getElem? (i := 144) rfl)) rfl
theorem g1546 : Cond.methodLink RX9 132 yX9_isRefused ∈ zG := zgm (zt6 (List.mem_of_getElem? (i := 145) rfl)) rfl
theorem g1548 : Cond.instanceMethod yX9_isRefused ∈ zG := zgm (zt6 (List.mem_of_getElem? (i := 147) rfl)) rfl
theorem g1549 : Cond.code yX9_isRefused cX9_isRefused 2 (some .boolean) ∈ zG := zgm (zt6 (List.mem_of_getElem? (i := 148) rfl)) rfl
theorem g1550 : Cond.methodLink RL 27 yX9_part ∈ zG := zgm (zt6 (List.mem_of_getElem? (i := 149) rfl)) rfl
theorem g1551 : Cond.instanceMethod yX9_part ∈ zG := zgm (zt6 (List.mem_of_getElem? (i := 150) rfl)) rfl
theorem g1552 : Cond.selects RX9 yX9_part yX9_part ∈ zG := zgm (zt6 (List.mem_of_getElem? (i := 151) rfl)) rfl
theorem g1553 : Cond.code yX9_part cX9_part 3 (some .int) ∈ zG := zgm (zt6 (List.mem_of_getElem? (i := 152) rfl)) rfl
theorem g1554 : Cond.methodLink RX9 210 yX9_taken ∈ zG := zgm (zt6 (List.mem_of_getElem? (i := 153) rfl)) rfl
theorem g1556 : Cond.instanceMethod yX9_taken ∈ zG := zgm (zt6 (List.mem_of_getElem? (i := 155) rfl)) rfl
theorem g1557 : Cond.code yX9_taken cX9_taken 2 (some .int) ∈ zG := zgm (zt6 (List.mem_of_getElem? (i := 156) rfl)) rfl
theorem g1558 : Cond.methodLink RX9 213 yX9_readsAll ∈ zG := zgm (zt6 (List.mem_of_getElem? (i := 157) rfl)) rfl
theorem g1560 : Cond.instanceMethod yX9_readsAll ∈ zG := zgm (zt6 (List.mem_of_getElem? (i := 159) rfl)) rfl
theorem g1561 : Cond.code yX9_readsAll cX9_readsAll 3 (some .int) ∈ zG := zgm (zt6 (List.mem_of_getElem? (i := 160) rfl)) rfl
theorem g1562 : Cond.methodLink RX9 167 yX9_must ∈ zG := zgm (zt6 (List.mem_of_getElem? (i := 161) rfl)) rfl
theorem g1564 : Cond.instanceMethod yX9_must ∈ zG := zgm (zt6 (List.mem_of_getElem? (i := 163) rfl)) rfl
theorem g1565 : Cond.code yX9_must cX9_must 2 none ∈ zG := zgm (zt6 (List.mem_of_getElem? (i := 164) rfl)) rfl
theorem g1566 : Cond.methodLink RX9 157 yX9_word ∈ zG := zgm (zt6 (List.mem_of_getElem? (i := 165) rfl)) rfl
theorem g1568 : Cond.instanceMethod yX9_word ∈ zG := zgm (zt6 (List.mem_of_getElem? (i := 167) rfl)) rfl
theorem g1569 : Cond.code yX9_word cX9_word 1 none ∈ zG := zgm (zt6 (List.mem_of_getElem? (i := 168) rfl)) rfl
theorem g1570 : Cond.methodLink RX9 139 yX9_goesWell ∈ zG := zgm (zt6 (List.mem_of_getElem? (i := 169) rfl)) rfl
theorem g1572 : Cond.instanceMethod yX9_goesWell ∈ zG := zgm (zt6 (List.mem_of_getElem? (i := 171) rfl)) rfl
theorem g1573 : Cond.code yX9_goesWell cX9_goesWell 1 (some .boolean) ∈ zG := zgm (zt6 (List.mem_of_getElem? (i := 172) rfl)) rfl
theorem g1574 : Cond.methodLink RX9 143 yX9_here ∈ zG := zgm (zt6 (List.mem_of_getElem? (i := 173) rfl)) rfl
theorem g1576 : Cond.instanceMethod yX9_here ∈ zG := zgm (zt6 (List.mem_of_getElem? (i := 175) rfl)) rfl
theorem g1577 : Cond.code yX9_here cX9_here 1 (some .int) ∈ zG := zgm (zt6 (List.mem_of_getElem? (i := 176) rfl)) rfl
theorem g1578 : Cond.methodLink RX9 136 yX9_byteAt ∈ zG := zgm (zt6 (List.mem_of_getElem? (i := 177) rfl)) rfl
theorem g1580 : Cond.instanceMethod yX9_byteAt ∈ zG := zgm (zt6 (List.mem_of_getElem? (i := 179) rfl)) rfl
theorem g1581 : Cond.code yX9_byteAt cX9_byteAt 2 (some .int) ∈ zG := zgm (zt6 (List.mem_of_getElem? (i := 180) rfl)) rfl
theorem g1582 : Cond.methodLink RX9 147 yX9_isSmall ∈ zG := zgm (zt6 (List.mem_of_getElem? (i := 181) rfl)) rfl
theorem g1584 : Cond.instanceMethod yX9_isSmall ∈ zG := zgm (zt6 (List.mem_of_getElem? (i := 183) rfl)) rfl
theorem g1585 : Cond.code yX9_isSmall cX9_isSmall 2 (some .boolean) ∈ zG := zgm (zt6 (List.mem_of_getElem? (i := 184) rfl)) rfl
theorem g1586 : Cond.methodLink RX9 150 yX9_isDigit ∈ zG := zgm (zt6 (List.mem_of_getElem? (i := 185) rfl)) rfl
theorem g1588 : Cond.instanceMethod yX9_isDigit ∈ zG := zgm (zt6 (List.mem_of_getElem? (i := 187) rfl)) rfl
theorem g1589 : Cond.code yX9_isDigit cX9_isDigit 2 (some .boolean) ∈ zG := zgm (zt6 (List.mem_of_getElem? (i := 188) rfl)) rfl
theorem g1590 : Cond.methodLink RX9 153 yX9_faults ∈ zG := zgm (zt6 (List.mem_of_getElem? (i := 189) rfl)) rfl
theorem g1592 : Cond.instanceMethod yX9_faults ∈ zG := zgm (zt6 (List.mem_of_getElem? (i := 191) rfl)) rfl
theorem g1593 : Cond.code yX9_faults cX9_faults 3 none ∈ zG := zgm (zt6 (List.mem_of_getElem? (i := 192) rfl)) rfl
theorem g1594 : Cond.methodLink RX9 160 yX9_own ∈ zG := zgm (zt6 (List.mem_of_getElem? (i := 193) rfl)) rfl
theorem g1596 : Cond.instanceMethod yX9_own ∈ zG := zgm (zt6 (List.mem_of_getElem? (i := 195) rfl)) rfl
theorem g1597 : Cond.code yX9_own cX9_own 4 (some .int) ∈ zG := zgm (zt6 (List.mem_of_getElem? (i := 196) rfl)) rfl
theorem g1598 : Cond.methodLink RX9 193 yX9_after ∈ zG := zgm (zt6 (List.mem_of_getElem? (i := 197) rfl)) rfl
theorem g1600 : Cond.instanceMethod yX9_after ∈ zG := zgm (zt6 (List.mem_of_getElem? (i := 199) rfl)) rfl
theorem g1601 : Cond.code yX9_after cX9_after 4 (some .int) ∈ zG := zgm (zt6 (List.mem_of_getElem? (i := 200) rfl)) rfl
theorem g1602 : Cond.methodLink RX9 170 yX9_number ∈ zG := zgm (zt6 (List.mem_of_getElem? (i := 201) rfl)) rfl
theorem g1604 : Cond.instanceMethod yX9_number ∈ zG := zgm (zt6 (List.mem_of_getElem? (i := 203) rfl)) rfl
theorem g1605 : Cond.code yX9_number cX9_number 4 (some .int) ∈ zG := zgm (zt6 (List.mem_of_getElem? (i := 204) rfl)) rfl
theorem g1606 : Cond.methodLink RX9 163 yX9_isIn ∈ zG := zgm (zt6 (List.mem_of_getElem? (i := 205) rfl)) rfl
theorem g1607 : Cond.static yX9_isIn ∈ zG := zgm (zt6 (List.mem_of_getElem? (i := 206) rfl)) rfl
theorem g1608 : Cond.code yX9_isIn cX9_isIn 3 (some .boolean) ∈ zG := zgm (zt6 (List.mem_of_getElem? (i := 207) rfl)) rfl
theorem g1609 : Cond.methodLink RX9 204 yX9_endsWell ∈ zG := zgm (zt6 (List.mem_of_getElem? (i := 208) rfl)) rfl
theorem g1611 : Cond.instanceMethod yX9_endsWell ∈ zG := zgm (zt6 (List.mem_of_getElem? (i := 210) rfl)) rfl
theorem g1612 : Cond.code yX9_endsWell cX9_endsWell 1 none ∈ zG := zgm (zt6 (List.mem_of_getElem? (i := 211) rfl)) rfl
theorem g1613 : Cond.methodLink RX9 207 yX9_readsLine ∈ zG := zgm (zt6 (List.mem_of_getElem? (i := 212) rfl)) rfl
theorem g1615 : Cond.instanceMethod yX9_readsLine ∈ zG := zgm (zt6 (List.mem_of_getElem? (i := 214) rfl)) rfl
theorem g1616 : Cond.code yX9_readsLine cX9_readsLine 4 none ∈ zG := zgm (zt6 (List.mem_of_getElem? (i := 215) rfl)) rfl
theorem g1617 : Cond.methodLink RX9 201 yX9_readsFlange ∈ zG := zgm (zt6 (List.mem_of_getElem? (i := 216) rfl)) rfl
theorem g1619 : Cond.instanceMethod yX9_readsFlange ∈ zG := zgm (zt6 (List.mem_of_getElem? (i := 218) rfl)) rfl
theorem g1620 : Cond.code yX9_readsFlange cX9_readsFlange 5 none ∈ zG := zgm (zt6 (List.mem_of_getElem? (i := 219) rfl)) rfl
theorem g1621 : Cond.methodLink RX9 187 yX9_name ∈ zG := zgm (zt6 (List.mem_of_getElem? (i := 220) rfl)) rfl
theorem g1623 : Cond.instanceMethod yX9_name ∈ zG := zgm (zt6 (List.mem_of_getElem? (i := 222) rfl)) rfl
theorem g1624 : Cond.code yX9_name cX9_name 1 none ∈ zG := zgm (zt6 (List.mem_of_getElem? (i := 223) rfl)) rfl
theorem g1625 : Cond.methodLink RX9 190 yX9_named ∈ zG := zgm (zt6 (List.mem_of_getElem? (i := 224) rfl)) rfl
theorem g1627 : Cond.instanceMethod yX9_named ∈ zG := zgm (zt6 (List.mem_of_getElem? (i := 226) rfl)) rfl
theorem g1628 : Cond.code yX9_named cX9_named 4 (some .int) ∈ zG := zgm (zt6 (List.mem_of_getElem? (i := 227) rfl)) rfl
theorem g1629 : Cond.methodLink RX9 174 yX9_signAt ∈ zG := zgm (zt6 (List.mem_of_getElem? (i := 228) rfl)) rfl
theorem g1631 : Cond.instanceMethod yX9_signAt ∈ zG := zgm (zt6 (List.mem_of_getElem? (i := 230) rfl)) rfl
theorem g1632 : Cond.code yX9_signAt cX9_signAt 2 (some .int) ∈ zG := zgm (zt6 (List.mem_of_getElem? (i := 231) rfl)) rfl
theorem g1633 : Cond.methodLink RX9 197 yX9_readsWidth ∈ zG := zgm (zt6 (List.mem_of_getElem? (i := 232) rfl)) rfl
theorem g1635 : Cond.instanceMethod yX9_readsWidth ∈ zG := zgm (zt6 (List.mem_of_getElem? (i := 234) rfl)) rfl
theorem g1636 : Cond.code yX9_readsWidth cX9_readsWidth 7 none ∈ zG := zgm (zt6 (List.mem_of_getElem? (i := 235) rfl)) rfl
theorem g1637 : Cond.methodLink RX9 177 yX9_sideOf ∈ zG := zgm (zt6 (List.mem_of_getElem? (i := 236) rfl)) rfl
theorem g1638 : Cond.static yX9_sideOf ∈ zG := zgm (zt6 (List.mem_of_getElem? (i := 237) rfl)) rfl
theorem g1639 : Cond.code yX9_sideOf cX9_sideOf 4 (some .int) ∈ zG := zgm (zt6 (List.mem_of_getElem? (i := 238) rfl)) rfl
theorem g1640 : Cond.methodLink RX9 181 yX9_lesser ∈ zG := zgm (zt6 (List.mem_of_getElem? (i := 239) rfl)) rfl
theorem g1641 : Cond.static yX9_lesser ∈ zG := zgm (zt7 (List.mem_of_getElem? (i := 0) rfl)) rfl
theorem g1642 : Cond.code yX9_lesser cX9_lesser 2 (some .int) ∈ zG := zgm (zt7 (List.mem_of_getElem? (i := 1) rfl)) rfl
theorem g1643 : Cond.methodLink RX9 184 yX9_greater ∈ zG := zgm (zt7 (List.mem_of_getElem? (i := 2) rfl)) rfl
theorem g1644 : Cond.static yX9_greater ∈ zG := zgm (zt7 (List.mem_of_getElem? (i := 3) rfl)) rfl
theorem g1645 : Cond.code yX9_greater cX9_greater 2 (some .int) ∈ zG := zgm (zt7 (List.mem_of_getElem? (i := 4) rfl)) rfl
theorem g1646 : Cond.methodLink RL 32 yX9_fault ∈ zG := zgm (zt7 (List.mem_of_getElem? (i := 5) rfl)) rfl
theorem g1647 : Cond.instanceMethod yX9_fault ∈ zG := zgm (zt7 (List.mem_of_getElem? (i := 6) rfl)) rfl
theorem g1648 : Cond.selects RX9 yX9_fault yX9_fault ∈ zG := zgm (zt7 (List.mem_of_getElem? (i := 7) rfl)) rfl
theorem g1649 : Cond.code yX9_fault cX9_fault 2 (some .int) ∈ zG := zgm (zt7 (List.mem_of_getElem? (i := 8) rfl)) rfl
theorem g1650 : Cond.methodLink RL 36 yX9_has ∈ zG := zgm (zt7 (List.mem_of_getElem? (i := 9) rfl)) rfl
theorem g1651 : Cond.instanceMethod yX9_has ∈ zG := zgm (zt7 (List.mem_of_getElem? (i := 10) rfl)) rfl
theorem g1652 : Cond.selects RX9 yX9_has yX9_has ∈ zG := zgm (zt7 (List.mem_of_getElem? (i := 11) rfl)) rfl
theorem g1653 : Cond.code yX9_has cX9_has 2 (some .int) ∈ zG := zgm (zt7 (List.mem_of_getElem? (i := 12) rfl)) rfl
theorem g1654 : Cond.methodLink RL 41 yX9_letter ∈ zG := zgm (zt7 (List.mem_of_getElem? (i := 13) rfl)) rfl
theorem g1655 : Cond.instanceMethod yX9_letter ∈ zG := zgm (zt7 (List.mem_of_getElem? (i := 14) rfl)) rfl
theorem g1656 : Cond.selects RX9 yX9_letter yX9_letter ∈ zG := zgm (zt7 (List.mem_of_getElem? (i := 15) rfl)) rfl
theorem g1657 : Cond.code yX9_letter cX9_letter 3 (some .int) ∈ zG := zgm (zt7 (List.mem_of_getElem? (i := 16) rfl)) rfl
theorem g1658 : Cond.methodLink RX9 229 yX9_isFlange ∈ zG := zgm (zt7 (List.mem_of_getElem? (i := 17) rfl)) rfl
theorem g1660 : Cond.instanceMethod yX9_isFlange ∈ zG := zgm (zt7 (List.mem_of_getElem? (i := 19) rfl)) rfl
theorem g1661 : Cond.code yX9_isFlange cX9_isFlange 2 (some .boolean) ∈ zG := zgm (zt7 (List.mem_of_getElem? (i := 20) rfl)) rfl
theorem g1662 : Cond.methodLink RX9 219 yX9_flangeMany ∈ zG := zgm (zt7 (List.mem_of_getElem? (i := 21) rfl)) rfl
theorem g1664 : Cond.instanceMethod yX9_flangeMany ∈ zG := zgm (zt7 (List.mem_of_getElem? (i := 23) rfl)) rfl
theorem g1665 : Cond.code yX9_flangeMany cX9_flangeMany 1 (some .int) ∈ zG := zgm (zt7 (List.mem_of_getElem? (i := 24) rfl)) rfl
theorem g1666 : Cond.methodLink RL 45 yX9_flange ∈ zG := zgm (zt7 (List.mem_of_getElem? (i := 25) rfl)) rfl
theorem g1667 : Cond.instanceMethod yX9_flange ∈ zG := zgm (zt7 (List.mem_of_getElem? (i := 26) rfl)) rfl
theorem g1668 : Cond.selects RX9 yX9_flange yX9_flange ∈ zG := zgm (zt7 (List.mem_of_getElem? (i := 27) rfl)) rfl
theorem g1669 : Cond.code yX9_flange cX9_flange 3 (some .int) ∈ zG := zgm (zt7 (List.mem_of_getElem? (i := 28) rfl)) rfl
theorem g1670 : Cond.methodLink RX9 235 yX9_isBend ∈ zG := zgm (zt7 (List.mem_of_getElem? (i := 29) rfl)) rfl
theorem g1672 : Cond.instanceMethod yX9_isBend ∈ zG := zgm (zt7 (List.mem_of_getElem? (i := 31) rfl)) rfl
theorem g1673 : Cond.code yX9_isBend cX9_isBend 2 (some .boolean) ∈ zG := zgm (zt7 (List.mem_of_getElem? (i := 32) rfl)) rfl
theorem g1674 : Cond.methodLink RX9 216 yX9_bendMany ∈ zG := zgm (zt7 (List.mem_of_getElem? (i := 33) rfl)) rfl
theorem g1676 : Cond.instanceMethod yX9_bendMany ∈ zG := zgm (zt7 (List.mem_of_getElem? (i := 35) rfl)) rfl
theorem g1677 : Cond.code yX9_bendMany cX9_bendMany 1 (some .int) ∈ zG := zgm (zt7 (List.mem_of_getElem? (i := 36) rfl)) rfl
theorem g1678 : Cond.methodLink RX9 238 yX9_hangMany ∈ zG := zgm (zt7 (List.mem_of_getElem? (i := 37) rfl)) rfl
theorem g1680 : Cond.instanceMethod yX9_hangMany ∈ zG := zgm (zt7 (List.mem_of_getElem? (i := 39) rfl)) rfl
theorem g1681 : Cond.code yX9_hangMany cX9_hangMany 4 (some .int) ∈ zG := zgm (zt7 (List.mem_of_getElem? (i := 40) rfl)) rfl
theorem g1682 : Cond.methodLink RX9 241 yX9_depthOf ∈ zG := zgm (zt7 (List.mem_of_getElem? (i := 41) rfl)) rfl
theorem g1684 : Cond.instanceMethod yX9_depthOf ∈ zG := zgm (zt7 (List.mem_of_getElem? (i := 43) rfl)) rfl
theorem g1685 : Cond.code yX9_depthOf cX9_depthOf 4 (some .int) ∈ zG := zgm (zt7 (List.mem_of_getElem? (i := 44) rfl)) rfl
theorem g1686 : Cond.methodLink RX9 244 yX9_lengthOf ∈ zG := zgm (zt7 (List.mem_of_getElem? (i := 45) rfl)) rfl
theorem g1688 : Cond.instanceMethod yX9_lengthOf ∈ zG := zgm (zt7 (List.mem_of_getElem? (i := 47) rfl)) rfl
theorem g1689 : Cond.code yX9_lengthOf cX9_lengthOf 4 (some .int) ∈ zG := zgm (zt7 (List.mem_of_getElem? (i := 48) rfl)) rfl
theorem g1690 : Cond.methodLink RX9 232 yX9_allowanceOf ∈ zG := zgm (zt7 (List.mem_of_getElem? (i := 49) rfl)) rfl
theorem g1692 : Cond.instanceMethod yX9_allowanceOf ∈ zG := zgm (zt7 (List.mem_of_getElem? (i := 51) rfl)) rfl
theorem g1693 : Cond.code yX9_allowanceOf cX9_allowanceOf 2 (some .int) ∈ zG := zgm (zt7 (List.mem_of_getElem? (i := 52) rfl)) rfl
theorem g1694 : Cond.methodLink RL 49 yX9_tool ∈ zG := zgm (zt7 (List.mem_of_getElem? (i := 53) rfl)) rfl
theorem g1695 : Cond.instanceMethod yX9_tool ∈ zG := zgm (zt7 (List.mem_of_getElem? (i := 54) rfl)) rfl
theorem g1696 : Cond.selects RX9 yX9_tool yX9_tool ∈ zG := zgm (zt7 (List.mem_of_getElem? (i := 55) rfl)) rfl
theorem g1697 : Cond.code yX9_tool cX9_tool 2 (some .int) ∈ zG := zgm (zt7 (List.mem_of_getElem? (i := 56) rfl)) rfl
theorem g1698 : Cond.methodLink RL 53 yX9_allowance ∈ zG := zgm (zt7 (List.mem_of_getElem? (i := 57) rfl)) rfl
theorem g1699 : Cond.instanceMethod yX9_allowance ∈ zG := zgm (zt7 (List.mem_of_getElem? (i := 58) rfl)) rfl
theorem g1700 : Cond.selects RX9 yX9_allowance yX9_allowance ∈ zG := zgm (zt7 (List.mem_of_getElem? (i := 59) rfl)) rfl
theorem g1701 : Cond.code yX9_allowance cX9_allowance 2 (some .int) ∈ zG := zgm (zt7 (List.mem_of_getElem? (i := 60) rfl)) rfl
theorem g1702 : Cond.methodLink RL 57 yX9_flat ∈ zG := zgm (zt7 (List.mem_of_getElem? (i := 61) rfl)) rfl
theorem g1703 : Cond.instanceMethod yX9_flat ∈ zG := zgm (zt7 (List.mem_of_getElem? (i := 62) rfl)) rfl
theorem g1704 : Cond.selects RX9 yX9_flat yX9_flat ∈ zG := zgm (zt7 (List.mem_of_getElem? (i := 63) rfl)) rfl
theorem g1705 : Cond.code yX9_flat cX9_flat 3 (some .int) ∈ zG := zgm (zt7 (List.mem_of_getElem? (i := 64) rfl)) rfl
theorem g1706 : Cond.methodLink RX9 251 yX9_isPiece ∈ zG := zgm (zt7 (List.mem_of_getElem? (i := 65) rfl)) rfl
theorem g1708 : Cond.instanceMethod yX9_isPiece ∈ zG := zgm (zt7 (List.mem_of_getElem? (i := 67) rfl)) rfl
theorem g1709 : Cond.code yX9_isPiece cX9_isPiece 2 (some .boolean) ∈ zG := zgm (zt7 (List.mem_of_getElem? (i := 68) rfl)) rfl
theorem g1710 : Cond.constant RX9 254 (-1000000) ∈ zG := zgm (zt7 (List.mem_of_getElem? (i := 69) rfl)) rfl
theorem g1711 : Cond.methodLink RX9 255 yX9_laysFlat ∈ zG := zgm (zt7 (List.mem_of_getElem? (i := 70) rfl)) rfl
theorem g1713 : Cond.instanceMethod yX9_laysFlat ∈ zG := zgm (zt7 (List.mem_of_getElem? (i := 72) rfl)) rfl
theorem g1714 : Cond.code yX9_laysFlat cX9_laysFlat 3 none ∈ zG := zgm (zt7 (List.mem_of_getElem? (i := 73) rfl)) rfl
theorem g1715 : Cond.methodLink RX9 247 yX9_laysBehind ∈ zG := zgm (zt7 (List.mem_of_getElem? (i := 74) rfl)) rfl
theorem g1717 : Cond.instanceMethod yX9_laysBehind ∈ zG := zgm (zt7 (List.mem_of_getElem? (i := 76) rfl)) rfl
theorem g1718 : Cond.code yX9_laysBehind cX9_laysBehind 10 none ∈ zG := zgm (zt7 (List.mem_of_getElem? (i := 77) rfl)) rfl
theorem g1719 : Cond.methodLink RL 61 yX9_flatBox ∈ zG := zgm (zt7 (List.mem_of_getElem? (i := 78) rfl)) rfl
theorem g1720 : Cond.instanceMethod yX9_flatBox ∈ zG := zgm (zt7 (List.mem_of_getElem? (i := 79) rfl)) rfl
theorem g1721 : Cond.selects RX9 yX9_flatBox yX9_flatBox ∈ zG := zgm (zt7 (List.mem_of_getElem? (i := 80) rfl)) rfl
theorem g1722 : Cond.code yX9_flatBox cX9_flatBox 4 (some .int) ∈ zG := zgm (zt7 (List.mem_of_getElem? (i := 81) rfl)) rfl
theorem g1723 : Cond.methodLink RL 65 yX9_overlap ∈ zG := zgm (zt7 (List.mem_of_getElem? (i := 82) rfl)) rfl
theorem g1724 : Cond.instanceMethod yX9_overlap ∈ zG := zgm (zt7 (List.mem_of_getElem? (i := 83) rfl)) rfl
theorem g1725 : Cond.selects RX9 yX9_overlap yX9_overlap ∈ zG := zgm (zt7 (List.mem_of_getElem? (i := 84) rfl)) rfl
theorem g1726 : Cond.code yX9_overlap cX9_overlap 6 (some .int) ∈ zG := zgm (zt7 (List.mem_of_getElem? (i := 85) rfl)) rfl
theorem g1727 : Cond.methodLink RX9 258 yX9_doOverlap ∈ zG := zgm (zt7 (List.mem_of_getElem? (i := 86) rfl)) rfl
theorem g1729 : Cond.instanceMethod yX9_doOverlap ∈ zG := zgm (zt7 (List.mem_of_getElem? (i := 88) rfl)) rfl
theorem g1730 : Cond.code yX9_doOverlap cX9_doOverlap 5 (some .boolean) ∈ zG := zgm (zt7 (List.mem_of_getElem? (i := 89) rfl)) rfl
theorem g1731 : Cond.methodLink RL 69 yX9_space ∈ zG := zgm (zt7 (List.mem_of_getElem? (i := 90) rfl)) rfl
theorem g1732 : Cond.instanceMethod yX9_space ∈ zG := zgm (zt7 (List.mem_of_getElem? (i := 91) rfl)) rfl
theorem g1733 : Cond.selects RX9 yX9_space yX9_space ∈ zG := zgm (zt7 (List.mem_of_getElem? (i := 92) rfl)) rfl
theorem g1734 : Cond.code yX9_space cX9_space 3 (some .int) ∈ zG := zgm (zt7 (List.mem_of_getElem? (i := 93) rfl)) rfl
theorem g1735 : Cond.methodLink RX9 294 yX9_laysSpace ∈ zG := zgm (zt7 (List.mem_of_getElem? (i := 94) rfl)) rfl
theorem g1737 : Cond.instanceMethod yX9_laysSpace ∈ zG := zgm (zt7 (List.mem_of_getElem? (i := 96) rfl)) rfl
theorem g1738 : Cond.code yX9_laysSpace cX9_laysSpace 3 none ∈ zG := zgm (zt7 (List.mem_of_getElem? (i := 97) rfl)) rfl
theorem g1739 : Cond.methodLink RX9 276 yX9_laysEnds ∈ zG := zgm (zt7 (List.mem_of_getElem? (i := 98) rfl)) rfl
theorem g1741 : Cond.instanceMethod yX9_laysEnds ∈ zG := zgm (zt7 (List.mem_of_getElem? (i := 100) rfl)) rfl
theorem g1742 : Cond.code yX9_laysEnds cX9_laysEnds 7 none ∈ zG := zgm (zt7 (List.mem_of_getElem? (i := 101) rfl)) rfl
theorem g1743 : Cond.methodLink RX9 225 yX9_isOf ∈ zG := zgm (zt7 (List.mem_of_getElem? (i := 102) rfl)) rfl
theorem g1744 : Cond.static yX9_isOf ∈ zG := zgm (zt7 (List.mem_of_getElem? (i := 103) rfl)) rfl
theorem g1745 : Cond.code yX9_isOf cX9_isOf 2 (some .boolean) ∈ zG := zgm (zt7 (List.mem_of_getElem? (i := 104) rfl)) rfl
theorem g1746 : Cond.methodLink RX9 279 yX9_standsUp ∈ zG := zgm (zt7 (List.mem_of_getElem? (i := 105) rfl)) rfl
theorem g1748 : Cond.instanceMethod yX9_standsUp ∈ zG := zgm (zt7 (List.mem_of_getElem? (i := 107) rfl)) rfl
theorem g1749 : Cond.code yX9_standsUp cX9_standsUp 6 none ∈ zG := zgm (zt7 (List.mem_of_getElem? (i := 108) rfl)) rfl
theorem g1750 : Cond.methodLink RX9 273 yX9_goesToSide ∈ zG := zgm (zt7 (List.mem_of_getElem? (i := 109) rfl)) rfl
theorem g1752 : Cond.instanceMethod yX9_goesToSide ∈ zG := zgm (zt7 (List.mem_of_getElem? (i := 111) rfl)) rfl
theorem g1753 : Cond.code yX9_goesToSide cX9_goesToSide 5 none ∈ zG := zgm (zt7 (List.mem_of_getElem? (i := 112) rfl)) rfl
theorem g1754 : Cond.methodLink RX9 261 yX9_copiesCorner ∈ zG := zgm (zt7 (List.mem_of_getElem? (i := 113) rfl)) rfl
theorem g1756 : Cond.instanceMethod yX9_copiesCorner ∈ zG := zgm (zt7 (List.mem_of_getElem? (i := 115) rfl)) rfl
theorem g1757 : Cond.code yX9_copiesCorner cX9_copiesCorner 4 none ∈ zG := zgm (zt7 (List.mem_of_getElem? (i := 116) rfl)) rfl
theorem g1758 : Cond.methodLink RX9 264 yX9_moves ∈ zG := zgm (zt7 (List.mem_of_getElem? (i := 117) rfl)) rfl
theorem g1760 : Cond.instanceMethod yX9_moves ∈ zG := zgm (zt7 (List.mem_of_getElem? (i := 119) rfl)) rfl
theorem g1761 : Cond.code yX9_moves cX9_moves 5 none ∈ zG := zgm (zt7 (List.mem_of_getElem? (i := 120) rfl)) rfl
theorem g1762 : Cond.methodLink RX9 267 yX9_alongY ∈ zG := zgm (zt7 (List.mem_of_getElem? (i := 121) rfl)) rfl
theorem g1764 : Cond.instanceMethod yX9_alongY ∈ zG := zgm (zt7 (List.mem_of_getElem? (i := 123) rfl)) rfl
theorem g1765 : Cond.code yX9_alongY cX9_alongY 2 (some .int) ∈ zG := zgm (zt7 (List.mem_of_getElem? (i := 124) rfl)) rfl
theorem g1766 : Cond.methodLink RX9 270 yX9_alongX ∈ zG := zgm (zt7 (List.mem_of_getElem? (i := 125) rfl)) rfl
theorem g1768 : Cond.instanceMethod yX9_alongX ∈ zG := zgm (zt7 (List.mem_of_getElem? (i := 127) rfl)) rfl
theorem g1769 : Cond.code yX9_alongX cX9_alongX 2 (some .int) ∈ zG := zgm (zt7 (List.mem_of_getElem? (i := 128) rfl)) rfl
theorem g1770 : Cond.methodLink RX9 282 yX9_goesOnFlat ∈ zG := zgm (zt7 (List.mem_of_getElem? (i := 129) rfl)) rfl
theorem g1772 : Cond.instanceMethod yX9_goesOnFlat ∈ zG := zgm (zt7 (List.mem_of_getElem? (i := 131) rfl)) rfl
theorem g1773 : Cond.code yX9_goesOnFlat cX9_goesOnFlat 3 none ∈ zG := zgm (zt7 (List.mem_of_getElem? (i := 132) rfl)) rfl
theorem g1774 : Cond.methodLink RL 73 yX9_spaceBox ∈ zG := zgm (zt7 (List.mem_of_getElem? (i := 133) rfl)) rfl
theorem g1775 : Cond.instanceMethod yX9_spaceBox ∈ zG := zgm (zt7 (List.mem_of_getElem? (i := 134) rfl)) rfl
theorem g1776 : Cond.selects RX9 yX9_spaceBox yX9_spaceBox ∈ zG := zgm (zt7 (List.mem_of_getElem? (i := 135) rfl)) rfl
theorem g1777 : Cond.code yX9_spaceBox cX9_spaceBox 2 (some .int) ∈ zG := zgm (zt7 (List.mem_of_getElem? (i := 136) rfl)) rfl
theorem g1778 : Cond.methodLink RX9 297 yX9_longAlong ∈ zG := zgm (zt7 (List.mem_of_getElem? (i := 137) rfl)) rfl
theorem g1780 : Cond.instanceMethod yX9_longAlong ∈ zG := zgm (zt7 (List.mem_of_getElem? (i := 139) rfl)) rfl
theorem g1781 : Cond.code yX9_longAlong cX9_longAlong 5 (some .int) ∈ zG := zgm (zt7 (List.mem_of_getElem? (i := 140) rfl)) rfl
theorem g1782 : Cond.methodLink RL 149 yX9_smallest ∈ zG := zgm (zt7 (List.mem_of_getElem? (i := 141) rfl)) rfl
theorem g1783 : Cond.instanceMethod yX9_smallest ∈ zG := zgm (zt7 (List.mem_of_getElem? (i := 142) rfl)) rfl
theorem g1784 : Cond.selects RX9 yX9_smallest yX9_smallest ∈ zG := zgm (zt7 (List.mem_of_getElem? (i := 143) rfl)) rfl
theorem g1785 : Cond.code yX9_smallest cX9_smallest 6 (some .int) ∈ zG := zgm (zt7 (List.mem_of_getElem? (i := 144) rfl)) rfl
theorem g1786 : Cond.methodLink RX9 300 yX9_laysClear ∈ zG := zgm (zt7 (List.mem_of_getElem? (i := 145) rfl)) rfl
theorem g1788 : Cond.instanceMethod yX9_laysClear ∈ zG := zgm (zt7 (List.mem_of_getElem? (i := 147) rfl)) rfl
theorem g1789 : Cond.code yX9_laysClear cX9_laysClear 1 none ∈ zG := zgm (zt7 (List.mem_of_getElem? (i := 148) rfl)) rfl
theorem g1790 : Cond.methodLink RX9 341 yX9_forgetsLain ∈ zG := zgm (zt7 (List.mem_of_getElem? (i := 149) rfl)) rfl
theorem g1792 : Cond.instanceMethod yX9_forgetsLain ∈ zG := zgm (zt7 (List.mem_of_getElem? (i := 151) rfl)) rfl
theorem g1793 : Cond.code yX9_forgetsLain cX9_forgetsLain 2 none ∈ zG := zgm (zt7 (List.mem_of_getElem? (i := 152) rfl)) rfl
theorem g1794 : Cond.methodLink RX9 325 yX9_toolsOf ∈ zG := zgm (zt7 (List.mem_of_getElem? (i := 153) rfl)) rfl
theorem g1796 : Cond.instanceMethod yX9_toolsOf ∈ zG := zgm (zt7 (List.mem_of_getElem? (i := 155) rfl)) rfl
theorem g1797 : Cond.code yX9_toolsOf cX9_toolsOf 4 (some .int) ∈ zG := zgm (zt7 (List.mem_of_getElem? (i := 156) rfl)) rfl
theorem g1798 : Cond.methodLink RX9 319 yX9_widthOf ∈ zG := zgm (zt7 (List.mem_of_getElem? (i := 157) rfl)) rfl
theorem g1800 : Cond.instanceMethod yX9_widthOf ∈ zG := zgm (zt7 (List.mem_of_getElem? (i := 159) rfl)) rfl
theorem g1801 : Cond.code yX9_widthOf cX9_widthOf 4 (some .int) ∈ zG := zgm (zt7 (List.mem_of_getElem? (i := 160) rfl)) rfl
theorem g1802 : Cond.methodLink RX9 322 yX9_bits ∈ zG := zgm (zt7 (List.mem_of_getElem? (i := 161) rfl)) rfl
theorem g1803 : Cond.static yX9_bits ∈ zG := zgm (zt7 (List.mem_of_getElem? (i := 162) rfl)) rfl
theorem g1804 : Cond.code yX9_bits cX9_bits 3 (some .int) ∈ zG := zgm (zt7 (List.mem_of_getElem? (i := 163) rfl)) rfl
theorem g1805 : Cond.methodLink RX9 344 yX9_laysClearAgain ∈ zG := zgm (zt7 (List.mem_of_getElem? (i := 164) rfl)) rfl
theorem g1807 : Cond.instanceMethod yX9_laysClearAgain ∈ zG := zgm (zt7 (List.mem_of_getElem? (i := 166) rfl)) rfl
theorem g1808 : Cond.code yX9_laysClearAgain cX9_laysClearAgain 7 none ∈ zG := zgm (zt7 (List.mem_of_getElem? (i := 167) rfl)) rfl
theorem g1809 : Cond.methodLink RX9 222 yX9_allBends ∈ zG := zgm (zt7 (List.mem_of_getElem? (i := 168) rfl)) rfl
theorem g1811 : Cond.instanceMethod yX9_allBends ∈ zG := zgm (zt7 (List.mem_of_getElem? (i := 170) rfl)) rfl
theorem g1812 : Cond.code yX9_allBends cX9_allBends 1 (some .int) ∈ zG := zgm (zt7 (List.mem_of_getElem? (i := 171) rfl)) rfl
theorem g1813 : Cond.methodLink RX9 347 yX9_lainOf ∈ zG := zgm (zt7 (List.mem_of_getElem? (i := 172) rfl)) rfl
theorem g1815 : Cond.instanceMethod yX9_lainOf ∈ zG := zgm (zt7 (List.mem_of_getElem? (i := 174) rfl)) rfl
theorem g1816 : Cond.code yX9_lainOf cX9_lainOf 4 (some .int) ∈ zG := zgm (zt7 (List.mem_of_getElem? (i := 175) rfl)) rfl
theorem g1817 : Cond.methodLink RX9 334 yX9_looksAt ∈ zG := zgm (zt7 (List.mem_of_getElem? (i := 176) rfl)) rfl
theorem g1819 : Cond.instanceMethod yX9_looksAt ∈ zG := zgm (zt7 (List.mem_of_getElem? (i := 178) rfl)) rfl
theorem g1820 : Cond.code yX9_looksAt cX9_looksAt 6 (some .int) ∈ zG := zgm (zt7 (List.mem_of_getElem? (i := 179) rfl)) rfl
theorem g1821 : Cond.methodLink RX9 316 yX9_metBy ∈ zG := zgm (zt7 (List.mem_of_getElem? (i := 180) rfl)) rfl
theorem g1823 : Cond.instanceMethod yX9_metBy ∈ zG := zgm (zt7 (List.mem_of_getElem? (i := 182) rfl)) rfl
theorem g1824 : Cond.code yX9_metBy cX9_metBy 4 (some .int) ∈ zG := zgm (zt7 (List.mem_of_getElem? (i := 183) rfl)) rfl
theorem g1825 : Cond.methodLink RX9 313 yX9_laysPunch ∈ zG := zgm (zt7 (List.mem_of_getElem? (i := 184) rfl)) rfl
theorem g1827 : Cond.instanceMethod yX9_laysPunch ∈ zG := zgm (zt7 (List.mem_of_getElem? (i := 186) rfl)) rfl
theorem g1828 : Cond.code yX9_laysPunch cX9_laysPunch 4 none ∈ zG := zgm (zt7 (List.mem_of_getElem? (i := 187) rfl)) rfl
theorem g1829 : Cond.methodLink RX9 307 yX9_doClash ∈ zG := zgm (zt7 (List.mem_of_getElem? (i := 188) rfl)) rfl
theorem g1831 : Cond.instanceMethod yX9_doClash ∈ zG := zgm (zt7 (List.mem_of_getElem? (i := 190) rfl)) rfl
theorem g1832 : Cond.code yX9_doClash cX9_doClash 5 (some .boolean) ∈ zG := zgm (zt7 (List.mem_of_getElem? (i := 191) rfl)) rfl
theorem g1833 : Cond.methodLink RX9 285 yX9_axisOf ∈ zG := zgm (zt7 (List.mem_of_getElem? (i := 192) rfl)) rfl
theorem g1835 : Cond.instanceMethod yX9_axisOf ∈ zG := zgm (zt7 (List.mem_of_getElem? (i := 194) rfl)) rfl
theorem g1836 : Cond.code yX9_axisOf cX9_axisOf 2 (some .int) ∈ zG := zgm (zt7 (List.mem_of_getElem? (i := 195) rfl)) rfl
theorem g1837 : Cond.methodLink RX9 288 yX9_isBetween ∈ zG := zgm (zt7 (List.mem_of_getElem? (i := 196) rfl)) rfl
theorem g1839 : Cond.instanceMethod yX9_isBetween ∈ zG := zgm (zt7 (List.mem_of_getElem? (i := 198) rfl)) rfl
theorem g1840 : Cond.code yX9_isBetween cX9_isBetween 4 (some .boolean) ∈ zG := zgm (zt7 (List.mem_of_getElem? (i := 199) rfl)) rfl
theorem g1841 : Cond.methodLink RX9 291 yX9_sharedAlong ∈ zG := zgm (zt7 (List.mem_of_getElem? (i := 200) rfl)) rfl
theorem g1843 : Cond.instanceMethod yX9_sharedAlong ∈ zG := zgm (zt7 (List.mem_of_getElem? (i := 202) rfl)) rfl
theorem g1844 : Cond.code yX9_sharedAlong cX9_sharedAlong 4 (some .int) ∈ zG := zgm (zt7 (List.mem_of_getElem? (i := 203) rfl)) rfl
theorem g1845 : Cond.methodLink RX9 337 yX9_anyClash ∈ zG := zgm (zt7 (List.mem_of_getElem? (i := 204) rfl)) rfl
theorem g1847 : Cond.instanceMethod yX9_anyClash ∈ zG := zgm (zt7 (List.mem_of_getElem? (i := 206) rfl)) rfl
theorem g1848 : Cond.code yX9_anyClash cX9_anyClash 3 (some .boolean) ∈ zG := zgm (zt7 (List.mem_of_getElem? (i := 207) rfl)) rfl
theorem g1849 : Cond.constant RX9 340 (65536) ∈ zG := zgm (zt7 (List.mem_of_getElem? (i := 208) rfl)) rfl
theorem g1850 : Cond.methodLink RX9 303 yX9_laysReached ∈ zG := zgm (zt7 (List.mem_of_getElem? (i := 209) rfl)) rfl
theorem g1852 : Cond.instanceMethod yX9_laysReached ∈ zG := zgm (zt7 (List.mem_of_getElem? (i := 211) rfl)) rfl
theorem g1853 : Cond.code yX9_laysReached cX9_laysReached 3 none ∈ zG := zgm (zt7 (List.mem_of_getElem? (i := 212) rfl)) rfl
theorem g1854 : Cond.constant RX9 306 (1000000) ∈ zG := zgm (zt7 (List.mem_of_getElem? (i := 213) rfl)) rfl
theorem g1855 : Cond.methodLink RL 153 yX9_between ∈ zG := zgm (zt7 (List.mem_of_getElem? (i := 214) rfl)) rfl
theorem g1856 : Cond.instanceMethod yX9_between ∈ zG := zgm (zt7 (List.mem_of_getElem? (i := 215) rfl)) rfl
theorem g1857 : Cond.selects RX9 yX9_between yX9_between ∈ zG := zgm (zt7 (List.mem_of_getElem? (i := 216) rfl)) rfl
theorem g1858 : Cond.code yX9_between cX9_between 6 (some .int) ∈ zG := zgm (zt7 (List.mem_of_getElem? (i := 217) rfl)) rfl
theorem g1859 : Cond.methodLink RL 77 yX9_gap ∈ zG := zgm (zt7 (List.mem_of_getElem? (i := 218) rfl)) rfl
theorem g1860 : Cond.instanceMethod yX9_gap ∈ zG := zgm (zt7 (List.mem_of_getElem? (i := 219) rfl)) rfl
theorem g1861 : Cond.selects RX9 yX9_gap yX9_gap ∈ zG := zgm (zt7 (List.mem_of_getElem? (i := 220) rfl)) rfl
theorem g1862 : Cond.code yX9_gap cX9_gap 5 (some .int) ∈ zG := zgm (zt7 (List.mem_of_getElem? (i := 221) rfl)) rfl
theorem g1863 : Cond.methodLink RL 81 yX9_normal ∈ zG := zgm (zt7 (List.mem_of_getElem? (i := 222) rfl)) rfl
theorem g1864 : Cond.instanceMethod yX9_normal ∈ zG := zgm (zt7 (List.mem_of_getElem? (i := 223) rfl)) rfl
theorem g1865 : Cond.selects RX9 yX9_normal yX9_normal ∈ zG := zgm (zt7 (List.mem_of_getElem? (i := 224) rfl)) rfl
theorem g1866 : Cond.code yX9_normal cX9_normal 2 (some .int) ∈ zG := zgm (zt7 (List.mem_of_getElem? (i := 225) rfl)) rfl
theorem g1867 : Cond.methodLink RL 85 yX9_clash ∈ zG := zgm (zt7 (List.mem_of_getElem? (i := 226) rfl)) rfl
theorem g1868 : Cond.instanceMethod yX9_clash ∈ zG := zgm (zt7 (List.mem_of_getElem? (i := 227) rfl)) rfl
theorem g1869 : Cond.selects RX9 yX9_clash yX9_clash ∈ zG := zgm (zt7 (List.mem_of_getElem? (i := 228) rfl)) rfl
theorem g1870 : Cond.code yX9_clash cX9_clash 6 (some .int) ∈ zG := zgm (zt7 (List.mem_of_getElem? (i := 229) rfl)) rfl
theorem g1871 : Cond.methodLink RX9 310 yX9_isState ∈ zG := zgm (zt7 (List.mem_of_getElem? (i := 230) rfl)) rfl
theorem g1873 : Cond.instanceMethod yX9_isState ∈ zG := zgm (zt7 (List.mem_of_getElem? (i := 232) rfl)) rfl
theorem g1874 : Cond.code yX9_isState cX9_isState 2 (some .boolean) ∈ zG := zgm (zt7 (List.mem_of_getElem? (i := 233) rfl)) rfl
theorem g1875 : Cond.methodLink RL 89 yX9_meets ∈ zG := zgm (zt7 (List.mem_of_getElem? (i := 234) rfl)) rfl
theorem g1876 : Cond.instanceMethod yX9_meets ∈ zG := zgm (zt7 (List.mem_of_getElem? (i := 235) rfl)) rfl
theorem g1877 : Cond.selects RX9 yX9_meets yX9_meets ∈ zG := zgm (zt7 (List.mem_of_getElem? (i := 236) rfl)) rfl
theorem g1878 : Cond.code yX9_meets cX9_meets 3 (some .int) ∈ zG := zgm (zt7 (List.mem_of_getElem? (i := 237) rfl)) rfl
theorem g1879 : Cond.methodLink RL 93 yX9_tools ∈ zG := zgm (zt7 (List.mem_of_getElem? (i := 238) rfl)) rfl
theorem g1880 : Cond.instanceMethod yX9_tools ∈ zG := zgm (zt7 (List.mem_of_getElem? (i := 239) rfl)) rfl
theorem g1881 : Cond.selects RX9 yX9_tools yX9_tools ∈ zG := zgm (zt8 (List.mem_of_getElem? (i := 0) rfl)) rfl
theorem g1882 : Cond.code yX9_tools cX9_tools 4 (some .int) ∈ zG := zgm (zt8 (List.mem_of_getElem? (i := 1) rfl)) rfl
theorem g1883 : Cond.methodLink RL 97 yX9_why ∈ zG := zgm (zt8 (List.mem_of_getElem? (i := 2) rfl)) rfl
theorem g1884 : Cond.instanceMethod yX9_why ∈ zG := zgm (zt8 (List.mem_of_getElem? (i := 3) rfl)) rfl
theorem g1885 : Cond.selects RX9 yX9_why yX9_why ∈ zG := zgm (zt8 (List.mem_of_getElem? (i := 4) rfl)) rfl
theorem g1886 : Cond.code yX9_why cX9_why 3 (some .int) ∈ zG := zgm (zt8 (List.mem_of_getElem? (i := 5) rfl)) rfl
theorem g1887 : Cond.methodLink RX9 331 yX9_whyNot ∈ zG := zgm (zt8 (List.mem_of_getElem? (i := 6) rfl)) rfl
theorem g1889 : Cond.instanceMethod yX9_whyNot ∈ zG := zgm (zt8 (List.mem_of_getElem? (i := 8) rfl)) rfl
theorem g1890 : Cond.code yX9_whyNot cX9_whyNot 3 (some .int) ∈ zG := zgm (zt8 (List.mem_of_getElem? (i := 9) rfl)) rfl
theorem g1891 : Cond.methodLink RX9 328 yX9_clash ∈ zG := zgm (zt8 (List.mem_of_getElem? (i := 10) rfl)) rfl
theorem g1892 : Cond.methodLink RL 101 yX9_orders ∈ zG := zgm (zt8 (List.mem_of_getElem? (i := 11) rfl)) rfl
theorem g1893 : Cond.instanceMethod yX9_orders ∈ zG := zgm (zt8 (List.mem_of_getElem? (i := 12) rfl)) rfl
theorem g1894 : Cond.selects RX9 yX9_orders yX9_orders ∈ zG := zgm (zt8 (List.mem_of_getElem? (i := 13) rfl)) rfl
theorem g1895 : Cond.code yX9_orders cX9_orders 1 (some .int) ∈ zG := zgm (zt8 (List.mem_of_getElem? (i := 14) rfl)) rfl
theorem g1896 : Cond.methodLink RX9 353 yX9_orderMany ∈ zG := zgm (zt8 (List.mem_of_getElem? (i := 15) rfl)) rfl
theorem g1898 : Cond.instanceMethod yX9_orderMany ∈ zG := zgm (zt8 (List.mem_of_getElem? (i := 17) rfl)) rfl
theorem g1899 : Cond.code yX9_orderMany cX9_orderMany 1 (some .int) ∈ zG := zgm (zt8 (List.mem_of_getElem? (i := 18) rfl)) rfl
theorem g1900 : Cond.methodLink RX9 350 yX9_laysWays ∈ zG := zgm (zt8 (List.mem_of_getElem? (i := 19) rfl)) rfl
theorem g1902 : Cond.instanceMethod yX9_laysWays ∈ zG := zgm (zt8 (List.mem_of_getElem? (i := 21) rfl)) rfl
theorem g1903 : Cond.code yX9_laysWays cX9_laysWays 7 (some .int) ∈ zG := zgm (zt8 (List.mem_of_getElem? (i := 22) rfl)) rfl
theorem g1904 : Cond.methodLink RL 105 yX9_order ∈ zG := zgm (zt8 (List.mem_of_getElem? (i := 23) rfl)) rfl
theorem g1905 : Cond.instanceMethod yX9_order ∈ zG := zgm (zt8 (List.mem_of_getElem? (i := 24) rfl)) rfl
theorem g1906 : Cond.selects RX9 yX9_order yX9_order ∈ zG := zgm (zt8 (List.mem_of_getElem? (i := 25) rfl)) rfl
theorem g1907 : Cond.code yX9_order cX9_order 5 (some .int) ∈ zG := zgm (zt8 (List.mem_of_getElem? (i := 26) rfl)) rfl
theorem g1908 : Cond.methodLink RL 109 yX9_mayBeLast ∈ zG := zgm (zt8 (List.mem_of_getElem? (i := 27) rfl)) rfl
theorem g1909 : Cond.instanceMethod yX9_mayBeLast ∈ zG := zgm (zt8 (List.mem_of_getElem? (i := 28) rfl)) rfl
theorem g1910 : Cond.selects RX9 yX9_mayBeLast yX9_mayBeLast ∈ zG := zgm (zt8 (List.mem_of_getElem? (i := 29) rfl)) rfl
theorem g1911 : Cond.code yX9_mayBeLast cX9_mayBeLast 3 (some .int) ∈ zG := zgm (zt8 (List.mem_of_getElem? (i := 30) rfl)) rfl
theorem g1912 : Cond.methodLink RX9 356 yX9_isMade ∈ zG := zgm (zt8 (List.mem_of_getElem? (i := 31) rfl)) rfl
theorem g1914 : Cond.instanceMethod yX9_isMade ∈ zG := zgm (zt8 (List.mem_of_getElem? (i := 33) rfl)) rfl
theorem g1915 : Cond.code yX9_isMade cX9_isMade 2 (some .boolean) ∈ zG := zgm (zt8 (List.mem_of_getElem? (i := 34) rfl)) rfl
theorem g1916 : Cond.methodLink RL 113 yX9_ahead ∈ zG := zgm (zt8 (List.mem_of_getElem? (i := 35) rfl)) rfl
theorem g1917 : Cond.instanceMethod yX9_ahead ∈ zG := zgm (zt8 (List.mem_of_getElem? (i := 36) rfl)) rfl
theorem g1918 : Cond.selects RX9 yX9_ahead yX9_ahead ∈ zG := zgm (zt8 (List.mem_of_getElem? (i := 37) rfl)) rfl
theorem g1919 : Cond.code yX9_ahead cX9_ahead 4 (some .int) ∈ zG := zgm (zt8 (List.mem_of_getElem? (i := 38) rfl)) rfl
theorem g1920 : Cond.methodLink RL 117 yX9_reached ∈ zG := zgm (zt8 (List.mem_of_getElem? (i := 39) rfl)) rfl
theorem g1921 : Cond.instanceMethod yX9_reached ∈ zG := zgm (zt8 (List.mem_of_getElem? (i := 40) rfl)) rfl
theorem g1922 : Cond.selects RX9 yX9_reached yX9_reached ∈ zG := zgm (zt8 (List.mem_of_getElem? (i := 41) rfl)) rfl
theorem g1923 : Cond.code yX9_reached cX9_reached 5 (some .int) ∈ zG := zgm (zt8 (List.mem_of_getElem? (i := 42) rfl)) rfl
theorem g1924 : Cond.methodLink RX9 359 yX9_deadEnds ∈ zG := zgm (zt8 (List.mem_of_getElem? (i := 43) rfl)) rfl
theorem g1926 : Cond.instanceMethod yX9_deadEnds ∈ zG := zgm (zt8 (List.mem_of_getElem? (i := 45) rfl)) rfl
theorem g1927 : Cond.code yX9_deadEnds cX9_deadEnds 5 (some .int) ∈ zG := zgm (zt8 (List.mem_of_getElem? (i := 46) rfl)) rfl
theorem g1928 : Cond.methodLink RL 121 yX9_fewest ∈ zG := zgm (zt8 (List.mem_of_getElem? (i := 47) rfl)) rfl
theorem g1929 : Cond.instanceMethod yX9_fewest ∈ zG := zgm (zt8 (List.mem_of_getElem? (i := 48) rfl)) rfl
theorem g1930 : Cond.selects RX9 yX9_fewest yX9_fewest ∈ zG := zgm (zt8 (List.mem_of_getElem? (i := 49) rfl)) rfl
theorem g1931 : Cond.code yX9_fewest cX9_fewest 2 (some .int) ∈ zG := zgm (zt8 (List.mem_of_getElem? (i := 50) rfl)) rfl
theorem g1932 : Cond.methodLink RX9 366 yX9_laysFewest ∈ zG := zgm (zt8 (List.mem_of_getElem? (i := 51) rfl)) rfl
theorem g1934 : Cond.instanceMethod yX9_laysFewest ∈ zG := zgm (zt8 (List.mem_of_getElem? (i := 53) rfl)) rfl
theorem g1935 : Cond.code yX9_laysFewest cX9_laysFewest 7 none ∈ zG := zgm (zt8 (List.mem_of_getElem? (i := 54) rfl)) rfl
theorem g1936 : Cond.methodLink RX9 363 yX9_costAt ∈ zG := zgm (zt8 (List.mem_of_getElem? (i := 55) rfl)) rfl
theorem g1938 : Cond.instanceMethod yX9_costAt ∈ zG := zgm (zt8 (List.mem_of_getElem? (i := 57) rfl)) rfl
theorem g1939 : Cond.code yX9_costAt cX9_costAt 3 (some .int) ∈ zG := zgm (zt8 (List.mem_of_getElem? (i := 58) rfl)) rfl
theorem g1940 : Cond.methodLink RL 125 yX9_thrifty ∈ zG := zgm (zt8 (List.mem_of_getElem? (i := 59) rfl)) rfl
theorem g1941 : Cond.instanceMethod yX9_thrifty ∈ zG := zgm (zt8 (List.mem_of_getElem? (i := 60) rfl)) rfl
theorem g1942 : Cond.selects RX9 yX9_thrifty yX9_thrifty ∈ zG := zgm (zt8 (List.mem_of_getElem? (i := 61) rfl)) rfl
theorem g1943 : Cond.code yX9_thrifty cX9_thrifty 7 (some .int) ∈ zG := zgm (zt8 (List.mem_of_getElem? (i := 62) rfl)) rfl
theorem g1944 : Cond.methodLink RX9 369 yX9_fewest ∈ zG := zgm (zt8 (List.mem_of_getElem? (i := 63) rfl)) rfl
theorem g1945 : Cond.methodLink RL 129 yX9_tallest ∈ zG := zgm (zt8 (List.mem_of_getElem? (i := 64) rfl)) rfl
theorem g1946 : Cond.instanceMethod yX9_tallest ∈ zG := zgm (zt8 (List.mem_of_getElem? (i := 65) rfl)) rfl
theorem g1947 : Cond.selects RX9 yX9_tallest yX9_tallest ∈ zG := zgm (zt8 (List.mem_of_getElem? (i := 66) rfl)) rfl
theorem g1948 : Cond.code yX9_tallest cX9_tallest 4 (some .int) ∈ zG := zgm (zt8 (List.mem_of_getElem? (i := 67) rfl)) rfl
theorem g1949 : Cond.methodLink RX9 372 yX9_isOrderBy ∈ zG := zgm (zt8 (List.mem_of_getElem? (i := 68) rfl)) rfl
theorem g1951 : Cond.instanceMethod yX9_isOrderBy ∈ zG := zgm (zt8 (List.mem_of_getElem? (i := 70) rfl)) rfl
theorem g1952 : Cond.code yX9_isOrderBy cX9_isOrderBy 4 (some .boolean) ∈ zG := zgm (zt8 (List.mem_of_getElem? (i := 71) rfl)) rfl
theorem g1953 : Cond.methodLink RL 133 yX9_turned ∈ zG := zgm (zt8 (List.mem_of_getElem? (i := 72) rfl)) rfl
theorem g1954 : Cond.instanceMethod yX9_turned ∈ zG := zgm (zt8 (List.mem_of_getElem? (i := 73) rfl)) rfl
theorem g1955 : Cond.selects RX9 yX9_turned yX9_turned ∈ zG := zgm (zt8 (List.mem_of_getElem? (i := 74) rfl)) rfl
theorem g1956 : Cond.code yX9_turned cX9_turned 3 (some .int) ∈ zG := zgm (zt8 (List.mem_of_getElem? (i := 75) rfl)) rfl
theorem g1957 : Cond.methodLink RX9 375 yX9_turnsAll ∈ zG := zgm (zt8 (List.mem_of_getElem? (i := 76) rfl)) rfl
theorem g1959 : Cond.instanceMethod yX9_turnsAll ∈ zG := zgm (zt8 (List.mem_of_getElem? (i := 78) rfl)) rfl
theorem g1960 : Cond.code yX9_turnsAll cX9_turnsAll 3 none ∈ zG := zgm (zt8 (List.mem_of_getElem? (i := 79) rfl)) rfl
theorem g1961 : Cond.methodLink RL 137 yX9_mends ∈ zG := zgm (zt8 (List.mem_of_getElem? (i := 80) rfl)) rfl
theorem g1962 : Cond.instanceMethod yX9_mends ∈ zG := zgm (zt8 (List.mem_of_getElem? (i := 81) rfl)) rfl
theorem g1963 : Cond.selects RX9 yX9_mends yX9_mends ∈ zG := zgm (zt8 (List.mem_of_getElem? (i := 82) rfl)) rfl
theorem g1964 : Cond.code yX9_mends cX9_mends 3 (some .int) ∈ zG := zgm (zt8 (List.mem_of_getElem? (i := 83) rfl)) rfl
theorem g1965 : Cond.methodLink RL 141 yX9_lacks ∈ zG := zgm (zt8 (List.mem_of_getElem? (i := 84) rfl)) rfl
theorem g1966 : Cond.instanceMethod yX9_lacks ∈ zG := zgm (zt8 (List.mem_of_getElem? (i := 85) rfl)) rfl
theorem g1967 : Cond.selects RX9 yX9_lacks yX9_lacks ∈ zG := zgm (zt8 (List.mem_of_getElem? (i := 86) rfl)) rfl
theorem g1968 : Cond.code yX9_lacks cX9_lacks 5 (some .int) ∈ zG := zgm (zt8 (List.mem_of_getElem? (i := 87) rfl)) rfl
theorem g1969 : Cond.methodLink RL 157 yX9_see ∈ zG := zgm (zt8 (List.mem_of_getElem? (i := 88) rfl)) rfl
theorem g1970 : Cond.instanceMethod yX9_see ∈ zG := zgm (zt8 (List.mem_of_getElem? (i := 89) rfl)) rfl
theorem g1971 : Cond.selects RX9 yX9_see yX9_see ∈ zG := zgm (zt8 (List.mem_of_getElem? (i := 90) rfl)) rfl
theorem g1972 : Cond.code yX9_see cX9_see 4 (some .int) ∈ zG := zgm (zt8 (List.mem_of_getElem? (i := 91) rfl)) rfl
theorem g1973 : Cond.methodLink RL 161 yX9_fits ∈ zG := zgm (zt8 (List.mem_of_getElem? (i := 92) rfl)) rfl
theorem g1974 : Cond.instanceMethod yX9_fits ∈ zG := zgm (zt8 (List.mem_of_getElem? (i := 93) rfl)) rfl
theorem g1975 : Cond.selects RX9 yX9_fits yX9_fits ∈ zG := zgm (zt8 (List.mem_of_getElem? (i := 94) rfl)) rfl
theorem g1976 : Cond.code yX9_fits cX9_fits 5 (some .int) ∈ zG := zgm (zt8 (List.mem_of_getElem? (i := 95) rfl)) rfl
theorem g1977 : Cond.methodLink RX9 381 yX9_isFit ∈ zG := zgm (zt8 (List.mem_of_getElem? (i := 96) rfl)) rfl
theorem g1979 : Cond.instanceMethod yX9_isFit ∈ zG := zgm (zt8 (List.mem_of_getElem? (i := 98) rfl)) rfl
theorem g1980 : Cond.code yX9_isFit cX9_isFit 4 (some .boolean) ∈ zG := zgm (zt8 (List.mem_of_getElem? (i := 99) rfl)) rfl
theorem g1981 : Cond.methodLink RX9 378 yX9_lengthBy ∈ zG := zgm (zt8 (List.mem_of_getElem? (i := 100) rfl)) rfl
theorem g1983 : Cond.instanceMethod yX9_lengthBy ∈ zG := zgm (zt8 (List.mem_of_getElem? (i := 102) rfl)) rfl
theorem g1984 : Cond.code yX9_lengthBy cX9_lengthBy 6 (some .int) ∈ zG := zgm (zt8 (List.mem_of_getElem? (i := 103) rfl)) rfl
theorem g1985 : Cond.methodLink RL 165 yX9_tells ∈ zG := zgm (zt8 (List.mem_of_getElem? (i := 104) rfl)) rfl
theorem g1986 : Cond.instanceMethod yX9_tells ∈ zG := zgm (zt8 (List.mem_of_getElem? (i := 105) rfl)) rfl
theorem g1987 : Cond.selects RX9 yX9_tells yX9_tells ∈ zG := zgm (zt8 (List.mem_of_getElem? (i := 106) rfl)) rfl
theorem g1988 : Cond.code yX9_tells cX9_tells 7 (some .int) ∈ zG := zgm (zt8 (List.mem_of_getElem? (i := 107) rfl)) rfl
theorem g1989 : Cond.methodLink RX9 384 yX9_fits ∈ zG := zgm (zt8 (List.mem_of_getElem? (i := 108) rfl)) rfl
theorem g1990 : Cond.methodLink RX9 387 yX9_leftBy ∈ zG := zgm (zt8 (List.mem_of_getElem? (i := 109) rfl)) rfl
theorem g1992 : Cond.instanceMethod yX9_leftBy ∈ zG := zgm (zt8 (List.mem_of_getElem? (i := 111) rfl)) rfl
theorem g1993 : Cond.code yX9_leftBy cX9_leftBy 7 (some .int) ∈ zG := zgm (zt8 (List.mem_of_getElem? (i := 112) rfl)) rfl
theorem g1994 : Cond.methodLink RL 169 yX9_bend ∈ zG := zgm (zt8 (List.mem_of_getElem? (i := 113) rfl)) rfl
theorem g1995 : Cond.instanceMethod yX9_bend ∈ zG := zgm (zt8 (List.mem_of_getElem? (i := 114) rfl)) rfl
theorem g1996 : Cond.selects RX9 yX9_bend yX9_bend ∈ zG := zgm (zt8 (List.mem_of_getElem? (i := 115) rfl)) rfl
theorem g1997 : Cond.code yX9_bend cX9_bend 3 (some .int) ∈ zG := zgm (zt8 (List.mem_of_getElem? (i := 116) rfl)) rfl
theorem g1998 : Cond.methodLink RX9 390 yX9_remembers ∈ zG := zgm (zt8 (List.mem_of_getElem? (i := 117) rfl)) rfl
theorem g2000 : Cond.instanceMethod yX9_remembers ∈ zG := zgm (zt8 (List.mem_of_getElem? (i := 119) rfl)) rfl
theorem g2001 : Cond.code yX9_remembers cX9_remembers 2 none ∈ zG := zgm (zt8 (List.mem_of_getElem? (i := 120) rfl)) rfl
theorem g2002 : Cond.methodLink RL 145 yX9_opens ∈ zG := zgm (zt8 (List.mem_of_getElem? (i := 121) rfl)) rfl
theorem g2003 : Cond.instanceMethod yX9_opens ∈ zG := zgm (zt8 (List.mem_of_getElem? (i := 122) rfl)) rfl
theorem g2004 : Cond.selects RX9 yX9_opens yX9_opens ∈ zG := zgm (zt8 (List.mem_of_getElem? (i := 123) rfl)) rfl
theorem g2005 : Cond.code yX9_opens cX9_opens 3 (some .int) ∈ zG := zgm (zt8 (List.mem_of_getElem? (i := 124) rfl)) rfl
theorem g2006 : Cond.methodLink RX9 393 yX9_canOpen ∈ zG := zgm (zt8 (List.mem_of_getElem? (i := 125) rfl)) rfl
theorem g2008 : Cond.instanceMethod yX9_canOpen ∈ zG := zgm (zt8 (List.mem_of_getElem? (i := 127) rfl)) rfl
theorem g2009 : Cond.code yX9_canOpen cX9_canOpen 2 (some .boolean) ∈ zG := zgm (zt8 (List.mem_of_getElem? (i := 128) rfl)) rfl
theorem g2010 : Cond.methodLink RL 173 yX9_open ∈ zG := zgm (zt8 (List.mem_of_getElem? (i := 129) rfl)) rfl
theorem g2011 : Cond.instanceMethod yX9_open ∈ zG := zgm (zt8 (List.mem_of_getElem? (i := 130) rfl)) rfl
theorem g2012 : Cond.selects RX9 yX9_open yX9_open ∈ zG := zgm (zt8 (List.mem_of_getElem? (i := 131) rfl)) rfl
theorem g2013 : Cond.code yX9_open cX9_open 2 (some .boolean) ∈ zG := zgm (zt8 (List.mem_of_getElem? (i := 132) rfl)) rfl
theorem g2014 : Cond.methodLink RL 177 yX9_turn ∈ zG := zgm (zt8 (List.mem_of_getElem? (i := 133) rfl)) rfl
theorem g2015 : Cond.instanceMethod yX9_turn ∈ zG := zgm (zt8 (List.mem_of_getElem? (i := 134) rfl)) rfl
theorem g2016 : Cond.selects RX9 yX9_turn yX9_turn ∈ zG := zgm (zt8 (List.mem_of_getElem? (i := 135) rfl)) rfl
theorem g2017 : Cond.code yX9_turn cX9_turn 2 (some .boolean) ∈ zG := zgm (zt8 (List.mem_of_getElem? (i := 136) rfl)) rfl
theorem g2018 : Cond.methodLink RL 181 yX9_lay ∈ zG := zgm (zt8 (List.mem_of_getElem? (i := 137) rfl)) rfl
theorem g2019 : Cond.instanceMethod yX9_lay ∈ zG := zgm (zt8 (List.mem_of_getElem? (i := 138) rfl)) rfl
theorem g2020 : Cond.selects RX9 yX9_lay yX9_lay ∈ zG := zgm (zt8 (List.mem_of_getElem? (i := 139) rfl)) rfl
theorem g2021 : Cond.code yX9_lay cX9_lay 2 (some .boolean) ∈ zG := zgm (zt8 (List.mem_of_getElem? (i := 140) rfl)) rfl
theorem g2022 : Cond.methodLink RL 185 yX9_follow ∈ zG := zgm (zt8 (List.mem_of_getElem? (i := 141) rfl)) rfl
theorem g2023 : Cond.instanceMethod yX9_follow ∈ zG := zgm (zt8 (List.mem_of_getElem? (i := 142) rfl)) rfl
theorem g2024 : Cond.selects RX9 yX9_follow yX9_follow ∈ zG := zgm (zt8 (List.mem_of_getElem? (i := 143) rfl)) rfl
theorem g2025 : Cond.code yX9_follow cX9_follow 4 (some .int) ∈ zG := zgm (zt8 (List.mem_of_getElem? (i := 144) rfl)) rfl
theorem g2026 : Cond.methodLink RX9 396 yX9_order ∈ zG := zgm (zt8 (List.mem_of_getElem? (i := 145) rfl)) rfl
theorem g2027 : Cond.methodLink RL 190 yX9_allow ∈ zG := zgm (zt8 (List.mem_of_getElem? (i := 146) rfl)) rfl
theorem g2028 : Cond.instanceMethod yX9_allow ∈ zG := zgm (zt8 (List.mem_of_getElem? (i := 147) rfl)) rfl
theorem g2029 : Cond.selects RX9 yX9_allow yX9_allow ∈ zG := zgm (zt8 (List.mem_of_getElem? (i := 148) rfl)) rfl
theorem g2030 : Cond.code yX9_allow cX9_allow 3 (some .boolean) ∈ zG := zgm (zt8 (List.mem_of_getElem? (i := 149) rfl)) rfl
theorem g2031 : Cond.methodLink RL 194 yX9_press ∈ zG := zgm (zt8 (List.mem_of_getElem? (i := 150) rfl)) rfl
theorem g2032 : Cond.instanceMethod yX9_press ∈ zG := zgm (zt8 (List.mem_of_getElem? (i := 151) rfl)) rfl
theorem g2033 : Cond.selects RX9 yX9_press yX9_press ∈ zG := zgm (zt8 (List.mem_of_getElem? (i := 152) rfl)) rfl
theorem g2034 : Cond.code yX9_press cX9_press 2 (some .boolean) ∈ zG := zgm (zt8 (List.mem_of_getElem? (i := 153) rfl)) rfl
theorem g2035 : Cond.methodLink RL 198 yX9_chance ∈ zG := zgm (zt8 (List.mem_of_getElem? (i := 154) rfl)) rfl
theorem g2036 : Cond.instanceMethod yX9_chance ∈ zG := zgm (zt8 (List.mem_of_getElem? (i := 155) rfl)) rfl
theorem g2037 : Cond.selects RX9 yX9_chance yX9_chance ∈ zG := zgm (zt8 (List.mem_of_getElem? (i := 156) rfl)) rfl
theorem g2038 : Cond.code yX9_chance cX9_chance 5 (some .int) ∈ zG := zgm (zt8 (List.mem_of_getElem? (i := 157) rfl)) rfl
theorem g2039 : Cond.methodLink RX9 405 yX9_draw ∈ zG := zgm (zt8 (List.mem_of_getElem? (i := 158) rfl)) rfl
theorem g2041 : Cond.instanceMethod yX9_draw ∈ zG := zgm (zt8 (List.mem_of_getElem? (i := 160) rfl)) rfl
theorem g2042 : Cond.code yX9_draw cX9_draw 2 (some .int) ∈ zG := zgm (zt8 (List.mem_of_getElem? (i := 161) rfl)) rfl
theorem g2043 : Cond.constantLong RX9 399 (1103515245) ∈ zG := zgm (zt8 (List.mem_of_getElem? (i := 162) rfl)) rfl
theorem g2044 : Cond.constantLong RX9 401 (12345) ∈ zG := zgm (zt8 (List.mem_of_getElem? (i := 163) rfl)) rfl
theorem g2045 : Cond.constantLong RX9 403 (2147483648) ∈ zG := zgm (zt8 (List.mem_of_getElem? (i := 164) rfl)) rfl
theorem g2046 : Cond.methodLink RL 203 yX9_undo ∈ zG := zgm (zt8 (List.mem_of_getElem? (i := 165) rfl)) rfl
theorem g2047 : Cond.instanceMethod yX9_undo ∈ zG := zgm (zt8 (List.mem_of_getElem? (i := 166) rfl)) rfl
theorem g2048 : Cond.selects RX9 yX9_undo yX9_undo ∈ zG := zgm (zt8 (List.mem_of_getElem? (i := 167) rfl)) rfl
theorem g2049 : Cond.code yX9_undo cX9_undo 2 (some .boolean) ∈ zG := zgm (zt8 (List.mem_of_getElem? (i := 168) rfl)) rfl
theorem g2050 : Cond.methodLink RL 207 yX9_seed ∈ zG := zgm (zt8 (List.mem_of_getElem? (i := 169) rfl)) rfl
theorem g2051 : Cond.instanceMethod yX9_seed ∈ zG := zgm (zt8 (List.mem_of_getElem? (i := 170) rfl)) rfl
theorem g2052 : Cond.selects RX9 yX9_seed yX9_seed ∈ zG := zgm (zt8 (List.mem_of_getElem? (i := 171) rfl)) rfl
theorem g2053 : Cond.code yX9_seed cX9_seed 2 (some .boolean) ∈ zG := zgm (zt8 (List.mem_of_getElem? (i := 172) rfl)) rfl
theorem g2054 : Cond.methodLink RL 211 yX9_status ∈ zG := zgm (zt8 (List.mem_of_getElem? (i := 173) rfl)) rfl
theorem g2055 : Cond.instanceMethod yX9_status ∈ zG := zgm (zt8 (List.mem_of_getElem? (i := 174) rfl)) rfl
theorem g2056 : Cond.selects RX9 yX9_status yX9_status ∈ zG := zgm (zt8 (List.mem_of_getElem? (i := 175) rfl)) rfl
theorem g2057 : Cond.code yX9_status cX9_status 2 (some .int) ∈ zG := zgm (zt8 (List.mem_of_getElem? (i := 176) rfl)) rfl
theorem g2058 : Cond.fieldLink RJ0 9 "java/lang/String" "value" "[B" ∈ zG := zgm (zt8 (List.mem_of_getElem? (i := 177) rfl)) rfl
theorem g2059 : Cond.fieldLink RJ0 15 "java/lang/String" "coder" "B" ∈ zG := zgm (zt8 (List.mem_of_getElem? (i := 178) rfl)) rfl
theorem iX0 : ∀ w ∈ wsX00, w ∈ zG := fun w hw => by
  obtain ⟨k, hk, rfl⟩ := List.mem_map.mp hw
  have hk := List.mem_range.mp hk
  match k, hk with
  | 0, _ => exact zgm (zt1 (List.mem_of_getElem? (i := 178) rfl)) rfl
  | 1, _ => exact zgm (zt1 (List.mem_of_getElem? (i := 180) rfl)) rfl
  | 2, _ => exact zgm (zt1 (List.mem_of_getElem? (i := 182) rfl)) rfl
  | k + 3, h => exact absurd h (by omega)
theorem iX1 : ∀ w ∈ wsX10, w ∈ zG := fun w hw => by
  obtain ⟨k, hk, rfl⟩ := List.mem_map.mp hw
  have hk := List.mem_range.mp hk
  match k, hk with
  | 0, _ => exact zgm (zt1 (List.mem_of_getElem? (i := 195) rfl)) rfl
  | 1, _ => exact zgm (zt1 (List.mem_of_getElem? (i := 197) rfl)) rfl
  | 2, _ => exact zgm (zt1 (List.mem_of_getElem? (i := 199) rfl)) rfl
  | k + 3, h => exact absurd h (by omega)
theorem iX2 : ∀ w ∈ wsX20, w ∈ zG := fun w hw => by
  obtain ⟨k, hk, rfl⟩ := List.mem_map.mp hw
  have hk := List.mem_range.mp hk
  match k, hk with
  | 0, _ => exact zgm (zt1 (List.mem_of_getElem? (i := 161) rfl)) rfl
  | 1, _ => exact zgm (zt1 (List.mem_of_getElem? (i := 163) rfl)) rfl
  | 2, _ => exact zgm (zt1 (List.mem_of_getElem? (i := 165) rfl)) rfl
  | k + 3, h => exact absurd h (by omega)
theorem iX3 : ∀ w ∈ wsX30, w ∈ zG := fun w hw => by
  obtain ⟨k, hk, rfl⟩ := List.mem_map.mp hw
  have hk := List.mem_range.mp hk
  match k, hk with
  | 0, _ => exact zgm (zt1 (List.mem_of_getElem? (i := 125) rfl)) rfl
  | 1, _ => exact zgm (zt1 (List.mem_of_getElem? (i := 127) rfl)) rfl
  | 2, _ => exact zgm (zt1 (List.mem_of_getElem? (i := 129) rfl)) rfl
  | 3, _ => exact zgm (zt1 (List.mem_of_getElem? (i := 131) rfl)) rfl
  | 4, _ => exact zgm (zt1 (List.mem_of_getElem? (i := 133) rfl)) rfl
  | 5, _ => exact zgm (zt1 (List.mem_of_getElem? (i := 135) rfl)) rfl
  | 6, _ => exact zgm (zt1 (List.mem_of_getElem? (i := 137) rfl)) rfl
  | 7, _ => exact zgm (zt1 (List.mem_of_getElem? (i := 139) rfl)) rfl
  | 8, _ => exact zgm (zt1 (List.mem_of_getElem? (i := 141) rfl)) rfl
  | 9, _ => exact zgm (zt1 (List.mem_of_getElem? (i := 143) rfl)) rfl
  | 10, _ => exact zgm (zt1 (List.mem_of_getElem? (i := 145) rfl)) rfl
  | 11, _ => exact zgm (zt1 (List.mem_of_getElem? (i := 147) rfl)) rfl
  | 12, _ => exact zgm (zt1 (List.mem_of_getElem? (i := 149) rfl)) rfl
  | k + 13, h => exact absurd h (by omega)
theorem iX4 : ∀ w ∈ wsX40, w ∈ zG := fun w hw => by
  obtain ⟨k, hk, rfl⟩ := List.mem_map.mp hw
  have hk := List.mem_range.mp hk
  match k, hk with
  | 0, _ => exact zgm (zt2 (List.mem_of_getElem? (i := 33) rfl)) rfl
  | 1, _ => exact zgm (zt2 (List.mem_of_getElem? (i := 35) rfl)) rfl
  | 2, _ => exact zgm (zt2 (List.mem_of_getElem? (i := 37) rfl)) rfl
  | 3, _ => exact zgm (zt2 (List.mem_of_getElem? (i := 39) rfl)) rfl
  | 4, _ => exact zgm (zt2 (List.mem_of_getElem? (i := 41) rfl)) rfl
  | 5, _ => exact zgm (zt2 (List.mem_of_getElem? (i := 43) rfl)) rfl
  | 6, _ => exact zgm (zt2 (List.mem_of_getElem? (i := 45) rfl)) rfl
  | 7, _ => exact zgm (zt2 (List.mem_of_getElem? (i := 47) rfl)) rfl
  | 8, _ => exact zgm (zt2 (List.mem_of_getElem? (i := 49) rfl)) rfl
  | 9, _ => exact zgm (zt2 (List.mem_of_getElem? (i := 51) rfl)) rfl
  | 10, _ => exact zgm (zt2 (List.mem_of_getElem? (i := 53) rfl)) rfl
  | 11, _ => exact zgm (zt2 (List.mem_of_getElem? (i := 55) rfl)) rfl
  | 12, _ => exact zgm (zt2 (List.mem_of_getElem? (i := 57) rfl)) rfl
  | 13, _ => exact zgm (zt2 (List.mem_of_getElem? (i := 59) rfl)) rfl
  | 14, _ => exact zgm (zt2 (List.mem_of_getElem? (i := 61) rfl)) rfl
  | 15, _ => exact zgm (zt2 (List.mem_of_getElem? (i := 63) rfl)) rfl
  | k + 16, h => exact absurd h (by omega)
theorem iX5 : ∀ w ∈ wsX50, w ∈ zG := fun w hw => by
  obtain ⟨k, hk, rfl⟩ := List.mem_map.mp hw
  have hk := List.mem_range.mp hk
  match k, hk with
  | 0, _ => exact zgm (zt1 (List.mem_of_getElem? (i := 88) rfl)) rfl
  | 1, _ => exact zgm (zt1 (List.mem_of_getElem? (i := 90) rfl)) rfl
  | 2, _ => exact zgm (zt1 (List.mem_of_getElem? (i := 92) rfl)) rfl
  | 3, _ => exact zgm (zt1 (List.mem_of_getElem? (i := 94) rfl)) rfl
  | 4, _ => exact zgm (zt1 (List.mem_of_getElem? (i := 96) rfl)) rfl
  | 5, _ => exact zgm (zt1 (List.mem_of_getElem? (i := 98) rfl)) rfl
  | 6, _ => exact zgm (zt1 (List.mem_of_getElem? (i := 100) rfl)) rfl
  | 7, _ => exact zgm (zt1 (List.mem_of_getElem? (i := 102) rfl)) rfl
  | k + 8, h => exact absurd h (by omega)
theorem iX6 : ∀ w ∈ wsX60, w ∈ zG := fun w hw => by
  obtain ⟨k, hk, rfl⟩ := List.mem_map.mp hw
  have hk := List.mem_range.mp hk
  match k, hk with
  | 0, _ => exact zgm (zt1 (List.mem_of_getElem? (i := 59) rfl)) rfl
  | 1, _ => exact zgm (zt1 (List.mem_of_getElem? (i := 61) rfl)) rfl
  | 2, _ => exact zgm (zt1 (List.mem_of_getElem? (i := 63) rfl)) rfl
  | 3, _ => exact zgm (zt1 (List.mem_of_getElem? (i := 65) rfl)) rfl
  | 4, _ => exact zgm (zt1 (List.mem_of_getElem? (i := 67) rfl)) rfl
  | 5, _ => exact zgm (zt1 (List.mem_of_getElem? (i := 69) rfl)) rfl
  | 6, _ => exact zgm (zt1 (List.mem_of_getElem? (i := 71) rfl)) rfl
  | k + 7, h => exact absurd h (by omega)
theorem iX7 : ∀ w ∈ wsX70, w ∈ zG := fun w hw => by
  obtain ⟨k, hk, rfl⟩ := List.mem_map.mp hw
  have hk := List.mem_range.mp hk
  match k, hk with
  | 0, _ => exact zgm (zt1 (List.mem_of_getElem? (i := 38) rfl)) rfl
  | 1, _ => exact zgm (zt1 (List.mem_of_getElem? (i := 40) rfl)) rfl
  | k + 2, h => exact absurd h (by omega)
theorem iX8 : ∀ w ∈ wsX80, w ∈ zG := fun w hw => by
  obtain ⟨k, hk, rfl⟩ := List.mem_map.mp hw
  have hk := List.mem_range.mp hk
  match k, hk with
  | 0, _ => exact zgm (zt2 (List.mem_of_getElem? (i := 80) rfl)) rfl
  | 1, _ => exact zgm (zt2 (List.mem_of_getElem? (i := 82) rfl)) rfl
  | 2, _ => exact zgm (zt2 (List.mem_of_getElem? (i := 84) rfl)) rfl
  | 3, _ => exact zgm (zt2 (List.mem_of_getElem? (i := 86) rfl)) rfl
  | 4, _ => exact zgm (zt2 (List.mem_of_getElem? (i := 88) rfl)) rfl
  | 5, _ => exact zgm (zt2 (List.mem_of_getElem? (i := 90) rfl)) rfl
  | 6, _ => exact zgm (zt2 (List.mem_of_getElem? (i := 92) rfl)) rfl
  | 7, _ => exact zgm (zt2 (List.mem_of_getElem? (i := 94) rfl)) rfl
  | 8, _ => exact zgm (zt2 (List.mem_of_getElem? (i := 96) rfl)) rfl
  | 9, _ => exact zgm (zt2 (List.mem_of_getElem? (i := 98) rfl)) rfl
  | 10, _ => exact zgm (zt2 (List.mem_of_getElem? (i := 100) rfl)) rfl
  | 11, _ => exact zgm (zt2 (List.mem_of_getElem? (i := 102) rfl)) rfl
  | 12, _ => exact zgm (zt2 (List.mem_of_getElem? (i := 104) rfl)) rfl
  | 13, _ => exact zgm (zt2 (List.mem_of_getElem? (i := 106) rfl)) rfl
  | k + 14, h => exact absurd h (by omega)
theorem iX9 : ∀ w ∈ wsX90, w ∈ zG := fun w hw => by
  obtain ⟨k, hk, rfl⟩ := List.mem_map.mp hw
  have hk := List.mem_range.mp hk
  match k, hk with
  | 0, _ => exact zgm (zt6 (List.mem_of_getElem? (i := 53) rfl)) rfl
  | 1, _ => exact zgm (zt6 (List.mem_of_getElem? (i := 55) rfl)) rfl
  | 2, _ => exact zgm (zt6 (List.mem_of_getElem? (i := 57) rfl)) rfl
  | 3, _ => exact zgm (zt6 (List.mem_of_getElem? (i := 59) rfl)) rfl
  | 4, _ => exact zgm (zt6 (List.mem_of_getElem? (i := 61) rfl)) rfl
  | 5, _ => exact zgm (zt6 (List.mem_of_getElem? (i := 63) rfl)) rfl
  | 6, _ => exact zgm (zt6 (List.mem_of_getElem? (i := 65) rfl)) rfl
  | 7, _ => exact zgm (zt6 (List.mem_of_getElem? (i := 67) rfl)) rfl
  | 8, _ => exact zgm (zt6 (List.mem_of_getElem? (i := 69) rfl)) rfl
  | 9, _ => exact zgm (zt6 (List.mem_of_getElem? (i := 71) rfl)) rfl
  | 10, _ => exact zgm (zt6 (List.mem_of_getElem? (i := 73) rfl)) rfl
  | 11, _ => exact zgm (zt6 (List.mem_of_getElem? (i := 75) rfl)) rfl
  | 12, _ => exact zgm (zt6 (List.mem_of_getElem? (i := 77) rfl)) rfl
  | 13, _ => exact zgm (zt6 (List.mem_of_getElem? (i := 79) rfl)) rfl
  | 14, _ => exact zgm (zt6 (List.mem_of_getElem? (i := 81) rfl)) rfl
  | 15, _ => exact zgm (zt6 (List.mem_of_getElem? (i := 83) rfl)) rfl
  | 16, _ => exact zgm (zt6 (List.mem_of_getElem? (i := 85) rfl)) rfl
  | 17, _ => exact zgm (zt6 (List.mem_of_getElem? (i := 87) rfl)) rfl
  | 18, _ => exact zgm (zt6 (List.mem_of_getElem? (i := 89) rfl)) rfl
  | 19, _ => exact zgm (zt6 (List.mem_of_getElem? (i := 91) rfl)) rfl
  | 20, _ => exact zgm (zt6 (List.mem_of_getElem? (i := 93) rfl)) rfl
  | 21, _ => exact zgm (zt6 (List.mem_of_getElem? (i := 95) rfl)) rfl
  | 22, _ => exact zgm (zt6 (List.mem_of_getElem? (i := 97) rfl)) rfl
  | 23, _ => exact zgm (zt6 (List.mem_of_getElem? (i := 99) rfl)) rfl
  | 24, _ => exact zgm (zt6 (List.mem_of_getElem? (i := 101) rfl)) rfl
  | 25, _ => exact zgm (zt6 (List.mem_of_getElem? (i := 103) rfl)) rfl
  | 26, _ => exact zgm (zt6 (List.mem_of_getElem? (i := 105) rfl)) rfl
  | 27, _ => exact zgm (zt6 (List.mem_of_getElem? (i := 107) rfl)) rfl
  | 28, _ => exact zgm (zt6 (List.mem_of_getElem? (i := 109) rfl)) rfl
  | 29, _ => exact zgm (zt6 (List.mem_of_getElem? (i := 111) rfl)) rfl
  | 30, _ => exact zgm (zt6 (List.mem_of_getElem? (i := 113) rfl)) rfl
  | 31, _ => exact zgm (zt6 (List.mem_of_getElem? (i := 115) rfl)) rfl
  | 32, _ => exact zgm (zt6 (List.mem_of_getElem? (i := 117) rfl)) rfl
  | 33, _ => exact zgm (zt6 (List.mem_of_getElem? (i := 119) rfl)) rfl
  | 34, _ => exact zgm (zt6 (List.mem_of_getElem? (i := 121) rfl)) rfl
  | 35, _ => exact zgm (zt6 (List.mem_of_getElem? (i := 123) rfl)) rfl
  | 36, _ => exact zgm (zt6 (List.mem_of_getElem? (i := 125) rfl)) rfl
  | k + 37, h => exact absurd h (by omega)
theorem hJ0_charAt_5068e : yJ0_charAt_5068e.cls ≠ "java/lang/invoke/MethodHandle" ∧ yJ0_charAt_5068e.cls ≠ "java/lang/invoke/VarHandle" ∧ (parseMethodDescriptor yJ0_charAt_5068e.desc).map (fun d => d.parameters.length) = some 1 := by decide +kernel
theorem hJ0_checkIndex_df160 : yJ0_checkIndex_df160.cls ≠ "java/lang/invoke/MethodHandle" ∧ yJ0_checkIndex_df160.cls ≠ "java/lang/invoke/VarHandle" ∧ (parseMethodDescriptor yJ0_checkIndex_df160.desc).map (fun d => d.parameters.length) = some 2 := by decide +kernel
theorem hJ0_coder_7d493 : yJ0_coder_7d493.cls ≠ "java/lang/invoke/MethodHandle" ∧ yJ0_coder_7d493.cls ≠ "java/lang/invoke/VarHandle" ∧ (parseMethodDescriptor yJ0_coder_7d493.desc).map (fun d => d.parameters.length) = some 0 := by decide +kernel
theorem hJ0_isLatin1_aae02 : yJ0_isLatin1_aae02.cls ≠ "java/lang/invoke/MethodHandle" ∧ yJ0_isLatin1_aae02.cls ≠ "java/lang/invoke/VarHandle" ∧ (parseMethodDescriptor yJ0_isLatin1_aae02.desc).map (fun d => d.parameters.length) = some 0 := by decide +kernel
theorem hJ0_length_8abf5 : yJ0_length_8abf5.cls ≠ "java/lang/invoke/MethodHandle" ∧ yJ0_length_8abf5.cls ≠ "java/lang/invoke/VarHandle" ∧ (parseMethodDescriptor yJ0_length_8abf5.desc).map (fun d => d.parameters.length) = some 0 := by decide +kernel
theorem hJ1_charAt_3b067 : yJ1_charAt_3b067.cls ≠ "java/lang/invoke/MethodHandle" ∧ yJ1_charAt_3b067.cls ≠ "java/lang/invoke/VarHandle" ∧ (parseMethodDescriptor yJ1_charAt_3b067.desc).map (fun d => d.parameters.length) = some 2 := by decide +kernel
theorem hJ2_charAt_3b067 : yJ2_charAt_3b067.cls ≠ "java/lang/invoke/MethodHandle" ∧ yJ2_charAt_3b067.cls ≠ "java/lang/invoke/VarHandle" ∧ (parseMethodDescriptor yJ2_charAt_3b067.desc).map (fun d => d.parameters.length) = some 2 := by decide +kernel
theorem hJ2_checkIndex_2214a : yJ2_checkIndex_2214a.cls ≠ "java/lang/invoke/MethodHandle" ∧ yJ2_checkIndex_2214a.cls ≠ "java/lang/invoke/VarHandle" ∧ (parseMethodDescriptor yJ2_checkIndex_2214a.desc).map (fun d => d.parameters.length) = some 2 := by decide +kernel
theorem hJ2_getChar_3b067 : yJ2_getChar_3b067.cls ≠ "java/lang/invoke/MethodHandle" ∧ yJ2_getChar_3b067.cls ≠ "java/lang/invoke/VarHandle" ∧ (parseMethodDescriptor yJ2_getChar_3b067.desc).map (fun d => d.parameters.length) = some 2 := by decide +kernel
theorem hJ2_length_9d52b : yJ2_length_9d52b.cls ≠ "java/lang/invoke/MethodHandle" ∧ yJ2_length_9d52b.cls ≠ "java/lang/invoke/VarHandle" ∧ (parseMethodDescriptor yJ2_length_9d52b.desc).map (fun d => d.parameters.length) = some 1 := by decide +kernel
theorem hJ3_checkIndex_8e157 : yJ3_checkIndex_8e157.cls ≠ "java/lang/invoke/MethodHandle" ∧ yJ3_checkIndex_8e157.cls ≠ "java/lang/invoke/VarHandle" ∧ (parseMethodDescriptor yJ3_checkIndex_8e157.desc).map (fun d => d.parameters.length) = some 3 := by decide +kernel
theorem hJ6_bitCount_0f7a4 : yJ6_bitCount_0f7a4.cls ≠ "java/lang/invoke/MethodHandle" ∧ yJ6_bitCount_0f7a4.cls ≠ "java/lang/invoke/VarHandle" ∧ (parseMethodDescriptor yJ6_bitCount_0f7a4.desc).map (fun d => d.parameters.length) = some 1 := by decide +kernel
theorem hJ7_fill_031fb : yJ7_fill_031fb.cls ≠ "java/lang/invoke/MethodHandle" ∧ yJ7_fill_031fb.cls ≠ "java/lang/invoke/VarHandle" ∧ (parseMethodDescriptor yJ7_fill_031fb.desc).map (fun d => d.parameters.length) = some 2 := by decide +kernel
theorem hJ7_fill_53178 : yJ7_fill_53178.cls ≠ "java/lang/invoke/MethodHandle" ∧ yJ7_fill_53178.cls ≠ "java/lang/invoke/VarHandle" ∧ (parseMethodDescriptor yJ7_fill_53178.desc).map (fun d => d.parameters.length) = some 2 := by decide +kernel
theorem hJ9_max_7cf53 : yJ9_max_7cf53.cls ≠ "java/lang/invoke/MethodHandle" ∧ yJ9_max_7cf53.cls ≠ "java/lang/invoke/VarHandle" ∧ (parseMethodDescriptor yJ9_max_7cf53.desc).map (fun d => d.parameters.length) = some 2 := by decide +kernel
theorem hJ9_min_7cf53 : yJ9_min_7cf53.cls ≠ "java/lang/invoke/MethodHandle" ∧ yJ9_min_7cf53.cls ≠ "java/lang/invoke/VarHandle" ∧ (parseMethodDescriptor yJ9_min_7cf53.desc).map (fun d => d.parameters.length) = some 2 := by decide +kernel
theorem hX0_init : yX0_init.cls ≠ "java/lang/invoke/MethodHandle" ∧ yX0_init.cls ≠ "java/lang/invoke/VarHandle" ∧ (parseMethodDescriptor yX0_init.desc).map (fun d => d.parameters.length) = some 0 := by decide +kernel
theorem hX0_keep : yX0_keep.cls ≠ "java/lang/invoke/MethodHandle" ∧ yX0_keep.cls ≠ "java/lang/invoke/VarHandle" ∧ (parseMethodDescriptor yX0_keep.desc).map (fun d => d.parameters.length) = some 2 := by decide +kernel
theorem hX0_takeBack : yX0_takeBack.cls ≠ "java/lang/invoke/MethodHandle" ∧ yX0_takeBack.cls ≠ "java/lang/invoke/VarHandle" ∧ (parseMethodDescriptor yX0_takeBack.desc).map (fun d => d.parameters.length) = some 1 := by decide +kernel
theorem hX1_explains : yX1_explains.cls ≠ "java/lang/invoke/MethodHandle" ∧ yX1_explains.cls ≠ "java/lang/invoke/VarHandle" ∧ (parseMethodDescriptor yX1_explains.desc).map (fun d => d.parameters.length) = some 3 := by decide +kernel
theorem hX1_fitAt : yX1_fitAt.cls ≠ "java/lang/invoke/MethodHandle" ∧ yX1_fitAt.cls ≠ "java/lang/invoke/VarHandle" ∧ (parseMethodDescriptor yX1_fitAt.desc).map (fun d => d.parameters.length) = some 3 := by decide +kernel
theorem hX1_init : yX1_init.cls ≠ "java/lang/invoke/MethodHandle" ∧ yX1_init.cls ≠ "java/lang/invoke/VarHandle" ∧ (parseMethodDescriptor yX1_init.desc).map (fun d => d.parameters.length) = some 0 := by decide +kernel
theorem hX1_mostLeft : yX1_mostLeft.cls ≠ "java/lang/invoke/MethodHandle" ∧ yX1_mostLeft.cls ≠ "java/lang/invoke/VarHandle" ∧ (parseMethodDescriptor yX1_mostLeft.desc).map (fun d => d.parameters.length) = some 4 := by decide +kernel
theorem hX1_take : yX1_take.cls ≠ "java/lang/invoke/MethodHandle" ∧ yX1_take.cls ≠ "java/lang/invoke/VarHandle" ∧ (parseMethodDescriptor yX1_take.desc).map (fun d => d.parameters.length) = some 2 := by decide +kernel
theorem hX1_tellingFlange : yX1_tellingFlange.cls ≠ "java/lang/invoke/MethodHandle" ∧ yX1_tellingFlange.cls ≠ "java/lang/invoke/VarHandle" ∧ (parseMethodDescriptor yX1_tellingFlange.desc).map (fun d => d.parameters.length) = some 3 := by decide +kernel
theorem hX2_codeOf : yX2_codeOf.cls ≠ "java/lang/invoke/MethodHandle" ∧ yX2_codeOf.cls ≠ "java/lang/invoke/VarHandle" ∧ (parseMethodDescriptor yX2_codeOf.desc).map (fun d => d.parameters.length) = some 2 := by decide +kernel
theorem hX2_decode : yX2_decode.cls ≠ "java/lang/invoke/MethodHandle" ∧ yX2_decode.cls ≠ "java/lang/invoke/VarHandle" ∧ (parseMethodDescriptor yX2_decode.desc).map (fun d => d.parameters.length) = some 1 := by decide +kernel
theorem hX2_init : yX2_init.cls ≠ "java/lang/invoke/MethodHandle" ∧ yX2_init.cls ≠ "java/lang/invoke/VarHandle" ∧ (parseMethodDescriptor yX2_init.desc).map (fun d => d.parameters.length) = some 0 := by decide +kernel
theorem hX2_leastTurns : yX2_leastTurns.cls ≠ "java/lang/invoke/MethodHandle" ∧ yX2_leastTurns.cls ≠ "java/lang/invoke/VarHandle" ∧ (parseMethodDescriptor yX2_leastTurns.desc).map (fun d => d.parameters.length) = some 3 := by decide +kernel
theorem hX2_mark : yX2_mark.cls ≠ "java/lang/invoke/MethodHandle" ∧ yX2_mark.cls ≠ "java/lang/invoke/VarHandle" ∧ (parseMethodDescriptor yX2_mark.desc).map (fun d => d.parameters.length) = some 3 := by decide +kernel
theorem hX2_spread : yX2_spread.cls ≠ "java/lang/invoke/MethodHandle" ∧ yX2_spread.cls ≠ "java/lang/invoke/VarHandle" ∧ (parseMethodDescriptor yX2_spread.desc).map (fun d => d.parameters.length) = some 3 := by decide +kernel
theorem hX3_append : yX3_append.cls ≠ "java/lang/invoke/MethodHandle" ∧ yX3_append.cls ≠ "java/lang/invoke/VarHandle" ∧ (parseMethodDescriptor yX3_append.desc).map (fun d => d.parameters.length) = some 2 := by decide +kernel
theorem hX3_blocked : yX3_blocked.cls ≠ "java/lang/invoke/MethodHandle" ∧ yX3_blocked.cls ≠ "java/lang/invoke/VarHandle" ∧ (parseMethodDescriptor yX3_blocked.desc).map (fun d => d.parameters.length) = some 0 := by decide +kernel
theorem hX3_canEndWith : yX3_canEndWith.cls ≠ "java/lang/invoke/MethodHandle" ∧ yX3_canEndWith.cls ≠ "java/lang/invoke/VarHandle" ∧ (parseMethodDescriptor yX3_canEndWith.desc).map (fun d => d.parameters.length) = some 1 := by decide +kernel
theorem hX3_cell : yX3_cell.cls ≠ "java/lang/invoke/MethodHandle" ∧ yX3_cell.cls ≠ "java/lang/invoke/VarHandle" ∧ (parseMethodDescriptor yX3_cell.desc).map (fun d => d.parameters.length) = some 2 := by decide +kernel
theorem hX3_clearBends : yX3_clearBends.cls ≠ "java/lang/invoke/MethodHandle" ∧ yX3_clearBends.cls ≠ "java/lang/invoke/VarHandle" ∧ (parseMethodDescriptor yX3_clearBends.desc).map (fun d => d.parameters.length) = some 1 := by decide +kernel
theorem hX3_countDeadEnds : yX3_countDeadEnds.cls ≠ "java/lang/invoke/MethodHandle" ∧ yX3_countDeadEnds.cls ≠ "java/lang/invoke/VarHandle" ∧ (parseMethodDescriptor yX3_countDeadEnds.desc).map (fun d => d.parameters.length) = some 0 := by decide +kernel
theorem hX3_countReached : yX3_countReached.cls ≠ "java/lang/invoke/MethodHandle" ∧ yX3_countReached.cls ≠ "java/lang/invoke/VarHandle" ∧ (parseMethodDescriptor yX3_countReached.desc).map (fun d => d.parameters.length) = some 0 := by decide +kernel
theorem hX3_countSwitches : yX3_countSwitches.cls ≠ "java/lang/invoke/MethodHandle" ∧ yX3_countSwitches.cls ≠ "java/lang/invoke/VarHandle" ∧ (parseMethodDescriptor yX3_countSwitches.desc).map (fun d => d.parameters.length) = some 2 := by decide +kernel
theorem hX3_firstOfRow : yX3_firstOfRow.cls ≠ "java/lang/invoke/MethodHandle" ∧ yX3_firstOfRow.cls ≠ "java/lang/invoke/VarHandle" ∧ (parseMethodDescriptor yX3_firstOfRow.desc).map (fun d => d.parameters.length) = some 1 := by decide +kernel
theorem hX3_firstThatGoesOn : yX3_firstThatGoesOn.cls ≠ "java/lang/invoke/MethodHandle" ∧ yX3_firstThatGoesOn.cls ≠ "java/lang/invoke/VarHandle" ∧ (parseMethodDescriptor yX3_firstThatGoesOn.desc).map (fun d => d.parameters.length) = some 1 := by decide +kernel
theorem hX3_firstThrifty : yX3_firstThrifty.cls ≠ "java/lang/invoke/MethodHandle" ∧ yX3_firstThrifty.cls ≠ "java/lang/invoke/VarHandle" ∧ (parseMethodDescriptor yX3_firstThrifty.desc).map (fun d => d.parameters.length) = some 2 := by decide +kernel
theorem hX3_fullestDeadEnd : yX3_fullestDeadEnd.cls ≠ "java/lang/invoke/MethodHandle" ∧ yX3_fullestDeadEnd.cls ≠ "java/lang/invoke/VarHandle" ∧ (parseMethodDescriptor yX3_fullestDeadEnd.desc).map (fun d => d.parameters.length) = some 0 := by decide +kernel
theorem hX3_goesOn : yX3_goesOn.cls ≠ "java/lang/invoke/MethodHandle" ∧ yX3_goesOn.cls ≠ "java/lang/invoke/VarHandle" ∧ (parseMethodDescriptor yX3_goesOn.desc).map (fun d => d.parameters.length) = some 2 := by decide +kernel
theorem hX3_init : yX3_init.cls ≠ "java/lang/invoke/MethodHandle" ∧ yX3_init.cls ≠ "java/lang/invoke/VarHandle" ∧ (parseMethodDescriptor yX3_init.desc).map (fun d => d.parameters.length) = some 0 := by decide +kernel
theorem hX3_isClear : yX3_isClear.cls ≠ "java/lang/invoke/MethodHandle" ∧ yX3_isClear.cls ≠ "java/lang/invoke/VarHandle" ∧ (parseMethodDescriptor yX3_isClear.desc).map (fun d => d.parameters.length) = some 2 := by decide +kernel
theorem hX3_isDeadEnd : yX3_isDeadEnd.cls ≠ "java/lang/invoke/MethodHandle" ∧ yX3_isDeadEnd.cls ≠ "java/lang/invoke/VarHandle" ∧ (parseMethodDescriptor yX3_isDeadEnd.desc).map (fun d => d.parameters.length) = some 1 := by decide +kernel
theorem hX3_isReached : yX3_isReached.cls ≠ "java/lang/invoke/MethodHandle" ∧ yX3_isReached.cls ≠ "java/lang/invoke/VarHandle" ∧ (parseMethodDescriptor yX3_isReached.desc).map (fun d => d.parameters.length) = some 1 := by decide +kernel
theorem hX3_leastFrom : yX3_leastFrom.cls ≠ "java/lang/invoke/MethodHandle" ∧ yX3_leastFrom.cls ≠ "java/lang/invoke/VarHandle" ∧ (parseMethodDescriptor yX3_leastFrom.desc).map (fun d => d.parameters.length) = some 2 := by decide +kernel
theorem hX3_measureRooms : yX3_measureRooms.cls ≠ "java/lang/invoke/MethodHandle" ∧ yX3_measureRooms.cls ≠ "java/lang/invoke/VarHandle" ∧ (parseMethodDescriptor yX3_measureRooms.desc).map (fun d => d.parameters.length) = some 3 := by decide +kernel
theorem hX3_ordersFrom : yX3_ordersFrom.cls ≠ "java/lang/invoke/MethodHandle" ∧ yX3_ordersFrom.cls ≠ "java/lang/invoke/VarHandle" ∧ (parseMethodDescriptor yX3_ordersFrom.desc).map (fun d => d.parameters.length) = some 1 := by decide +kernel
theorem hX3_passesWithout : yX3_passesWithout.cls ≠ "java/lang/invoke/MethodHandle" ∧ yX3_passesWithout.cls ≠ "java/lang/invoke/VarHandle" ∧ (parseMethodDescriptor yX3_passesWithout.desc).map (fun d => d.parameters.length) = some 2 := by decide +kernel
theorem hX3_rowAt : yX3_rowAt.cls ≠ "java/lang/invoke/MethodHandle" ∧ yX3_rowAt.cls ≠ "java/lang/invoke/VarHandle" ∧ (parseMethodDescriptor yX3_rowAt.desc).map (fun d => d.parameters.length) = some 1 := by decide +kernel
theorem hX3_searchFrom : yX3_searchFrom.cls ≠ "java/lang/invoke/MethodHandle" ∧ yX3_searchFrom.cls ≠ "java/lang/invoke/VarHandle" ∧ (parseMethodDescriptor yX3_searchFrom.desc).map (fun d => d.parameters.length) = some 2 := by decide +kernel
theorem hX3_switchesWith : yX3_switchesWith.cls ≠ "java/lang/invoke/MethodHandle" ∧ yX3_switchesWith.cls ≠ "java/lang/invoke/VarHandle" ∧ (parseMethodDescriptor yX3_switchesWith.desc).map (fun d => d.parameters.length) = some 3 := by decide +kernel
theorem hX3_tallestPunch : yX3_tallestPunch.cls ≠ "java/lang/invoke/MethodHandle" ∧ yX3_tallestPunch.cls ≠ "java/lang/invoke/VarHandle" ∧ (parseMethodDescriptor yX3_tallestPunch.desc).map (fun d => d.parameters.length) = some 0 := by decide +kernel
theorem hX3_walkFirst : yX3_walkFirst.cls ≠ "java/lang/invoke/MethodHandle" ∧ yX3_walkFirst.cls ≠ "java/lang/invoke/VarHandle" ∧ (parseMethodDescriptor yX3_walkFirst.desc).map (fun d => d.parameters.length) = some 0 := by decide +kernel
theorem hX3_walkThrifty : yX3_walkThrifty.cls ≠ "java/lang/invoke/MethodHandle" ∧ yX3_walkThrifty.cls ≠ "java/lang/invoke/VarHandle" ∧ (parseMethodDescriptor yX3_walkThrifty.desc).map (fun d => d.parameters.length) = some 0 := by decide +kernel
theorem hX4_allBends : yX4_allBends.cls ≠ "java/lang/invoke/MethodHandle" ∧ yX4_allBends.cls ≠ "java/lang/invoke/VarHandle" ∧ (parseMethodDescriptor yX4_allBends.desc).map (fun d => d.parameters.length) = some 0 := by decide +kernel
theorem hX4_allowanceOf : yX4_allowanceOf.cls ≠ "java/lang/invoke/MethodHandle" ∧ yX4_allowanceOf.cls ≠ "java/lang/invoke/VarHandle" ∧ (parseMethodDescriptor yX4_allowanceOf.desc).map (fun d => d.parameters.length) = some 1 := by decide +kernel
theorem hX4_bendsBetween : yX4_bendsBetween.cls ≠ "java/lang/invoke/MethodHandle" ∧ yX4_bendsBetween.cls ≠ "java/lang/invoke/VarHandle" ∧ (parseMethodDescriptor yX4_bendsBetween.desc).map (fun d => d.parameters.length) = some 2 := by decide +kernel
theorem hX4_chooseTools : yX4_chooseTools.cls ≠ "java/lang/invoke/MethodHandle" ∧ yX4_chooseTools.cls ≠ "java/lang/invoke/VarHandle" ∧ (parseMethodDescriptor yX4_chooseTools.desc).map (fun d => d.parameters.length) = some 0 := by decide +kernel
theorem hX4_clear : yX4_clear.cls ≠ "java/lang/invoke/MethodHandle" ∧ yX4_clear.cls ≠ "java/lang/invoke/VarHandle" ∧ (parseMethodDescriptor yX4_clear.desc).map (fun d => d.parameters.length) = some 0 := by decide +kernel
theorem hX4_countHangers : yX4_countHangers.cls ≠ "java/lang/invoke/MethodHandle" ∧ yX4_countHangers.cls ≠ "java/lang/invoke/VarHandle" ∧ (parseMethodDescriptor yX4_countHangers.desc).map (fun d => d.parameters.length) = some 1 := by decide +kernel
theorem hX4_countWithoutTools : yX4_countWithoutTools.cls ≠ "java/lang/invoke/MethodHandle" ∧ yX4_countWithoutTools.cls ≠ "java/lang/invoke/VarHandle" ∧ (parseMethodDescriptor yX4_countWithoutTools.desc).map (fun d => d.parameters.length) = some 0 := by decide +kernel
theorem hX4_depth : yX4_depth.cls ≠ "java/lang/invoke/MethodHandle" ∧ yX4_depth.cls ≠ "java/lang/invoke/VarHandle" ∧ (parseMethodDescriptor yX4_depth.desc).map (fun d => d.parameters.length) = some 1 := by decide +kernel
theorem hX4_hangsBy : yX4_hangsBy.cls ≠ "java/lang/invoke/MethodHandle" ∧ yX4_hangsBy.cls ≠ "java/lang/invoke/VarHandle" ∧ (parseMethodDescriptor yX4_hangsBy.desc).map (fun d => d.parameters.length) = some 2 := by decide +kernel
theorem hX4_hangsOn : yX4_hangsOn.cls ≠ "java/lang/invoke/MethodHandle" ∧ yX4_hangsOn.cls ≠ "java/lang/invoke/VarHandle" ∧ (parseMethodDescriptor yX4_hangsOn.desc).map (fun d => d.parameters.length) = some 2 := by decide +kernel
theorem hX4_init : yX4_init.cls ≠ "java/lang/invoke/MethodHandle" ∧ yX4_init.cls ≠ "java/lang/invoke/VarHandle" ∧ (parseMethodDescriptor yX4_init.desc).map (fun d => d.parameters.length) = some 0 := by decide +kernel
theorem hX4_isBend : yX4_isBend.cls ≠ "java/lang/invoke/MethodHandle" ∧ yX4_isBend.cls ≠ "java/lang/invoke/VarHandle" ∧ (parseMethodDescriptor yX4_isBend.desc).map (fun d => d.parameters.length) = some 1 := by decide +kernel
theorem hX4_isFlange : yX4_isFlange.cls ≠ "java/lang/invoke/MethodHandle" ∧ yX4_isFlange.cls ≠ "java/lang/invoke/VarHandle" ∧ (parseMethodDescriptor yX4_isFlange.desc).map (fun d => d.parameters.length) = some 1 := by decide +kernel
theorem hX4_isPiece : yX4_isPiece.cls ≠ "java/lang/invoke/MethodHandle" ∧ yX4_isPiece.cls ≠ "java/lang/invoke/VarHandle" ∧ (parseMethodDescriptor yX4_isPiece.desc).map (fun d => d.parameters.length) = some 1 := by decide +kernel
theorem hX4_isState : yX4_isState.cls ≠ "java/lang/invoke/MethodHandle" ∧ yX4_isState.cls ≠ "java/lang/invoke/VarHandle" ∧ (parseMethodDescriptor yX4_isState.desc).map (fun d => d.parameters.length) = some 1 := by decide +kernel
theorem hX4_isThere : yX4_isThere.cls ≠ "java/lang/invoke/MethodHandle" ∧ yX4_isThere.cls ≠ "java/lang/invoke/VarHandle" ∧ (parseMethodDescriptor yX4_isThere.desc).map (fun d => d.parameters.length) = some 0 := by decide +kernel
theorem hX4_leastWidthWithoutTools : yX4_leastWidthWithoutTools.cls ≠ "java/lang/invoke/MethodHandle" ∧ yX4_leastWidthWithoutTools.cls ≠ "java/lang/invoke/VarHandle" ∧ (parseMethodDescriptor yX4_leastWidthWithoutTools.desc).map (fun d => d.parameters.length) = some 0 := by decide +kernel
theorem hX4_lengthOf : yX4_lengthOf.cls ≠ "java/lang/invoke/MethodHandle" ∧ yX4_lengthOf.cls ≠ "java/lang/invoke/VarHandle" ∧ (parseMethodDescriptor yX4_lengthOf.desc).map (fun d => d.parameters.length) = some 1 := by decide +kernel
theorem hX4_needsTools : yX4_needsTools.cls ≠ "java/lang/invoke/MethodHandle" ∧ yX4_needsTools.cls ≠ "java/lang/invoke/VarHandle" ∧ (parseMethodDescriptor yX4_needsTools.desc).map (fun d => d.parameters.length) = some 1 := by decide +kernel
theorem hX4_offerTools : yX4_offerTools.cls ≠ "java/lang/invoke/MethodHandle" ∧ yX4_offerTools.cls ≠ "java/lang/invoke/VarHandle" ∧ (parseMethodDescriptor yX4_offerTools.desc).map (fun d => d.parameters.length) = some 2 := by decide +kernel
theorem hX4_runsAlongX : yX4_runsAlongX.cls ≠ "java/lang/invoke/MethodHandle" ∧ yX4_runsAlongX.cls ≠ "java/lang/invoke/VarHandle" ∧ (parseMethodDescriptor yX4_runsAlongX.desc).map (fun d => d.parameters.length) = some 1 := by decide +kernel
theorem hX4_sharesSide : yX4_sharesSide.cls ≠ "java/lang/invoke/MethodHandle" ∧ yX4_sharesSide.cls ≠ "java/lang/invoke/VarHandle" ∧ (parseMethodDescriptor yX4_sharesSide.desc).map (fun d => d.parameters.length) = some 2 := by decide +kernel
theorem hX4_sideLength : yX4_sideLength.cls ≠ "java/lang/invoke/MethodHandle" ∧ yX4_sideLength.cls ≠ "java/lang/invoke/VarHandle" ∧ (parseMethodDescriptor yX4_sideLength.desc).map (fun d => d.parameters.length) = some 2 := by decide +kernel
theorem hX4_sizeX : yX4_sizeX.cls ≠ "java/lang/invoke/MethodHandle" ∧ yX4_sizeX.cls ≠ "java/lang/invoke/VarHandle" ∧ (parseMethodDescriptor yX4_sizeX.desc).map (fun d => d.parameters.length) = some 1 := by decide +kernel
theorem hX4_sizeY : yX4_sizeY.cls ≠ "java/lang/invoke/MethodHandle" ∧ yX4_sizeY.cls ≠ "java/lang/invoke/VarHandle" ∧ (parseMethodDescriptor yX4_sizeY.desc).map (fun d => d.parameters.length) = some 1 := by decide +kernel
theorem hX4_timesInLength : yX4_timesInLength.cls ≠ "java/lang/invoke/MethodHandle" ∧ yX4_timesInLength.cls ≠ "java/lang/invoke/VarHandle" ∧ (parseMethodDescriptor yX4_timesInLength.desc).map (fun d => d.parameters.length) = some 2 := by decide +kernel
theorem hX4_widthOfTools : yX4_widthOfTools.cls ≠ "java/lang/invoke/MethodHandle" ∧ yX4_widthOfTools.cls ≠ "java/lang/invoke/VarHandle" ∧ (parseMethodDescriptor yX4_widthOfTools.desc).map (fun d => d.parameters.length) = some 1 := by decide +kernel
theorem hX4_zoneOf : yX4_zoneOf.cls ≠ "java/lang/invoke/MethodHandle" ∧ yX4_zoneOf.cls ≠ "java/lang/invoke/VarHandle" ∧ (parseMethodDescriptor yX4_zoneOf.desc).map (fun d => d.parameters.length) = some 1 := by decide +kernel
theorem hX5_against : yX5_against.cls ≠ "java/lang/invoke/MethodHandle" ∧ yX5_against.cls ≠ "java/lang/invoke/VarHandle" ∧ (parseMethodDescriptor yX5_against.desc).map (fun d => d.parameters.length) = some 1 := by decide +kernel
theorem hX5_alongSide : yX5_alongSide.cls ≠ "java/lang/invoke/MethodHandle" ∧ yX5_alongSide.cls ≠ "java/lang/invoke/VarHandle" ∧ (parseMethodDescriptor yX5_alongSide.desc).map (fun d => d.parameters.length) = some 2 := by decide +kernel
theorem hX5_area : yX5_area.cls ≠ "java/lang/invoke/MethodHandle" ∧ yX5_area.cls ≠ "java/lang/invoke/VarHandle" ∧ (parseMethodDescriptor yX5_area.desc).map (fun d => d.parameters.length) = some 1 := by decide +kernel
theorem hX5_clashes : yX5_clashes.cls ≠ "java/lang/invoke/MethodHandle" ∧ yX5_clashes.cls ≠ "java/lang/invoke/VarHandle" ∧ (parseMethodDescriptor yX5_clashes.desc).map (fun d => d.parameters.length) = some 2 := by decide +kernel
theorem hX5_doClash : yX5_doClash.cls ≠ "java/lang/invoke/MethodHandle" ∧ yX5_doClash.cls ≠ "java/lang/invoke/VarHandle" ∧ (parseMethodDescriptor yX5_doClash.desc).map (fun d => d.parameters.length) = some 2 := by decide +kernel
theorem hX5_extent : yX5_extent.cls ≠ "java/lang/invoke/MethodHandle" ∧ yX5_extent.cls ≠ "java/lang/invoke/VarHandle" ∧ (parseMethodDescriptor yX5_extent.desc).map (fun d => d.parameters.length) = some 2 := by decide +kernel
theorem hX5_gapOf : yX5_gapOf.cls ≠ "java/lang/invoke/MethodHandle" ∧ yX5_gapOf.cls ≠ "java/lang/invoke/VarHandle" ∧ (parseMethodDescriptor yX5_gapOf.desc).map (fun d => d.parameters.length) = some 2 := by decide +kernel
theorem hX5_goToSide : yX5_goToSide.cls ≠ "java/lang/invoke/MethodHandle" ∧ yX5_goToSide.cls ≠ "java/lang/invoke/VarHandle" ∧ (parseMethodDescriptor yX5_goToSide.desc).map (fun d => d.parameters.length) = some 2 := by decide +kernel
theorem hX5_highOf : yX5_highOf.cls ≠ "java/lang/invoke/MethodHandle" ∧ yX5_highOf.cls ≠ "java/lang/invoke/VarHandle" ∧ (parseMethodDescriptor yX5_highOf.desc).map (fun d => d.parameters.length) = some 2 := by decide +kernel
theorem hX5_init : yX5_init.cls ≠ "java/lang/invoke/MethodHandle" ∧ yX5_init.cls ≠ "java/lang/invoke/VarHandle" ∧ (parseMethodDescriptor yX5_init.desc).map (fun d => d.parameters.length) = some 0 := by decide +kernel
theorem hX5_isWithin : yX5_isWithin.cls ≠ "java/lang/invoke/MethodHandle" ∧ yX5_isWithin.cls ≠ "java/lang/invoke/VarHandle" ∧ (parseMethodDescriptor yX5_isWithin.desc).map (fun d => d.parameters.length) = some 3 := by decide +kernel
theorem hX5_leastLow : yX5_leastLow.cls ≠ "java/lang/invoke/MethodHandle" ∧ yX5_leastLow.cls ≠ "java/lang/invoke/VarHandle" ∧ (parseMethodDescriptor yX5_leastLow.desc).map (fun d => d.parameters.length) = some 2 := by decide +kernel
theorem hX5_lowOf : yX5_lowOf.cls ≠ "java/lang/invoke/MethodHandle" ∧ yX5_lowOf.cls ≠ "java/lang/invoke/VarHandle" ∧ (parseMethodDescriptor yX5_lowOf.desc).map (fun d => d.parameters.length) = some 2 := by decide +kernel
theorem hX5_metByPunch : yX5_metByPunch.cls ≠ "java/lang/invoke/MethodHandle" ∧ yX5_metByPunch.cls ≠ "java/lang/invoke/VarHandle" ∧ (parseMethodDescriptor yX5_metByPunch.desc).map (fun d => d.parameters.length) = some 2 := by decide +kernel
theorem hX5_mostHigh : yX5_mostHigh.cls ≠ "java/lang/invoke/MethodHandle" ∧ yX5_mostHigh.cls ≠ "java/lang/invoke/VarHandle" ∧ (parseMethodDescriptor yX5_mostHigh.desc).map (fun d => d.parameters.length) = some 2 := by decide +kernel
theorem hX5_move : yX5_move.cls ≠ "java/lang/invoke/MethodHandle" ∧ yX5_move.cls ≠ "java/lang/invoke/VarHandle" ∧ (parseMethodDescriptor yX5_move.desc).map (fun d => d.parameters.length) = some 3 := by decide +kernel
theorem hX5_outward : yX5_outward.cls ≠ "java/lang/invoke/MethodHandle" ∧ yX5_outward.cls ≠ "java/lang/invoke/VarHandle" ∧ (parseMethodDescriptor yX5_outward.desc).map (fun d => d.parameters.length) = some 2 := by decide +kernel
theorem hX5_overlaps : yX5_overlaps.cls ≠ "java/lang/invoke/MethodHandle" ∧ yX5_overlaps.cls ≠ "java/lang/invoke/VarHandle" ∧ (parseMethodDescriptor yX5_overlaps.desc).map (fun d => d.parameters.length) = some 2 := by decide +kernel
theorem hX5_place : yX5_place.cls ≠ "java/lang/invoke/MethodHandle" ∧ yX5_place.cls ≠ "java/lang/invoke/VarHandle" ∧ (parseMethodDescriptor yX5_place.desc).map (fun d => d.parameters.length) = some 3 := by decide +kernel
theorem hX5_placeBase : yX5_placeBase.cls ≠ "java/lang/invoke/MethodHandle" ∧ yX5_placeBase.cls ≠ "java/lang/invoke/VarHandle" ∧ (parseMethodDescriptor yX5_placeBase.desc).map (fun d => d.parameters.length) = some 1 := by decide +kernel
theorem hX5_placeFlange : yX5_placeFlange.cls ≠ "java/lang/invoke/MethodHandle" ∧ yX5_placeFlange.cls ≠ "java/lang/invoke/VarHandle" ∧ (parseMethodDescriptor yX5_placeFlange.desc).map (fun d => d.parameters.length) = some 4 := by decide +kernel
theorem hX5_placeFlat : yX5_placeFlat.cls ≠ "java/lang/invoke/MethodHandle" ∧ yX5_placeFlat.cls ≠ "java/lang/invoke/VarHandle" ∧ (parseMethodDescriptor yX5_placeFlat.desc).map (fun d => d.parameters.length) = some 1 := by decide +kernel
theorem hX5_roomFor : yX5_roomFor.cls ≠ "java/lang/invoke/MethodHandle" ∧ yX5_roomFor.cls ≠ "java/lang/invoke/VarHandle" ∧ (parseMethodDescriptor yX5_roomFor.desc).map (fun d => d.parameters.length) = some 3 := by decide +kernel
theorem hX5_setBox : yX5_setBox.cls ≠ "java/lang/invoke/MethodHandle" ∧ yX5_setBox.cls ≠ "java/lang/invoke/VarHandle" ∧ (parseMethodDescriptor yX5_setBox.desc).map (fun d => d.parameters.length) = some 5 := by decide +kernel
theorem hX5_share : yX5_share.cls ≠ "java/lang/invoke/MethodHandle" ∧ yX5_share.cls ≠ "java/lang/invoke/VarHandle" ∧ (parseMethodDescriptor yX5_share.desc).map (fun d => d.parameters.length) = some 3 := by decide +kernel
theorem hX5_signedNormal : yX5_signedNormal.cls ≠ "java/lang/invoke/MethodHandle" ∧ yX5_signedNormal.cls ≠ "java/lang/invoke/VarHandle" ∧ (parseMethodDescriptor yX5_signedNormal.desc).map (fun d => d.parameters.length) = some 1 := by decide +kernel
theorem hX5_size : yX5_size.cls ≠ "java/lang/invoke/MethodHandle" ∧ yX5_size.cls ≠ "java/lang/invoke/VarHandle" ∧ (parseMethodDescriptor yX5_size.desc).map (fun d => d.parameters.length) = some 1 := by decide +kernel
theorem hX5_standPunch : yX5_standPunch.cls ≠ "java/lang/invoke/MethodHandle" ∧ yX5_standPunch.cls ≠ "java/lang/invoke/VarHandle" ∧ (parseMethodDescriptor yX5_standPunch.desc).map (fun d => d.parameters.length) = some 4 := by decide +kernel
theorem hX6_begin : yX6_begin.cls ≠ "java/lang/invoke/MethodHandle" ∧ yX6_begin.cls ≠ "java/lang/invoke/VarHandle" ∧ (parseMethodDescriptor yX6_begin.desc).map (fun d => d.parameters.length) = some 1 := by decide +kernel
theorem hX6_checkWidth : yX6_checkWidth.cls ≠ "java/lang/invoke/MethodHandle" ∧ yX6_checkWidth.cls ≠ "java/lang/invoke/VarHandle" ∧ (parseMethodDescriptor yX6_checkWidth.desc).map (fun d => d.parameters.length) = some 1 := by decide +kernel
theorem hX6_fail : yX6_fail.cls ≠ "java/lang/invoke/MethodHandle" ∧ yX6_fail.cls ≠ "java/lang/invoke/VarHandle" ∧ (parseMethodDescriptor yX6_fail.desc).map (fun d => d.parameters.length) = some 2 := by decide +kernel
theorem hX6_find : yX6_find.cls ≠ "java/lang/invoke/MethodHandle" ∧ yX6_find.cls ≠ "java/lang/invoke/VarHandle" ∧ (parseMethodDescriptor yX6_find.desc).map (fun d => d.parameters.length) = some 1 := by decide +kernel
theorem hX6_init : yX6_init.cls ≠ "java/lang/invoke/MethodHandle" ∧ yX6_init.cls ≠ "java/lang/invoke/VarHandle" ∧ (parseMethodDescriptor yX6_init.desc).map (fun d => d.parameters.length) = some 1 := by decide +kernel
theorem hX6_isDigit : yX6_isDigit.cls ≠ "java/lang/invoke/MethodHandle" ∧ yX6_isDigit.cls ≠ "java/lang/invoke/VarHandle" ∧ (parseMethodDescriptor yX6_isDigit.desc).map (fun d => d.parameters.length) = some 1 := by decide +kernel
theorem hX6_isLetter : yX6_isLetter.cls ≠ "java/lang/invoke/MethodHandle" ∧ yX6_isLetter.cls ≠ "java/lang/invoke/VarHandle" ∧ (parseMethodDescriptor yX6_isLetter.desc).map (fun d => d.parameters.length) = some 1 := by decide +kernel
theorem hX6_isOwnWord : yX6_isOwnWord.cls ≠ "java/lang/invoke/MethodHandle" ∧ yX6_isOwnWord.cls ≠ "java/lang/invoke/VarHandle" ∧ (parseMethodDescriptor yX6_isOwnWord.desc).map (fun d => d.parameters.length) = some 0 := by decide +kernel
theorem hX6_isUp : yX6_isUp.cls ≠ "java/lang/invoke/MethodHandle" ∧ yX6_isUp.cls ≠ "java/lang/invoke/VarHandle" ∧ (parseMethodDescriptor yX6_isUp.desc).map (fun d => d.parameters.length) = some 0 := by decide +kernel
theorem hX6_keyword : yX6_keyword.cls ≠ "java/lang/invoke/MethodHandle" ∧ yX6_keyword.cls ≠ "java/lang/invoke/VarHandle" ∧ (parseMethodDescriptor yX6_keyword.desc).map (fun d => d.parameters.length) = some 1 := by decide +kernel
theorem hX6_moreText : yX6_moreText.cls ≠ "java/lang/invoke/MethodHandle" ∧ yX6_moreText.cls ≠ "java/lang/invoke/VarHandle" ∧ (parseMethodDescriptor yX6_moreText.desc).map (fun d => d.parameters.length) = some 0 := by decide +kernel
theorem hX6_name : yX6_name.cls ≠ "java/lang/invoke/MethodHandle" ∧ yX6_name.cls ≠ "java/lang/invoke/VarHandle" ∧ (parseMethodDescriptor yX6_name.desc).map (fun d => d.parameters.length) = some 0 := by decide +kernel
theorem hX6_newName : yX6_newName.cls ≠ "java/lang/invoke/MethodHandle" ∧ yX6_newName.cls ≠ "java/lang/invoke/VarHandle" ∧ (parseMethodDescriptor yX6_newName.desc).map (fun d => d.parameters.length) = some 0 := by decide +kernel
theorem hX6_number : yX6_number.cls ≠ "java/lang/invoke/MethodHandle" ∧ yX6_number.cls ≠ "java/lang/invoke/VarHandle" ∧ (parseMethodDescriptor yX6_number.desc).map (fun d => d.parameters.length) = some 2 := by decide +kernel
theorem hX6_read : yX6_read.cls ≠ "java/lang/invoke/MethodHandle" ∧ yX6_read.cls ≠ "java/lang/invoke/VarHandle" ∧ (parseMethodDescriptor yX6_read.desc).map (fun d => d.parameters.length) = some 1 := by decide +kernel
theorem hX6_readAllow : yX6_readAllow.cls ≠ "java/lang/invoke/MethodHandle" ∧ yX6_readAllow.cls ≠ "java/lang/invoke/VarHandle" ∧ (parseMethodDescriptor yX6_readAllow.desc).map (fun d => d.parameters.length) = some 0 := by decide +kernel
theorem hX6_readFlange : yX6_readFlange.cls ≠ "java/lang/invoke/MethodHandle" ∧ yX6_readFlange.cls ≠ "java/lang/invoke/VarHandle" ∧ (parseMethodDescriptor yX6_readFlange.desc).map (fun d => d.parameters.length) = some 0 := by decide +kernel
theorem hX6_readSheet : yX6_readSheet.cls ≠ "java/lang/invoke/MethodHandle" ∧ yX6_readSheet.cls ≠ "java/lang/invoke/VarHandle" ∧ (parseMethodDescriptor yX6_readSheet.desc).map (fun d => d.parameters.length) = some 0 := by decide +kernel
theorem hX6_readTool : yX6_readTool.cls ≠ "java/lang/invoke/MethodHandle" ∧ yX6_readTool.cls ≠ "java/lang/invoke/VarHandle" ∧ (parseMethodDescriptor yX6_readTool.desc).map (fun d => d.parameters.length) = some 0 := by decide +kernel
theorem hX6_readWord : yX6_readWord.cls ≠ "java/lang/invoke/MethodHandle" ∧ yX6_readWord.cls ≠ "java/lang/invoke/VarHandle" ∧ (parseMethodDescriptor yX6_readWord.desc).map (fun d => d.parameters.length) = some 0 := by decide +kernel
theorem hX6_semicolon : yX6_semicolon.cls ≠ "java/lang/invoke/MethodHandle" ∧ yX6_semicolon.cls ≠ "java/lang/invoke/VarHandle" ∧ (parseMethodDescriptor yX6_semicolon.desc).map (fun d => d.parameters.length) = some 0 := by decide +kernel
theorem hX6_sideOf : yX6_sideOf.cls ≠ "java/lang/invoke/MethodHandle" ∧ yX6_sideOf.cls ≠ "java/lang/invoke/VarHandle" ∧ (parseMethodDescriptor yX6_sideOf.desc).map (fun d => d.parameters.length) = some 1 := by decide +kernel
theorem hX6_skipBlanks : yX6_skipBlanks.cls ≠ "java/lang/invoke/MethodHandle" ∧ yX6_skipBlanks.cls ≠ "java/lang/invoke/VarHandle" ∧ (parseMethodDescriptor yX6_skipBlanks.desc).map (fun d => d.parameters.length) = some 0 := by decide +kernel
theorem hX6_where : yX6_where.cls ≠ "java/lang/invoke/MethodHandle" ∧ yX6_where.cls ≠ "java/lang/invoke/VarHandle" ∧ (parseMethodDescriptor yX6_where.desc).map (fun d => d.parameters.length) = some 0 := by decide +kernel
theorem hX6_wordIs : yX6_wordIs.cls ≠ "java/lang/invoke/MethodHandle" ∧ yX6_wordIs.cls ≠ "java/lang/invoke/VarHandle" ∧ (parseMethodDescriptor yX6_wordIs.desc).map (fun d => d.parameters.length) = some 1 := by decide +kernel
theorem hX7_at : yX7_at.cls ≠ "java/lang/invoke/MethodHandle" ∧ yX7_at.cls ≠ "java/lang/invoke/VarHandle" ∧ (parseMethodDescriptor yX7_at.desc).map (fun d => d.parameters.length) = some 1 := by decide +kernel
theorem hX7_hasRoom : yX7_hasRoom.cls ≠ "java/lang/invoke/MethodHandle" ∧ yX7_hasRoom.cls ≠ "java/lang/invoke/VarHandle" ∧ (parseMethodDescriptor yX7_hasRoom.desc).map (fun d => d.parameters.length) = some 0 := by decide +kernel
theorem hX7_init : yX7_init.cls ≠ "java/lang/invoke/MethodHandle" ∧ yX7_init.cls ≠ "java/lang/invoke/VarHandle" ∧ (parseMethodDescriptor yX7_init.desc).map (fun d => d.parameters.length) = some 0 := by decide +kernel
theorem hX7_put : yX7_put.cls ≠ "java/lang/invoke/MethodHandle" ∧ yX7_put.cls ≠ "java/lang/invoke/VarHandle" ∧ (parseMethodDescriptor yX7_put.desc).map (fun d => d.parameters.length) = some 1 := by decide +kernel
theorem hX8_ahead : yX8_ahead.cls ≠ "java/lang/invoke/MethodHandle" ∧ yX8_ahead.cls ≠ "java/lang/invoke/VarHandle" ∧ (parseMethodDescriptor yX8_ahead.desc).map (fun d => d.parameters.length) = some 2 := by decide +kernel
theorem hX8_allow : yX8_allow.cls ≠ "java/lang/invoke/MethodHandle" ∧ yX8_allow.cls ≠ "java/lang/invoke/VarHandle" ∧ (parseMethodDescriptor yX8_allow.desc).map (fun d => d.parameters.length) = some 2 := by decide +kernel
theorem hX8_allowance : yX8_allowance.cls ≠ "java/lang/invoke/MethodHandle" ∧ yX8_allowance.cls ≠ "java/lang/invoke/VarHandle" ∧ (parseMethodDescriptor yX8_allowance.desc).map (fun d => d.parameters.length) = some 1 := by decide +kernel
theorem hX8_bend : yX8_bend.cls ≠ "java/lang/invoke/MethodHandle" ∧ yX8_bend.cls ≠ "java/lang/invoke/VarHandle" ∧ (parseMethodDescriptor yX8_bend.desc).map (fun d => d.parameters.length) = some 1 := by decide +kernel
theorem hX8_between : yX8_between.cls ≠ "java/lang/invoke/MethodHandle" ∧ yX8_between.cls ≠ "java/lang/invoke/VarHandle" ∧ (parseMethodDescriptor yX8_between.desc).map (fun d => d.parameters.length) = some 2 := by decide +kernel
theorem hX8_bit : yX8_bit.cls ≠ "java/lang/invoke/MethodHandle" ∧ yX8_bit.cls ≠ "java/lang/invoke/VarHandle" ∧ (parseMethodDescriptor yX8_bit.desc).map (fun d => d.parameters.length) = some 1 := by decide +kernel
theorem hX8_chance : yX8_chance.cls ≠ "java/lang/invoke/MethodHandle" ∧ yX8_chance.cls ≠ "java/lang/invoke/VarHandle" ∧ (parseMethodDescriptor yX8_chance.desc).map (fun d => d.parameters.length) = some 1 := by decide +kernel
theorem hX8_clash : yX8_clash.cls ≠ "java/lang/invoke/MethodHandle" ∧ yX8_clash.cls ≠ "java/lang/invoke/VarHandle" ∧ (parseMethodDescriptor yX8_clash.desc).map (fun d => d.parameters.length) = some 2 := by decide +kernel
theorem hX8_clashesIn : yX8_clashesIn.cls ≠ "java/lang/invoke/MethodHandle" ∧ yX8_clashesIn.cls ≠ "java/lang/invoke/VarHandle" ∧ (parseMethodDescriptor yX8_clashesIn.desc).map (fun d => d.parameters.length) = some 1 := by decide +kernel
theorem hX8_deny : yX8_deny.cls ≠ "java/lang/invoke/MethodHandle" ∧ yX8_deny.cls ≠ "java/lang/invoke/VarHandle" ∧ (parseMethodDescriptor yX8_deny.desc).map (fun d => d.parameters.length) = some 1 := by decide +kernel
theorem hX8_draw : yX8_draw.cls ≠ "java/lang/invoke/MethodHandle" ∧ yX8_draw.cls ≠ "java/lang/invoke/VarHandle" ∧ (parseMethodDescriptor yX8_draw.desc).map (fun d => d.parameters.length) = some 1 := by decide +kernel
theorem hX8_end : yX8_end.cls ≠ "java/lang/invoke/MethodHandle" ∧ yX8_end.cls ≠ "java/lang/invoke/VarHandle" ∧ (parseMethodDescriptor yX8_end.desc).map (fun d => d.parameters.length) = some 1 := by decide +kernel
theorem hX8_fault : yX8_fault.cls ≠ "java/lang/invoke/MethodHandle" ∧ yX8_fault.cls ≠ "java/lang/invoke/VarHandle" ∧ (parseMethodDescriptor yX8_fault.desc).map (fun d => d.parameters.length) = some 1 := by decide +kernel
theorem hX8_feed : yX8_feed.cls ≠ "java/lang/invoke/MethodHandle" ∧ yX8_feed.cls ≠ "java/lang/invoke/VarHandle" ∧ (parseMethodDescriptor yX8_feed.desc).map (fun d => d.parameters.length) = some 5 := by decide +kernel
theorem hX8_fewest : yX8_fewest.cls ≠ "java/lang/invoke/MethodHandle" ∧ yX8_fewest.cls ≠ "java/lang/invoke/VarHandle" ∧ (parseMethodDescriptor yX8_fewest.desc).map (fun d => d.parameters.length) = some 1 := by decide +kernel
theorem hX8_fits : yX8_fits.cls ≠ "java/lang/invoke/MethodHandle" ∧ yX8_fits.cls ≠ "java/lang/invoke/VarHandle" ∧ (parseMethodDescriptor yX8_fits.desc).map (fun d => d.parameters.length) = some 2 := by decide +kernel
theorem hX8_flange : yX8_flange.cls ≠ "java/lang/invoke/MethodHandle" ∧ yX8_flange.cls ≠ "java/lang/invoke/VarHandle" ∧ (parseMethodDescriptor yX8_flange.desc).map (fun d => d.parameters.length) = some 2 := by decide +kernel
theorem hX8_flat : yX8_flat.cls ≠ "java/lang/invoke/MethodHandle" ∧ yX8_flat.cls ≠ "java/lang/invoke/VarHandle" ∧ (parseMethodDescriptor yX8_flat.desc).map (fun d => d.parameters.length) = some 2 := by decide +kernel
theorem hX8_flatBox : yX8_flatBox.cls ≠ "java/lang/invoke/MethodHandle" ∧ yX8_flatBox.cls ≠ "java/lang/invoke/VarHandle" ∧ (parseMethodDescriptor yX8_flatBox.desc).map (fun d => d.parameters.length) = some 1 := by decide +kernel
theorem hX8_follow : yX8_follow.cls ≠ "java/lang/invoke/MethodHandle" ∧ yX8_follow.cls ≠ "java/lang/invoke/VarHandle" ∧ (parseMethodDescriptor yX8_follow.desc).map (fun d => d.parameters.length) = some 1 := by decide +kernel
theorem hX8_gap : yX8_gap.cls ≠ "java/lang/invoke/MethodHandle" ∧ yX8_gap.cls ≠ "java/lang/invoke/VarHandle" ∧ (parseMethodDescriptor yX8_gap.desc).map (fun d => d.parameters.length) = some 2 := by decide +kernel
theorem hX8_has : yX8_has.cls ≠ "java/lang/invoke/MethodHandle" ∧ yX8_has.cls ≠ "java/lang/invoke/VarHandle" ∧ (parseMethodDescriptor yX8_has.desc).map (fun d => d.parameters.length) = some 1 := by decide +kernel
theorem hX8_init : yX8_init.cls ≠ "java/lang/invoke/MethodHandle" ∧ yX8_init.cls ≠ "java/lang/invoke/VarHandle" ∧ (parseMethodDescriptor yX8_init.desc).map (fun d => d.parameters.length) = some 0 := by decide +kernel
theorem hX8_isIn : yX8_isIn.cls ≠ "java/lang/invoke/MethodHandle" ∧ yX8_isIn.cls ≠ "java/lang/invoke/VarHandle" ∧ (parseMethodDescriptor yX8_isIn.desc).map (fun d => d.parameters.length) = some 2 := by decide +kernel
theorem hX8_isRadius : yX8_isRadius.cls ≠ "java/lang/invoke/MethodHandle" ∧ yX8_isRadius.cls ≠ "java/lang/invoke/VarHandle" ∧ (parseMethodDescriptor yX8_isRadius.desc).map (fun d => d.parameters.length) = some 1 := by decide +kernel
theorem hX8_isUnmade : yX8_isUnmade.cls ≠ "java/lang/invoke/MethodHandle" ∧ yX8_isUnmade.cls ≠ "java/lang/invoke/VarHandle" ∧ (parseMethodDescriptor yX8_isUnmade.desc).map (fun d => d.parameters.length) = some 1 := by decide +kernel
theorem hX8_lacks : yX8_lacks.cls ≠ "java/lang/invoke/MethodHandle" ∧ yX8_lacks.cls ≠ "java/lang/invoke/VarHandle" ∧ (parseMethodDescriptor yX8_lacks.desc).map (fun d => d.parameters.length) = some 1 := by decide +kernel
theorem hX8_lay : yX8_lay.cls ≠ "java/lang/invoke/MethodHandle" ∧ yX8_lay.cls ≠ "java/lang/invoke/VarHandle" ∧ (parseMethodDescriptor yX8_lay.desc).map (fun d => d.parameters.length) = some 1 := by decide +kernel
theorem hX8_letter : yX8_letter.cls ≠ "java/lang/invoke/MethodHandle" ∧ yX8_letter.cls ≠ "java/lang/invoke/VarHandle" ∧ (parseMethodDescriptor yX8_letter.desc).map (fun d => d.parameters.length) = some 2 := by decide +kernel
theorem hX8_mayBeLast : yX8_mayBeLast.cls ≠ "java/lang/invoke/MethodHandle" ∧ yX8_mayBeLast.cls ≠ "java/lang/invoke/VarHandle" ∧ (parseMethodDescriptor yX8_mayBeLast.desc).map (fun d => d.parameters.length) = some 1 := by decide +kernel
theorem hX8_meets : yX8_meets.cls ≠ "java/lang/invoke/MethodHandle" ∧ yX8_meets.cls ≠ "java/lang/invoke/VarHandle" ∧ (parseMethodDescriptor yX8_meets.desc).map (fun d => d.parameters.length) = some 2 := by decide +kernel
theorem hX8_mends : yX8_mends.cls ≠ "java/lang/invoke/MethodHandle" ∧ yX8_mends.cls ≠ "java/lang/invoke/VarHandle" ∧ (parseMethodDescriptor yX8_mends.desc).map (fun d => d.parameters.length) = some 0 := by decide +kernel
theorem hX8_normal : yX8_normal.cls ≠ "java/lang/invoke/MethodHandle" ∧ yX8_normal.cls ≠ "java/lang/invoke/VarHandle" ∧ (parseMethodDescriptor yX8_normal.desc).map (fun d => d.parameters.length) = some 1 := by decide +kernel
theorem hX8_open : yX8_open.cls ≠ "java/lang/invoke/MethodHandle" ∧ yX8_open.cls ≠ "java/lang/invoke/VarHandle" ∧ (parseMethodDescriptor yX8_open.desc).map (fun d => d.parameters.length) = some 1 := by decide +kernel
theorem hX8_opens : yX8_opens.cls ≠ "java/lang/invoke/MethodHandle" ∧ yX8_opens.cls ≠ "java/lang/invoke/VarHandle" ∧ (parseMethodDescriptor yX8_opens.desc).map (fun d => d.parameters.length) = some 0 := by decide +kernel
theorem hX8_order : yX8_order.cls ≠ "java/lang/invoke/MethodHandle" ∧ yX8_order.cls ≠ "java/lang/invoke/VarHandle" ∧ (parseMethodDescriptor yX8_order.desc).map (fun d => d.parameters.length) = some 1 := by decide +kernel
theorem hX8_orders : yX8_orders.cls ≠ "java/lang/invoke/MethodHandle" ∧ yX8_orders.cls ≠ "java/lang/invoke/VarHandle" ∧ (parseMethodDescriptor yX8_orders.desc).map (fun d => d.parameters.length) = some 0 := by decide +kernel
theorem hX8_overlap : yX8_overlap.cls ≠ "java/lang/invoke/MethodHandle" ∧ yX8_overlap.cls ≠ "java/lang/invoke/VarHandle" ∧ (parseMethodDescriptor yX8_overlap.desc).map (fun d => d.parameters.length) = some 2 := by decide +kernel
theorem hX8_part : yX8_part.cls ≠ "java/lang/invoke/MethodHandle" ∧ yX8_part.cls ≠ "java/lang/invoke/VarHandle" ∧ (parseMethodDescriptor yX8_part.desc).map (fun d => d.parameters.length) = some 0 := by decide +kernel
theorem hX8_partChanged : yX8_partChanged.cls ≠ "java/lang/invoke/MethodHandle" ∧ yX8_partChanged.cls ≠ "java/lang/invoke/VarHandle" ∧ (parseMethodDescriptor yX8_partChanged.desc).map (fun d => d.parameters.length) = some 0 := by decide +kernel
theorem hX8_placeNow : yX8_placeNow.cls ≠ "java/lang/invoke/MethodHandle" ∧ yX8_placeNow.cls ≠ "java/lang/invoke/VarHandle" ∧ (parseMethodDescriptor yX8_placeNow.desc).map (fun d => d.parameters.length) = some 0 := by decide +kernel
theorem hX8_press : yX8_press.cls ≠ "java/lang/invoke/MethodHandle" ∧ yX8_press.cls ≠ "java/lang/invoke/VarHandle" ∧ (parseMethodDescriptor yX8_press.desc).map (fun d => d.parameters.length) = some 1 := by decide +kernel
theorem hX8_reached : yX8_reached.cls ≠ "java/lang/invoke/MethodHandle" ∧ yX8_reached.cls ≠ "java/lang/invoke/VarHandle" ∧ (parseMethodDescriptor yX8_reached.desc).map (fun d => d.parameters.length) = some 1 := by decide +kernel
theorem hX8_reason : yX8_reason.cls ≠ "java/lang/invoke/MethodHandle" ∧ yX8_reason.cls ≠ "java/lang/invoke/VarHandle" ∧ (parseMethodDescriptor yX8_reason.desc).map (fun d => d.parameters.length) = some 2 := by decide +kernel
theorem hX8_refuse : yX8_refuse.cls ≠ "java/lang/invoke/MethodHandle" ∧ yX8_refuse.cls ≠ "java/lang/invoke/VarHandle" ∧ (parseMethodDescriptor yX8_refuse.desc).map (fun d => d.parameters.length) = some 1 := by decide +kernel
theorem hX8_remember : yX8_remember.cls ≠ "java/lang/invoke/MethodHandle" ∧ yX8_remember.cls ≠ "java/lang/invoke/VarHandle" ∧ (parseMethodDescriptor yX8_remember.desc).map (fun d => d.parameters.length) = some 0 := by decide +kernel
theorem hX8_searchOrders : yX8_searchOrders.cls ≠ "java/lang/invoke/MethodHandle" ∧ yX8_searchOrders.cls ≠ "java/lang/invoke/VarHandle" ∧ (parseMethodDescriptor yX8_searchOrders.desc).map (fun d => d.parameters.length) = some 0 := by decide +kernel
theorem hX8_see : yX8_see.cls ≠ "java/lang/invoke/MethodHandle" ∧ yX8_see.cls ≠ "java/lang/invoke/VarHandle" ∧ (parseMethodDescriptor yX8_see.desc).map (fun d => d.parameters.length) = some 0 := by decide +kernel
theorem hX8_seed : yX8_seed.cls ≠ "java/lang/invoke/MethodHandle" ∧ yX8_seed.cls ≠ "java/lang/invoke/VarHandle" ∧ (parseMethodDescriptor yX8_seed.desc).map (fun d => d.parameters.length) = some 1 := by decide +kernel
theorem hX8_setMade : yX8_setMade.cls ≠ "java/lang/invoke/MethodHandle" ∧ yX8_setMade.cls ≠ "java/lang/invoke/VarHandle" ∧ (parseMethodDescriptor yX8_setMade.desc).map (fun d => d.parameters.length) = some 1 := by decide +kernel
theorem hX8_smallest : yX8_smallest.cls ≠ "java/lang/invoke/MethodHandle" ∧ yX8_smallest.cls ≠ "java/lang/invoke/VarHandle" ∧ (parseMethodDescriptor yX8_smallest.desc).map (fun d => d.parameters.length) = some 1 := by decide +kernel
theorem hX8_space : yX8_space.cls ≠ "java/lang/invoke/MethodHandle" ∧ yX8_space.cls ≠ "java/lang/invoke/VarHandle" ∧ (parseMethodDescriptor yX8_space.desc).map (fun d => d.parameters.length) = some 2 := by decide +kernel
theorem hX8_spaceBox : yX8_spaceBox.cls ≠ "java/lang/invoke/MethodHandle" ∧ yX8_spaceBox.cls ≠ "java/lang/invoke/VarHandle" ∧ (parseMethodDescriptor yX8_spaceBox.desc).map (fun d => d.parameters.length) = some 1 := by decide +kernel
theorem hX8_status : yX8_status.cls ≠ "java/lang/invoke/MethodHandle" ∧ yX8_status.cls ≠ "java/lang/invoke/VarHandle" ∧ (parseMethodDescriptor yX8_status.desc).map (fun d => d.parameters.length) = some 1 := by decide +kernel
theorem hX8_tallest : yX8_tallest.cls ≠ "java/lang/invoke/MethodHandle" ∧ yX8_tallest.cls ≠ "java/lang/invoke/VarHandle" ∧ (parseMethodDescriptor yX8_tallest.desc).map (fun d => d.parameters.length) = some 0 := by decide +kernel
theorem hX8_tells : yX8_tells.cls ≠ "java/lang/invoke/MethodHandle" ∧ yX8_tells.cls ≠ "java/lang/invoke/VarHandle" ∧ (parseMethodDescriptor yX8_tells.desc).map (fun d => d.parameters.length) = some 2 := by decide +kernel
theorem hX8_thrifty : yX8_thrifty.cls ≠ "java/lang/invoke/MethodHandle" ∧ yX8_thrifty.cls ≠ "java/lang/invoke/VarHandle" ∧ (parseMethodDescriptor yX8_thrifty.desc).map (fun d => d.parameters.length) = some 2 := by decide +kernel
theorem hX8_tool : yX8_tool.cls ≠ "java/lang/invoke/MethodHandle" ∧ yX8_tool.cls ≠ "java/lang/invoke/VarHandle" ∧ (parseMethodDescriptor yX8_tool.desc).map (fun d => d.parameters.length) = some 1 := by decide +kernel
theorem hX8_tools : yX8_tools.cls ≠ "java/lang/invoke/MethodHandle" ∧ yX8_tools.cls ≠ "java/lang/invoke/VarHandle" ∧ (parseMethodDescriptor yX8_tools.desc).map (fun d => d.parameters.length) = some 2 := by decide +kernel
theorem hX8_tryOne : yX8_tryOne.cls ≠ "java/lang/invoke/MethodHandle" ∧ yX8_tryOne.cls ≠ "java/lang/invoke/VarHandle" ∧ (parseMethodDescriptor yX8_tryOne.desc).map (fun d => d.parameters.length) = some 1 := by decide +kernel
theorem hX8_turn : yX8_turn.cls ≠ "java/lang/invoke/MethodHandle" ∧ yX8_turn.cls ≠ "java/lang/invoke/VarHandle" ∧ (parseMethodDescriptor yX8_turn.desc).map (fun d => d.parameters.length) = some 1 := by decide +kernel
theorem hX8_turned : yX8_turned.cls ≠ "java/lang/invoke/MethodHandle" ∧ yX8_turned.cls ≠ "java/lang/invoke/VarHandle" ∧ (parseMethodDescriptor yX8_turned.desc).map (fun d => d.parameters.length) = some 1 := by decide +kernel
theorem hX8_undo : yX8_undo.cls ≠ "java/lang/invoke/MethodHandle" ∧ yX8_undo.cls ≠ "java/lang/invoke/VarHandle" ∧ (parseMethodDescriptor yX8_undo.desc).map (fun d => d.parameters.length) = some 0 := by decide +kernel
theorem hX8_why : yX8_why.cls ≠ "java/lang/invoke/MethodHandle" ∧ yX8_why.cls ≠ "java/lang/invoke/VarHandle" ∧ (parseMethodDescriptor yX8_why.desc).map (fun d => d.parameters.length) = some 2 := by decide +kernel
theorem hX9_after : yX9_after.cls ≠ "java/lang/invoke/MethodHandle" ∧ yX9_after.cls ≠ "java/lang/invoke/VarHandle" ∧ (parseMethodDescriptor yX9_after.desc).map (fun d => d.parameters.length) = some 3 := by decide +kernel
theorem hX9_ahead : yX9_ahead.cls ≠ "java/lang/invoke/MethodHandle" ∧ yX9_ahead.cls ≠ "java/lang/invoke/VarHandle" ∧ (parseMethodDescriptor yX9_ahead.desc).map (fun d => d.parameters.length) = some 2 := by decide +kernel
theorem hX9_allBends : yX9_allBends.cls ≠ "java/lang/invoke/MethodHandle" ∧ yX9_allBends.cls ≠ "java/lang/invoke/VarHandle" ∧ (parseMethodDescriptor yX9_allBends.desc).map (fun d => d.parameters.length) = some 0 := by decide +kernel
theorem hX9_allow : yX9_allow.cls ≠ "java/lang/invoke/MethodHandle" ∧ yX9_allow.cls ≠ "java/lang/invoke/VarHandle" ∧ (parseMethodDescriptor yX9_allow.desc).map (fun d => d.parameters.length) = some 2 := by decide +kernel
theorem hX9_allowance : yX9_allowance.cls ≠ "java/lang/invoke/MethodHandle" ∧ yX9_allowance.cls ≠ "java/lang/invoke/VarHandle" ∧ (parseMethodDescriptor yX9_allowance.desc).map (fun d => d.parameters.length) = some 1 := by decide +kernel
theorem hX9_allowanceOf : yX9_allowanceOf.cls ≠ "java/lang/invoke/MethodHandle" ∧ yX9_allowanceOf.cls ≠ "java/lang/invoke/VarHandle" ∧ (parseMethodDescriptor yX9_allowanceOf.desc).map (fun d => d.parameters.length) = some 1 := by decide +kernel
theorem hX9_alongX : yX9_alongX.cls ≠ "java/lang/invoke/MethodHandle" ∧ yX9_alongX.cls ≠ "java/lang/invoke/VarHandle" ∧ (parseMethodDescriptor yX9_alongX.desc).map (fun d => d.parameters.length) = some 1 := by decide +kernel
theorem hX9_alongY : yX9_alongY.cls ≠ "java/lang/invoke/MethodHandle" ∧ yX9_alongY.cls ≠ "java/lang/invoke/VarHandle" ∧ (parseMethodDescriptor yX9_alongY.desc).map (fun d => d.parameters.length) = some 1 := by decide +kernel
theorem hX9_anyClash : yX9_anyClash.cls ≠ "java/lang/invoke/MethodHandle" ∧ yX9_anyClash.cls ≠ "java/lang/invoke/VarHandle" ∧ (parseMethodDescriptor yX9_anyClash.desc).map (fun d => d.parameters.length) = some 0 := by decide +kernel
theorem hX9_axisOf : yX9_axisOf.cls ≠ "java/lang/invoke/MethodHandle" ∧ yX9_axisOf.cls ≠ "java/lang/invoke/VarHandle" ∧ (parseMethodDescriptor yX9_axisOf.desc).map (fun d => d.parameters.length) = some 1 := by decide +kernel
theorem hX9_bend : yX9_bend.cls ≠ "java/lang/invoke/MethodHandle" ∧ yX9_bend.cls ≠ "java/lang/invoke/VarHandle" ∧ (parseMethodDescriptor yX9_bend.desc).map (fun d => d.parameters.length) = some 1 := by decide +kernel
theorem hX9_bendMany : yX9_bendMany.cls ≠ "java/lang/invoke/MethodHandle" ∧ yX9_bendMany.cls ≠ "java/lang/invoke/VarHandle" ∧ (parseMethodDescriptor yX9_bendMany.desc).map (fun d => d.parameters.length) = some 0 := by decide +kernel
theorem hX9_between : yX9_between.cls ≠ "java/lang/invoke/MethodHandle" ∧ yX9_between.cls ≠ "java/lang/invoke/VarHandle" ∧ (parseMethodDescriptor yX9_between.desc).map (fun d => d.parameters.length) = some 2 := by decide +kernel
theorem hX9_bits : yX9_bits.cls ≠ "java/lang/invoke/MethodHandle" ∧ yX9_bits.cls ≠ "java/lang/invoke/VarHandle" ∧ (parseMethodDescriptor yX9_bits.desc).map (fun d => d.parameters.length) = some 1 := by decide +kernel
theorem hX9_byteAt : yX9_byteAt.cls ≠ "java/lang/invoke/MethodHandle" ∧ yX9_byteAt.cls ≠ "java/lang/invoke/VarHandle" ∧ (parseMethodDescriptor yX9_byteAt.desc).map (fun d => d.parameters.length) = some 1 := by decide +kernel
theorem hX9_canOpen : yX9_canOpen.cls ≠ "java/lang/invoke/MethodHandle" ∧ yX9_canOpen.cls ≠ "java/lang/invoke/VarHandle" ∧ (parseMethodDescriptor yX9_canOpen.desc).map (fun d => d.parameters.length) = some 1 := by decide +kernel
theorem hX9_chance : yX9_chance.cls ≠ "java/lang/invoke/MethodHandle" ∧ yX9_chance.cls ≠ "java/lang/invoke/VarHandle" ∧ (parseMethodDescriptor yX9_chance.desc).map (fun d => d.parameters.length) = some 1 := by decide +kernel
theorem hX9_clash : yX9_clash.cls ≠ "java/lang/invoke/MethodHandle" ∧ yX9_clash.cls ≠ "java/lang/invoke/VarHandle" ∧ (parseMethodDescriptor yX9_clash.desc).map (fun d => d.parameters.length) = some 2 := by decide +kernel
theorem hX9_copiesCorner : yX9_copiesCorner.cls ≠ "java/lang/invoke/MethodHandle" ∧ yX9_copiesCorner.cls ≠ "java/lang/invoke/VarHandle" ∧ (parseMethodDescriptor yX9_copiesCorner.desc).map (fun d => d.parameters.length) = some 2 := by decide +kernel
theorem hX9_costAt : yX9_costAt.cls ≠ "java/lang/invoke/MethodHandle" ∧ yX9_costAt.cls ≠ "java/lang/invoke/VarHandle" ∧ (parseMethodDescriptor yX9_costAt.desc).map (fun d => d.parameters.length) = some 2 := by decide +kernel
theorem hX9_deadEnds : yX9_deadEnds.cls ≠ "java/lang/invoke/MethodHandle" ∧ yX9_deadEnds.cls ≠ "java/lang/invoke/VarHandle" ∧ (parseMethodDescriptor yX9_deadEnds.desc).map (fun d => d.parameters.length) = some 1 := by decide +kernel
theorem hX9_depthOf : yX9_depthOf.cls ≠ "java/lang/invoke/MethodHandle" ∧ yX9_depthOf.cls ≠ "java/lang/invoke/VarHandle" ∧ (parseMethodDescriptor yX9_depthOf.desc).map (fun d => d.parameters.length) = some 1 := by decide +kernel
theorem hX9_doClash : yX9_doClash.cls ≠ "java/lang/invoke/MethodHandle" ∧ yX9_doClash.cls ≠ "java/lang/invoke/VarHandle" ∧ (parseMethodDescriptor yX9_doClash.desc).map (fun d => d.parameters.length) = some 2 := by decide +kernel
theorem hX9_doOverlap : yX9_doOverlap.cls ≠ "java/lang/invoke/MethodHandle" ∧ yX9_doOverlap.cls ≠ "java/lang/invoke/VarHandle" ∧ (parseMethodDescriptor yX9_doOverlap.desc).map (fun d => d.parameters.length) = some 2 := by decide +kernel
theorem hX9_draw : yX9_draw.cls ≠ "java/lang/invoke/MethodHandle" ∧ yX9_draw.cls ≠ "java/lang/invoke/VarHandle" ∧ (parseMethodDescriptor yX9_draw.desc).map (fun d => d.parameters.length) = some 1 := by decide +kernel
theorem hX9_end : yX9_end.cls ≠ "java/lang/invoke/MethodHandle" ∧ yX9_end.cls ≠ "java/lang/invoke/VarHandle" ∧ (parseMethodDescriptor yX9_end.desc).map (fun d => d.parameters.length) = some 1 := by decide +kernel
theorem hX9_endsWell : yX9_endsWell.cls ≠ "java/lang/invoke/MethodHandle" ∧ yX9_endsWell.cls ≠ "java/lang/invoke/VarHandle" ∧ (parseMethodDescriptor yX9_endsWell.desc).map (fun d => d.parameters.length) = some 0 := by decide +kernel
theorem hX9_fault : yX9_fault.cls ≠ "java/lang/invoke/MethodHandle" ∧ yX9_fault.cls ≠ "java/lang/invoke/VarHandle" ∧ (parseMethodDescriptor yX9_fault.desc).map (fun d => d.parameters.length) = some 1 := by decide +kernel
theorem hX9_faults : yX9_faults.cls ≠ "java/lang/invoke/MethodHandle" ∧ yX9_faults.cls ≠ "java/lang/invoke/VarHandle" ∧ (parseMethodDescriptor yX9_faults.desc).map (fun d => d.parameters.length) = some 2 := by decide +kernel
theorem hX9_feed : yX9_feed.cls ≠ "java/lang/invoke/MethodHandle" ∧ yX9_feed.cls ≠ "java/lang/invoke/VarHandle" ∧ (parseMethodDescriptor yX9_feed.desc).map (fun d => d.parameters.length) = some 5 := by decide +kernel
theorem hX9_fewest : yX9_fewest.cls ≠ "java/lang/invoke/MethodHandle" ∧ yX9_fewest.cls ≠ "java/lang/invoke/VarHandle" ∧ (parseMethodDescriptor yX9_fewest.desc).map (fun d => d.parameters.length) = some 1 := by decide +kernel
theorem hX9_fits : yX9_fits.cls ≠ "java/lang/invoke/MethodHandle" ∧ yX9_fits.cls ≠ "java/lang/invoke/VarHandle" ∧ (parseMethodDescriptor yX9_fits.desc).map (fun d => d.parameters.length) = some 2 := by decide +kernel
theorem hX9_flange : yX9_flange.cls ≠ "java/lang/invoke/MethodHandle" ∧ yX9_flange.cls ≠ "java/lang/invoke/VarHandle" ∧ (parseMethodDescriptor yX9_flange.desc).map (fun d => d.parameters.length) = some 2 := by decide +kernel
theorem hX9_flangeMany : yX9_flangeMany.cls ≠ "java/lang/invoke/MethodHandle" ∧ yX9_flangeMany.cls ≠ "java/lang/invoke/VarHandle" ∧ (parseMethodDescriptor yX9_flangeMany.desc).map (fun d => d.parameters.length) = some 0 := by decide +kernel
theorem hX9_flat : yX9_flat.cls ≠ "java/lang/invoke/MethodHandle" ∧ yX9_flat.cls ≠ "java/lang/invoke/VarHandle" ∧ (parseMethodDescriptor yX9_flat.desc).map (fun d => d.parameters.length) = some 2 := by decide +kernel
theorem hX9_flatBox : yX9_flatBox.cls ≠ "java/lang/invoke/MethodHandle" ∧ yX9_flatBox.cls ≠ "java/lang/invoke/VarHandle" ∧ (parseMethodDescriptor yX9_flatBox.desc).map (fun d => d.parameters.length) = some 1 := by decide +kernel
theorem hX9_follow : yX9_follow.cls ≠ "java/lang/invoke/MethodHandle" ∧ yX9_follow.cls ≠ "java/lang/invoke/VarHandle" ∧ (parseMethodDescriptor yX9_follow.desc).map (fun d => d.parameters.length) = some 1 := by decide +kernel
theorem hX9_forgetsLain : yX9_forgetsLain.cls ≠ "java/lang/invoke/MethodHandle" ∧ yX9_forgetsLain.cls ≠ "java/lang/invoke/VarHandle" ∧ (parseMethodDescriptor yX9_forgetsLain.desc).map (fun d => d.parameters.length) = some 0 := by decide +kernel
theorem hX9_gap : yX9_gap.cls ≠ "java/lang/invoke/MethodHandle" ∧ yX9_gap.cls ≠ "java/lang/invoke/VarHandle" ∧ (parseMethodDescriptor yX9_gap.desc).map (fun d => d.parameters.length) = some 2 := by decide +kernel
theorem hX9_goesOnFlat : yX9_goesOnFlat.cls ≠ "java/lang/invoke/MethodHandle" ∧ yX9_goesOnFlat.cls ≠ "java/lang/invoke/VarHandle" ∧ (parseMethodDescriptor yX9_goesOnFlat.desc).map (fun d => d.parameters.length) = some 2 := by decide +kernel
theorem hX9_goesToSide : yX9_goesToSide.cls ≠ "java/lang/invoke/MethodHandle" ∧ yX9_goesToSide.cls ≠ "java/lang/invoke/VarHandle" ∧ (parseMethodDescriptor yX9_goesToSide.desc).map (fun d => d.parameters.length) = some 3 := by decide +kernel
theorem hX9_goesWell : yX9_goesWell.cls ≠ "java/lang/invoke/MethodHandle" ∧ yX9_goesWell.cls ≠ "java/lang/invoke/VarHandle" ∧ (parseMethodDescriptor yX9_goesWell.desc).map (fun d => d.parameters.length) = some 0 := by decide +kernel
theorem hX9_greater : yX9_greater.cls ≠ "java/lang/invoke/MethodHandle" ∧ yX9_greater.cls ≠ "java/lang/invoke/VarHandle" ∧ (parseMethodDescriptor yX9_greater.desc).map (fun d => d.parameters.length) = some 2 := by decide +kernel
theorem hX9_hangMany : yX9_hangMany.cls ≠ "java/lang/invoke/MethodHandle" ∧ yX9_hangMany.cls ≠ "java/lang/invoke/VarHandle" ∧ (parseMethodDescriptor yX9_hangMany.desc).map (fun d => d.parameters.length) = some 1 := by decide +kernel
theorem hX9_has : yX9_has.cls ≠ "java/lang/invoke/MethodHandle" ∧ yX9_has.cls ≠ "java/lang/invoke/VarHandle" ∧ (parseMethodDescriptor yX9_has.desc).map (fun d => d.parameters.length) = some 1 := by decide +kernel
theorem hX9_here : yX9_here.cls ≠ "java/lang/invoke/MethodHandle" ∧ yX9_here.cls ≠ "java/lang/invoke/VarHandle" ∧ (parseMethodDescriptor yX9_here.desc).map (fun d => d.parameters.length) = some 0 := by decide +kernel
theorem hX9_init : yX9_init.cls ≠ "java/lang/invoke/MethodHandle" ∧ yX9_init.cls ≠ "java/lang/invoke/VarHandle" ∧ (parseMethodDescriptor yX9_init.desc).map (fun d => d.parameters.length) = some 0 := by decide +kernel
theorem hX9_isBend : yX9_isBend.cls ≠ "java/lang/invoke/MethodHandle" ∧ yX9_isBend.cls ≠ "java/lang/invoke/VarHandle" ∧ (parseMethodDescriptor yX9_isBend.desc).map (fun d => d.parameters.length) = some 1 := by decide +kernel
theorem hX9_isBetween : yX9_isBetween.cls ≠ "java/lang/invoke/MethodHandle" ∧ yX9_isBetween.cls ≠ "java/lang/invoke/VarHandle" ∧ (parseMethodDescriptor yX9_isBetween.desc).map (fun d => d.parameters.length) = some 3 := by decide +kernel
theorem hX9_isDigit : yX9_isDigit.cls ≠ "java/lang/invoke/MethodHandle" ∧ yX9_isDigit.cls ≠ "java/lang/invoke/VarHandle" ∧ (parseMethodDescriptor yX9_isDigit.desc).map (fun d => d.parameters.length) = some 1 := by decide +kernel
theorem hX9_isFit : yX9_isFit.cls ≠ "java/lang/invoke/MethodHandle" ∧ yX9_isFit.cls ≠ "java/lang/invoke/VarHandle" ∧ (parseMethodDescriptor yX9_isFit.desc).map (fun d => d.parameters.length) = some 2 := by decide +kernel
theorem hX9_isFlange : yX9_isFlange.cls ≠ "java/lang/invoke/MethodHandle" ∧ yX9_isFlange.cls ≠ "java/lang/invoke/VarHandle" ∧ (parseMethodDescriptor yX9_isFlange.desc).map (fun d => d.parameters.length) = some 1 := by decide +kernel
theorem hX9_isIn : yX9_isIn.cls ≠ "java/lang/invoke/MethodHandle" ∧ yX9_isIn.cls ≠ "java/lang/invoke/VarHandle" ∧ (parseMethodDescriptor yX9_isIn.desc).map (fun d => d.parameters.length) = some 3 := by decide +kernel
theorem hX9_isMade : yX9_isMade.cls ≠ "java/lang/invoke/MethodHandle" ∧ yX9_isMade.cls ≠ "java/lang/invoke/VarHandle" ∧ (parseMethodDescriptor yX9_isMade.desc).map (fun d => d.parameters.length) = some 1 := by decide +kernel
theorem hX9_isOf : yX9_isOf.cls ≠ "java/lang/invoke/MethodHandle" ∧ yX9_isOf.cls ≠ "java/lang/invoke/VarHandle" ∧ (parseMethodDescriptor yX9_isOf.desc).map (fun d => d.parameters.length) = some 2 := by decide +kernel
theorem hX9_isOrderBy : yX9_isOrderBy.cls ≠ "java/lang/invoke/MethodHandle" ∧ yX9_isOrderBy.cls ≠ "java/lang/invoke/VarHandle" ∧ (parseMethodDescriptor yX9_isOrderBy.desc).map (fun d => d.parameters.length) = some 1 := by decide +kernel
theorem hX9_isPiece : yX9_isPiece.cls ≠ "java/lang/invoke/MethodHandle" ∧ yX9_isPiece.cls ≠ "java/lang/invoke/VarHandle" ∧ (parseMethodDescriptor yX9_isPiece.desc).map (fun d => d.parameters.length) = some 1 := by decide +kernel
theorem hX9_isRefused : yX9_isRefused.cls ≠ "java/lang/invoke/MethodHandle" ∧ yX9_isRefused.cls ≠ "java/lang/invoke/VarHandle" ∧ (parseMethodDescriptor yX9_isRefused.desc).map (fun d => d.parameters.length) = some 1 := by decide +kernel
theorem hX9_isSmall : yX9_isSmall.cls ≠ "java/lang/invoke/MethodHandle" ∧ yX9_isSmall.cls ≠ "java/lang/invoke/VarHandle" ∧ (parseMethodDescriptor yX9_isSmall.desc).map (fun d => d.parameters.length) = some 1 := by decide +kernel
theorem hX9_isState : yX9_isState.cls ≠ "java/lang/invoke/MethodHandle" ∧ yX9_isState.cls ≠ "java/lang/invoke/VarHandle" ∧ (parseMethodDescriptor yX9_isState.desc).map (fun d => d.parameters.length) = some 1 := by decide +kernel
theorem hX9_lacks : yX9_lacks.cls ≠ "java/lang/invoke/MethodHandle" ∧ yX9_lacks.cls ≠ "java/lang/invoke/VarHandle" ∧ (parseMethodDescriptor yX9_lacks.desc).map (fun d => d.parameters.length) = some 1 := by decide +kernel
theorem hX9_lainOf : yX9_lainOf.cls ≠ "java/lang/invoke/MethodHandle" ∧ yX9_lainOf.cls ≠ "java/lang/invoke/VarHandle" ∧ (parseMethodDescriptor yX9_lainOf.desc).map (fun d => d.parameters.length) = some 1 := by decide +kernel
theorem hX9_lay : yX9_lay.cls ≠ "java/lang/invoke/MethodHandle" ∧ yX9_lay.cls ≠ "java/lang/invoke/VarHandle" ∧ (parseMethodDescriptor yX9_lay.desc).map (fun d => d.parameters.length) = some 1 := by decide +kernel
theorem hX9_lays : yX9_lays.cls ≠ "java/lang/invoke/MethodHandle" ∧ yX9_lays.cls ≠ "java/lang/invoke/VarHandle" ∧ (parseMethodDescriptor yX9_lays.desc).map (fun d => d.parameters.length) = some 1 := by decide +kernel
theorem hX9_laysBehind : yX9_laysBehind.cls ≠ "java/lang/invoke/MethodHandle" ∧ yX9_laysBehind.cls ≠ "java/lang/invoke/VarHandle" ∧ (parseMethodDescriptor yX9_laysBehind.desc).map (fun d => d.parameters.length) = some 4 := by decide +kernel
theorem hX9_laysClear : yX9_laysClear.cls ≠ "java/lang/invoke/MethodHandle" ∧ yX9_laysClear.cls ≠ "java/lang/invoke/VarHandle" ∧ (parseMethodDescriptor yX9_laysClear.desc).map (fun d => d.parameters.length) = some 0 := by decide +kernel
theorem hX9_laysClearAgain : yX9_laysClearAgain.cls ≠ "java/lang/invoke/MethodHandle" ∧ yX9_laysClearAgain.cls ≠ "java/lang/invoke/VarHandle" ∧ (parseMethodDescriptor yX9_laysClearAgain.desc).map (fun d => d.parameters.length) = some 0 := by decide +kernel
theorem hX9_laysEnds : yX9_laysEnds.cls ≠ "java/lang/invoke/MethodHandle" ∧ yX9_laysEnds.cls ≠ "java/lang/invoke/VarHandle" ∧ (parseMethodDescriptor yX9_laysEnds.desc).map (fun d => d.parameters.length) = some 3 := by decide +kernel
theorem hX9_laysFewest : yX9_laysFewest.cls ≠ "java/lang/invoke/MethodHandle" ∧ yX9_laysFewest.cls ≠ "java/lang/invoke/VarHandle" ∧ (parseMethodDescriptor yX9_laysFewest.desc).map (fun d => d.parameters.length) = some 1 := by decide +kernel
theorem hX9_laysFlat : yX9_laysFlat.cls ≠ "java/lang/invoke/MethodHandle" ∧ yX9_laysFlat.cls ≠ "java/lang/invoke/VarHandle" ∧ (parseMethodDescriptor yX9_laysFlat.desc).map (fun d => d.parameters.length) = some 0 := by decide +kernel
theorem hX9_laysPunch : yX9_laysPunch.cls ≠ "java/lang/invoke/MethodHandle" ∧ yX9_laysPunch.cls ≠ "java/lang/invoke/VarHandle" ∧ (parseMethodDescriptor yX9_laysPunch.desc).map (fun d => d.parameters.length) = some 1 := by decide +kernel
theorem hX9_laysReached : yX9_laysReached.cls ≠ "java/lang/invoke/MethodHandle" ∧ yX9_laysReached.cls ≠ "java/lang/invoke/VarHandle" ∧ (parseMethodDescriptor yX9_laysReached.desc).map (fun d => d.parameters.length) = some 0 := by decide +kernel
theorem hX9_laysSpace : yX9_laysSpace.cls ≠ "java/lang/invoke/MethodHandle" ∧ yX9_laysSpace.cls ≠ "java/lang/invoke/VarHandle" ∧ (parseMethodDescriptor yX9_laysSpace.desc).map (fun d => d.parameters.length) = some 1 := by decide +kernel
theorem hX9_laysWays : yX9_laysWays.cls ≠ "java/lang/invoke/MethodHandle" ∧ yX9_laysWays.cls ≠ "java/lang/invoke/VarHandle" ∧ (parseMethodDescriptor yX9_laysWays.desc).map (fun d => d.parameters.length) = some 2 := by decide +kernel
theorem hX9_leftBy : yX9_leftBy.cls ≠ "java/lang/invoke/MethodHandle" ∧ yX9_leftBy.cls ≠ "java/lang/invoke/VarHandle" ∧ (parseMethodDescriptor yX9_leftBy.desc).map (fun d => d.parameters.length) = some 2 := by decide +kernel
theorem hX9_lengthBy : yX9_lengthBy.cls ≠ "java/lang/invoke/MethodHandle" ∧ yX9_lengthBy.cls ≠ "java/lang/invoke/VarHandle" ∧ (parseMethodDescriptor yX9_lengthBy.desc).map (fun d => d.parameters.length) = some 3 := by decide +kernel
theorem hX9_lengthOf : yX9_lengthOf.cls ≠ "java/lang/invoke/MethodHandle" ∧ yX9_lengthOf.cls ≠ "java/lang/invoke/VarHandle" ∧ (parseMethodDescriptor yX9_lengthOf.desc).map (fun d => d.parameters.length) = some 1 := by decide +kernel
theorem hX9_lesser : yX9_lesser.cls ≠ "java/lang/invoke/MethodHandle" ∧ yX9_lesser.cls ≠ "java/lang/invoke/VarHandle" ∧ (parseMethodDescriptor yX9_lesser.desc).map (fun d => d.parameters.length) = some 2 := by decide +kernel
theorem hX9_letter : yX9_letter.cls ≠ "java/lang/invoke/MethodHandle" ∧ yX9_letter.cls ≠ "java/lang/invoke/VarHandle" ∧ (parseMethodDescriptor yX9_letter.desc).map (fun d => d.parameters.length) = some 2 := by decide +kernel
theorem hX9_longAlong : yX9_longAlong.cls ≠ "java/lang/invoke/MethodHandle" ∧ yX9_longAlong.cls ≠ "java/lang/invoke/VarHandle" ∧ (parseMethodDescriptor yX9_longAlong.desc).map (fun d => d.parameters.length) = some 1 := by decide +kernel
theorem hX9_looksAt : yX9_looksAt.cls ≠ "java/lang/invoke/MethodHandle" ∧ yX9_looksAt.cls ≠ "java/lang/invoke/VarHandle" ∧ (parseMethodDescriptor yX9_looksAt.desc).map (fun d => d.parameters.length) = some 1 := by decide +kernel
theorem hX9_mayBeLast : yX9_mayBeLast.cls ≠ "java/lang/invoke/MethodHandle" ∧ yX9_mayBeLast.cls ≠ "java/lang/invoke/VarHandle" ∧ (parseMethodDescriptor yX9_mayBeLast.desc).map (fun d => d.parameters.length) = some 1 := by decide +kernel
theorem hX9_meets : yX9_meets.cls ≠ "java/lang/invoke/MethodHandle" ∧ yX9_meets.cls ≠ "java/lang/invoke/VarHandle" ∧ (parseMethodDescriptor yX9_meets.desc).map (fun d => d.parameters.length) = some 2 := by decide +kernel
theorem hX9_mends : yX9_mends.cls ≠ "java/lang/invoke/MethodHandle" ∧ yX9_mends.cls ≠ "java/lang/invoke/VarHandle" ∧ (parseMethodDescriptor yX9_mends.desc).map (fun d => d.parameters.length) = some 0 := by decide +kernel
theorem hX9_metBy : yX9_metBy.cls ≠ "java/lang/invoke/MethodHandle" ∧ yX9_metBy.cls ≠ "java/lang/invoke/VarHandle" ∧ (parseMethodDescriptor yX9_metBy.desc).map (fun d => d.parameters.length) = some 1 := by decide +kernel
theorem hX9_moves : yX9_moves.cls ≠ "java/lang/invoke/MethodHandle" ∧ yX9_moves.cls ≠ "java/lang/invoke/VarHandle" ∧ (parseMethodDescriptor yX9_moves.desc).map (fun d => d.parameters.length) = some 3 := by decide +kernel
theorem hX9_must : yX9_must.cls ≠ "java/lang/invoke/MethodHandle" ∧ yX9_must.cls ≠ "java/lang/invoke/VarHandle" ∧ (parseMethodDescriptor yX9_must.desc).map (fun d => d.parameters.length) = some 1 := by decide +kernel
theorem hX9_name : yX9_name.cls ≠ "java/lang/invoke/MethodHandle" ∧ yX9_name.cls ≠ "java/lang/invoke/VarHandle" ∧ (parseMethodDescriptor yX9_name.desc).map (fun d => d.parameters.length) = some 0 := by decide +kernel
theorem hX9_named : yX9_named.cls ≠ "java/lang/invoke/MethodHandle" ∧ yX9_named.cls ≠ "java/lang/invoke/VarHandle" ∧ (parseMethodDescriptor yX9_named.desc).map (fun d => d.parameters.length) = some 0 := by decide +kernel
theorem hX9_normal : yX9_normal.cls ≠ "java/lang/invoke/MethodHandle" ∧ yX9_normal.cls ≠ "java/lang/invoke/VarHandle" ∧ (parseMethodDescriptor yX9_normal.desc).map (fun d => d.parameters.length) = some 1 := by decide +kernel
theorem hX9_number : yX9_number.cls ≠ "java/lang/invoke/MethodHandle" ∧ yX9_number.cls ≠ "java/lang/invoke/VarHandle" ∧ (parseMethodDescriptor yX9_number.desc).map (fun d => d.parameters.length) = some 2 := by decide +kernel
theorem hX9_open : yX9_open.cls ≠ "java/lang/invoke/MethodHandle" ∧ yX9_open.cls ≠ "java/lang/invoke/VarHandle" ∧ (parseMethodDescriptor yX9_open.desc).map (fun d => d.parameters.length) = some 1 := by decide +kernel
theorem hX9_opens : yX9_opens.cls ≠ "java/lang/invoke/MethodHandle" ∧ yX9_opens.cls ≠ "java/lang/invoke/VarHandle" ∧ (parseMethodDescriptor yX9_opens.desc).map (fun d => d.parameters.length) = some 0 := by decide +kernel
theorem hX9_order : yX9_order.cls ≠ "java/lang/invoke/MethodHandle" ∧ yX9_order.cls ≠ "java/lang/invoke/VarHandle" ∧ (parseMethodDescriptor yX9_order.desc).map (fun d => d.parameters.length) = some 1 := by decide +kernel
theorem hX9_orderMany : yX9_orderMany.cls ≠ "java/lang/invoke/MethodHandle" ∧ yX9_orderMany.cls ≠ "java/lang/invoke/VarHandle" ∧ (parseMethodDescriptor yX9_orderMany.desc).map (fun d => d.parameters.length) = some 0 := by decide +kernel
theorem hX9_orders : yX9_orders.cls ≠ "java/lang/invoke/MethodHandle" ∧ yX9_orders.cls ≠ "java/lang/invoke/VarHandle" ∧ (parseMethodDescriptor yX9_orders.desc).map (fun d => d.parameters.length) = some 0 := by decide +kernel
theorem hX9_overlap : yX9_overlap.cls ≠ "java/lang/invoke/MethodHandle" ∧ yX9_overlap.cls ≠ "java/lang/invoke/VarHandle" ∧ (parseMethodDescriptor yX9_overlap.desc).map (fun d => d.parameters.length) = some 2 := by decide +kernel
theorem hX9_own : yX9_own.cls ≠ "java/lang/invoke/MethodHandle" ∧ yX9_own.cls ≠ "java/lang/invoke/VarHandle" ∧ (parseMethodDescriptor yX9_own.desc).map (fun d => d.parameters.length) = some 0 := by decide +kernel
theorem hX9_part : yX9_part.cls ≠ "java/lang/invoke/MethodHandle" ∧ yX9_part.cls ≠ "java/lang/invoke/VarHandle" ∧ (parseMethodDescriptor yX9_part.desc).map (fun d => d.parameters.length) = some 0 := by decide +kernel
theorem hX9_press : yX9_press.cls ≠ "java/lang/invoke/MethodHandle" ∧ yX9_press.cls ≠ "java/lang/invoke/VarHandle" ∧ (parseMethodDescriptor yX9_press.desc).map (fun d => d.parameters.length) = some 1 := by decide +kernel
theorem hX9_reached : yX9_reached.cls ≠ "java/lang/invoke/MethodHandle" ∧ yX9_reached.cls ≠ "java/lang/invoke/VarHandle" ∧ (parseMethodDescriptor yX9_reached.desc).map (fun d => d.parameters.length) = some 1 := by decide +kernel
theorem hX9_readsAll : yX9_readsAll.cls ≠ "java/lang/invoke/MethodHandle" ∧ yX9_readsAll.cls ≠ "java/lang/invoke/VarHandle" ∧ (parseMethodDescriptor yX9_readsAll.desc).map (fun d => d.parameters.length) = some 0 := by decide +kernel
theorem hX9_readsFlange : yX9_readsFlange.cls ≠ "java/lang/invoke/MethodHandle" ∧ yX9_readsFlange.cls ≠ "java/lang/invoke/VarHandle" ∧ (parseMethodDescriptor yX9_readsFlange.desc).map (fun d => d.parameters.length) = some 0 := by decide +kernel
theorem hX9_readsLine : yX9_readsLine.cls ≠ "java/lang/invoke/MethodHandle" ∧ yX9_readsLine.cls ≠ "java/lang/invoke/VarHandle" ∧ (parseMethodDescriptor yX9_readsLine.desc).map (fun d => d.parameters.length) = some 1 := by decide +kernel
theorem hX9_readsWidth : yX9_readsWidth.cls ≠ "java/lang/invoke/MethodHandle" ∧ yX9_readsWidth.cls ≠ "java/lang/invoke/VarHandle" ∧ (parseMethodDescriptor yX9_readsWidth.desc).map (fun d => d.parameters.length) = some 3 := by decide +kernel
theorem hX9_refuses : yX9_refuses.cls ≠ "java/lang/invoke/MethodHandle" ∧ yX9_refuses.cls ≠ "java/lang/invoke/VarHandle" ∧ (parseMethodDescriptor yX9_refuses.desc).map (fun d => d.parameters.length) = some 1 := by decide +kernel
theorem hX9_remembers : yX9_remembers.cls ≠ "java/lang/invoke/MethodHandle" ∧ yX9_remembers.cls ≠ "java/lang/invoke/VarHandle" ∧ (parseMethodDescriptor yX9_remembers.desc).map (fun d => d.parameters.length) = some 0 := by decide +kernel
theorem hX9_see : yX9_see.cls ≠ "java/lang/invoke/MethodHandle" ∧ yX9_see.cls ≠ "java/lang/invoke/VarHandle" ∧ (parseMethodDescriptor yX9_see.desc).map (fun d => d.parameters.length) = some 0 := by decide +kernel
theorem hX9_seed : yX9_seed.cls ≠ "java/lang/invoke/MethodHandle" ∧ yX9_seed.cls ≠ "java/lang/invoke/VarHandle" ∧ (parseMethodDescriptor yX9_seed.desc).map (fun d => d.parameters.length) = some 1 := by decide +kernel
theorem hX9_sharedAlong : yX9_sharedAlong.cls ≠ "java/lang/invoke/MethodHandle" ∧ yX9_sharedAlong.cls ≠ "java/lang/invoke/VarHandle" ∧ (parseMethodDescriptor yX9_sharedAlong.desc).map (fun d => d.parameters.length) = some 3 := by decide +kernel
theorem hX9_sideOf : yX9_sideOf.cls ≠ "java/lang/invoke/MethodHandle" ∧ yX9_sideOf.cls ≠ "java/lang/invoke/VarHandle" ∧ (parseMethodDescriptor yX9_sideOf.desc).map (fun d => d.parameters.length) = some 3 := by decide +kernel
theorem hX9_signAt : yX9_signAt.cls ≠ "java/lang/invoke/MethodHandle" ∧ yX9_signAt.cls ≠ "java/lang/invoke/VarHandle" ∧ (parseMethodDescriptor yX9_signAt.desc).map (fun d => d.parameters.length) = some 1 := by decide +kernel
theorem hX9_smallest : yX9_smallest.cls ≠ "java/lang/invoke/MethodHandle" ∧ yX9_smallest.cls ≠ "java/lang/invoke/VarHandle" ∧ (parseMethodDescriptor yX9_smallest.desc).map (fun d => d.parameters.length) = some 1 := by decide +kernel
theorem hX9_space : yX9_space.cls ≠ "java/lang/invoke/MethodHandle" ∧ yX9_space.cls ≠ "java/lang/invoke/VarHandle" ∧ (parseMethodDescriptor yX9_space.desc).map (fun d => d.parameters.length) = some 2 := by decide +kernel
theorem hX9_spaceBox : yX9_spaceBox.cls ≠ "java/lang/invoke/MethodHandle" ∧ yX9_spaceBox.cls ≠ "java/lang/invoke/VarHandle" ∧ (parseMethodDescriptor yX9_spaceBox.desc).map (fun d => d.parameters.length) = some 1 := by decide +kernel
theorem hX9_standsUp : yX9_standsUp.cls ≠ "java/lang/invoke/MethodHandle" ∧ yX9_standsUp.cls ≠ "java/lang/invoke/VarHandle" ∧ (parseMethodDescriptor yX9_standsUp.desc).map (fun d => d.parameters.length) = some 2 := by decide +kernel
theorem hX9_status : yX9_status.cls ≠ "java/lang/invoke/MethodHandle" ∧ yX9_status.cls ≠ "java/lang/invoke/VarHandle" ∧ (parseMethodDescriptor yX9_status.desc).map (fun d => d.parameters.length) = some 1 := by decide +kernel
theorem hX9_taken : yX9_taken.cls ≠ "java/lang/invoke/MethodHandle" ∧ yX9_taken.cls ≠ "java/lang/invoke/VarHandle" ∧ (parseMethodDescriptor yX9_taken.desc).map (fun d => d.parameters.length) = some 0 := by decide +kernel
theorem hX9_tallest : yX9_tallest.cls ≠ "java/lang/invoke/MethodHandle" ∧ yX9_tallest.cls ≠ "java/lang/invoke/VarHandle" ∧ (parseMethodDescriptor yX9_tallest.desc).map (fun d => d.parameters.length) = some 0 := by decide +kernel
theorem hX9_tells : yX9_tells.cls ≠ "java/lang/invoke/MethodHandle" ∧ yX9_tells.cls ≠ "java/lang/invoke/VarHandle" ∧ (parseMethodDescriptor yX9_tells.desc).map (fun d => d.parameters.length) = some 2 := by decide +kernel
theorem hX9_thrifty : yX9_thrifty.cls ≠ "java/lang/invoke/MethodHandle" ∧ yX9_thrifty.cls ≠ "java/lang/invoke/VarHandle" ∧ (parseMethodDescriptor yX9_thrifty.desc).map (fun d => d.parameters.length) = some 2 := by decide +kernel
theorem hX9_tool : yX9_tool.cls ≠ "java/lang/invoke/MethodHandle" ∧ yX9_tool.cls ≠ "java/lang/invoke/VarHandle" ∧ (parseMethodDescriptor yX9_tool.desc).map (fun d => d.parameters.length) = some 1 := by decide +kernel
theorem hX9_tools : yX9_tools.cls ≠ "java/lang/invoke/MethodHandle" ∧ yX9_tools.cls ≠ "java/lang/invoke/VarHandle" ∧ (parseMethodDescriptor yX9_tools.desc).map (fun d => d.parameters.length) = some 2 := by decide +kernel
theorem hX9_toolsOf : yX9_toolsOf.cls ≠ "java/lang/invoke/MethodHandle" ∧ yX9_toolsOf.cls ≠ "java/lang/invoke/VarHandle" ∧ (parseMethodDescriptor yX9_toolsOf.desc).map (fun d => d.parameters.length) = some 1 := by decide +kernel
theorem hX9_turn : yX9_turn.cls ≠ "java/lang/invoke/MethodHandle" ∧ yX9_turn.cls ≠ "java/lang/invoke/VarHandle" ∧ (parseMethodDescriptor yX9_turn.desc).map (fun d => d.parameters.length) = some 1 := by decide +kernel
theorem hX9_turned : yX9_turned.cls ≠ "java/lang/invoke/MethodHandle" ∧ yX9_turned.cls ≠ "java/lang/invoke/VarHandle" ∧ (parseMethodDescriptor yX9_turned.desc).map (fun d => d.parameters.length) = some 1 := by decide +kernel
theorem hX9_turnsAll : yX9_turnsAll.cls ≠ "java/lang/invoke/MethodHandle" ∧ yX9_turnsAll.cls ≠ "java/lang/invoke/VarHandle" ∧ (parseMethodDescriptor yX9_turnsAll.desc).map (fun d => d.parameters.length) = some 1 := by decide +kernel
theorem hX9_undo : yX9_undo.cls ≠ "java/lang/invoke/MethodHandle" ∧ yX9_undo.cls ≠ "java/lang/invoke/VarHandle" ∧ (parseMethodDescriptor yX9_undo.desc).map (fun d => d.parameters.length) = some 0 := by decide +kernel
theorem hX9_why : yX9_why.cls ≠ "java/lang/invoke/MethodHandle" ∧ yX9_why.cls ≠ "java/lang/invoke/VarHandle" ∧ (parseMethodDescriptor yX9_why.desc).map (fun d => d.parameters.length) = some 2 := by decide +kernel
theorem hX9_whyNot : yX9_whyNot.cls ≠ "java/lang/invoke/MethodHandle" ∧ yX9_whyNot.cls ≠ "java/lang/invoke/VarHandle" ∧ (parseMethodDescriptor yX9_whyNot.desc).map (fun d => d.parameters.length) = some 2 := by decide +kernel
theorem hX9_widthOf : yX9_widthOf.cls ≠ "java/lang/invoke/MethodHandle" ∧ yX9_widthOf.cls ≠ "java/lang/invoke/VarHandle" ∧ (parseMethodDescriptor yX9_widthOf.desc).map (fun d => d.parameters.length) = some 1 := by decide +kernel
theorem hX9_word : yX9_word.cls ≠ "java/lang/invoke/MethodHandle" ∧ yX9_word.cls ≠ "java/lang/invoke/VarHandle" ∧ (parseMethodDescriptor yX9_word.desc).map (fun d => d.parameters.length) = some 0 := by decide +kernel
end
section
theorem dX4_isThere_0 : decode cX4_isThere 0 = .ok (.aload_n 0, 1) := by decide +kernel
theorem dX4_isThere_1 : decode cX4_isThere 1 = .ok (.getfield 42, 3) := by decide +kernel
theorem dX4_isThere_4 : decode cX4_isThere 4 = .ok (.ifCond .le 7, 3) := by decide +kernel
theorem dX4_isThere_11 : decode cX4_isThere 11 = .ok (.iconst 0, 1) := by decide +kernel
theorem dX4_isThere_12 : decode cX4_isThere 12 = .ok (.ireturn, 1) := by decide +kernel
set_option maxHeartbeats 4000000 in
set_option maxRecDepth 100000 in
theorem kX4_isThere (l : Launch) (g : zL) (pa : Nat) (p_toolWidth : Nat) (p_told : Nat) (p_name : Nat) (p_parent : Nat) (p_side : Nat) (p_from : Nat) (p_width : Nat) (p_height : Nat) (p_radius : Nat) (p_toolSet : Nat) : zCi l g yX4_isThere cX4_isThere 1 (some .boolean) { frames := 0, cells := 0, slots := 0, locals := 0 } [.ref pa] [(pa, .inr (4, [.int 0, .int 0, .int 0, .int 0, .int 0, .int 0, .ref p_toolWidth, .ref p_told, .ref p_name, .ref p_parent, .ref p_side, .ref p_from, .ref p_width, .ref p_height, .ref p_radius, .ref p_toolSet]))] (fun (r : Int32) (u : Unit) => r = 0) (fun (u : Unit) => [(pa, .inr (4, [.int 0, .int 0, .int 0, .int 0, .int 0, .int 0, .ref p_toolWidth, .ref p_told, .ref p_name, .ref p_parent, .ref p_side, .ref p_from, .ref p_width, .ref p_height, .ref p_radius, .ref p_toolSet]))]) := by
  refine zCi.mk (by decide) (Nat.le_of_ble_eq_true rfl) ?_
  intro p e s m below meth c A hE hP hD hS ls hl
  obtain ⟨hx, hb, hr, hml, hown, hG, hlocks, hnm, hX, hA⟩ := hE
  have hown : s.vm.findClass RX4 = some m.cls := hown
  have hl : lv_has ls 1 [(0, .ref pa)] := hl
  refine lv_aload_n hx hb dX4_isThere_0 rfl (lv_at hl 0 rfl) ?_
  refine va_get (D := g.1) (ci := 4) (v := .int 0) (C := RX4) (T := TX4) (N := 16) hx hb hG iX4 hown hX.1 hP 0 rfl rfl 0 (by decide) (hG _ g409) (fun _ h9 => h9) rfl dX4_isThere_1 ?_
  refine lv_if_le (tgt := 11) hx hb dX4_isThere_4 (by decide) (fun c4 => ?_) (fun c4 => (c4 (by decide)).elim)
  refine lv_iconst (v := 0) hx hb dX4_isThere_11 (by decide) ?_
  exact zrz (rm := { frames := 0, cells := 0, slots := 0, locals := 0 }) (v := 0) () hx hb hr hlocks (rfl) (Nat.le_of_ble_eq_true rfl) (Nat.le_of_ble_eq_true rfl) (rfl) hP hD hS dX4_isThere_12
theorem dX4_isFlange_0 : decode cX4_isFlange 0 = .ok (.iload_n 1, 1) := by decide +kernel
theorem dX4_isFlange_1 : decode cX4_isFlange 1 = .ok (.ifCond .lt 15, 3) := by decide +kernel
theorem dX4_isFlange_16 : decode cX4_isFlange 16 = .ok (.iconst 0, 1) := by decide +kernel
theorem dX4_isFlange_17 : decode cX4_isFlange 17 = .ok (.ireturn, 1) := by decide +kernel
theorem dX4_isFlange_4 : decode cX4_isFlange 4 = .ok (.iload_n 1, 1) := by decide +kernel
theorem dX4_isFlange_5 : decode cX4_isFlange 5 = .ok (.aload_n 0, 1) := by decide +kernel
theorem dX4_isFlange_6 : decode cX4_isFlange 6 = .ok (.getfield 42, 3) := by decide +kernel
theorem dX4_isFlange_9 : decode cX4_isFlange 9 = .ok (.if_icmp .ge 7, 3) := by decide +kernel
set_option maxHeartbeats 4000000 in
set_option maxRecDepth 100000 in
theorem kX4_isFlange (l : Launch) (g : zL) (pa : Nat) (x : Int32) (p_toolWidth : Nat) (p_told : Nat) (p_name : Nat) (p_parent : Nat) (p_side : Nat) (p_from : Nat) (p_width : Nat) (p_height : Nat) (p_radius : Nat) (p_toolSet : Nat) : zCi l g yX4_isFlange cX4_isFlange 2 (some .boolean) { frames := 0, cells := 0, slots := 0, locals := 0 } [.ref pa, .int x] [(pa, .inr (4, [.int 0, .int 0, .int 0, .int 0, .int 0, .int 0, .ref p_toolWidth, .ref p_told, .ref p_name, .ref p_parent, .ref p_side, .ref p_from, .ref p_width, .ref p_height, .ref p_radius, .ref p_toolSet]))] (fun (r : Int32) (u : Unit) => r = 0) (fun (u : Unit) => [(pa, .inr (4, [.int 0, .int 0, .int 0, .int 0, .int 0, .int 0, .ref p_toolWidth, .ref p_told, .ref p_name, .ref p_parent, .ref p_side, .ref p_from, .ref p_width, .ref p_height, .ref p_radius, .ref p_toolSet]))]) := by
  refine zCi.mk (by decide) (Nat.le_of_ble_eq_true rfl) ?_
  intro p e s m below meth c A hE hP hD hS ls hl
  obtain ⟨hx, hb, hr, hml, hown, hG, hlocks, hnm, hX, hA⟩ := hE
  have hown : s.vm.findClass RX4 = some m.cls := hown
  have hl : lv_has ls 2 [(0, .ref pa), (1, .int x)] := hl
  refine lv_iload_n hx hb dX4_isFlange_0 rfl (lv_at hl 1 rfl) ?_
  refine lv_if_lt (tgt := 16) hx hb dX4_isFlange_1 (by decide) (fun c1 => ?_) (fun c1 => ?_)
  · skip
    have c1i : x.toInt < 0 := (zc_lt (rfl : x.toInt = _) (show (0 : Int32).toInt = 0 from by decide)).mp c1
    refine lv_iconst (v := 0) hx hb dX4_isFlange_16 (by decide) ?_
    exact zrz (rm := { frames := 0, cells := 0, slots := 0, locals := 0 }) (v := 0) () hx hb hr hlocks (rfl) (Nat.le_of_ble_eq_true rfl) (Nat.le_of_ble_eq_true rfl) (rfl) hP hD hS dX4_isFlange_17
  · skip
    have c1i : ¬ x.toInt < 0 := fun q => c1 ((zc_lt (rfl : x.toInt = _) (show (0 : Int32).toInt = 0 from by decide)).mpr q)
    refine lv_iload_n hx hb dX4_isFlange_4 rfl (lv_at hl 1 rfl) ?_
    refine lv_aload_n hx hb dX4_isFlange_5 rfl (lv_at hl 0 rfl) ?_
    refine va_get (D := g.1) (ci := 4) (v := .int 0) (C := RX4) (T := TX4) (N := 16) hx hb hG iX4 hown hX.1 hP 0 rfl rfl 0 (by decide) (hG _ g409) (fun _ h9 => h9) rfl dX4_isFlange_6 ?_
    refine lv_icmp_ge (tgt := 16) hx hb dX4_isFlange_9 (by decide) (fun c9 => ?_) (fun c9 => (c9 (by rw [zc_le (show (0 : Int32).toInt = 0 from by decide) (rfl : x.toInt = _)]; omega)).elim)
    refine lv_iconst (v := 0) hx hb dX4_isFlange_16 (by decide) ?_
    exact zrz (rm := { frames := 0, cells := 0, slots := 0, locals := 0 }) (v := 0) () hx hb hr hlocks (rfl) (Nat.le_of_ble_eq_true rfl) (Nat.le_of_ble_eq_true rfl) (rfl) hP hD hS dX4_isFlange_17
end
