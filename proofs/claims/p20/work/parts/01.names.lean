-- PART A: kit/laws/SKELETON.whole.lean.txt
/-- a private method of a class that the tables say can be made, by its rows of tables_1 -/
def lw_okq (q : MethodName × Nat) : Prop := (q.1.cls ≠ "java/lang/invoke/MethodHandle" ∧ q.1.cls ≠ "java/lang/invoke/VarHandle") ∧ Cond.instantiable q.1.cls q.2 ∈ tables_1 ∧ Cond.privateMethod q.1 ∈ tables_1 ∧ Cond.instanceMethod q.1 ∈ tables_1
theorem lw_p0 : lw_okq (⟨"OneMourner$Mourner", "comes", "(III)V"⟩, 8) := ⟨⟨by decide +kernel, by decide +kernel⟩, List.mem_of_getElem? (i := 104) (by decide +kernel), List.mem_of_getElem? (i := 340) (by decide +kernel), List.mem_of_getElem? (i := 341) (by decide +kernel)⟩
theorem lw_p1 : lw_okq (⟨"OneMourner", "isMourner", "(I)Z"⟩, 11) := ⟨⟨by decide +kernel, by decide +kernel⟩, List.mem_of_getElem? (i := 19) (by decide +kernel), List.mem_of_getElem? (i := 348) (by decide +kernel), List.mem_of_getElem? (i := 349) (by decide +kernel)⟩
theorem lw_p2 : lw_okq (⟨"OneMourner$Mourning", "placeOf", "(I)I"⟩, 9) := ⟨⟨by decide +kernel, by decide +kernel⟩, List.mem_of_getElem? (i := 71) (by decide +kernel), List.mem_of_getElem? (i := 355) (by decide +kernel), List.mem_of_getElem? (i := 356) (by decide +kernel)⟩
theorem lw_p3 : lw_okq (⟨"OneMourner$Mourning", "painOf", "(LOneMourner$Mourner;I)I"⟩, 9) := ⟨⟨by decide +kernel, by decide +kernel⟩, List.mem_of_getElem? (i := 71) (by decide +kernel), List.mem_of_getElem? (i := 359) (by decide +kernel), List.mem_of_getElem? (i := 360) (by decide +kernel)⟩
theorem lw_p4 : lw_okq (⟨"OneMourner$Island", "sum", "(LOneMourner$Mourner;II)I"⟩, 7) := ⟨⟨by decide +kernel, by decide +kernel⟩, List.mem_of_getElem? (i := 27) (by decide +kernel), List.mem_of_getElem? (i := 366) (by decide +kernel), List.mem_of_getElem? (i := 367) (by decide +kernel)⟩
theorem lw_p5 : lw_okq (⟨"OneMourner$Island", "isSo", "(II)Z"⟩, 7) := ⟨⟨by decide +kernel, by decide +kernel⟩, List.mem_of_getElem? (i := 27) (by decide +kernel), List.mem_of_getElem? (i := 370) (by decide +kernel), List.mem_of_getElem? (i := 371) (by decide +kernel)⟩
theorem lw_p6 : lw_okq (⟨"OneMourner$Island", "isTestSo", "(I)Z"⟩, 7) := ⟨⟨by decide +kernel, by decide +kernel⟩, List.mem_of_getElem? (i := 27) (by decide +kernel), List.mem_of_getElem? (i := 374) (by decide +kernel), List.mem_of_getElem? (i := 375) (by decide +kernel)⟩
theorem lw_p7 : lw_okq (⟨"OneMourner$Mourner", "painBy", "(III)I"⟩, 8) := ⟨⟨by decide +kernel, by decide +kernel⟩, List.mem_of_getElem? (i := 104) (by decide +kernel), List.mem_of_getElem? (i := 379) (by decide +kernel), List.mem_of_getElem? (i := 380) (by decide +kernel)⟩
theorem lw_p8 : lw_okq (⟨"OneMourner$Mourner", "saved", "(II)I"⟩, 8) := ⟨⟨by decide +kernel, by decide +kernel⟩, List.mem_of_getElem? (i := 104) (by decide +kernel), List.mem_of_getElem? (i := 383) (by decide +kernel), List.mem_of_getElem? (i := 384) (by decide +kernel)⟩
theorem lw_p9 : lw_okq (⟨"OneMourner$Reader", "reads", "(LOneMourner$Island;)Z"⟩, 4) := ⟨⟨by decide +kernel, by decide +kernel⟩, List.mem_of_getElem? (i := 196) (by decide +kernel), List.mem_of_getElem? (i := 422) (by decide +kernel), List.mem_of_getElem? (i := 423) (by decide +kernel)⟩
theorem lw_p10 : lw_okq (⟨"OneMourner$Island", "clear", "()V"⟩, 7) := ⟨⟨by decide +kernel, by decide +kernel⟩, List.mem_of_getElem? (i := 27) (by decide +kernel), List.mem_of_getElem? (i := 426) (by decide +kernel), List.mem_of_getElem? (i := 427) (by decide +kernel)⟩
theorem lw_p11 : lw_okq (⟨"OneMourner$Reader", "clause", "(LOneMourner$Island;)V"⟩, 4) := ⟨⟨by decide +kernel, by decide +kernel⟩, List.mem_of_getElem? (i := 196) (by decide +kernel), List.mem_of_getElem? (i := 430) (by decide +kernel), List.mem_of_getElem? (i := 431) (by decide +kernel)⟩
theorem lw_p12 : lw_okq (⟨"OneMourner$Reader", "next", "()I"⟩, 4) := ⟨⟨by decide +kernel, by decide +kernel⟩, List.mem_of_getElem? (i := 196) (by decide +kernel), List.mem_of_getElem? (i := 434) (by decide +kernel), List.mem_of_getElem? (i := 435) (by decide +kernel)⟩
theorem lw_p13 : lw_okq (⟨"OneMourner$Reader", "take", "(Ljava/lang/String;)V"⟩, 4) := ⟨⟨by decide +kernel, by decide +kernel⟩, List.mem_of_getElem? (i := 196) (by decide +kernel), List.mem_of_getElem? (i := 441) (by decide +kernel), List.mem_of_getElem? (i := 442) (by decide +kernel)⟩
theorem lw_p14 : lw_okq (⟨"OneMourner$Reader", "number", "()I"⟩, 4) := ⟨⟨by decide +kernel, by decide +kernel⟩, List.mem_of_getElem? (i := 196) (by decide +kernel), List.mem_of_getElem? (i := 484) (by decide +kernel), List.mem_of_getElem? (i := 485) (by decide +kernel)⟩
theorem lw_p15 : lw_okq (⟨"OneMourner$Reader", "either", "(LOneMourner$Island;I)V"⟩, 4) := ⟨⟨by decide +kernel, by decide +kernel⟩, List.mem_of_getElem? (i := 196) (by decide +kernel), List.mem_of_getElem? (i := 489) (by decide +kernel), List.mem_of_getElem? (i := 490) (by decide +kernel)⟩
def lw_privs_1 : List (MethodName × Nat) := [(⟨"OneMourner$Mourner", "comes", "(III)V"⟩, 8), (⟨"OneMourner", "isMourner", "(I)Z"⟩, 11), (⟨"OneMourner$Mourning", "placeOf", "(I)I"⟩, 9), (⟨"OneMourner$Mourning", "painOf", "(LOneMourner$Mourner;I)I"⟩, 9), (⟨"OneMourner$Island", "sum", "(LOneMourner$Mourner;II)I"⟩, 7), (⟨"OneMourner$Island", "isSo", "(II)Z"⟩, 7), (⟨"OneMourner$Island", "isTestSo", "(I)Z"⟩, 7), (⟨"OneMourner$Mourner", "painBy", "(III)I"⟩, 8), (⟨"OneMourner$Mourner", "saved", "(II)I"⟩, 8), (⟨"OneMourner$Reader", "reads", "(LOneMourner$Island;)Z"⟩, 4), (⟨"OneMourner$Island", "clear", "()V"⟩, 7), (⟨"OneMourner$Reader", "clause", "(LOneMourner$Island;)V"⟩, 4), (⟨"OneMourner$Reader", "next", "()I"⟩, 4), (⟨"OneMourner$Reader", "take", "(Ljava/lang/String;)V"⟩, 4), (⟨"OneMourner$Reader", "number", "()I"⟩, 4), (⟨"OneMourner$Reader", "either", "(LOneMourner$Island;I)V"⟩, 4)]
theorem lw_r1 : ∀ q ∈ lw_privs_1, lw_okq q := List.forall_mem_cons.mpr ⟨lw_p0, List.forall_mem_cons.mpr ⟨lw_p1, List.forall_mem_cons.mpr ⟨lw_p2, List.forall_mem_cons.mpr ⟨lw_p3, List.forall_mem_cons.mpr ⟨lw_p4, List.forall_mem_cons.mpr ⟨lw_p5, List.forall_mem_cons.mpr ⟨lw_p6, List.forall_mem_cons.mpr ⟨lw_p7, List.forall_mem_cons.mpr ⟨lw_p8, List.forall_mem_cons.mpr ⟨lw_p9, List.forall_mem_cons.mpr ⟨lw_p10, List.forall_mem_cons.mpr ⟨lw_p11, List.forall_mem_cons.mpr ⟨lw_p12, List.forall_mem_cons.mpr ⟨lw_p13, List.forall_mem_cons.mpr ⟨lw_p14, List.forall_mem_cons.mpr ⟨lw_p15, fun _ h => absurd h List.not_mem_nil⟩⟩⟩⟩⟩⟩⟩⟩⟩⟩⟩⟩⟩⟩⟩⟩
theorem lw_p16 : lw_okq (⟨"OneMourner$Reader", "one", "(LOneMourner$Island;I)V"⟩, 4) := ⟨⟨by decide +kernel, by decide +kernel⟩, List.mem_of_getElem? (i := 196) (by decide +kernel), List.mem_of_getElem? (i := 493) (by decide +kernel), List.mem_of_getElem? (i := 494) (by decide +kernel)⟩
theorem lw_p17 : lw_okq (⟨"OneMourner$Island", "put", "(I)V"⟩, 7) := ⟨⟨by decide +kernel, by decide +kernel⟩, List.mem_of_getElem? (i := 27) (by decide +kernel), List.mem_of_getElem? (i := 497) (by decide +kernel), List.mem_of_getElem? (i := 498) (by decide +kernel)⟩
theorem lw_p18 : lw_okq (⟨"OneMourner$Reader", "oneOf", "(Ljava/lang/String;)I"⟩, 4) := ⟨⟨by decide +kernel, by decide +kernel⟩, List.mem_of_getElem? (i := 196) (by decide +kernel), List.mem_of_getElem? (i := 503) (by decide +kernel), List.mem_of_getElem? (i := 504) (by decide +kernel)⟩
theorem lw_p19 : lw_okq (⟨"OneMourner$Island", "endClause", "(I)V"⟩, 7) := ⟨⟨by decide +kernel, by decide +kernel⟩, List.mem_of_getElem? (i := 27) (by decide +kernel), List.mem_of_getElem? (i := 511) (by decide +kernel), List.mem_of_getElem? (i := 512) (by decide +kernel)⟩
theorem lw_p20 : lw_okq (⟨"OneMourner$Mourning", "isLost", "(I)Z"⟩, 9) := ⟨⟨by decide +kernel, by decide +kernel⟩, List.mem_of_getElem? (i := 71) (by decide +kernel), List.mem_of_getElem? (i := 519) (by decide +kernel), List.mem_of_getElem? (i := 520) (by decide +kernel)⟩
theorem lw_p21 : lw_okq (⟨"OneMourner$Mourning", "hurtOfAll", "()I"⟩, 9) := ⟨⟨by decide +kernel, by decide +kernel⟩, List.mem_of_getElem? (i := 71) (by decide +kernel), List.mem_of_getElem? (i := 523) (by decide +kernel), List.mem_of_getElem? (i := 524) (by decide +kernel)⟩
theorem lw_p22 : lw_okq (⟨"OneMourner$Mourning", "howManyDone", "()I"⟩, 9) := ⟨⟨by decide +kernel, by decide +kernel⟩, List.mem_of_getElem? (i := 71) (by decide +kernel), List.mem_of_getElem? (i := 527) (by decide +kernel), List.mem_of_getElem? (i := 528) (by decide +kernel)⟩
theorem lw_p23 : lw_okq (⟨"OneMourner$Mourning", "hasDay", "()I"⟩, 9) := ⟨⟨by decide +kernel, by decide +kernel⟩, List.mem_of_getElem? (i := 71) (by decide +kernel), List.mem_of_getElem? (i := 532) (by decide +kernel), List.mem_of_getElem? (i := 533) (by decide +kernel)⟩
theorem lw_p24 : lw_okq (⟨"OneMourner$Mourning", "isLeft", "(I)Z"⟩, 9) := ⟨⟨by decide +kernel, by decide +kernel⟩, List.mem_of_getElem? (i := 71) (by decide +kernel), List.mem_of_getElem? (i := 537) (by decide +kernel), List.mem_of_getElem? (i := 538) (by decide +kernel)⟩
theorem lw_p25 : lw_okq (⟨"OneMourner$Rows", "agreed", "(LOneMourner$Mourning;)I"⟩, 10) := ⟨⟨by decide +kernel, by decide +kernel⟩, List.mem_of_getElem? (i := 218) (by decide +kernel), List.mem_of_getElem? (i := 541) (by decide +kernel), List.mem_of_getElem? (i := 542) (by decide +kernel)⟩
theorem lw_p26 : lw_okq (⟨"OneMourner$Rows", "weigh", "(LOneMourner$Mourning;)V"⟩, 10) := ⟨⟨by decide +kernel, by decide +kernel⟩, List.mem_of_getElem? (i := 218) (by decide +kernel), List.mem_of_getElem? (i := 545) (by decide +kernel), List.mem_of_getElem? (i := 546) (by decide +kernel)⟩
theorem lw_p27 : lw_okq (⟨"OneMourner$Rows", "agree", "(II)Z"⟩, 10) := ⟨⟨by decide +kernel, by decide +kernel⟩, List.mem_of_getElem? (i := 218) (by decide +kernel), List.mem_of_getElem? (i := 552) (by decide +kernel), List.mem_of_getElem? (i := 553) (by decide +kernel)⟩
theorem lw_p28 : lw_okq (⟨"OneMourner$Rows", "hurtsAt", "(II)I"⟩, 10) := ⟨⟨by decide +kernel, by decide +kernel⟩, List.mem_of_getElem? (i := 218) (by decide +kernel), List.mem_of_getElem? (i := 556) (by decide +kernel), List.mem_of_getElem? (i := 557) (by decide +kernel)⟩
theorem lw_p29 : lw_okq (⟨"OneMourner$Rows", "dear", "(LOneMourner$Mourning;Z)I"⟩, 10) := ⟨⟨by decide +kernel, by decide +kernel⟩, List.mem_of_getElem? (i := 218) (by decide +kernel), List.mem_of_getElem? (i := 562) (by decide +kernel), List.mem_of_getElem? (i := 563) (by decide +kernel)⟩
theorem lw_p30 : lw_okq (⟨"OneMourner$Rows", "start", "(LOneMourner$Mourning;)V"⟩, 10) := ⟨⟨by decide +kernel, by decide +kernel⟩, List.mem_of_getElem? (i := 218) (by decide +kernel), List.mem_of_getElem? (i := 566) (by decide +kernel), List.mem_of_getElem? (i := 567) (by decide +kernel)⟩
theorem lw_p31 : lw_okq (⟨"OneMourner$Mourning", "go", "(II)V"⟩, 9) := ⟨⟨by decide +kernel, by decide +kernel⟩, List.mem_of_getElem? (i := 71) (by decide +kernel), List.mem_of_getElem? (i := 574) (by decide +kernel), List.mem_of_getElem? (i := 575) (by decide +kernel)⟩
def lw_privs_2 : List (MethodName × Nat) := [(⟨"OneMourner$Reader", "one", "(LOneMourner$Island;I)V"⟩, 4), (⟨"OneMourner$Island", "put", "(I)V"⟩, 7), (⟨"OneMourner$Reader", "oneOf", "(Ljava/lang/String;)I"⟩, 4), (⟨"OneMourner$Island", "endClause", "(I)V"⟩, 7), (⟨"OneMourner$Mourning", "isLost", "(I)Z"⟩, 9), (⟨"OneMourner$Mourning", "hurtOfAll", "()I"⟩, 9), (⟨"OneMourner$Mourning", "howManyDone", "()I"⟩, 9), (⟨"OneMourner$Mourning", "hasDay", "()I"⟩, 9), (⟨"OneMourner$Mourning", "isLeft", "(I)Z"⟩, 9), (⟨"OneMourner$Rows", "agreed", "(LOneMourner$Mourning;)I"⟩, 10), (⟨"OneMourner$Rows", "weigh", "(LOneMourner$Mourning;)V"⟩, 10), (⟨"OneMourner$Rows", "agree", "(II)Z"⟩, 10), (⟨"OneMourner$Rows", "hurtsAt", "(II)I"⟩, 10), (⟨"OneMourner$Rows", "dear", "(LOneMourner$Mourning;Z)I"⟩, 10), (⟨"OneMourner$Rows", "start", "(LOneMourner$Mourning;)V"⟩, 10), (⟨"OneMourner$Mourning", "go", "(II)V"⟩, 9)]
theorem lw_r2 : ∀ q ∈ lw_privs_2, lw_okq q := List.forall_mem_cons.mpr ⟨lw_p16, List.forall_mem_cons.mpr ⟨lw_p17, List.forall_mem_cons.mpr ⟨lw_p18, List.forall_mem_cons.mpr ⟨lw_p19, List.forall_mem_cons.mpr ⟨lw_p20, List.forall_mem_cons.mpr ⟨lw_p21, List.forall_mem_cons.mpr ⟨lw_p22, List.forall_mem_cons.mpr ⟨lw_p23, List.forall_mem_cons.mpr ⟨lw_p24, List.forall_mem_cons.mpr ⟨lw_p25, List.forall_mem_cons.mpr ⟨lw_p26, List.forall_mem_cons.mpr ⟨lw_p27, List.forall_mem_cons.mpr ⟨lw_p28, List.forall_mem_cons.mpr ⟨lw_p29, List.forall_mem_cons.mpr ⟨lw_p30, List.forall_mem_cons.mpr ⟨lw_p31, fun _ h => absurd h List.not_mem_nil⟩⟩⟩⟩⟩⟩⟩⟩⟩⟩⟩⟩⟩⟩⟩⟩
theorem lw_p32 : lw_okq (⟨"OneMourner$Mourning", "becomes", "(LOneMourner$Mourning;)V"⟩, 9) := ⟨⟨by decide +kernel, by decide +kernel⟩, List.mem_of_getElem? (i := 71) (by decide +kernel), List.mem_of_getElem? (i := 584) (by decide +kernel), List.mem_of_getElem? (i := 585) (by decide +kernel)⟩
theorem lw_p33 : lw_okq (⟨"OneMourner$Mourner", "becomes", "(LOneMourner$Mourner;)V"⟩, 8) := ⟨⟨by decide +kernel, by decide +kernel⟩, List.mem_of_getElem? (i := 104) (by decide +kernel), List.mem_of_getElem? (i := 588) (by decide +kernel), List.mem_of_getElem? (i := 589) (by decide +kernel)⟩
theorem lw_p34 : lw_okq (⟨"OneMourner$Notes", "becomes", "(LOneMourner$Notes;)V"⟩, 4) := ⟨⟨by decide +kernel, by decide +kernel⟩, List.mem_of_getElem? (i := 79) (by decide +kernel), List.mem_of_getElem? (i := 592) (by decide +kernel), List.mem_of_getElem? (i := 593) (by decide +kernel)⟩
theorem lw_p35 : lw_okq (⟨"OneMourner$Rows", "walk", "(LOneMourner$Mourning;I)V"⟩, 10) := ⟨⟨by decide +kernel, by decide +kernel⟩, List.mem_of_getElem? (i := 218) (by decide +kernel), List.mem_of_getElem? (i := 610) (by decide +kernel), List.mem_of_getElem? (i := 611) (by decide +kernel)⟩
theorem lw_p36 : lw_okq (⟨"OneMourner$Rows", "look", "(I)V"⟩, 10) := ⟨⟨by decide +kernel, by decide +kernel⟩, List.mem_of_getElem? (i := 218) (by decide +kernel), List.mem_of_getElem? (i := 615) (by decide +kernel), List.mem_of_getElem? (i := 616) (by decide +kernel)⟩
theorem lw_p37 : lw_okq (⟨"OneMourner$Rows", "goToNext", "()Z"⟩, 10) := ⟨⟨by decide +kernel, by decide +kernel⟩, List.mem_of_getElem? (i := 218) (by decide +kernel), List.mem_of_getElem? (i := 622) (by decide +kernel), List.mem_of_getElem? (i := 623) (by decide +kernel)⟩
theorem lw_p38 : lw_okq (⟨"OneMourner$Rows", "change", "(II)V"⟩, 10) := ⟨⟨by decide +kernel, by decide +kernel⟩, List.mem_of_getElem? (i := 218) (by decide +kernel), List.mem_of_getElem? (i := 626) (by decide +kernel), List.mem_of_getElem? (i := 627) (by decide +kernel)⟩
theorem lw_p39 : lw_okq (⟨"OneMourner$Notes", "add", "(III)I"⟩, 4) := ⟨⟨by decide +kernel, by decide +kernel⟩, List.mem_of_getElem? (i := 79) (by decide +kernel), List.mem_of_getElem? (i := 634) (by decide +kernel), List.mem_of_getElem? (i := 635) (by decide +kernel)⟩
theorem lw_p40 : lw_okq (⟨"OneMourner$Mourning", "isAsSeen", "(LOneMourner$Mourner;)Z"⟩, 9) := ⟨⟨by decide +kernel, by decide +kernel⟩, List.mem_of_getElem? (i := 71) (by decide +kernel), List.mem_of_getElem? (i := 642) (by decide +kernel), List.mem_of_getElem? (i := 643) (by decide +kernel)⟩
theorem lw_p41 : lw_okq (⟨"OneMourner$Mourning", "goByPlan", "()V"⟩, 9) := ⟨⟨by decide +kernel, by decide +kernel⟩, List.mem_of_getElem? (i := 71) (by decide +kernel), List.mem_of_getElem? (i := 669) (by decide +kernel), List.mem_of_getElem? (i := 670) (by decide +kernel)⟩
theorem lw_p42 : lw_okq (⟨"OneMourner$Acts", "body", "(LOneMourner$Mourner;IIII)I"⟩, 2) := ⟨⟨by decide +kernel, by decide +kernel⟩, List.mem_of_getElem? (i := 263) (by decide +kernel), List.mem_of_getElem? (i := 703) (by decide +kernel), List.mem_of_getElem? (i := 704) (by decide +kernel)⟩
theorem lw_p43 : lw_okq (⟨"OneMourner$Acts", "begins", "(I)V"⟩, 2) := ⟨⟨by decide +kernel, by decide +kernel⟩, List.mem_of_getElem? (i := 263) (by decide +kernel), List.mem_of_getElem? (i := 718) (by decide +kernel), List.mem_of_getElem? (i := 719) (by decide +kernel)⟩
theorem lw_p44 : lw_okq (⟨"OneMourner$Tape", "becomes", "(II)V"⟩, 3) := ⟨⟨by decide +kernel, by decide +kernel⟩, List.mem_of_getElem? (i := 279) (by decide +kernel), List.mem_of_getElem? (i := 740) (by decide +kernel), List.mem_of_getElem? (i := 741) (by decide +kernel)⟩
theorem lw_p45 : lw_okq (⟨"OneMourner$Tape", "asItem", "(J)J"⟩, 3) := ⟨⟨by decide +kernel, by decide +kernel⟩, List.mem_of_getElem? (i := 279) (by decide +kernel), List.mem_of_getElem? (i := 748) (by decide +kernel), List.mem_of_getElem? (i := 749) (by decide +kernel)⟩
theorem lw_p46 : lw_okq (⟨"OneMourner$Tape", "holds", "(II)Z"⟩, 3) := ⟨⟨by decide +kernel, by decide +kernel⟩, List.mem_of_getElem? (i := 279) (by decide +kernel), List.mem_of_getElem? (i := 761) (by decide +kernel), List.mem_of_getElem? (i := 762) (by decide +kernel)⟩
theorem lw_p47 : lw_okq (⟨"OneMournerModel", "isOne", "(I)Z"⟩, 56) := ⟨⟨by decide +kernel, by decide +kernel⟩, List.mem_of_getElem? (i := 767) (by decide +kernel), List.mem_of_getElem? (i := 954) (by decide +kernel), List.mem_of_getElem? (i := 955) (by decide +kernel)⟩
def lw_privs_3 : List (MethodName × Nat) := [(⟨"OneMourner$Mourning", "becomes", "(LOneMourner$Mourning;)V"⟩, 9), (⟨"OneMourner$Mourner", "becomes", "(LOneMourner$Mourner;)V"⟩, 8), (⟨"OneMourner$Notes", "becomes", "(LOneMourner$Notes;)V"⟩, 4), (⟨"OneMourner$Rows", "walk", "(LOneMourner$Mourning;I)V"⟩, 10), (⟨"OneMourner$Rows", "look", "(I)V"⟩, 10), (⟨"OneMourner$Rows", "goToNext", "()Z"⟩, 10), (⟨"OneMourner$Rows", "change", "(II)V"⟩, 10), (⟨"OneMourner$Notes", "add", "(III)I"⟩, 4), (⟨"OneMourner$Mourning", "isAsSeen", "(LOneMourner$Mourner;)Z"⟩, 9), (⟨"OneMourner$Mourning", "goByPlan", "()V"⟩, 9), (⟨"OneMourner$Acts", "body", "(LOneMourner$Mourner;IIII)I"⟩, 2), (⟨"OneMourner$Acts", "begins", "(I)V"⟩, 2), (⟨"OneMourner$Tape", "becomes", "(II)V"⟩, 3), (⟨"OneMourner$Tape", "asItem", "(J)J"⟩, 3), (⟨"OneMourner$Tape", "holds", "(II)Z"⟩, 3), (⟨"OneMournerModel", "isOne", "(I)Z"⟩, 56)]
theorem lw_r3 : ∀ q ∈ lw_privs_3, lw_okq q := List.forall_mem_cons.mpr ⟨lw_p32, List.forall_mem_cons.mpr ⟨lw_p33, List.forall_mem_cons.mpr ⟨lw_p34, List.forall_mem_cons.mpr ⟨lw_p35, List.forall_mem_cons.mpr ⟨lw_p36, List.forall_mem_cons.mpr ⟨lw_p37, List.forall_mem_cons.mpr ⟨lw_p38, List.forall_mem_cons.mpr ⟨lw_p39, List.forall_mem_cons.mpr ⟨lw_p40, List.forall_mem_cons.mpr ⟨lw_p41, List.forall_mem_cons.mpr ⟨lw_p42, List.forall_mem_cons.mpr ⟨lw_p43, List.forall_mem_cons.mpr ⟨lw_p44, List.forall_mem_cons.mpr ⟨lw_p45, List.forall_mem_cons.mpr ⟨lw_p46, List.forall_mem_cons.mpr ⟨lw_p47, fun _ h => absurd h List.not_mem_nil⟩⟩⟩⟩⟩⟩⟩⟩⟩⟩⟩⟩⟩⟩⟩⟩
theorem lw_p48 : lw_okq (⟨"OneMournerModel", "placeOf", "(I)I"⟩, 56) := ⟨⟨by decide +kernel, by decide +kernel⟩, List.mem_of_getElem? (i := 767) (by decide +kernel), List.mem_of_getElem? (i := 958) (by decide +kernel), List.mem_of_getElem? (i := 959) (by decide +kernel)⟩
theorem lw_p49 : lw_okq (⟨"OneMournerModel", "pain", "(III)I"⟩, 56) := ⟨⟨by decide +kernel, by decide +kernel⟩, List.mem_of_getElem? (i := 767) (by decide +kernel), List.mem_of_getElem? (i := 962) (by decide +kernel), List.mem_of_getElem? (i := 963) (by decide +kernel)⟩
theorem lw_p50 : lw_okq (⟨"OneMournerModel", "sum", "(III)I"⟩, 56) := ⟨⟨by decide +kernel, by decide +kernel⟩, List.mem_of_getElem? (i := 767) (by decide +kernel), List.mem_of_getElem? (i := 966) (by decide +kernel), List.mem_of_getElem? (i := 967) (by decide +kernel)⟩
theorem lw_p51 : lw_okq (⟨"OneMournerModel", "isTrue", "(IIII)Z"⟩, 56) := ⟨⟨by decide +kernel, by decide +kernel⟩, List.mem_of_getElem? (i := 767) (by decide +kernel), List.mem_of_getElem? (i := 970) (by decide +kernel), List.mem_of_getElem? (i := 971) (by decide +kernel)⟩
theorem lw_p52 : lw_okq (⟨"OneMournerModel", "letterOf", "(IIII)I"⟩, 56) := ⟨⟨by decide +kernel, by decide +kernel⟩, List.mem_of_getElem? (i := 767) (by decide +kernel), List.mem_of_getElem? (i := 974) (by decide +kernel), List.mem_of_getElem? (i := 975) (by decide +kernel)⟩
theorem lw_p53 : lw_okq (⟨"OneMournerModel", "isClause", "(I)Z"⟩, 56) := ⟨⟨by decide +kernel, by decide +kernel⟩, List.mem_of_getElem? (i := 767) (by decide +kernel), List.mem_of_getElem? (i := 1008) (by decide +kernel), List.mem_of_getElem? (i := 1009) (by decide +kernel)⟩
theorem lw_p54 : lw_okq (⟨"OneMournerModel", "isAll", "(Ljava/lang/String;)Z"⟩, 56) := ⟨⟨by decide +kernel, by decide +kernel⟩, List.mem_of_getElem? (i := 767) (by decide +kernel), List.mem_of_getElem? (i := 1013) (by decide +kernel), List.mem_of_getElem? (i := 1014) (by decide +kernel)⟩
theorem lw_p55 : lw_okq (⟨"OneMournerModel", "is", "(I)Z"⟩, 56) := ⟨⟨by decide +kernel, by decide +kernel⟩, List.mem_of_getElem? (i := 767) (by decide +kernel), List.mem_of_getElem? (i := 1019) (by decide +kernel), List.mem_of_getElem? (i := 1020) (by decide +kernel)⟩
theorem lw_p56 : lw_okq (⟨"OneMournerModel", "isNumber", "()Z"⟩, 56) := ⟨⟨by decide +kernel, by decide +kernel⟩, List.mem_of_getElem? (i := 767) (by decide +kernel), List.mem_of_getElem? (i := 1025) (by decide +kernel), List.mem_of_getElem? (i := 1026) (by decide +kernel)⟩
theorem lw_p57 : lw_okq (⟨"OneMournerModel", "isDigit", "()Z"⟩, 56) := ⟨⟨by decide +kernel, by decide +kernel⟩, List.mem_of_getElem? (i := 767) (by decide +kernel), List.mem_of_getElem? (i := 1029) (by decide +kernel), List.mem_of_getElem? (i := 1030) (by decide +kernel)⟩
theorem lw_p58 : lw_okq (⟨"OneMournerModel", "isE", "()Z"⟩, 56) := ⟨⟨by decide +kernel, by decide +kernel⟩, List.mem_of_getElem? (i := 767) (by decide +kernel), List.mem_of_getElem? (i := 1033) (by decide +kernel), List.mem_of_getElem? (i := 1034) (by decide +kernel)⟩
theorem lw_p59 : lw_okq (⟨"OneMournerModel", "isT", "()Z"⟩, 56) := ⟨⟨by decide +kernel, by decide +kernel⟩, List.mem_of_getElem? (i := 767) (by decide +kernel), List.mem_of_getElem? (i := 1037) (by decide +kernel), List.mem_of_getElem? (i := 1038) (by decide +kernel)⟩
theorem lw_p60 : lw_okq (⟨"OneMournerModel", "isF", "()Z"⟩, 56) := ⟨⟨by decide +kernel, by decide +kernel⟩, List.mem_of_getElem? (i := 767) (by decide +kernel), List.mem_of_getElem? (i := 1041) (by decide +kernel), List.mem_of_getElem? (i := 1042) (by decide +kernel)⟩
theorem lw_p61 : lw_okq (⟨"OneMournerModel", "isOpened", "(I)Z"⟩, 56) := ⟨⟨by decide +kernel, by decide +kernel⟩, List.mem_of_getElem? (i := 767) (by decide +kernel), List.mem_of_getElem? (i := 1045) (by decide +kernel), List.mem_of_getElem? (i := 1046) (by decide +kernel)⟩
theorem lw_p62 : lw_okq (⟨"OneMournerModel", "codes", "(I)Z"⟩, 56) := ⟨⟨by decide +kernel, by decide +kernel⟩, List.mem_of_getElem? (i := 767) (by decide +kernel), List.mem_of_getElem? (i := 1049) (by decide +kernel), List.mem_of_getElem? (i := 1050) (by decide +kernel)⟩
theorem lw_p63 : lw_okq (⟨"OneMournerModel", "isTest", "()Z"⟩, 56) := ⟨⟨by decide +kernel, by decide +kernel⟩, List.mem_of_getElem? (i := 767) (by decide +kernel), List.mem_of_getElem? (i := 1053) (by decide +kernel), List.mem_of_getElem? (i := 1054) (by decide +kernel)⟩
def lw_privs_4 : List (MethodName × Nat) := [(⟨"OneMournerModel", "placeOf", "(I)I"⟩, 56), (⟨"OneMournerModel", "pain", "(III)I"⟩, 56), (⟨"OneMournerModel", "sum", "(III)I"⟩, 56), (⟨"OneMournerModel", "isTrue", "(IIII)Z"⟩, 56), (⟨"OneMournerModel", "letterOf", "(IIII)I"⟩, 56), (⟨"OneMournerModel", "isClause", "(I)Z"⟩, 56), (⟨"OneMournerModel", "isAll", "(Ljava/lang/String;)Z"⟩, 56), (⟨"OneMournerModel", "is", "(I)Z"⟩, 56), (⟨"OneMournerModel", "isNumber", "()Z"⟩, 56), (⟨"OneMournerModel", "isDigit", "()Z"⟩, 56), (⟨"OneMournerModel", "isE", "()Z"⟩, 56), (⟨"OneMournerModel", "isT", "()Z"⟩, 56), (⟨"OneMournerModel", "isF", "()Z"⟩, 56), (⟨"OneMournerModel", "isOpened", "(I)Z"⟩, 56), (⟨"OneMournerModel", "codes", "(I)Z"⟩, 56), (⟨"OneMournerModel", "isTest", "()Z"⟩, 56)]
theorem lw_r4 : ∀ q ∈ lw_privs_4, lw_okq q := List.forall_mem_cons.mpr ⟨lw_p48, List.forall_mem_cons.mpr ⟨lw_p49, List.forall_mem_cons.mpr ⟨lw_p50, List.forall_mem_cons.mpr ⟨lw_p51, List.forall_mem_cons.mpr ⟨lw_p52, List.forall_mem_cons.mpr ⟨lw_p53, List.forall_mem_cons.mpr ⟨lw_p54, List.forall_mem_cons.mpr ⟨lw_p55, List.forall_mem_cons.mpr ⟨lw_p56, List.forall_mem_cons.mpr ⟨lw_p57, List.forall_mem_cons.mpr ⟨lw_p58, List.forall_mem_cons.mpr ⟨lw_p59, List.forall_mem_cons.mpr ⟨lw_p60, List.forall_mem_cons.mpr ⟨lw_p61, List.forall_mem_cons.mpr ⟨lw_p62, List.forall_mem_cons.mpr ⟨lw_p63, fun _ h => absurd h List.not_mem_nil⟩⟩⟩⟩⟩⟩⟩⟩⟩⟩⟩⟩⟩⟩⟩⟩
theorem lw_p64 : lw_okq (⟨"OneMournerModel", "goesDay", "()V"⟩, 56) := ⟨⟨by decide +kernel, by decide +kernel⟩, List.mem_of_getElem? (i := 767) (by decide +kernel), List.mem_of_getElem? (i := 1118) (by decide +kernel), List.mem_of_getElem? (i := 1119) (by decide +kernel)⟩
theorem lw_p65 : lw_okq (⟨"OneMournerModel", "todays", "()I"⟩, 56) := ⟨⟨by decide +kernel, by decide +kernel⟩, List.mem_of_getElem? (i := 767) (by decide +kernel), List.mem_of_getElem? (i := 1122) (by decide +kernel), List.mem_of_getElem? (i := 1123) (by decide +kernel)⟩
theorem lw_p66 : lw_okq (⟨"OneMournerModel", "isLost", "(I)Z"⟩, 56) := ⟨⟨by decide +kernel, by decide +kernel⟩, List.mem_of_getElem? (i := 767) (by decide +kernel), List.mem_of_getElem? (i := 1126) (by decide +kernel), List.mem_of_getElem? (i := 1127) (by decide +kernel)⟩
theorem lw_p67 : lw_okq (⟨"OneMournerModel", "lostBy", "()I"⟩, 56) := ⟨⟨by decide +kernel, by decide +kernel⟩, List.mem_of_getElem? (i := 767) (by decide +kernel), List.mem_of_getElem? (i := 1130) (by decide +kernel), List.mem_of_getElem? (i := 1131) (by decide +kernel)⟩
theorem lw_p68 : lw_okq (⟨"OneMournerModel", "allHurt", "()I"⟩, 56) := ⟨⟨by decide +kernel, by decide +kernel⟩, List.mem_of_getElem? (i := 767) (by decide +kernel), List.mem_of_getElem? (i := 1139) (by decide +kernel), List.mem_of_getElem? (i := 1140) (by decide +kernel)⟩
theorem lw_p69 : lw_okq (⟨"OneMournerModel", "allDone", "()I"⟩, 56) := ⟨⟨by decide +kernel, by decide +kernel⟩, List.mem_of_getElem? (i := 767) (by decide +kernel), List.mem_of_getElem? (i := 1143) (by decide +kernel), List.mem_of_getElem? (i := 1144) (by decide +kernel)⟩
theorem lw_p70 : lw_okq (⟨"OneMournerModel", "agreed", "()I"⟩, 56) := ⟨⟨by decide +kernel, by decide +kernel⟩, List.mem_of_getElem? (i := 767) (by decide +kernel), List.mem_of_getElem? (i := 1147) (by decide +kernel), List.mem_of_getElem? (i := 1148) (by decide +kernel)⟩
theorem lw_p71 : lw_okq (⟨"OneMournerModel", "looks", "()V"⟩, 56) := ⟨⟨by decide +kernel, by decide +kernel⟩, List.mem_of_getElem? (i := 767) (by decide +kernel), List.mem_of_getElem? (i := 1151) (by decide +kernel), List.mem_of_getElem? (i := 1152) (by decide +kernel)⟩
theorem lw_p72 : lw_okq (⟨"OneMournerModel", "turnOf", "(I)I"⟩, 56) := ⟨⟨by decide +kernel, by decide +kernel⟩, List.mem_of_getElem? (i := 767) (by decide +kernel), List.mem_of_getElem? (i := 1155) (by decide +kernel), List.mem_of_getElem? (i := 1156) (by decide +kernel)⟩
theorem lw_p73 : lw_okq (⟨"OneMournerModel", "dear", "(I)I"⟩, 56) := ⟨⟨by decide +kernel, by decide +kernel⟩, List.mem_of_getElem? (i := 767) (by decide +kernel), List.mem_of_getElem? (i := 1159) (by decide +kernel), List.mem_of_getElem? (i := 1160) (by decide +kernel)⟩
theorem lw_p74 : lw_okq (⟨"OneMournerModel", "keep", "([I)V"⟩, 56) := ⟨⟨by decide +kernel, by decide +kernel⟩, List.mem_of_getElem? (i := 767) (by decide +kernel), List.mem_of_getElem? (i := 1167) (by decide +kernel), List.mem_of_getElem? (i := 1168) (by decide +kernel)⟩
theorem lw_p75 : lw_okq (⟨"OneMournerModel", "again", "([I)V"⟩, 56) := ⟨⟨by decide +kernel, by decide +kernel⟩, List.mem_of_getElem? (i := 767) (by decide +kernel), List.mem_of_getElem? (i := 1171) (by decide +kernel), List.mem_of_getElem? (i := 1172) (by decide +kernel)⟩
theorem lw_p76 : lw_okq (⟨"OneMournerModel", "allWays", "(ZI)V"⟩, 56) := ⟨⟨by decide +kernel, by decide +kernel⟩, List.mem_of_getElem? (i := 767) (by decide +kernel), List.mem_of_getElem? (i := 1187) (by decide +kernel), List.mem_of_getElem? (i := 1188) (by decide +kernel)⟩
theorem lw_p77 : lw_okq (⟨"OneMournerModel", "tries", "(IIJJ)V"⟩, 56) := ⟨⟨by decide +kernel, by decide +kernel⟩, List.mem_of_getElem? (i := 767) (by decide +kernel), List.mem_of_getElem? (i := 1192) (by decide +kernel), List.mem_of_getElem? (i := 1193) (by decide +kernel)⟩
theorem lw_p78 : lw_okq (⟨"OneMournerModel", "getOf", "(II)I"⟩, 56) := ⟨⟨by decide +kernel, by decide +kernel⟩, List.mem_of_getElem? (i := 767) (by decide +kernel), List.mem_of_getElem? (i := 1207) (by decide +kernel), List.mem_of_getElem? (i := 1208) (by decide +kernel)⟩
theorem lw_p79 : lw_okq (⟨"OneMournerModel", "setOf", "(III)V"⟩, 56) := ⟨⟨by decide +kernel, by decide +kernel⟩, List.mem_of_getElem? (i := 767) (by decide +kernel), List.mem_of_getElem? (i := 1211) (by decide +kernel), List.mem_of_getElem? (i := 1212) (by decide +kernel)⟩
def lw_privs_5 : List (MethodName × Nat) := [(⟨"OneMournerModel", "goesDay", "()V"⟩, 56), (⟨"OneMournerModel", "todays", "()I"⟩, 56), (⟨"OneMournerModel", "isLost", "(I)Z"⟩, 56), (⟨"OneMournerModel", "lostBy", "()I"⟩, 56), (⟨"OneMournerModel", "allHurt", "()I"⟩, 56), (⟨"OneMournerModel", "allDone", "()I"⟩, 56), (⟨"OneMournerModel", "agreed", "()I"⟩, 56), (⟨"OneMournerModel", "looks", "()V"⟩, 56), (⟨"OneMournerModel", "turnOf", "(I)I"⟩, 56), (⟨"OneMournerModel", "dear", "(I)I"⟩, 56), (⟨"OneMournerModel", "keep", "([I)V"⟩, 56), (⟨"OneMournerModel", "again", "([I)V"⟩, 56), (⟨"OneMournerModel", "allWays", "(ZI)V"⟩, 56), (⟨"OneMournerModel", "tries", "(IIJJ)V"⟩, 56), (⟨"OneMournerModel", "getOf", "(II)I"⟩, 56), (⟨"OneMournerModel", "setOf", "(III)V"⟩, 56)]
theorem lw_r5 : ∀ q ∈ lw_privs_5, lw_okq q := List.forall_mem_cons.mpr ⟨lw_p64, List.forall_mem_cons.mpr ⟨lw_p65, List.forall_mem_cons.mpr ⟨lw_p66, List.forall_mem_cons.mpr ⟨lw_p67, List.forall_mem_cons.mpr ⟨lw_p68, List.forall_mem_cons.mpr ⟨lw_p69, List.forall_mem_cons.mpr ⟨lw_p70, List.forall_mem_cons.mpr ⟨lw_p71, List.forall_mem_cons.mpr ⟨lw_p72, List.forall_mem_cons.mpr ⟨lw_p73, List.forall_mem_cons.mpr ⟨lw_p74, List.forall_mem_cons.mpr ⟨lw_p75, List.forall_mem_cons.mpr ⟨lw_p76, List.forall_mem_cons.mpr ⟨lw_p77, List.forall_mem_cons.mpr ⟨lw_p78, List.forall_mem_cons.mpr ⟨lw_p79, fun _ h => absurd h List.not_mem_nil⟩⟩⟩⟩⟩⟩⟩⟩⟩⟩⟩⟩⟩⟩⟩⟩
theorem lw_p80 : lw_okq (⟨"OneMournerModel", "isSeen", "(I)Z"⟩, 56) := ⟨⟨by decide +kernel, by decide +kernel⟩, List.mem_of_getElem? (i := 767) (by decide +kernel), List.mem_of_getElem? (i := 1215) (by decide +kernel), List.mem_of_getElem? (i := 1216) (by decide +kernel)⟩
theorem lw_p81 : lw_okq (⟨"OneMournerModel", "weeps", "(III)I"⟩, 56) := ⟨⟨by decide +kernel, by decide +kernel⟩, List.mem_of_getElem? (i := 767) (by decide +kernel), List.mem_of_getElem? (i := 1263) (by decide +kernel), List.mem_of_getElem? (i := 1264) (by decide +kernel)⟩
theorem lw_p82 : lw_okq (⟨"OneMournerModel", "ran", "(I)V"⟩, 56) := ⟨⟨by decide +kernel, by decide +kernel⟩, List.mem_of_getElem? (i := 767) (by decide +kernel), List.mem_of_getElem? (i := 1267) (by decide +kernel), List.mem_of_getElem? (i := 1268) (by decide +kernel)⟩
theorem lw_p83 : lw_okq (⟨"OneMournerModel", "waits", "(III)I"⟩, 56) := ⟨⟨by decide +kernel, by decide +kernel⟩, List.mem_of_getElem? (i := 767) (by decide +kernel), List.mem_of_getElem? (i := 1274) (by decide +kernel), List.mem_of_getElem? (i := 1275) (by decide +kernel)⟩
theorem lw_p84 : lw_okq (⟨"OneMournerModel", "tells", "(III)I"⟩, 56) := ⟨⟨by decide +kernel, by decide +kernel⟩, List.mem_of_getElem? (i := 767) (by decide +kernel), List.mem_of_getElem? (i := 1278) (by decide +kernel), List.mem_of_getElem? (i := 1279) (by decide +kernel)⟩
def lw_privs_6 : List (MethodName × Nat) := [(⟨"OneMournerModel", "isSeen", "(I)Z"⟩, 56), (⟨"OneMournerModel", "weeps", "(III)I"⟩, 56), (⟨"OneMournerModel", "ran", "(I)V"⟩, 56), (⟨"OneMournerModel", "waits", "(III)I"⟩, 56), (⟨"OneMournerModel", "tells", "(III)I"⟩, 56)]
theorem lw_r6 : ∀ q ∈ lw_privs_6, lw_okq q := List.forall_mem_cons.mpr ⟨lw_p80, List.forall_mem_cons.mpr ⟨lw_p81, List.forall_mem_cons.mpr ⟨lw_p82, List.forall_mem_cons.mpr ⟨lw_p83, List.forall_mem_cons.mpr ⟨lw_p84, fun _ h => absurd h List.not_mem_nil⟩⟩⟩⟩⟩
def lw_privs : List (MethodName × Nat) := lw_privs_1 ++ (lw_privs_2 ++ (lw_privs_3 ++ (lw_privs_4 ++ (lw_privs_5 ++ (lw_privs_6)))))
def lw_tbl : List Cond := k2_sels lw_privs ++ tables_1
theorem lw_privs_ok : ∀ q ∈ lw_privs, lw_okq q := by
  show ∀ q ∈ lw_privs_1 ++ (lw_privs_2 ++ (lw_privs_3 ++ (lw_privs_4 ++ (lw_privs_5 ++ (lw_privs_6))))), lw_okq q
  exact List.forall_mem_append.mpr ⟨lw_r1, List.forall_mem_append.mpr ⟨lw_r2, List.forall_mem_append.mpr ⟨lw_r3, List.forall_mem_append.mpr ⟨lw_r4, List.forall_mem_append.mpr ⟨lw_r5, lw_r6⟩⟩⟩⟩⟩
/-! names, by program out of what TURN prints -/
def qBIG : List Cond := lw_tbl.filter goodWord
theorem q_mem {w : Cond} (i : Nat) (h : lw_tbl[i]? = some w) (hg : goodWord w = true) : w ∈ qBIG := List.mem_filter.mpr ⟨List.mem_of_getElem? h, hg⟩
def R_Ac : String := "OneMourner$Acts"
def T_Ac : u_T := fun k => match k with
  | 0 => ("OneMourner$Acts", "kept", "[I", true)
  | _ => ("OneMourner$Acts", "ran", "I", false)
def ty_Ac : Nat → FieldType := fun k => match k with
  | 0 => .array .int
  | _ => .int
theorem nm_Ac : ∀ a, a < 2 → ∀ b, b < 2 → a ≠ b → (T_Ac a).2.1 ≠ (T_Ac b).2.1 := by decide +kernel
theorem ty_Ac_ok : ∀ k, k < 2 → parseFieldDescriptor (T_Ac k).2.2.1 = some (ty_Ac k) := by decide +kernel
def R_Is : String := "OneMourner$Island"
def T_Is : u_T := fun k => match k with
  | 0 => ("OneMourner$Island", "codes", "[I", true)
  | 1 => ("OneMourner$Island", "size", "I", false)
  | 2 => ("OneMourner$Island", "more", "[I", true)
  | 3 => ("OneMourner$Island", "ends", "[I", true)
  | 4 => ("OneMourner$Island", "clauses", "I", false)
  | 5 => ("OneMourner$Island", "lost", "I", false)
  | _ => ("OneMourner$Island", "values", "[I", true)
def ty_Is : Nat → FieldType := fun k => match k with
  | 0 => .array .int
  | 1 => .int
  | 2 => .array .int
  | 3 => .array .int
  | 4 => .int
  | 5 => .int
  | _ => .array .int
theorem nm_Is : ∀ a, a < 7 → ∀ b, b < 7 → a ≠ b → (T_Is a).2.1 ≠ (T_Is b).2.1 := by decide +kernel
theorem ty_Is_ok : ∀ k, k < 7 → parseFieldDescriptor (T_Is k).2.2.1 = some (ty_Is k) := by decide +kernel
def R_Mo : String := "OneMourner$Mourner"
def T_Mo : u_T := fun k => match k with
  | 0 => ("OneMourner$Mourner", "number", "I", true)
  | 1 => ("OneMourner$Mourner", "kind", "I", false)
  | 2 => ("OneMourner$Mourner", "v", "I", false)
  | 3 => ("OneMourner$Mourner", "grief", "I", false)
  | 4 => ("OneMourner$Mourner", "waited", "I", false)
  | 5 => ("OneMourner$Mourner", "hurt", "I", false)
  | 6 => ("OneMourner$Mourner", "done", "Z", false)
  | _ => ("OneMourner$Mourner", "row", "[I", true)
def ty_Mo : Nat → FieldType := fun k => match k with
  | 0 => .int
  | 1 => .int
  | 2 => .int
  | 3 => .int
  | 4 => .int
  | 5 => .int
  | 6 => .boolean
  | _ => .array .int
theorem nm_Mo : ∀ a, a < 8 → ∀ b, b < 8 → a ≠ b → (T_Mo a).2.1 ≠ (T_Mo b).2.1 := by decide +kernel
theorem ty_Mo_ok : ∀ k, k < 8 → parseFieldDescriptor (T_Mo k).2.2.1 = some (ty_Mo k) := by decide +kernel
def R_Mg : String := "OneMourner$Mourning"
def T_Mg : u_T := fun k => match k with
  | 0 => ("OneMourner$Mourning", "mourners", "[LOneMourner$Mourner;", true)
  | 1 => ("OneMourner$Mourning", "count", "I", false)
  | 2 => ("OneMourner$Mourning", "list", "[I", true)
  | 3 => ("OneMourner$Mourning", "listed", "I", false)
  | 4 => ("OneMourner$Mourning", "day", "I", false)
  | 5 => ("OneMourner$Mourning", "island", "LOneMourner$Island;", false)
  | 6 => ("OneMourner$Mourning", "seen", "LOneMourner$Notes;", true)
  | 7 => ("OneMourner$Mourning", "plan", "LOneMourner$Notes;", true)
  | _ => ("OneMourner$Mourning", "book", "LOneMourner$Notes;", true)
def ty_Mg : Nat → FieldType := fun k => match k with
  | 0 => .array (.object "OneMourner$Mourner")
  | 1 => .int
  | 2 => .array .int
  | 3 => .int
  | 4 => .int
  | 5 => .object "OneMourner$Island"
  | 6 => .object "OneMourner$Notes"
  | 7 => .object "OneMourner$Notes"
  | _ => .object "OneMourner$Notes"
theorem nm_Mg : ∀ a, a < 9 → ∀ b, b < 9 → a ≠ b → (T_Mg a).2.1 ≠ (T_Mg b).2.1 := by decide +kernel
theorem ty_Mg_ok : ∀ k, k < 9 → parseFieldDescriptor (T_Mg k).2.2.1 = some (ty_Mg k) := by decide +kernel
def R_No : String := "OneMourner$Notes"
def T_No : u_T := fun k => match k with
  | 0 => ("OneMourner$Notes", "first", "[I", true)
  | 1 => ("OneMourner$Notes", "second", "[I", true)
  | 2 => ("OneMourner$Notes", "third", "[I", true)
  | _ => ("OneMourner$Notes", "size", "I", false)
def ty_No : Nat → FieldType := fun k => match k with
  | 0 => .array .int
  | 1 => .array .int
  | 2 => .array .int
  | _ => .int
theorem nm_No : ∀ a, a < 4 → ∀ b, b < 4 → a ≠ b → (T_No a).2.1 ≠ (T_No b).2.1 := by decide +kernel
theorem ty_No_ok : ∀ k, k < 4 → parseFieldDescriptor (T_No k).2.2.1 = some (ty_No k) := by decide +kernel
def R_Re : String := "OneMourner$Reader"
def T_Re : u_T := fun k => match k with
  | 0 => ("OneMourner$Reader", "text", "[B", true)
  | 1 => ("OneMourner$Reader", "size", "I", false)
  | 2 => ("OneMourner$Reader", "at", "I", false)
  | _ => ("OneMourner$Reader", "faulty", "Z", false)
def ty_Re : Nat → FieldType := fun k => match k with
  | 0 => .array .byte
  | 1 => .int
  | 2 => .int
  | _ => .boolean
theorem nm_Re : ∀ a, a < 4 → ∀ b, b < 4 → a ≠ b → (T_Re a).2.1 ≠ (T_Re b).2.1 := by decide +kernel
theorem ty_Re_ok : ∀ k, k < 4 → parseFieldDescriptor (T_Re k).2.2.1 = some (ty_Re k) := by decide +kernel
def R_Ro : String := "OneMourner$Rows"
def T_Ro : u_T := fun k => match k with
  | 0 => ("OneMourner$Rows", "hurts", "[I", true)
  | 1 => ("OneMourner$Rows", "row", "[I", true)
  | 2 => ("OneMourner$Rows", "size", "I", false)
  | 3 => ("OneMourner$Rows", "least", "[I", true)
  | 4 => ("OneMourner$Rows", "fair", "[I", true)
  | 5 => ("OneMourner$Rows", "leastHurt", "I", false)
  | 6 => ("OneMourner$Rows", "fairHurt", "I", false)
  | 7 => ("OneMourner$Rows", "walked", "I", false)
  | 8 => ("OneMourner$Rows", "upToQ", "I", false)
  | _ => ("OneMourner$Rows", "together", "J", false)
def ty_Ro : Nat → FieldType := fun k => match k with
  | 0 => .array .int
  | 1 => .array .int
  | 2 => .int
  | 3 => .array .int
  | 4 => .array .int
  | 5 => .int
  | 6 => .int
  | 7 => .int
  | 8 => .int
  | _ => .long
theorem nm_Ro : ∀ a, a < 10 → ∀ b, b < 10 → a ≠ b → (T_Ro a).2.1 ≠ (T_Ro b).2.1 := by decide +kernel
theorem ty_Ro_ok : ∀ k, k < 10 → parseFieldDescriptor (T_Ro k).2.2.1 = some (ty_Ro k) := by decide +kernel
def R_Ta : String := "OneMourner$Tape"
def T_Ta : u_T := fun k => match k with
  | 0 => ("OneMourner$Tape", "sort", "I", false)
  | 1 => ("OneMourner$Tape", "size", "I", false)
  | _ => ("OneMourner$Tape", "items", "[J", true)
def ty_Ta : Nat → FieldType := fun k => match k with
  | 0 => .int
  | 1 => .int
  | _ => .array .long
theorem nm_Ta : ∀ a, a < 3 → ∀ b, b < 3 → a ≠ b → (T_Ta a).2.1 ≠ (T_Ta b).2.1 := by decide +kernel
theorem ty_Ta_ok : ∀ k, k < 3 → parseFieldDescriptor (T_Ta k).2.2.1 = some (ty_Ta k) := by decide +kernel
def R_On : String := "OneMourner"
def T_On : u_T := fun k => match k with
  | 0 => ("OneMourner", "without", "LOneMourner$Island;", true)
  | 1 => ("OneMourner", "now", "LOneMourner$Mourning;", true)
  | 2 => ("OneMourner", "ahead", "LOneMourner$Mourning;", true)
  | 3 => ("OneMourner", "image", "LOneMourner$Mourning;", true)
  | 4 => ("OneMourner", "imaged", "Z", false)
  | 5 => ("OneMourner", "reader", "LOneMourner$Reader;", true)
  | 6 => ("OneMourner", "blank", "LOneMourner$Island;", false)
  | 7 => ("OneMourner", "islands", "I", false)
  | 8 => ("OneMourner", "rows", "LOneMourner$Rows;", true)
  | 9 => ("OneMourner", "acts", "LOneMourner$Acts;", true)
  | _ => ("OneMourner", "tapes", "[LOneMourner$Tape;", true)
def ty_On : Nat → FieldType := fun k => match k with
  | 0 => .object "OneMourner$Island"
  | 1 => .object "OneMourner$Mourning"
  | 2 => .object "OneMourner$Mourning"
  | 3 => .object "OneMourner$Mourning"
  | 4 => .boolean
  | 5 => .object "OneMourner$Reader"
  | 6 => .object "OneMourner$Island"
  | 7 => .int
  | 8 => .object "OneMourner$Rows"
  | 9 => .object "OneMourner$Acts"
  | _ => .array (.object "OneMourner$Tape")
theorem nm_On : ∀ a, a < 11 → ∀ b, b < 11 → a ≠ b → (T_On a).2.1 ≠ (T_On b).2.1 := by decide +kernel
theorem ty_On_ok : ∀ k, k < 11 → parseFieldDescriptor (T_On k).2.2.1 = some (ty_On k) := by decide +kernel
def R_Md : String := "OneMournerModel"
def T_Md : u_T := fun k => match k with
  | 0 => ("OneMournerModel", "mourners", "I", false)
  | 1 => ("OneMournerModel", "kind", "[I", true)
  | 2 => ("OneMournerModel", "v", "[I", true)
  | 3 => ("OneMournerModel", "grief", "[I", true)
  | 4 => ("OneMournerModel", "waited", "[I", true)
  | 5 => ("OneMournerModel", "hurt", "[I", true)
  | 6 => ("OneMournerModel", "gone", "[I", true)
  | 7 => ("OneMournerModel", "rows", "[I", true)
  | 8 => ("OneMournerModel", "onList", "I", false)
  | 9 => ("OneMournerModel", "list", "[I", true)
  | 10 => ("OneMournerModel", "day", "I", false)
  | 11 => ("OneMournerModel", "texted", "I", false)
  | 12 => ("OneMournerModel", "text", "[I", true)
  | 13 => ("OneMournerModel", "at", "I", false)
  | 14 => ("OneMournerModel", "value", "I", false)
  | 15 => ("OneMournerModel", "digits", "I", false)
  | 16 => ("OneMournerModel", "open", "I", false)
  | 17 => ("OneMournerModel", "islands", "I", false)
  | 18 => ("OneMournerModel", "holds", "I", false)
  | 19 => ("OneMournerModel", "clauses", "[I", true)
  | 20 => ("OneMournerModel", "word", "[I", true)
  | 21 => ("OneMournerModel", "number", "[I", true)
  | 22 => ("OneMournerModel", "begins", "[I", true)
  | 23 => ("OneMournerModel", "length", "[I", true)
  | 24 => ("OneMournerModel", "code", "[I", true)
  | 25 => ("OneMournerModel", "coded", "I", false)
  | 26 => ("OneMournerModel", "stack", "[Z", true)
  | 27 => ("OneMournerModel", "seen", "I", false)
  | 28 => ("OneMournerModel", "seenOf", "[I", true)
  | 29 => ("OneMournerModel", "seenPain", "[I", true)
  | 30 => ("OneMournerModel", "seenIn", "[I", true)
  | 31 => ("OneMournerModel", "inPlan", "I", false)
  | 32 => ("OneMournerModel", "goes", "[I", true)
  | 33 => ("OneMournerModel", "whose", "[I", true)
  | 34 => ("OneMournerModel", "inBook", "I", false)
  | 35 => ("OneMournerModel", "booked", "[I", true)
  | 36 => ("OneMournerModel", "bookHurt", "[I", true)
  | 37 => ("OneMournerModel", "traced", "I", false)
  | 38 => ("OneMournerModel", "traces", "[I", true)
  | 39 => ("OneMournerModel", "imaged", "Z", false)
  | 40 => ("OneMournerModel", "image", "[I", true)
  | 41 => ("OneMournerModel", "ahead", "[I", true)
  | 42 => ("OneMournerModel", "hurts", "[I", true)
  | 43 => ("OneMournerModel", "left", "I", false)
  | 44 => ("OneMournerModel", "whoLeft", "[I", true)
  | 45 => ("OneMournerModel", "tried", "[I", true)
  | 46 => ("OneMournerModel", "best", "[I", true)
  | 47 => ("OneMournerModel", "least", "J", false)
  | 48 => ("OneMournerModel", "fair", "Z", false)
  | 49 => ("OneMournerModel", "bound", "J", false)
  | 50 => ("OneMournerModel", "fits", "J", false)
  | 51 => ("OneMournerModel", "allRows", "J", false)
  | 52 => ("OneMournerModel", "allHurts", "J", false)
  | 53 => ("OneMournerModel", "tapeSort", "[I", true)
  | 54 => ("OneMournerModel", "tapeSize", "[I", true)
  | _ => ("OneMournerModel", "items", "[J", true)
def ty_Md : Nat → FieldType := fun k => match k with
  | 0 => .int
  | 1 => .array .int
  | 2 => .array .int
  | 3 => .array .int
  | 4 => .array .int
  | 5 => .array .int
  | 6 => .array .int
  | 7 => .array .int
  | 8 => .int
  | 9 => .array .int
  | 10 => .int
  | 11 => .int
  | 12 => .array .int
  | 13 => .int
  | 14 => .int
  | 15 => .int
  | 16 => .int
  | 17 => .int
  | 18 => .int
  | 19 => .array .int
  | 20 => .array .int
  | 21 => .array .int
  | 22 => .array .int
  | 23 => .array .int
  | 24 => .array .int
  | 25 => .int
  | 26 => .array .boolean
  | 27 => .int
  | 28 => .array .int
  | 29 => .array .int
  | 30 => .array .int
  | 31 => .int
  | 32 => .array .int
  | 33 => .array .int
  | 34 => .int
  | 35 => .array .int
  | 36 => .array .int
  | 37 => .int
  | 38 => .array .int
  | 39 => .boolean
  | 40 => .array .int
  | 41 => .array .int
  | 42 => .array .int
  | 43 => .int
  | 44 => .array .int
  | 45 => .array .int
  | 46 => .array .int
  | 47 => .long
  | 48 => .boolean
  | 49 => .long
  | 50 => .long
  | 51 => .long
  | 52 => .long
  | 53 => .array .int
  | 54 => .array .int
  | _ => .array .long
theorem nm_Md : ∀ a, a < 56 → ∀ b, b < 56 → a ≠ b → (T_Md a).2.1 ≠ (T_Md b).2.1 := by decide +kernel
theorem ty_Md_ok : ∀ k, k < 56 → parseFieldDescriptor (T_Md k).2.2.1 = some (ty_Md k) := by decide +kernel
abbrev vwCl : List vw_C := [(R_Ac, T_Ac, 2), (R_Is, T_Is, 7), (R_Mo, T_Mo, 8), (R_Mg, T_Mg, 9), (R_No, T_No, 4), (R_Re, T_Re, 4), (R_Ro, T_Ro, 10), (R_Ta, T_Ta, 3), (R_On, T_On, 11), (R_Md, T_Md, 56)]
def qFT : List (List Nat) := [[2, 0], [2, 0, 2, 2, 0, 0, 2], [0, 0, 0, 0, 0, 0, 0, 2], [2, 0, 2, 0, 0, 2, 2, 2, 2], [2, 2, 2, 0], [2, 0, 0, 0], [2, 2, 0, 2, 2, 0, 0, 0, 0, 1], [0, 0, 2], [2, 2, 2, 2, 0, 2, 2, 0, 2, 2, 2], [0, 2, 2, 2, 2, 2, 2, 2, 0, 2, 0, 0, 2, 0, 0, 0, 0, 0, 0, 2, 2, 2, 2, 2, 2, 0, 2, 0, 2, 2, 2, 0, 2, 2, 0, 2, 2, 0, 2, 0, 2, 2, 2, 0, 2, 2, 2, 1, 0, 1, 1, 1, 1, 2, 2, 2]]
def qNestF : List (String × Nat × String × String × String × String) := [("OneMourner$Reader", 62, "OneMourner$Island", "lost", "I", "OneMourner"), ("OneMourner$Mourning", 58, "OneMourner$Island", "lost", "I", "OneMourner"), ("OneMourner", 151, "OneMourner$Island", "lost", "I", "OneMourner"), ("OneMourner$Mourning", 112, "OneMourner$Notes", "first", "[I", "OneMourner"), ("OneMourner", 241, "OneMourner$Notes", "first", "[I", "OneMourner"), ("OneMourner$Mourning", 115, "OneMourner$Notes", "second", "[I", "OneMourner"), ("OneMourner", 244, "OneMourner$Notes", "second", "[I", "OneMourner"), ("OneMourner$Mourning", 133, "OneMourner$Notes", "third", "[I", "OneMourner"), ("OneMourner$Mourning", 109, "OneMourner$Notes", "size", "I", "OneMourner"), ("OneMourner", 205, "OneMourner$Notes", "size", "I", "OneMourner"), ("OneMourner$Acts", 23, "OneMourner$Mourner", "number", "I", "OneMourner"), ("OneMourner$Island", 44, "OneMourner$Mourner", "number", "I", "OneMourner"), ("OneMourner$Mourning", 130, "OneMourner$Mourner", "number", "I", "OneMourner"), ("OneMourner$Acts", 29, "OneMourner$Mourner", "kind", "I", "OneMourner"), ("OneMourner", 86, "OneMourner$Mourner", "kind", "I", "OneMourner"), ("OneMourner$Island", 49, "OneMourner$Mourner", "kind", "I", "OneMourner"), ("OneMourner$Acts", 36, "OneMourner$Mourner", "v", "I", "OneMourner"), ("OneMourner", 89, "OneMourner$Mourner", "v", "I", "OneMourner"), ("OneMourner$Island", 52, "OneMourner$Mourner", "v", "I", "OneMourner"), ("OneMourner", 92, "OneMourner$Mourner", "grief", "I", "OneMourner"), ("OneMourner$Island", 55, "OneMourner$Mourner", "grief", "I", "OneMourner"), ("OneMourner$Mourning", 127, "OneMourner$Mourner", "grief", "I", "OneMourner"), ("OneMourner", 95, "OneMourner$Mourner", "waited", "I", "OneMourner"), ("OneMourner$Mourning", 81, "OneMourner$Mourner", "waited", "I", "OneMourner"), ("OneMourner", 98, "OneMourner$Mourner", "hurt", "I", "OneMourner"), ("OneMourner$Mourning", 74, "OneMourner$Mourner", "hurt", "I", "OneMourner"), ("OneMourner", 101, "OneMourner$Mourner", "done", "Z", "OneMourner"), ("OneMourner$Mourning", 63, "OneMourner$Mourner", "done", "Z", "OneMourner"), ("OneMourner", 125, "OneMourner$Mourner", "row", "[I", "OneMourner"), ("OneMourner", 72, "OneMourner$Mourning", "mourners", "[LOneMourner$Mourner;", "OneMourner"), ("OneMourner$Rows", 75, "OneMourner$Mourning", "mourners", "[LOneMourner$Mourner;", "OneMourner"), ("OneMourner", 68, "OneMourner$Mourning", "count", "I", "OneMourner"), ("OneMourner$Rows", 60, "OneMourner$Mourning", "count", "I", "OneMourner"), ("OneMourner", 121, "OneMourner$Mourning", "list", "[I", "OneMourner"), ("OneMourner$Rows", 105, "OneMourner$Mourning", "list", "[I", "OneMourner"), ("OneMourner", 118, "OneMourner$Mourning", "listed", "I", "OneMourner"), ("OneMourner$Rows", 102, "OneMourner$Mourning", "listed", "I", "OneMourner"), ("OneMourner$Rows", 69, "OneMourner$Mourning", "day", "I", "OneMourner"), ("OneMourner", 148, "OneMourner$Mourning", "day", "I", "OneMourner"), ("OneMourner", 145, "OneMourner$Mourning", "island", "LOneMourner$Island;", "OneMourner"), ("OneMourner", 201, "OneMourner$Mourning", "seen", "LOneMourner$Notes;", "OneMourner"), ("OneMourner", 232, "OneMourner$Mourning", "plan", "LOneMourner$Notes;", "OneMourner"), ("OneMourner", 238, "OneMourner$Mourning", "book", "LOneMourner$Notes;", "OneMourner"), ("OneMourner", 131, "OneMourner$Reader", "text", "[B", "OneMourner"), ("OneMourner", 128, "OneMourner$Reader", "size", "I", "OneMourner"), ("OneMourner", 142, "OneMourner$Reader", "at", "I", "OneMourner"), ("OneMourner", 194, "OneMourner$Rows", "size", "I", "OneMourner"), ("OneMourner", 195, "OneMourner$Rows", "least", "[I", "OneMourner"), ("OneMourner", 198, "OneMourner$Rows", "fair", "[I", "OneMourner"), ("OneMourner", 188, "OneMourner$Rows", "leastHurt", "I", "OneMourner"), ("OneMourner", 191, "OneMourner$Rows", "fairHurt", "I", "OneMourner"), ("OneMourner", 221, "OneMourner$Rows", "walked", "I", "OneMourner"), ("OneMourner", 218, "OneMourner$Rows", "upToQ", "I", "OneMourner"), ("OneMourner", 228, "OneMourner$Rows", "together", "J", "OneMourner"), ("OneMourner", 268, "OneMourner$Acts", "kept", "[I", "OneMourner"), ("OneMourner", 261, "OneMourner$Acts", "ran", "I", "OneMourner"), ("OneMourner", 250, "OneMourner$Tape", "sort", "I", "OneMourner"), ("OneMourner", 253, "OneMourner$Tape", "size", "I", "OneMourner"), ("OneMourner", 254, "OneMourner$Tape", "items", "[J", "OneMourner"), ("OneMourner$Acts", 39, "OneMourner", "ABOVE", "[I", "OneMourner")]
def qNestM : List (String × Nat × MethodName × String) := [("OneMourner", 11, ⟨"OneMourner$Island", "<init>", "()V"⟩, "OneMourner"), ("OneMourner", 20, ⟨"OneMourner$Mourning", "<init>", "(LOneMourner$Island;)V"⟩, "OneMourner"), ("OneMourner$Mourning", 23, ⟨"OneMourner$Notes", "<init>", "(I)V"⟩, "OneMourner"), ("OneMourner$Mourning", 40, ⟨"OneMourner$Mourner", "<init>", "(I)V"⟩, "OneMourner"), ("OneMourner", 35, ⟨"OneMourner$Reader", "<init>", "()V"⟩, "OneMourner"), ("OneMourner", 45, ⟨"OneMourner$Rows", "<init>", "()V"⟩, "OneMourner"), ("OneMourner", 52, ⟨"OneMourner$Acts", "<init>", "()V"⟩, "OneMourner"), ("OneMourner", 63, ⟨"OneMourner$Tape", "<init>", "()V"⟩, "OneMourner"), ("OneMourner", 76, ⟨"OneMourner$Mourner", "comes", "(III)V"⟩, "OneMourner"), ("OneMourner", 109, ⟨"OneMourner$Mourning", "placeOf", "(I)I"⟩, "OneMourner"), ("OneMourner", 113, ⟨"OneMourner$Mourning", "painOf", "(LOneMourner$Mourner;I)I"⟩, "OneMourner"), ("OneMourner$Mourning", 90, ⟨"OneMourner$Island", "sum", "(LOneMourner$Mourner;II)I"⟩, "OneMourner"), ("OneMourner$Island", 66, ⟨"OneMourner", "bit", "(Z)I"⟩, "OneMourner"), ("OneMourner$Mourning", 94, ⟨"OneMourner$Mourner", "painBy", "(III)I"⟩, "OneMourner"), ("OneMourner", 138, ⟨"OneMourner$Reader", "reads", "(LOneMourner$Island;)Z"⟩, "OneMourner"), ("OneMourner$Reader", 15, ⟨"OneMourner$Island", "clear", "()V"⟩, "OneMourner"), ("OneMourner$Reader", 68, ⟨"OneMourner$Island", "put", "(I)V"⟩, "OneMourner"), ("OneMourner$Reader", 81, ⟨"OneMourner$Island", "testCode", "(III)I"⟩, "OneMourner"), ("OneMourner$Reader", 58, ⟨"OneMourner$Island", "endClause", "(I)V"⟩, "OneMourner"), ("OneMourner", 154, ⟨"OneMourner$Mourning", "isLost", "(I)Z"⟩, "OneMourner"), ("OneMourner", 157, ⟨"OneMourner$Mourning", "hurtOfAll", "()I"⟩, "OneMourner"), ("OneMourner", 161, ⟨"OneMourner$Mourning", "howManyDone", "()I"⟩, "OneMourner"), ("OneMourner$Mourning", 77, ⟨"OneMourner", "bit", "(Z)I"⟩, "OneMourner"), ("OneMourner", 164, ⟨"OneMourner$Mourning", "hasDay", "()I"⟩, "OneMourner"), ("OneMourner", 167, ⟨"OneMourner$Rows", "agreed", "(LOneMourner$Mourning;)I"⟩, "OneMourner"), ("OneMourner$Rows", 72, ⟨"OneMourner$Mourning", "isLost", "(I)Z"⟩, "OneMourner"), ("OneMourner$Rows", 79, ⟨"OneMourner$Mourning", "painOf", "(LOneMourner$Mourner;I)I"⟩, "OneMourner"), ("OneMourner$Rows", 65, ⟨"OneMourner$Mourning", "isLeft", "(I)Z"⟩, "OneMourner"), ("OneMourner", 171, ⟨"OneMourner$Rows", "dear", "(LOneMourner$Mourning;Z)I"⟩, "OneMourner"), ("OneMourner", 175, ⟨"OneMourner$Mourning", "go", "(II)V"⟩, "OneMourner"), ("OneMourner", 179, ⟨"OneMourner$Mourning", "becomes", "(LOneMourner$Mourning;)V"⟩, "OneMourner"), ("OneMourner$Mourning", 45, ⟨"OneMourner$Mourner", "becomes", "(LOneMourner$Mourner;)V"⟩, "OneMourner"), ("OneMourner$Mourning", 55, ⟨"OneMourner$Notes", "becomes", "(LOneMourner$Notes;)V"⟩, "OneMourner"), ("OneMourner", 184, ⟨"OneMourner$Rows", "walk", "(LOneMourner$Mourning;I)V"⟩, "OneMourner"), ("OneMourner", 208, ⟨"OneMourner$Notes", "add", "(III)I"⟩, "OneMourner"), ("OneMourner", 212, ⟨"OneMourner$Mourning", "isAsSeen", "(LOneMourner$Mourner;)Z"⟩, "OneMourner"), ("OneMourner", 235, ⟨"OneMourner$Mourning", "goByPlan", "()V"⟩, "OneMourner"), ("OneMourner$Mourning", 123, ⟨"OneMourner", "within", "(III)Z"⟩, "OneMourner"), ("OneMourner", 264, ⟨"OneMourner$Acts", "body", "(LOneMourner$Mourner;IIII)I"⟩, "OneMourner"), ("OneMourner$Acts", 45, ⟨"OneMourner", "kindAbove", "(I)I"⟩, "OneMourner"), ("OneMourner", 277, ⟨"OneMourner$Tape", "becomes", "(II)V"⟩, "OneMourner"), ("OneMourner", 279, ⟨"OneMourner$Tape", "asItem", "(J)J"⟩, "OneMourner"), ("OneMourner$Tape", 22, ⟨"OneMourner", "bit", "(Z)I"⟩, "OneMourner"), ("OneMourner", 283, ⟨"OneMourner$Tape", "holds", "(II)Z"⟩, "OneMourner"), ("OneMourner$Tape", 26, ⟨"OneMourner", "within", "(III)Z"⟩, "OneMourner")]
def qStr : List (String × Nat × String × Nat) := [("OneMourner$Island", 23, "pkvgwd", 0), ("OneMourner$Reader", 39, "ache ", 1), ("OneMourner$Reader", 41, "calm ", 2), ("OneMourner$Reader", 43, "lost ", 3), ("OneMourner$Reader", 52, " ", 4), ("OneMourner$Reader", 71, ")", 5), ("OneMourner$Reader", 73, "pkvgwd", 0), ("OneMourner$Reader", 79, "<=>", 6), ("OneMournerModel", 205, "ache ", 1), ("OneMournerModel", 211, "calm ", 2), ("OneMournerModel", 213, "lost ", 3), ("OneMournerModel", 174, "pkvgwd", 0), ("OneMournerModel", 179, "<=>", 6)]
def qLen : List Nat := [6, 5, 5, 5, 1, 1, 3]
def qByt : List (List Int32) := [[112, 107, 118, 103, 119, 100], [97, 99, 104, 101, 32], [99, 97, 108, 109, 32], [108, 111, 115, 116, 32], [32], [41], [60, 61, 62]]
abbrev b_On_init : ByteArray := prog_1_method_1_code
def y_On_init : MethodName := ⟨R_On, "<init>", "()V"⟩
abbrev b_Is_init : ByteArray := prog_3_method_1_code
def y_Is_init : MethodName := ⟨R_Is, "<init>", "()V"⟩
abbrev b_jS_length : ByteArray := prog_14_method_54_code
def y_jS_length : MethodName := ⟨"java/lang/String", "length", "()I"⟩
abbrev b_jS_coder : ByteArray := prog_14_method_152_code
def y_jS_coder : MethodName := ⟨"java/lang/String", "coder", "()B"⟩
abbrev b_Mg_init : ByteArray := prog_5_method_1_code
def y_Mg_init : MethodName := ⟨R_Mg, "<init>", "(LOneMourner$Island;)V"⟩
abbrev b_No_init : ByteArray := prog_6_method_1_code
def y_No_init : MethodName := ⟨R_No, "<init>", "(I)V"⟩
abbrev b_Mo_init : ByteArray := prog_4_method_1_code
def y_Mo_init : MethodName := ⟨R_Mo, "<init>", "(I)V"⟩
abbrev b_Re_init : ByteArray := prog_7_method_1_code
def y_Re_init : MethodName := ⟨R_Re, "<init>", "()V"⟩
abbrev b_Ro_init : ByteArray := prog_8_method_1_code
def y_Ro_init : MethodName := ⟨R_Ro, "<init>", "()V"⟩
abbrev b_Ac_init : ByteArray := prog_2_method_1_code
def y_Ac_init : MethodName := ⟨R_Ac, "<init>", "()V"⟩
abbrev b_Ta_init : ByteArray := prog_9_method_1_code
def y_Ta_init : MethodName := ⟨R_Ta, "<init>", "()V"⟩
abbrev b_On_mourner : ByteArray := prog_1_method_2_code
def y_On_mourner : MethodName := ⟨R_On, "mourner", "(III)I"⟩
abbrev b_On_within : ByteArray := prog_1_method_38_code
def y_On_within : MethodName := ⟨R_On, "within", "(III)Z"⟩
abbrev b_Mo_comes : ByteArray := prog_4_method_2_code
def y_Mo_comes : MethodName := ⟨R_Mo, "comes", "(III)V"⟩
abbrev b_On_of : ByteArray := prog_1_method_3_code
def y_On_of : MethodName := ⟨R_On, "of", "(II)I"⟩
abbrev b_On_isMourner : ByteArray := prog_1_method_36_code
def y_On_isMourner : MethodName := ⟨R_On, "isMourner", "(I)Z"⟩
abbrev b_On_bit : ByteArray := prog_1_method_40_code
def y_On_bit : MethodName := ⟨R_On, "bit", "(Z)I"⟩
abbrev b_Mg_placeOf : ByteArray := prog_5_method_3_code
def y_Mg_placeOf : MethodName := ⟨R_Mg, "placeOf", "(I)I"⟩
abbrev b_Mg_painOf : ByteArray := prog_5_method_9_code
def y_Mg_painOf : MethodName := ⟨R_Mg, "painOf", "(LOneMourner$Mourner;I)I"⟩
abbrev b_jM_min : ByteArray := prog_13_method_69_code
def y_jM_min : MethodName := ⟨"java/lang/Math", "min", "(II)I"⟩
abbrev b_Is_sum : ByteArray := prog_3_method_5_code
def y_Is_sum : MethodName := ⟨R_Is, "sum", "(LOneMourner$Mourner;II)I"⟩
abbrev b_Is_isSo : ByteArray := prog_3_method_6_code
def y_Is_isSo : MethodName := ⟨R_Is, "isSo", "(II)Z"⟩
abbrev b_Is_isTestSo : ByteArray := prog_3_method_8_code
def y_Is_isTestSo : MethodName := ⟨R_Is, "isTestSo", "(I)Z"⟩
abbrev b_Mo_painBy : ByteArray := prog_4_method_4_code
def y_Mo_painBy : MethodName := ⟨R_Mo, "painBy", "(III)I"⟩
abbrev b_Mo_saved : ByteArray := prog_4_method_5_code
def y_Mo_saved : MethodName := ⟨R_Mo, "saved", "(II)I"⟩
abbrev b_jM_floorMod : ByteArray := prog_13_method_50_code
def y_jM_floorMod : MethodName := ⟨"java/lang/Math", "floorMod", "(II)I"⟩
abbrev b_jM_max : ByteArray := prog_13_method_65_code
def y_jM_max : MethodName := ⟨"java/lang/Math", "max", "(II)I"⟩
abbrev b_On_set : ByteArray := prog_1_method_4_code
def y_On_set : MethodName := ⟨R_On, "set", "(III)I"⟩
abbrev b_On_done : ByteArray := prog_1_method_5_code
def y_On_done : MethodName := ⟨R_On, "done", "(IZ)I"⟩
abbrev b_On_list : ByteArray := prog_1_method_6_code
def y_On_list : MethodName := ⟨R_On, "list", "(I)I"⟩
abbrev b_On_swap : ByteArray := prog_1_method_7_code
def y_On_swap : MethodName := ⟨R_On, "swap", "(II)I"⟩
abbrev b_On_row : ByteArray := prog_1_method_8_code
def y_On_row : MethodName := ⟨R_On, "row", "(III)I"⟩
abbrev b_On_feed : ByteArray := prog_1_method_9_code
def y_On_feed : MethodName := ⟨R_On, "feed", "(I)I"⟩
abbrev b_On_island : ByteArray := prog_1_method_10_code
def y_On_island : MethodName := ⟨R_On, "island", "()I"⟩
abbrev b_Re_reads : ByteArray := prog_7_method_2_code
def y_Re_reads : MethodName := ⟨R_Re, "reads", "(LOneMourner$Island;)Z"⟩
abbrev b_Is_clear : ByteArray := prog_3_method_2_code
def y_Is_clear : MethodName := ⟨R_Is, "clear", "()V"⟩
abbrev b_Re_clause : ByteArray := prog_7_method_3_code
def y_Re_clause : MethodName := ⟨R_Re, "clause", "(LOneMourner$Island;)V"⟩
abbrev b_Re_next : ByteArray := prog_7_method_9_code
def y_Re_next : MethodName := ⟨R_Re, "next", "()I"⟩
abbrev b_Re_take : ByteArray := prog_7_method_8_code
def y_Re_take : MethodName := ⟨R_Re, "take", "(Ljava/lang/String;)V"⟩
abbrev b_jS_charAt : ByteArray := prog_14_method_56_code
def y_jS_charAt : MethodName := ⟨"java/lang/String", "charAt", "(I)C"⟩
abbrev b_jS_isLatin1 : ByteArray := prog_14_method_154_code
def y_jS_isLatin1 : MethodName := ⟨"java/lang/String", "isLatin1", "()Z"⟩
abbrev b_jL_charAt : ByteArray := prog_15_method_2_code
def y_jL_charAt : MethodName := ⟨"java/lang/StringLatin1", "charAt", "([BI)C"⟩
abbrev b_jS_checkIndex : ByteArray := prog_14_method_155_code
def y_jS_checkIndex : MethodName := ⟨"java/lang/String", "checkIndex", "(II)V"⟩
abbrev b_jP_checkIndex : ByteArray := prog_18_method_11_code
def y_jP_checkIndex : MethodName := ⟨"jdk/internal/util/Preconditions", "checkIndex", "(IILjava/util/function/BiFunction;)I"⟩
abbrev b_Re_number : ByteArray := prog_7_method_6_code
def y_Re_number : MethodName := ⟨R_Re, "number", "()I"⟩
abbrev b_Re_either : ByteArray := prog_7_method_4_code
def y_Re_either : MethodName := ⟨R_Re, "either", "(LOneMourner$Island;I)V"⟩
abbrev b_Re_one : ByteArray := prog_7_method_5_code
def y_Re_one : MethodName := ⟨R_Re, "one", "(LOneMourner$Island;I)V"⟩
abbrev b_Is_put : ByteArray := prog_3_method_3_code
def y_Is_put : MethodName := ⟨R_Is, "put", "(I)V"⟩
abbrev b_Re_oneOf : ByteArray := prog_7_method_7_code
def y_Re_oneOf : MethodName := ⟨R_Re, "oneOf", "(Ljava/lang/String;)I"⟩
abbrev b_Is_testCode : ByteArray := prog_3_method_7_code
def y_Is_testCode : MethodName := ⟨R_Is, "testCode", "(III)I"⟩
abbrev b_Is_endClause : ByteArray := prog_3_method_4_code
def y_Is_endClause : MethodName := ⟨R_Is, "endClause", "(I)V"⟩
abbrev b_On_told : ByteArray := prog_1_method_11_code
def y_On_told : MethodName := ⟨R_On, "told", "(I)I"⟩
abbrev b_Mg_isLost : ByteArray := prog_5_method_4_code
def y_Mg_isLost : MethodName := ⟨R_Mg, "isLost", "(I)Z"⟩
abbrev b_Mg_hurtOfAll : ByteArray := prog_5_method_7_code
def y_Mg_hurtOfAll : MethodName := ⟨R_Mg, "hurtOfAll", "()I"⟩
abbrev b_Mg_howManyDone : ByteArray := prog_5_method_8_code
def y_Mg_howManyDone : MethodName := ⟨R_Mg, "howManyDone", "()I"⟩
abbrev b_Mg_hasDay : ByteArray := prog_5_method_6_code
def y_Mg_hasDay : MethodName := ⟨R_Mg, "hasDay", "()I"⟩
abbrev b_Mg_isLeft : ByteArray := prog_5_method_5_code
def y_Mg_isLeft : MethodName := ⟨R_Mg, "isLeft", "(I)Z"⟩
abbrev b_Ro_agreed : ByteArray := prog_8_method_9_code
def y_Ro_agreed : MethodName := ⟨R_Ro, "agreed", "(LOneMourner$Mourning;)I"⟩
abbrev b_Ro_weigh : ByteArray := prog_8_method_4_code
def y_Ro_weigh : MethodName := ⟨R_Ro, "weigh", "(LOneMourner$Mourning;)V"⟩
abbrev b_Ro_agree : ByteArray := prog_8_method_10_code
def y_Ro_agree : MethodName := ⟨R_Ro, "agree", "(II)Z"⟩
abbrev b_Ro_hurtsAt : ByteArray := prog_8_method_6_code
def y_Ro_hurtsAt : MethodName := ⟨R_Ro, "hurtsAt", "(II)I"⟩
abbrev b_Ro_dear : ByteArray := prog_8_method_11_code
def y_Ro_dear : MethodName := ⟨R_Ro, "dear", "(LOneMourner$Mourning;Z)I"⟩
abbrev b_Ro_start : ByteArray := prog_8_method_3_code
def y_Ro_start : MethodName := ⟨R_Ro, "start", "(LOneMourner$Mourning;)V"⟩
abbrev b_On_pass : ByteArray := prog_1_method_12_code
def y_On_pass : MethodName := ⟨R_On, "pass", "(I)I"⟩
abbrev b_Mg_go : ByteArray := prog_5_method_10_code
def y_Mg_go : MethodName := ⟨R_Mg, "go", "(II)V"⟩
abbrev b_On_on : ByteArray := prog_1_method_13_code
def y_On_on : MethodName := ⟨R_On, "on", "(II)I"⟩
abbrev b_Mg_becomes : ByteArray := prog_5_method_2_code
def y_Mg_becomes : MethodName := ⟨R_Mg, "becomes", "(LOneMourner$Mourning;)V"⟩
abbrev b_Mo_becomes : ByteArray := prog_4_method_3_code
def y_Mo_becomes : MethodName := ⟨R_Mo, "becomes", "(LOneMourner$Mourner;)V"⟩
abbrev b_No_becomes : ByteArray := prog_6_method_3_code
def y_No_becomes : MethodName := ⟨R_No, "becomes", "(LOneMourner$Notes;)V"⟩
abbrev b_On_turn : ByteArray := prog_1_method_14_code
def y_On_turn : MethodName := ⟨R_On, "turn", "(I)I"⟩
abbrev b_On_empty : ByteArray := prog_1_method_15_code
def y_On_empty : MethodName := ⟨R_On, "empty", "()I"⟩
abbrev b_On_best : ByteArray := prog_1_method_16_code
def y_On_best : MethodName := ⟨R_On, "best", "(II)I"⟩
abbrev b_Ro_walk : ByteArray := prog_8_method_2_code
def y_Ro_walk : MethodName := ⟨R_Ro, "walk", "(LOneMourner$Mourning;I)V"⟩
abbrev b_Ro_look : ByteArray := prog_8_method_5_code
def y_Ro_look : MethodName := ⟨R_Ro, "look", "(I)V"⟩
abbrev b_Ro_goToNext : ByteArray := prog_8_method_7_code
def y_Ro_goToNext : MethodName := ⟨R_Ro, "goToNext", "()Z"⟩
abbrev b_Ro_change : ByteArray := prog_8_method_8_code
def y_Ro_change : MethodName := ⟨R_Ro, "change", "(II)V"⟩
abbrev b_On_see : ByteArray := prog_1_method_17_code
def y_On_see : MethodName := ⟨R_On, "see", "(III)I"⟩
abbrev b_No_add : ByteArray := prog_6_method_2_code
def y_No_add : MethodName := ⟨R_No, "add", "(III)I"⟩
abbrev b_On_can : ByteArray := prog_1_method_18_code
def y_On_can : MethodName := ⟨R_On, "can", "(III)I"⟩
abbrev b_Mg_isAsSeen : ByteArray := prog_5_method_12_code
def y_Mg_isAsSeen : MethodName := ⟨R_Mg, "isAsSeen", "(LOneMourner$Mourner;)Z"⟩
abbrev b_On_odds : ByteArray := prog_1_method_19_code
def y_On_odds : MethodName := ⟨R_On, "odds", "(II)J"⟩
abbrev b_On_inLowestTerms : ByteArray := prog_1_method_41_code
def y_On_inLowestTerms : MethodName := ⟨R_On, "inLowestTerms", "(JJI)J"⟩
abbrev b_On_commonDivisor : ByteArray := prog_1_method_42_code
def y_On_commonDivisor : MethodName := ⟨R_On, "commonDivisor", "(JJ)J"⟩
abbrev b_On_mean : ByteArray := prog_1_method_20_code
def y_On_mean : MethodName := ⟨R_On, "mean", "(I)J"⟩
abbrev b_On_plan : ByteArray := prog_1_method_21_code
def y_On_plan : MethodName := ⟨R_On, "plan", "(II)I"⟩
abbrev b_On_ends : ByteArray := prog_1_method_22_code
def y_On_ends : MethodName := ⟨R_On, "ends", "(I)I"⟩
abbrev b_Mg_goByPlan : ByteArray := prog_5_method_11_code
def y_Mg_goByPlan : MethodName := ⟨R_Mg, "goByPlan", "()V"⟩
abbrev b_On_book : ByteArray := prog_1_method_23_code
def y_On_book : MethodName := ⟨R_On, "book", "(II)I"⟩
abbrev b_On_looked : ByteArray := prog_1_method_24_code
def y_On_looked : MethodName := ⟨R_On, "looked", "()I"⟩
abbrev b_On_judge : ByteArray := prog_1_method_25_code
def y_On_judge : MethodName := ⟨R_On, "judge", "(II)I"⟩
abbrev b_On_isTape : ByteArray := prog_1_method_37_code
def y_On_isTape : MethodName := ⟨R_On, "isTape", "(I)Z"⟩
abbrev b_On_image : ByteArray := prog_1_method_26_code
def y_On_image : MethodName := ⟨R_On, "image", "()I"⟩
abbrev b_On_undo : ByteArray := prog_1_method_27_code
def y_On_undo : MethodName := ⟨R_On, "undo", "()I"⟩
abbrev b_On_act : ByteArray := prog_1_method_28_code
def y_On_act : MethodName := ⟨R_On, "act", "(III)I"⟩
abbrev b_Ac_body : ByteArray := prog_2_method_2_code
def y_Ac_body : MethodName := ⟨R_Ac, "body", "(LOneMourner$Mourner;IIII)I"⟩
abbrev b_Ac_bodyOf : ByteArray := prog_2_method_3_code
def y_Ac_bodyOf : MethodName := ⟨R_Ac, "bodyOf", "(II)I"⟩
abbrev b_On_kindAbove : ByteArray := prog_1_method_39_code
def y_On_kindAbove : MethodName := ⟨R_On, "kindAbove", "(I)I"⟩
abbrev b_Ac_begins : ByteArray := prog_2_method_4_code
def y_Ac_begins : MethodName := ⟨R_Ac, "begins", "(I)V"⟩
abbrev b_On_trace : ByteArray := prog_1_method_29_code
def y_On_trace : MethodName := ⟨R_On, "trace", "(I)I"⟩
abbrev b_On_taken : ByteArray := prog_1_method_30_code
def y_On_taken : MethodName := ⟨R_On, "taken", "(II)I"⟩
abbrev b_On_count : ByteArray := prog_1_method_31_code
def y_On_count : MethodName := ⟨R_On, "count", "(I)I"⟩
abbrev b_On_tape : ByteArray := prog_1_method_32_code
def y_On_tape : MethodName := ⟨R_On, "tape", "(III)I"⟩
abbrev b_Ta_becomes : ByteArray := prog_9_method_2_code
def y_Ta_becomes : MethodName := ⟨R_Ta, "becomes", "(II)V"⟩
abbrev b_On_item : ByteArray := prog_1_method_33_code
def y_On_item : MethodName := ⟨R_On, "item", "(IIJ)I"⟩
abbrev b_Ta_asItem : ByteArray := prog_9_method_3_code
def y_Ta_asItem : MethodName := ⟨R_Ta, "asItem", "(J)J"⟩
abbrev b_On_read : ByteArray := prog_1_method_34_code
def y_On_read : MethodName := ⟨R_On, "read", "(II)J"⟩
abbrev b_On_shift : ByteArray := prog_1_method_35_code
def y_On_shift : MethodName := ⟨R_On, "shift", "(IIIII)I"⟩
abbrev b_Ta_holds : ByteArray := prog_9_method_4_code
def y_Ta_holds : MethodName := ⟨R_Ta, "holds", "(II)Z"⟩
abbrev b_Md_init : ByteArray := prog_11_method_1_code
def y_Md_init : MethodName := ⟨R_Md, "<init>", "()V"⟩
abbrev b_Md_mourner : ByteArray := prog_11_method_4_code
def y_Md_mourner : MethodName := ⟨R_Md, "mourner", "(III)I"⟩
abbrev b_Md_within : ByteArray := prog_11_method_2_code
def y_Md_within : MethodName := ⟨R_Md, "within", "(III)Z"⟩
abbrev b_Md_of : ByteArray := prog_11_method_6_code
def y_Md_of : MethodName := ⟨R_Md, "of", "(II)I"⟩
abbrev b_Md_isOne : ByteArray := prog_11_method_3_code
def y_Md_isOne : MethodName := ⟨R_Md, "isOne", "(I)Z"⟩
abbrev b_Md_placeOf : ByteArray := prog_11_method_5_code
def y_Md_placeOf : MethodName := ⟨R_Md, "placeOf", "(I)I"⟩
abbrev b_Md_pain : ByteArray := prog_11_method_30_code
def y_Md_pain : MethodName := ⟨R_Md, "pain", "(III)I"⟩
abbrev b_Md_sum : ByteArray := prog_11_method_27_code
def y_Md_sum : MethodName := ⟨R_Md, "sum", "(III)I"⟩
abbrev b_Md_isTrue : ByteArray := prog_11_method_26_code
def y_Md_isTrue : MethodName := ⟨R_Md, "isTrue", "(IIII)Z"⟩
abbrev b_Md_letterOf : ByteArray := prog_11_method_25_code
def y_Md_letterOf : MethodName := ⟨R_Md, "letterOf", "(IIII)I"⟩
abbrev b_Md_set : ByteArray := prog_11_method_7_code
def y_Md_set : MethodName := ⟨R_Md, "set", "(III)I"⟩
abbrev b_Md_done : ByteArray := prog_11_method_8_code
def y_Md_done : MethodName := ⟨R_Md, "done", "(IZ)I"⟩
abbrev b_Md_list : ByteArray := prog_11_method_9_code
def y_Md_list : MethodName := ⟨R_Md, "list", "(I)I"⟩
abbrev b_Md_swap : ByteArray := prog_11_method_10_code
def y_Md_swap : MethodName := ⟨R_Md, "swap", "(II)I"⟩
abbrev b_Md_row : ByteArray := prog_11_method_11_code
def y_Md_row : MethodName := ⟨R_Md, "row", "(III)I"⟩
abbrev b_Md_feed : ByteArray := prog_11_method_12_code
def y_Md_feed : MethodName := ⟨R_Md, "feed", "(I)I"⟩
abbrev b_Md_island : ByteArray := prog_11_method_24_code
def y_Md_island : MethodName := ⟨R_Md, "island", "()I"⟩
abbrev b_Md_isClause : ByteArray := prog_11_method_23_code
def y_Md_isClause : MethodName := ⟨R_Md, "isClause", "(I)Z"⟩
abbrev b_Md_isAll : ByteArray := prog_11_method_16_code
def y_Md_isAll : MethodName := ⟨R_Md, "isAll", "(Ljava/lang/String;)Z"⟩
abbrev b_Md_is : ByteArray := prog_11_method_13_code
def y_Md_is : MethodName := ⟨R_Md, "is", "(I)Z"⟩
abbrev b_Md_isNumber : ByteArray := prog_11_method_15_code
def y_Md_isNumber : MethodName := ⟨R_Md, "isNumber", "()Z"⟩
abbrev b_Md_isDigit : ByteArray := prog_11_method_14_code
def y_Md_isDigit : MethodName := ⟨R_Md, "isDigit", "()Z"⟩
abbrev b_Md_isE : ByteArray := prog_11_method_22_code
def y_Md_isE : MethodName := ⟨R_Md, "isE", "()Z"⟩
abbrev b_Md_isT : ByteArray := prog_11_method_21_code
def y_Md_isT : MethodName := ⟨R_Md, "isT", "()Z"⟩
abbrev b_Md_isF : ByteArray := prog_11_method_20_code
def y_Md_isF : MethodName := ⟨R_Md, "isF", "()Z"⟩
abbrev b_Md_isOpened : ByteArray := prog_11_method_19_code
def y_Md_isOpened : MethodName := ⟨R_Md, "isOpened", "(I)Z"⟩
abbrev b_Md_codes : ByteArray := prog_11_method_17_code
def y_Md_codes : MethodName := ⟨R_Md, "codes", "(I)Z"⟩
abbrev b_Md_isTest : ByteArray := prog_11_method_18_code
def y_Md_isTest : MethodName := ⟨R_Md, "isTest", "()Z"⟩
abbrev b_jS_indexOf1 : ByteArray := prog_14_method_79_code
def y_jS_indexOf1 : MethodName := ⟨"java/lang/String", "indexOf", "(I)I"⟩
abbrev b_jS_indexOf2 : ByteArray := prog_14_method_80_code
def y_jS_indexOf2 : MethodName := ⟨"java/lang/String", "indexOf", "(II)I"⟩
abbrev b_jL_indexOf : ByteArray := prog_15_method_22_code
def y_jL_indexOf : MethodName := ⟨"java/lang/StringLatin1", "indexOf", "([BIII)I"⟩
abbrev b_jL_canEncode : ByteArray := prog_15_method_4_code
def y_jL_canEncode : MethodName := ⟨"java/lang/StringLatin1", "canEncode", "(I)Z"⟩
abbrev b_jL_indexOfChar : ByteArray := prog_15_method_23_code
def y_jL_indexOfChar : MethodName := ⟨"java/lang/StringLatin1", "indexOfChar", "([BIII)I"⟩
abbrev b_Md_pass : ByteArray := prog_11_method_33_code
def y_Md_pass : MethodName := ⟨R_Md, "pass", "(I)I"⟩
abbrev b_Md_goesDay : ByteArray := prog_11_method_32_code
def y_Md_goesDay : MethodName := ⟨R_Md, "goesDay", "()V"⟩
abbrev b_Md_todays : ByteArray := prog_11_method_31_code
def y_Md_todays : MethodName := ⟨R_Md, "todays", "()I"⟩
abbrev b_Md_isLost : ByteArray := prog_11_method_29_code
def y_Md_isLost : MethodName := ⟨R_Md, "isLost", "(I)Z"⟩
abbrev b_Md_lostBy : ByteArray := prog_11_method_28_code
def y_Md_lostBy : MethodName := ⟨R_Md, "lostBy", "()I"⟩
abbrev b_Md_told : ByteArray := prog_11_method_36_code
def y_Md_told : MethodName := ⟨R_Md, "told", "(I)I"⟩
abbrev b_Md_allHurt : ByteArray := prog_11_method_34_code
def y_Md_allHurt : MethodName := ⟨R_Md, "allHurt", "()I"⟩
abbrev b_Md_allDone : ByteArray := prog_11_method_35_code
def y_Md_allDone : MethodName := ⟨R_Md, "allDone", "()I"⟩
abbrev b_Md_agreed : ByteArray := prog_11_method_45_code
def y_Md_agreed : MethodName := ⟨R_Md, "agreed", "()I"⟩
abbrev b_Md_looks : ByteArray := prog_11_method_40_code
def y_Md_looks : MethodName := ⟨R_Md, "looks", "()V"⟩
abbrev b_Md_turnOf : ByteArray := prog_11_method_44_code
def y_Md_turnOf : MethodName := ⟨R_Md, "turnOf", "(I)I"⟩
abbrev b_Md_dear : ByteArray := prog_11_method_46_code
def y_Md_dear : MethodName := ⟨R_Md, "dear", "(I)I"⟩
abbrev b_Md_on : ByteArray := prog_11_method_37_code
def y_Md_on : MethodName := ⟨R_Md, "on", "(II)I"⟩
abbrev b_Md_keep : ByteArray := prog_11_method_60_code
def y_Md_keep : MethodName := ⟨R_Md, "keep", "([I)V"⟩
abbrev b_Md_again : ByteArray := prog_11_method_61_code
def y_Md_again : MethodName := ⟨R_Md, "again", "([I)V"⟩
abbrev b_Md_turn : ByteArray := prog_11_method_38_code
def y_Md_turn : MethodName := ⟨R_Md, "turn", "(I)I"⟩
abbrev b_Md_empty : ByteArray := prog_11_method_39_code
def y_Md_empty : MethodName := ⟨R_Md, "empty", "()I"⟩
abbrev b_Md_best : ByteArray := prog_11_method_43_code
def y_Md_best : MethodName := ⟨R_Md, "best", "(II)I"⟩
abbrev b_Md_allWays : ByteArray := prog_11_method_42_code
def y_Md_allWays : MethodName := ⟨R_Md, "allWays", "(ZI)V"⟩
abbrev b_Md_tries : ByteArray := prog_11_method_41_code
def y_Md_tries : MethodName := ⟨R_Md, "tries", "(IIJJ)V"⟩
abbrev b_jM_maxL : ByteArray := prog_13_method_66_code
def y_jM_maxL : MethodName := ⟨"java/lang/Math", "max", "(JJ)J"⟩
abbrev b_Md_see : ByteArray := prog_11_method_47_code
def y_Md_see : MethodName := ⟨R_Md, "see", "(III)I"⟩
abbrev b_Md_can : ByteArray := prog_11_method_51_code
def y_Md_can : MethodName := ⟨R_Md, "can", "(III)I"⟩
abbrev b_Md_getOf : ByteArray := prog_11_method_49_code
def y_Md_getOf : MethodName := ⟨R_Md, "getOf", "(II)I"⟩
abbrev b_Md_setOf : ByteArray := prog_11_method_50_code
def y_Md_setOf : MethodName := ⟨R_Md, "setOf", "(III)V"⟩
abbrev b_Md_isSeen : ByteArray := prog_11_method_48_code
def y_Md_isSeen : MethodName := ⟨R_Md, "isSeen", "(I)Z"⟩
abbrev b_Md_odds : ByteArray := prog_11_method_53_code
def y_Md_odds : MethodName := ⟨R_Md, "odds", "(II)J"⟩
abbrev b_Md_part : ByteArray := prog_11_method_52_code
def y_Md_part : MethodName := ⟨R_Md, "part", "(JJI)J"⟩
abbrev b_Md_mean : ByteArray := prog_11_method_54_code
def y_Md_mean : MethodName := ⟨R_Md, "mean", "(I)J"⟩
abbrev b_Md_plan : ByteArray := prog_11_method_55_code
def y_Md_plan : MethodName := ⟨R_Md, "plan", "(II)I"⟩
abbrev b_Md_ends : ByteArray := prog_11_method_56_code
def y_Md_ends : MethodName := ⟨R_Md, "ends", "(I)I"⟩
abbrev b_Md_book : ByteArray := prog_11_method_57_code
def y_Md_book : MethodName := ⟨R_Md, "book", "(II)I"⟩
abbrev b_Md_looked : ByteArray := prog_11_method_58_code
def y_Md_looked : MethodName := ⟨R_Md, "looked", "()I"⟩
abbrev b_Md_judge : ByteArray := prog_11_method_59_code
def y_Md_judge : MethodName := ⟨R_Md, "judge", "(II)I"⟩
abbrev b_Md_image : ByteArray := prog_11_method_62_code
def y_Md_image : MethodName := ⟨R_Md, "image", "()I"⟩
abbrev b_Md_undo : ByteArray := prog_11_method_63_code
def y_Md_undo : MethodName := ⟨R_Md, "undo", "()I"⟩
abbrev b_Md_act : ByteArray := prog_11_method_69_code
def y_Md_act : MethodName := ⟨R_Md, "act", "(III)I"⟩
abbrev b_Md_weeps : ByteArray := prog_11_method_66_code
def y_Md_weeps : MethodName := ⟨R_Md, "weeps", "(III)I"⟩
abbrev b_Md_ran : ByteArray := prog_11_method_64_code
def y_Md_ran : MethodName := ⟨R_Md, "ran", "(I)V"⟩
abbrev b_Md_above : ByteArray := prog_11_method_65_code
def y_Md_above : MethodName := ⟨R_Md, "above", "(I)I"⟩
abbrev b_Md_waits : ByteArray := prog_11_method_67_code
def y_Md_waits : MethodName := ⟨R_Md, "waits", "(III)I"⟩
abbrev b_Md_tells : ByteArray := prog_11_method_68_code
def y_Md_tells : MethodName := ⟨R_Md, "tells", "(III)I"⟩
abbrev b_Md_trace : ByteArray := prog_11_method_70_code
def y_Md_trace : MethodName := ⟨R_Md, "trace", "(I)I"⟩
abbrev b_Md_taken : ByteArray := prog_11_method_71_code
def y_Md_taken : MethodName := ⟨R_Md, "taken", "(II)I"⟩
abbrev b_Md_count : ByteArray := prog_11_method_72_code
def y_Md_count : MethodName := ⟨R_Md, "count", "(I)I"⟩
abbrev b_Md_tape : ByteArray := prog_11_method_74_code
def y_Md_tape : MethodName := ⟨R_Md, "tape", "(III)I"⟩
abbrev b_Md_isTape : ByteArray := prog_11_method_73_code
def y_Md_isTape : MethodName := ⟨R_Md, "isTape", "(I)Z"⟩
abbrev b_Md_item : ByteArray := prog_11_method_76_code
def y_Md_item : MethodName := ⟨R_Md, "item", "(IIJ)I"⟩
abbrev b_Md_kept : ByteArray := prog_11_method_75_code
def y_Md_kept : MethodName := ⟨R_Md, "kept", "(IJ)J"⟩
abbrev b_Md_read : ByteArray := prog_11_method_77_code
def y_Md_read : MethodName := ⟨R_Md, "read", "(II)J"⟩
abbrev b_Md_shift : ByteArray := prog_11_method_78_code
def y_Md_shift : MethodName := ⟨R_Md, "shift", "(IIIII)I"⟩
-- words
theorem ii_On : Cond.initialized "OneMourner" ∈ qBIG := q_mem 86 (by decide +kernel) (by decide +kernel)
theorem ii_Ac : Cond.initialized "OneMourner$Acts" ∈ qBIG := q_mem 94 (by decide +kernel) (by decide +kernel)
theorem ii_Is : Cond.initialized "OneMourner$Island" ∈ qBIG := q_mem 87 (by decide +kernel) (by decide +kernel)
theorem ii_Mo : Cond.initialized "OneMourner$Mourner" ∈ qBIG := q_mem 91 (by decide +kernel) (by decide +kernel)
theorem ii_Mg : Cond.initialized "OneMourner$Mourning" ∈ qBIG := q_mem 89 (by decide +kernel) (by decide +kernel)
theorem ii_No : Cond.initialized "OneMourner$Notes" ∈ qBIG := q_mem 90 (by decide +kernel) (by decide +kernel)
theorem ii_Re : Cond.initialized "OneMourner$Reader" ∈ qBIG := q_mem 92 (by decide +kernel) (by decide +kernel)
theorem ii_Ro : Cond.initialized "OneMourner$Rows" ∈ qBIG := q_mem 93 (by decide +kernel) (by decide +kernel)
theorem ii_Ta : Cond.initialized "OneMourner$Tape" ∈ qBIG := q_mem 95 (by decide +kernel) (by decide +kernel)
theorem ii_Md : Cond.initialized "OneMournerModel" ∈ qBIG := q_mem 96 (by decide +kernel) (by decide +kernel)
theorem ii_Math : Cond.initialized "java/lang/Math" ∈ qBIG := q_mem 97 (by decide +kernel) (by decide +kernel)
theorem ii_String : Cond.initialized "java/lang/String" ∈ qBIG := q_mem 88 (by decide +kernel) (by decide +kernel)
theorem ii_StringLatin1 : Cond.initialized "java/lang/StringLatin1" ∈ qBIG := q_mem 98 (by decide +kernel) (by decide +kernel)
theorem ii_Preconditions : Cond.initialized "jdk/internal/util/Preconditions" ∈ qBIG := q_mem 99 (by decide +kernel) (by decide +kernel)
theorem cw_On_init : Cond.code y_On_init b_On_init 2 none ∈ qBIG := q_mem 107 (by decide +kernel) (by decide +kernel)
theorem im_On_init : Cond.instanceMethod y_On_init ∈ qBIG := q_mem 106 (by decide +kernel) (by decide +kernel)
theorem cw_Is_init : Cond.code y_Is_init b_Is_init 1 none ∈ qBIG := q_mem 115 (by decide +kernel) (by decide +kernel)
theorem im_Is_init : Cond.instanceMethod y_Is_init ∈ qBIG := q_mem 114 (by decide +kernel) (by decide +kernel)
theorem cw_jS_length : Cond.code y_jS_length b_jS_length 1 (some .int) ∈ qBIG := q_mem 121 (by decide +kernel) (by decide +kernel)
theorem im_jS_length : Cond.instanceMethod y_jS_length ∈ qBIG := q_mem 119 (by decide +kernel) (by decide +kernel)
theorem se_jS_length : Cond.selects "java/lang/String" y_jS_length y_jS_length ∈ qBIG := q_mem 120 (by decide +kernel) (by decide +kernel)
theorem cw_jS_coder : Cond.code y_jS_coder b_jS_coder 1 (some .byte) ∈ qBIG := q_mem 125 (by decide +kernel) (by decide +kernel)
theorem im_jS_coder : Cond.instanceMethod y_jS_coder ∈ qBIG := q_mem 123 (by decide +kernel) (by decide +kernel)
theorem se_jS_coder : Cond.selects "java/lang/String" y_jS_coder y_jS_coder ∈ qBIG := q_mem 124 (by decide +kernel) (by decide +kernel)
theorem cw_Mg_init : Cond.code y_Mg_init b_Mg_init 3 none ∈ qBIG := q_mem 159 (by decide +kernel) (by decide +kernel)
theorem im_Mg_init : Cond.instanceMethod y_Mg_init ∈ qBIG := q_mem 158 (by decide +kernel) (by decide +kernel)
theorem cw_No_init : Cond.code y_No_init b_No_init 2 none ∈ qBIG := q_mem 167 (by decide +kernel) (by decide +kernel)
theorem im_No_init : Cond.instanceMethod y_No_init ∈ qBIG := q_mem 166 (by decide +kernel) (by decide +kernel)
theorem cw_Mo_init : Cond.code y_Mo_init b_Mo_init 2 none ∈ qBIG := q_mem 192 (by decide +kernel) (by decide +kernel)
theorem im_Mo_init : Cond.instanceMethod y_Mo_init ∈ qBIG := q_mem 191 (by decide +kernel) (by decide +kernel)
theorem cw_Re_init : Cond.code y_Re_init b_Re_init 1 none ∈ qBIG := q_mem 284 (by decide +kernel) (by decide +kernel)
theorem im_Re_init : Cond.instanceMethod y_Re_init ∈ qBIG := q_mem 283 (by decide +kernel) (by decide +kernel)
theorem cw_Ro_init : Cond.code y_Ro_init b_Ro_init 1 none ∈ qBIG := q_mem 306 (by decide +kernel) (by decide +kernel)
theorem im_Ro_init : Cond.instanceMethod y_Ro_init ∈ qBIG := q_mem 305 (by decide +kernel) (by decide +kernel)
theorem cw_Ac_init : Cond.code y_Ac_init b_Ac_init 1 none ∈ qBIG := q_mem 351 (by decide +kernel) (by decide +kernel)
theorem im_Ac_init : Cond.instanceMethod y_Ac_init ∈ qBIG := q_mem 350 (by decide +kernel) (by decide +kernel)
theorem cw_Ta_init : Cond.code y_Ta_init b_Ta_init 1 none ∈ qBIG := q_mem 367 (by decide +kernel) (by decide +kernel)
theorem im_Ta_init : Cond.instanceMethod y_Ta_init ∈ qBIG := q_mem 366 (by decide +kernel) (by decide +kernel)
theorem cw_On_mourner : Cond.code y_On_mourner b_On_mourner 4 (some .int) ∈ qBIG := q_mem 420 (by decide +kernel) (by decide +kernel)
theorem im_On_mourner : Cond.instanceMethod y_On_mourner ∈ qBIG := q_mem 418 (by decide +kernel) (by decide +kernel)
theorem se_On_mourner : Cond.selects "OneMourner" y_On_mourner y_On_mourner ∈ qBIG := q_mem 419 (by decide +kernel) (by decide +kernel)
theorem cw_On_within : Cond.code y_On_within b_On_within 3 (some .boolean) ∈ qBIG := q_mem 423 (by decide +kernel) (by decide +kernel)
theorem sw_On_within : Cond.static y_On_within ∈ qBIG := q_mem 422 (by decide +kernel) (by decide +kernel)
theorem cw_Mo_comes : Cond.code y_Mo_comes b_Mo_comes 5 none ∈ qBIG := q_mem 427 (by decide +kernel) (by decide +kernel)
theorem im_Mo_comes : Cond.instanceMethod y_Mo_comes ∈ qBIG := q_mem 426 (by decide +kernel) (by decide +kernel)
theorem se_Mo_comes : Cond.selects "OneMourner$Mourner" y_Mo_comes y_Mo_comes ∈ qBIG := q_mem 0 (by decide +kernel) (by decide +kernel)
theorem cw_On_of : Cond.code y_On_of b_On_of 4 (some .int) ∈ qBIG := q_mem 431 (by decide +kernel) (by decide +kernel)
theorem im_On_of : Cond.instanceMethod y_On_of ∈ qBIG := q_mem 429 (by decide +kernel) (by decide +kernel)
theorem se_On_of : Cond.selects "OneMourner" y_On_of y_On_of ∈ qBIG := q_mem 430 (by decide +kernel) (by decide +kernel)
theorem cw_On_isMourner : Cond.code y_On_isMourner b_On_isMourner 2 (some .boolean) ∈ qBIG := q_mem 435 (by decide +kernel) (by decide +kernel)
theorem im_On_isMourner : Cond.instanceMethod y_On_isMourner ∈ qBIG := q_mem 434 (by decide +kernel) (by decide +kernel)
theorem se_On_isMourner : Cond.selects "OneMourner" y_On_isMourner y_On_isMourner ∈ qBIG := q_mem 1 (by decide +kernel) (by decide +kernel)
theorem cw_On_bit : Cond.code y_On_bit b_On_bit 1 (some .int) ∈ qBIG := q_mem 438 (by decide +kernel) (by decide +kernel)
theorem sw_On_bit : Cond.static y_On_bit ∈ qBIG := q_mem 437 (by decide +kernel) (by decide +kernel)
theorem cw_Mg_placeOf : Cond.code y_Mg_placeOf b_Mg_placeOf 3 (some .int) ∈ qBIG := q_mem 442 (by decide +kernel) (by decide +kernel)
theorem im_Mg_placeOf : Cond.instanceMethod y_Mg_placeOf ∈ qBIG := q_mem 441 (by decide +kernel) (by decide +kernel)
theorem se_Mg_placeOf : Cond.selects "OneMourner$Mourning" y_Mg_placeOf y_Mg_placeOf ∈ qBIG := q_mem 2 (by decide +kernel) (by decide +kernel)
theorem cw_Mg_painOf : Cond.code y_Mg_painOf b_Mg_painOf 4 (some .int) ∈ qBIG := q_mem 446 (by decide +kernel) (by decide +kernel)
theorem im_Mg_painOf : Cond.instanceMethod y_Mg_painOf ∈ qBIG := q_mem 445 (by decide +kernel) (by decide +kernel)
theorem se_Mg_painOf : Cond.selects "OneMourner$Mourning" y_Mg_painOf y_Mg_painOf ∈ qBIG := q_mem 3 (by decide +kernel) (by decide +kernel)
theorem cw_jM_min : Cond.code y_jM_min b_jM_min 2 (some .int) ∈ qBIG := q_mem 449 (by decide +kernel) (by decide +kernel)
theorem sw_jM_min : Cond.static y_jM_min ∈ qBIG := q_mem 448 (by decide +kernel) (by decide +kernel)
theorem cw_Is_sum : Cond.code y_Is_sum b_Is_sum 7 (some .int) ∈ qBIG := q_mem 453 (by decide +kernel) (by decide +kernel)
theorem im_Is_sum : Cond.instanceMethod y_Is_sum ∈ qBIG := q_mem 452 (by decide +kernel) (by decide +kernel)
theorem se_Is_sum : Cond.selects "OneMourner$Island" y_Is_sum y_Is_sum ∈ qBIG := q_mem 4 (by decide +kernel) (by decide +kernel)
theorem cw_Is_isSo : Cond.code y_Is_isSo b_Is_isSo 7 (some .boolean) ∈ qBIG := q_mem 457 (by decide +kernel) (by decide +kernel)
theorem im_Is_isSo : Cond.instanceMethod y_Is_isSo ∈ qBIG := q_mem 456 (by decide +kernel) (by decide +kernel)
theorem se_Is_isSo : Cond.selects "OneMourner$Island" y_Is_isSo y_Is_isSo ∈ qBIG := q_mem 5 (by decide +kernel) (by decide +kernel)
theorem cw_Is_isTestSo : Cond.code y_Is_isTestSo b_Is_isTestSo 6 (some .boolean) ∈ qBIG := q_mem 461 (by decide +kernel) (by decide +kernel)
theorem im_Is_isTestSo : Cond.instanceMethod y_Is_isTestSo ∈ qBIG := q_mem 460 (by decide +kernel) (by decide +kernel)
theorem se_Is_isTestSo : Cond.selects "OneMourner$Island" y_Is_isTestSo y_Is_isTestSo ∈ qBIG := q_mem 6 (by decide +kernel) (by decide +kernel)
theorem cw_Mo_painBy : Cond.code y_Mo_painBy b_Mo_painBy 4 (some .int) ∈ qBIG := q_mem 466 (by decide +kernel) (by decide +kernel)
theorem im_Mo_painBy : Cond.instanceMethod y_Mo_painBy ∈ qBIG := q_mem 465 (by decide +kernel) (by decide +kernel)
theorem se_Mo_painBy : Cond.selects "OneMourner$Mourner" y_Mo_painBy y_Mo_painBy ∈ qBIG := q_mem 7 (by decide +kernel) (by decide +kernel)
theorem cw_Mo_saved : Cond.code y_Mo_saved b_Mo_saved 3 (some .int) ∈ qBIG := q_mem 470 (by decide +kernel) (by decide +kernel)
theorem im_Mo_saved : Cond.instanceMethod y_Mo_saved ∈ qBIG := q_mem 469 (by decide +kernel) (by decide +kernel)
theorem se_Mo_saved : Cond.selects "OneMourner$Mourner" y_Mo_saved y_Mo_saved ∈ qBIG := q_mem 8 (by decide +kernel) (by decide +kernel)
theorem cw_jM_floorMod : Cond.code y_jM_floorMod b_jM_floorMod 3 (some .int) ∈ qBIG := q_mem 473 (by decide +kernel) (by decide +kernel)
theorem sw_jM_floorMod : Cond.static y_jM_floorMod ∈ qBIG := q_mem 472 (by decide +kernel) (by decide +kernel)
theorem cw_jM_max : Cond.code y_jM_max b_jM_max 2 (some .int) ∈ qBIG := q_mem 476 (by decide +kernel) (by decide +kernel)
theorem sw_jM_max : Cond.static y_jM_max ∈ qBIG := q_mem 475 (by decide +kernel) (by decide +kernel)
theorem cw_On_set : Cond.code y_On_set b_On_set 7 (some .int) ∈ qBIG := q_mem 480 (by decide +kernel) (by decide +kernel)
theorem im_On_set : Cond.instanceMethod y_On_set ∈ qBIG := q_mem 478 (by decide +kernel) (by decide +kernel)
theorem se_On_set : Cond.selects "OneMourner" y_On_set y_On_set ∈ qBIG := q_mem 479 (by decide +kernel) (by decide +kernel)
theorem cw_On_done : Cond.code y_On_done b_On_done 4 (some .int) ∈ qBIG := q_mem 485 (by decide +kernel) (by decide +kernel)
theorem im_On_done : Cond.instanceMethod y_On_done ∈ qBIG := q_mem 483 (by decide +kernel) (by decide +kernel)
theorem se_On_done : Cond.selects "OneMourner" y_On_done y_On_done ∈ qBIG := q_mem 484 (by decide +kernel) (by decide +kernel)
theorem cw_On_list : Cond.code y_On_list b_On_list 2 (some .int) ∈ qBIG := q_mem 489 (by decide +kernel) (by decide +kernel)
theorem im_On_list : Cond.instanceMethod y_On_list ∈ qBIG := q_mem 487 (by decide +kernel) (by decide +kernel)
theorem se_On_list : Cond.selects "OneMourner" y_On_list y_On_list ∈ qBIG := q_mem 488 (by decide +kernel) (by decide +kernel)
theorem cw_On_swap : Cond.code y_On_swap b_On_swap 5 (some .int) ∈ qBIG := q_mem 493 (by decide +kernel) (by decide +kernel)
theorem im_On_swap : Cond.instanceMethod y_On_swap ∈ qBIG := q_mem 491 (by decide +kernel) (by decide +kernel)
theorem se_On_swap : Cond.selects "OneMourner" y_On_swap y_On_swap ∈ qBIG := q_mem 492 (by decide +kernel) (by decide +kernel)
theorem cw_On_row : Cond.code y_On_row b_On_row 6 (some .int) ∈ qBIG := q_mem 497 (by decide +kernel) (by decide +kernel)
theorem im_On_row : Cond.instanceMethod y_On_row ∈ qBIG := q_mem 495 (by decide +kernel) (by decide +kernel)
theorem se_On_row : Cond.selects "OneMourner" y_On_row y_On_row ∈ qBIG := q_mem 496 (by decide +kernel) (by decide +kernel)
theorem cw_On_feed : Cond.code y_On_feed b_On_feed 2 (some .int) ∈ qBIG := q_mem 501 (by decide +kernel) (by decide +kernel)
theorem im_On_feed : Cond.instanceMethod y_On_feed ∈ qBIG := q_mem 499 (by decide +kernel) (by decide +kernel)
theorem se_On_feed : Cond.selects "OneMourner" y_On_feed y_On_feed ∈ qBIG := q_mem 500 (by decide +kernel) (by decide +kernel)
theorem cw_On_island : Cond.code y_On_island b_On_island 2 (some .int) ∈ qBIG := q_mem 505 (by decide +kernel) (by decide +kernel)
theorem im_On_island : Cond.instanceMethod y_On_island ∈ qBIG := q_mem 503 (by decide +kernel) (by decide +kernel)
theorem se_On_island : Cond.selects "OneMourner" y_On_island y_On_island ∈ qBIG := q_mem 504 (by decide +kernel) (by decide +kernel)
theorem cw_Re_reads : Cond.code y_Re_reads b_Re_reads 3 (some .boolean) ∈ qBIG := q_mem 509 (by decide +kernel) (by decide +kernel)
theorem im_Re_reads : Cond.instanceMethod y_Re_reads ∈ qBIG := q_mem 508 (by decide +kernel) (by decide +kernel)
theorem se_Re_reads : Cond.selects "OneMourner$Reader" y_Re_reads y_Re_reads ∈ qBIG := q_mem 9 (by decide +kernel) (by decide +kernel)
theorem cw_Is_clear : Cond.code y_Is_clear b_Is_clear 1 none ∈ qBIG := q_mem 513 (by decide +kernel) (by decide +kernel)
theorem im_Is_clear : Cond.instanceMethod y_Is_clear ∈ qBIG := q_mem 512 (by decide +kernel) (by decide +kernel)
theorem se_Is_clear : Cond.selects "OneMourner$Island" y_Is_clear y_Is_clear ∈ qBIG := q_mem 10 (by decide +kernel) (by decide +kernel)
theorem cw_Re_clause : Cond.code y_Re_clause b_Re_clause 5 none ∈ qBIG := q_mem 517 (by decide +kernel) (by decide +kernel)
theorem im_Re_clause : Cond.instanceMethod y_Re_clause ∈ qBIG := q_mem 516 (by decide +kernel) (by decide +kernel)
theorem se_Re_clause : Cond.selects "OneMourner$Reader" y_Re_clause y_Re_clause ∈ qBIG := q_mem 11 (by decide +kernel) (by decide +kernel)
theorem cw_Re_next : Cond.code y_Re_next b_Re_next 1 (some .int) ∈ qBIG := q_mem 521 (by decide +kernel) (by decide +kernel)
theorem im_Re_next : Cond.instanceMethod y_Re_next ∈ qBIG := q_mem 520 (by decide +kernel) (by decide +kernel)
theorem se_Re_next : Cond.selects "OneMourner$Reader" y_Re_next y_Re_next ∈ qBIG := q_mem 12 (by decide +kernel) (by decide +kernel)
theorem cw_Re_take : Cond.code y_Re_take b_Re_take 3 none ∈ qBIG := q_mem 528 (by decide +kernel) (by decide +kernel)
theorem im_Re_take : Cond.instanceMethod y_Re_take ∈ qBIG := q_mem 527 (by decide +kernel) (by decide +kernel)
theorem se_Re_take : Cond.selects "OneMourner$Reader" y_Re_take y_Re_take ∈ qBIG := q_mem 13 (by decide +kernel) (by decide +kernel)
theorem cw_jS_charAt : Cond.code y_jS_charAt b_jS_charAt 2 (some .char) ∈ qBIG := q_mem 533 (by decide +kernel) (by decide +kernel)
theorem im_jS_charAt : Cond.instanceMethod y_jS_charAt ∈ qBIG := q_mem 531 (by decide +kernel) (by decide +kernel)
theorem se_jS_charAt : Cond.selects "java/lang/String" y_jS_charAt y_jS_charAt ∈ qBIG := q_mem 532 (by decide +kernel) (by decide +kernel)
theorem cw_jS_isLatin1 : Cond.code y_jS_isLatin1 b_jS_isLatin1 1 (some .boolean) ∈ qBIG := q_mem 537 (by decide +kernel) (by decide +kernel)
theorem im_jS_isLatin1 : Cond.instanceMethod y_jS_isLatin1 ∈ qBIG := q_mem 535 (by decide +kernel) (by decide +kernel)
theorem se_jS_isLatin1 : Cond.selects "java/lang/String" y_jS_isLatin1 y_jS_isLatin1 ∈ qBIG := q_mem 536 (by decide +kernel) (by decide +kernel)
theorem cw_jL_charAt : Cond.code y_jL_charAt b_jL_charAt 2 (some .char) ∈ qBIG := q_mem 540 (by decide +kernel) (by decide +kernel)
theorem sw_jL_charAt : Cond.static y_jL_charAt ∈ qBIG := q_mem 539 (by decide +kernel) (by decide +kernel)
theorem cw_jS_checkIndex : Cond.code y_jS_checkIndex b_jS_checkIndex 2 none ∈ qBIG := q_mem 543 (by decide +kernel) (by decide +kernel)
theorem sw_jS_checkIndex : Cond.static y_jS_checkIndex ∈ qBIG := q_mem 542 (by decide +kernel) (by decide +kernel)
theorem cw_jP_checkIndex : Cond.code y_jP_checkIndex b_jP_checkIndex 3 (some .int) ∈ qBIG := q_mem 548 (by decide +kernel) (by decide +kernel)
theorem sw_jP_checkIndex : Cond.static y_jP_checkIndex ∈ qBIG := q_mem 547 (by decide +kernel) (by decide +kernel)
theorem cw_Re_number : Cond.code y_Re_number b_Re_number 3 (some .int) ∈ qBIG := q_mem 571 (by decide +kernel) (by decide +kernel)
theorem im_Re_number : Cond.instanceMethod y_Re_number ∈ qBIG := q_mem 570 (by decide +kernel) (by decide +kernel)
theorem se_Re_number : Cond.selects "OneMourner$Reader" y_Re_number y_Re_number ∈ qBIG := q_mem 14 (by decide +kernel) (by decide +kernel)
theorem cw_Re_either : Cond.code y_Re_either b_Re_either 6 none ∈ qBIG := q_mem 576 (by decide +kernel) (by decide +kernel)
theorem im_Re_either : Cond.instanceMethod y_Re_either ∈ qBIG := q_mem 575 (by decide +kernel) (by decide +kernel)
theorem se_Re_either : Cond.selects "OneMourner$Reader" y_Re_either y_Re_either ∈ qBIG := q_mem 15 (by decide +kernel) (by decide +kernel)
theorem cw_Re_one : Cond.code y_Re_one b_Re_one 5 none ∈ qBIG := q_mem 580 (by decide +kernel) (by decide +kernel)
theorem im_Re_one : Cond.instanceMethod y_Re_one ∈ qBIG := q_mem 579 (by decide +kernel) (by decide +kernel)
theorem se_Re_one : Cond.selects "OneMourner$Reader" y_Re_one y_Re_one ∈ qBIG := q_mem 16 (by decide +kernel) (by decide +kernel)
theorem cw_Is_put : Cond.code y_Is_put b_Is_put 2 none ∈ qBIG := q_mem 584 (by decide +kernel) (by decide +kernel)
theorem im_Is_put : Cond.instanceMethod y_Is_put ∈ qBIG := q_mem 583 (by decide +kernel) (by decide +kernel)
theorem se_Is_put : Cond.selects "OneMourner$Island" y_Is_put y_Is_put ∈ qBIG := q_mem 17 (by decide +kernel) (by decide +kernel)
theorem cw_Re_oneOf : Cond.code y_Re_oneOf b_Re_oneOf 3 (some .int) ∈ qBIG := q_mem 590 (by decide +kernel) (by decide +kernel)
theorem im_Re_oneOf : Cond.instanceMethod y_Re_oneOf ∈ qBIG := q_mem 589 (by decide +kernel) (by decide +kernel)
theorem se_Re_oneOf : Cond.selects "OneMourner$Reader" y_Re_oneOf y_Re_oneOf ∈ qBIG := q_mem 18 (by decide +kernel) (by decide +kernel)
theorem cw_Is_testCode : Cond.code y_Is_testCode b_Is_testCode 3 (some .int) ∈ qBIG := q_mem 594 (by decide +kernel) (by decide +kernel)
theorem sw_Is_testCode : Cond.static y_Is_testCode ∈ qBIG := q_mem 593 (by decide +kernel) (by decide +kernel)
theorem cw_Is_endClause : Cond.code y_Is_endClause b_Is_endClause 2 none ∈ qBIG := q_mem 598 (by decide +kernel) (by decide +kernel)
theorem im_Is_endClause : Cond.instanceMethod y_Is_endClause ∈ qBIG := q_mem 597 (by decide +kernel) (by decide +kernel)
theorem se_Is_endClause : Cond.selects "OneMourner$Island" y_Is_endClause y_Is_endClause ∈ qBIG := q_mem 19 (by decide +kernel) (by decide +kernel)
theorem cw_On_told : Cond.code y_On_told b_On_told 2 (some .int) ∈ qBIG := q_mem 602 (by decide +kernel) (by decide +kernel)
theorem im_On_told : Cond.instanceMethod y_On_told ∈ qBIG := q_mem 600 (by decide +kernel) (by decide +kernel)
theorem se_On_told : Cond.selects "OneMourner" y_On_told y_On_told ∈ qBIG := q_mem 601 (by decide +kernel) (by decide +kernel)
theorem cw_Mg_isLost : Cond.code y_Mg_isLost b_Mg_isLost 2 (some .boolean) ∈ qBIG := q_mem 606 (by decide +kernel) (by decide +kernel)
theorem im_Mg_isLost : Cond.instanceMethod y_Mg_isLost ∈ qBIG := q_mem 605 (by decide +kernel) (by decide +kernel)
theorem se_Mg_isLost : Cond.selects "OneMourner$Mourning" y_Mg_isLost y_Mg_isLost ∈ qBIG := q_mem 20 (by decide +kernel) (by decide +kernel)
theorem cw_Mg_hurtOfAll : Cond.code y_Mg_hurtOfAll b_Mg_hurtOfAll 3 (some .int) ∈ qBIG := q_mem 610 (by decide +kernel) (by decide +kernel)
theorem im_Mg_hurtOfAll : Cond.instanceMethod y_Mg_hurtOfAll ∈ qBIG := q_mem 609 (by decide +kernel) (by decide +kernel)
theorem se_Mg_hurtOfAll : Cond.selects "OneMourner$Mourning" y_Mg_hurtOfAll y_Mg_hurtOfAll ∈ qBIG := q_mem 21 (by decide +kernel) (by decide +kernel)
theorem cw_Mg_howManyDone : Cond.code y_Mg_howManyDone b_Mg_howManyDone 3 (some .int) ∈ qBIG := q_mem 614 (by decide +kernel) (by decide +kernel)
theorem im_Mg_howManyDone : Cond.instanceMethod y_Mg_howManyDone ∈ qBIG := q_mem 613 (by decide +kernel) (by decide +kernel)
theorem se_Mg_howManyDone : Cond.selects "OneMourner$Mourning" y_Mg_howManyDone y_Mg_howManyDone ∈ qBIG := q_mem 22 (by decide +kernel) (by decide +kernel)
theorem cw_Mg_hasDay : Cond.code y_Mg_hasDay b_Mg_hasDay 2 (some .int) ∈ qBIG := q_mem 619 (by decide +kernel) (by decide +kernel)
theorem im_Mg_hasDay : Cond.instanceMethod y_Mg_hasDay ∈ qBIG := q_mem 618 (by decide +kernel) (by decide +kernel)
theorem se_Mg_hasDay : Cond.selects "OneMourner$Mourning" y_Mg_hasDay y_Mg_hasDay ∈ qBIG := q_mem 23 (by decide +kernel) (by decide +kernel)
theorem cw_Mg_isLeft : Cond.code y_Mg_isLeft b_Mg_isLeft 2 (some .boolean) ∈ qBIG := q_mem 624 (by decide +kernel) (by decide +kernel)
theorem im_Mg_isLeft : Cond.instanceMethod y_Mg_isLeft ∈ qBIG := q_mem 623 (by decide +kernel) (by decide +kernel)
theorem se_Mg_isLeft : Cond.selects "OneMourner$Mourning" y_Mg_isLeft y_Mg_isLeft ∈ qBIG := q_mem 24 (by decide +kernel) (by decide +kernel)
theorem cw_Ro_agreed : Cond.code y_Ro_agreed b_Ro_agreed 4 (some .int) ∈ qBIG := q_mem 628 (by decide +kernel) (by decide +kernel)
theorem im_Ro_agreed : Cond.instanceMethod y_Ro_agreed ∈ qBIG := q_mem 627 (by decide +kernel) (by decide +kernel)
theorem se_Ro_agreed : Cond.selects "OneMourner$Rows" y_Ro_agreed y_Ro_agreed ∈ qBIG := q_mem 25 (by decide +kernel) (by decide +kernel)
theorem cw_Ro_weigh : Cond.code y_Ro_weigh b_Ro_weigh 6 none ∈ qBIG := q_mem 632 (by decide +kernel) (by decide +kernel)
theorem im_Ro_weigh : Cond.instanceMethod y_Ro_weigh ∈ qBIG := q_mem 631 (by decide +kernel) (by decide +kernel)
theorem se_Ro_weigh : Cond.selects "OneMourner$Rows" y_Ro_weigh y_Ro_weigh ∈ qBIG := q_mem 26 (by decide +kernel) (by decide +kernel)
theorem cw_Ro_agree : Cond.code y_Ro_agree b_Ro_agree 5 (some .boolean) ∈ qBIG := q_mem 639 (by decide +kernel) (by decide +kernel)
theorem im_Ro_agree : Cond.instanceMethod y_Ro_agree ∈ qBIG := q_mem 638 (by decide +kernel) (by decide +kernel)
theorem se_Ro_agree : Cond.selects "OneMourner$Rows" y_Ro_agree y_Ro_agree ∈ qBIG := q_mem 27 (by decide +kernel) (by decide +kernel)
theorem cw_Ro_hurtsAt : Cond.code y_Ro_hurtsAt b_Ro_hurtsAt 4 (some .int) ∈ qBIG := q_mem 643 (by decide +kernel) (by decide +kernel)
theorem im_Ro_hurtsAt : Cond.instanceMethod y_Ro_hurtsAt ∈ qBIG := q_mem 642 (by decide +kernel) (by decide +kernel)
theorem se_Ro_hurtsAt : Cond.selects "OneMourner$Rows" y_Ro_hurtsAt y_Ro_hurtsAt ∈ qBIG := q_mem 28 (by decide +kernel) (by decide +kernel)
theorem cw_Ro_dear : Cond.code y_Ro_dear b_Ro_dear 7 (some .int) ∈ qBIG := q_mem 649 (by decide +kernel) (by decide +kernel)
theorem im_Ro_dear : Cond.instanceMethod y_Ro_dear ∈ qBIG := q_mem 648 (by decide +kernel) (by decide +kernel)
theorem se_Ro_dear : Cond.selects "OneMourner$Rows" y_Ro_dear y_Ro_dear ∈ qBIG := q_mem 29 (by decide +kernel) (by decide +kernel)
theorem cw_Ro_start : Cond.code y_Ro_start b_Ro_start 3 none ∈ qBIG := q_mem 653 (by decide +kernel) (by decide +kernel)
theorem im_Ro_start : Cond.instanceMethod y_Ro_start ∈ qBIG := q_mem 652 (by decide +kernel) (by decide +kernel)
theorem se_Ro_start : Cond.selects "OneMourner$Rows" y_Ro_start y_Ro_start ∈ qBIG := q_mem 30 (by decide +kernel) (by decide +kernel)
theorem cw_On_pass : Cond.code y_On_pass b_On_pass 2 (some .int) ∈ qBIG := q_mem 657 (by decide +kernel) (by decide +kernel)
theorem im_On_pass : Cond.instanceMethod y_On_pass ∈ qBIG := q_mem 655 (by decide +kernel) (by decide +kernel)
theorem se_On_pass : Cond.selects "OneMourner" y_On_pass y_On_pass ∈ qBIG := q_mem 656 (by decide +kernel) (by decide +kernel)
theorem cw_Mg_go : Cond.code y_Mg_go b_Mg_go 7 none ∈ qBIG := q_mem 661 (by decide +kernel) (by decide +kernel)
theorem im_Mg_go : Cond.instanceMethod y_Mg_go ∈ qBIG := q_mem 660 (by decide +kernel) (by decide +kernel)
theorem se_Mg_go : Cond.selects "OneMourner$Mourning" y_Mg_go y_Mg_go ∈ qBIG := q_mem 31 (by decide +kernel) (by decide +kernel)
theorem cw_On_on : Cond.code y_On_on b_On_on 4 (some .int) ∈ qBIG := q_mem 667 (by decide +kernel) (by decide +kernel)
theorem im_On_on : Cond.instanceMethod y_On_on ∈ qBIG := q_mem 665 (by decide +kernel) (by decide +kernel)
theorem se_On_on : Cond.selects "OneMourner" y_On_on y_On_on ∈ qBIG := q_mem 666 (by decide +kernel) (by decide +kernel)
theorem cw_Mg_becomes : Cond.code y_Mg_becomes b_Mg_becomes 3 none ∈ qBIG := q_mem 671 (by decide +kernel) (by decide +kernel)
theorem im_Mg_becomes : Cond.instanceMethod y_Mg_becomes ∈ qBIG := q_mem 670 (by decide +kernel) (by decide +kernel)
theorem se_Mg_becomes : Cond.selects "OneMourner$Mourning" y_Mg_becomes y_Mg_becomes ∈ qBIG := q_mem 32 (by decide +kernel) (by decide +kernel)
theorem cw_Mo_becomes : Cond.code y_Mo_becomes b_Mo_becomes 3 none ∈ qBIG := q_mem 675 (by decide +kernel) (by decide +kernel)
theorem im_Mo_becomes : Cond.instanceMethod y_Mo_becomes ∈ qBIG := q_mem 674 (by decide +kernel) (by decide +kernel)
theorem se_Mo_becomes : Cond.selects "OneMourner$Mourner" y_Mo_becomes y_Mo_becomes ∈ qBIG := q_mem 33 (by decide +kernel) (by decide +kernel)
theorem cw_No_becomes : Cond.code y_No_becomes b_No_becomes 3 none ∈ qBIG := q_mem 679 (by decide +kernel) (by decide +kernel)
theorem im_No_becomes : Cond.instanceMethod y_No_becomes ∈ qBIG := q_mem 678 (by decide +kernel) (by decide +kernel)
theorem se_No_becomes : Cond.selects "OneMourner$Notes" y_No_becomes y_No_becomes ∈ qBIG := q_mem 34 (by decide +kernel) (by decide +kernel)
theorem cw_On_turn : Cond.code y_On_turn b_On_turn 3 (some .int) ∈ qBIG := q_mem 685 (by decide +kernel) (by decide +kernel)
theorem im_On_turn : Cond.instanceMethod y_On_turn ∈ qBIG := q_mem 683 (by decide +kernel) (by decide +kernel)
theorem se_On_turn : Cond.selects "OneMourner" y_On_turn y_On_turn ∈ qBIG := q_mem 684 (by decide +kernel) (by decide +kernel)
theorem cw_On_empty : Cond.code y_On_empty b_On_empty 2 (some .int) ∈ qBIG := q_mem 689 (by decide +kernel) (by decide +kernel)
theorem im_On_empty : Cond.instanceMethod y_On_empty ∈ qBIG := q_mem 687 (by decide +kernel) (by decide +kernel)
theorem se_On_empty : Cond.selects "OneMourner" y_On_empty y_On_empty ∈ qBIG := q_mem 688 (by decide +kernel) (by decide +kernel)
theorem cw_On_best : Cond.code y_On_best b_On_best 3 (some .int) ∈ qBIG := q_mem 693 (by decide +kernel) (by decide +kernel)
theorem im_On_best : Cond.instanceMethod y_On_best ∈ qBIG := q_mem 691 (by decide +kernel) (by decide +kernel)
theorem se_On_best : Cond.selects "OneMourner" y_On_best y_On_best ∈ qBIG := q_mem 692 (by decide +kernel) (by decide +kernel)
theorem cw_Ro_walk : Cond.code y_Ro_walk b_Ro_walk 5 none ∈ qBIG := q_mem 697 (by decide +kernel) (by decide +kernel)
theorem im_Ro_walk : Cond.instanceMethod y_Ro_walk ∈ qBIG := q_mem 696 (by decide +kernel) (by decide +kernel)
theorem se_Ro_walk : Cond.selects "OneMourner$Rows" y_Ro_walk y_Ro_walk ∈ qBIG := q_mem 35 (by decide +kernel) (by decide +kernel)
theorem cw_Ro_look : Cond.code y_Ro_look b_Ro_look 6 none ∈ qBIG := q_mem 702 (by decide +kernel) (by decide +kernel)
theorem im_Ro_look : Cond.instanceMethod y_Ro_look ∈ qBIG := q_mem 701 (by decide +kernel) (by decide +kernel)
theorem se_Ro_look : Cond.selects "OneMourner$Rows" y_Ro_look y_Ro_look ∈ qBIG := q_mem 36 (by decide +kernel) (by decide +kernel)
theorem cw_Ro_goToNext : Cond.code y_Ro_goToNext b_Ro_goToNext 5 (some .boolean) ∈ qBIG := q_mem 709 (by decide +kernel) (by decide +kernel)
theorem im_Ro_goToNext : Cond.instanceMethod y_Ro_goToNext ∈ qBIG := q_mem 708 (by decide +kernel) (by decide +kernel)
theorem se_Ro_goToNext : Cond.selects "OneMourner$Rows" y_Ro_goToNext y_Ro_goToNext ∈ qBIG := q_mem 37 (by decide +kernel) (by decide +kernel)
theorem cw_Ro_change : Cond.code y_Ro_change b_Ro_change 4 none ∈ qBIG := q_mem 713 (by decide +kernel) (by decide +kernel)
theorem im_Ro_change : Cond.instanceMethod y_Ro_change ∈ qBIG := q_mem 712 (by decide +kernel) (by decide +kernel)
theorem se_Ro_change : Cond.selects "OneMourner$Rows" y_Ro_change y_Ro_change ∈ qBIG := q_mem 38 (by decide +kernel) (by decide +kernel)
theorem cw_On_see : Cond.code y_On_see b_On_see 4 (some .int) ∈ qBIG := q_mem 717 (by decide +kernel) (by decide +kernel)
theorem im_On_see : Cond.instanceMethod y_On_see ∈ qBIG := q_mem 715 (by decide +kernel) (by decide +kernel)
theorem se_On_see : Cond.selects "OneMourner" y_On_see y_On_see ∈ qBIG := q_mem 716 (by decide +kernel) (by decide +kernel)
theorem cw_No_add : Cond.code y_No_add b_No_add 4 (some .int) ∈ qBIG := q_mem 721 (by decide +kernel) (by decide +kernel)
theorem im_No_add : Cond.instanceMethod y_No_add ∈ qBIG := q_mem 720 (by decide +kernel) (by decide +kernel)
theorem se_No_add : Cond.selects "OneMourner$Notes" y_No_add y_No_add ∈ qBIG := q_mem 39 (by decide +kernel) (by decide +kernel)
theorem cw_On_can : Cond.code y_On_can b_On_can 9 (some .int) ∈ qBIG := q_mem 725 (by decide +kernel) (by decide +kernel)
theorem im_On_can : Cond.instanceMethod y_On_can ∈ qBIG := q_mem 723 (by decide +kernel) (by decide +kernel)
theorem se_On_can : Cond.selects "OneMourner" y_On_can y_On_can ∈ qBIG := q_mem 724 (by decide +kernel) (by decide +kernel)
theorem cw_Mg_isAsSeen : Cond.code y_Mg_isAsSeen b_Mg_isAsSeen 3 (some .boolean) ∈ qBIG := q_mem 729 (by decide +kernel) (by decide +kernel)
theorem im_Mg_isAsSeen : Cond.instanceMethod y_Mg_isAsSeen ∈ qBIG := q_mem 728 (by decide +kernel) (by decide +kernel)
theorem se_Mg_isAsSeen : Cond.selects "OneMourner$Mourning" y_Mg_isAsSeen y_Mg_isAsSeen ∈ qBIG := q_mem 40 (by decide +kernel) (by decide +kernel)
theorem cw_On_odds : Cond.code y_On_odds b_On_odds 3 (some .long) ∈ qBIG := q_mem 733 (by decide +kernel) (by decide +kernel)
theorem im_On_odds : Cond.instanceMethod y_On_odds ∈ qBIG := q_mem 731 (by decide +kernel) (by decide +kernel)
theorem se_On_odds : Cond.selects "OneMourner" y_On_odds y_On_odds ∈ qBIG := q_mem 732 (by decide +kernel) (by decide +kernel)
theorem cw_On_inLowestTerms : Cond.code y_On_inLowestTerms b_On_inLowestTerms 7 (some .long) ∈ qBIG := q_mem 737 (by decide +kernel) (by decide +kernel)
theorem sw_On_inLowestTerms : Cond.static y_On_inLowestTerms ∈ qBIG := q_mem 736 (by decide +kernel) (by decide +kernel)
theorem cw_On_commonDivisor : Cond.code y_On_commonDivisor b_On_commonDivisor 7 (some .long) ∈ qBIG := q_mem 740 (by decide +kernel) (by decide +kernel)
theorem sw_On_commonDivisor : Cond.static y_On_commonDivisor ∈ qBIG := q_mem 739 (by decide +kernel) (by decide +kernel)
theorem cw_On_mean : Cond.code y_On_mean b_On_mean 2 (some .long) ∈ qBIG := q_mem 744 (by decide +kernel) (by decide +kernel)
theorem im_On_mean : Cond.instanceMethod y_On_mean ∈ qBIG := q_mem 742 (by decide +kernel) (by decide +kernel)
theorem se_On_mean : Cond.selects "OneMourner" y_On_mean y_On_mean ∈ qBIG := q_mem 743 (by decide +kernel) (by decide +kernel)
theorem cw_On_plan : Cond.code y_On_plan b_On_plan 3 (some .int) ∈ qBIG := q_mem 748 (by decide +kernel) (by decide +kernel)
theorem im_On_plan : Cond.instanceMethod y_On_plan ∈ qBIG := q_mem 746 (by decide +kernel) (by decide +kernel)
theorem se_On_plan : Cond.selects "OneMourner" y_On_plan y_On_plan ∈ qBIG := q_mem 747 (by decide +kernel) (by decide +kernel)
theorem cw_On_ends : Cond.code y_On_ends b_On_ends 2 (some .int) ∈ qBIG := q_mem 752 (by decide +kernel) (by decide +kernel)
theorem im_On_ends : Cond.instanceMethod y_On_ends ∈ qBIG := q_mem 750 (by decide +kernel) (by decide +kernel)
theorem se_On_ends : Cond.selects "OneMourner" y_On_ends y_On_ends ∈ qBIG := q_mem 751 (by decide +kernel) (by decide +kernel)
theorem cw_Mg_goByPlan : Cond.code y_Mg_goByPlan b_Mg_goByPlan 5 none ∈ qBIG := q_mem 756 (by decide +kernel) (by decide +kernel)
theorem im_Mg_goByPlan : Cond.instanceMethod y_Mg_goByPlan ∈ qBIG := q_mem 755 (by decide +kernel) (by decide +kernel)
theorem se_Mg_goByPlan : Cond.selects "OneMourner$Mourning" y_Mg_goByPlan y_Mg_goByPlan ∈ qBIG := q_mem 41 (by decide +kernel) (by decide +kernel)
theorem cw_On_book : Cond.code y_On_book b_On_book 3 (some .int) ∈ qBIG := q_mem 763 (by decide +kernel) (by decide +kernel)
theorem im_On_book : Cond.instanceMethod y_On_book ∈ qBIG := q_mem 761 (by decide +kernel) (by decide +kernel)
theorem se_On_book : Cond.selects "OneMourner" y_On_book y_On_book ∈ qBIG := q_mem 762 (by decide +kernel) (by decide +kernel)
theorem cw_On_looked : Cond.code y_On_looked b_On_looked 3 (some .int) ∈ qBIG := q_mem 767 (by decide +kernel) (by decide +kernel)
theorem im_On_looked : Cond.instanceMethod y_On_looked ∈ qBIG := q_mem 765 (by decide +kernel) (by decide +kernel)
theorem se_On_looked : Cond.selects "OneMourner" y_On_looked y_On_looked ∈ qBIG := q_mem 766 (by decide +kernel) (by decide +kernel)
theorem cw_On_judge : Cond.code y_On_judge b_On_judge 5 (some .int) ∈ qBIG := q_mem 771 (by decide +kernel) (by decide +kernel)
theorem im_On_judge : Cond.instanceMethod y_On_judge ∈ qBIG := q_mem 769 (by decide +kernel) (by decide +kernel)
theorem se_On_judge : Cond.selects "OneMourner" y_On_judge y_On_judge ∈ qBIG := q_mem 770 (by decide +kernel) (by decide +kernel)
theorem cw_On_isTape : Cond.code y_On_isTape b_On_isTape 1 (some .boolean) ∈ qBIG := q_mem 774 (by decide +kernel) (by decide +kernel)
theorem sw_On_isTape : Cond.static y_On_isTape ∈ qBIG := q_mem 773 (by decide +kernel) (by decide +kernel)
theorem cw_On_image : Cond.code y_On_image b_On_image 1 (some .int) ∈ qBIG := q_mem 778 (by decide +kernel) (by decide +kernel)
theorem im_On_image : Cond.instanceMethod y_On_image ∈ qBIG := q_mem 776 (by decide +kernel) (by decide +kernel)
theorem se_On_image : Cond.selects "OneMourner" y_On_image y_On_image ∈ qBIG := q_mem 777 (by decide +kernel) (by decide +kernel)
theorem cw_On_undo : Cond.code y_On_undo b_On_undo 1 (some .int) ∈ qBIG := q_mem 782 (by decide +kernel) (by decide +kernel)
theorem im_On_undo : Cond.instanceMethod y_On_undo ∈ qBIG := q_mem 780 (by decide +kernel) (by decide +kernel)
theorem se_On_undo : Cond.selects "OneMourner" y_On_undo y_On_undo ∈ qBIG := q_mem 781 (by decide +kernel) (by decide +kernel)
theorem cw_On_act : Cond.code y_On_act b_On_act 5 (some .int) ∈ qBIG := q_mem 786 (by decide +kernel) (by decide +kernel)
theorem im_On_act : Cond.instanceMethod y_On_act ∈ qBIG := q_mem 784 (by decide +kernel) (by decide +kernel)
theorem se_On_act : Cond.selects "OneMourner" y_On_act y_On_act ∈ qBIG := q_mem 785 (by decide +kernel) (by decide +kernel)
theorem cw_Ac_body : Cond.code y_Ac_body b_Ac_body 8 (some .int) ∈ qBIG := q_mem 790 (by decide +kernel) (by decide +kernel)
theorem im_Ac_body : Cond.instanceMethod y_Ac_body ∈ qBIG := q_mem 789 (by decide +kernel) (by decide +kernel)
theorem se_Ac_body : Cond.selects "OneMourner$Acts" y_Ac_body y_Ac_body ∈ qBIG := q_mem 42 (by decide +kernel) (by decide +kernel)
theorem cw_Ac_bodyOf : Cond.code y_Ac_bodyOf b_Ac_bodyOf 5 (some .int) ∈ qBIG := q_mem 793 (by decide +kernel) (by decide +kernel)
theorem sw_Ac_bodyOf : Cond.static y_Ac_bodyOf ∈ qBIG := q_mem 792 (by decide +kernel) (by decide +kernel)
theorem cw_On_kindAbove : Cond.code y_On_kindAbove b_On_kindAbove 1 (some .int) ∈ qBIG := q_mem 800 (by decide +kernel) (by decide +kernel)
theorem sw_On_kindAbove : Cond.static y_On_kindAbove ∈ qBIG := q_mem 799 (by decide +kernel) (by decide +kernel)
theorem cw_Ac_begins : Cond.code y_Ac_begins b_Ac_begins 2 none ∈ qBIG := q_mem 805 (by decide +kernel) (by decide +kernel)
theorem im_Ac_begins : Cond.instanceMethod y_Ac_begins ∈ qBIG := q_mem 804 (by decide +kernel) (by decide +kernel)
theorem se_Ac_begins : Cond.selects "OneMourner$Acts" y_Ac_begins y_Ac_begins ∈ qBIG := q_mem 43 (by decide +kernel) (by decide +kernel)
theorem cw_On_trace : Cond.code y_On_trace b_On_trace 2 (some .int) ∈ qBIG := q_mem 810 (by decide +kernel) (by decide +kernel)
theorem im_On_trace : Cond.instanceMethod y_On_trace ∈ qBIG := q_mem 808 (by decide +kernel) (by decide +kernel)
theorem se_On_trace : Cond.selects "OneMourner" y_On_trace y_On_trace ∈ qBIG := q_mem 809 (by decide +kernel) (by decide +kernel)
theorem cw_On_taken : Cond.code y_On_taken b_On_taken 6 (some .int) ∈ qBIG := q_mem 814 (by decide +kernel) (by decide +kernel)
theorem im_On_taken : Cond.instanceMethod y_On_taken ∈ qBIG := q_mem 812 (by decide +kernel) (by decide +kernel)
theorem se_On_taken : Cond.selects "OneMourner" y_On_taken y_On_taken ∈ qBIG := q_mem 813 (by decide +kernel) (by decide +kernel)
theorem cw_On_count : Cond.code y_On_count b_On_count 2 (some .int) ∈ qBIG := q_mem 819 (by decide +kernel) (by decide +kernel)
theorem im_On_count : Cond.instanceMethod y_On_count ∈ qBIG := q_mem 817 (by decide +kernel) (by decide +kernel)
theorem se_On_count : Cond.selects "OneMourner" y_On_count y_On_count ∈ qBIG := q_mem 818 (by decide +kernel) (by decide +kernel)
theorem cw_On_tape : Cond.code y_On_tape b_On_tape 4 (some .int) ∈ qBIG := q_mem 823 (by decide +kernel) (by decide +kernel)
theorem im_On_tape : Cond.instanceMethod y_On_tape ∈ qBIG := q_mem 821 (by decide +kernel) (by decide +kernel)
theorem se_On_tape : Cond.selects "OneMourner" y_On_tape y_On_tape ∈ qBIG := q_mem 822 (by decide +kernel) (by decide +kernel)
theorem cw_Ta_becomes : Cond.code y_Ta_becomes b_Ta_becomes 4 none ∈ qBIG := q_mem 827 (by decide +kernel) (by decide +kernel)
theorem im_Ta_becomes : Cond.instanceMethod y_Ta_becomes ∈ qBIG := q_mem 826 (by decide +kernel) (by decide +kernel)
theorem se_Ta_becomes : Cond.selects "OneMourner$Tape" y_Ta_becomes y_Ta_becomes ∈ qBIG := q_mem 44 (by decide +kernel) (by decide +kernel)
theorem cw_On_item : Cond.code y_On_item b_On_item 6 (some .int) ∈ qBIG := q_mem 831 (by decide +kernel) (by decide +kernel)
theorem im_On_item : Cond.instanceMethod y_On_item ∈ qBIG := q_mem 829 (by decide +kernel) (by decide +kernel)
theorem se_On_item : Cond.selects "OneMourner" y_On_item y_On_item ∈ qBIG := q_mem 830 (by decide +kernel) (by decide +kernel)
theorem cw_Ta_asItem : Cond.code y_Ta_asItem b_Ta_asItem 3 (some .long) ∈ qBIG := q_mem 835 (by decide +kernel) (by decide +kernel)
theorem im_Ta_asItem : Cond.instanceMethod y_Ta_asItem ∈ qBIG := q_mem 834 (by decide +kernel) (by decide +kernel)
theorem se_Ta_asItem : Cond.selects "OneMourner$Tape" y_Ta_asItem y_Ta_asItem ∈ qBIG := q_mem 45 (by decide +kernel) (by decide +kernel)
theorem cw_On_read : Cond.code y_On_read b_On_read 3 (some .long) ∈ qBIG := q_mem 840 (by decide +kernel) (by decide +kernel)
theorem im_On_read : Cond.instanceMethod y_On_read ∈ qBIG := q_mem 838 (by decide +kernel) (by decide +kernel)
theorem se_On_read : Cond.selects "OneMourner" y_On_read y_On_read ∈ qBIG := q_mem 839 (by decide +kernel) (by decide +kernel)
theorem cw_On_shift : Cond.code y_On_shift b_On_shift 8 (some .int) ∈ qBIG := q_mem 844 (by decide +kernel) (by decide +kernel)
theorem im_On_shift : Cond.instanceMethod y_On_shift ∈ qBIG := q_mem 842 (by decide +kernel) (by decide +kernel)
theorem se_On_shift : Cond.selects "OneMourner" y_On_shift y_On_shift ∈ qBIG := q_mem 843 (by decide +kernel) (by decide +kernel)
theorem cw_Ta_holds : Cond.code y_Ta_holds b_Ta_holds 3 (some .boolean) ∈ qBIG := q_mem 848 (by decide +kernel) (by decide +kernel)
theorem im_Ta_holds : Cond.instanceMethod y_Ta_holds ∈ qBIG := q_mem 847 (by decide +kernel) (by decide +kernel)
theorem se_Ta_holds : Cond.selects "OneMourner$Tape" y_Ta_holds y_Ta_holds ∈ qBIG := q_mem 46 (by decide +kernel) (by decide +kernel)
theorem cw_Md_init : Cond.code y_Md_init b_Md_init 2 none ∈ qBIG := q_mem 855 (by decide +kernel) (by decide +kernel)
theorem im_Md_init : Cond.instanceMethod y_Md_init ∈ qBIG := q_mem 854 (by decide +kernel) (by decide +kernel)
theorem cw_Md_mourner : Cond.code y_Md_mourner b_Md_mourner 5 (some .int) ∈ qBIG := q_mem 1030 (by decide +kernel) (by decide +kernel)
theorem im_Md_mourner : Cond.instanceMethod y_Md_mourner ∈ qBIG := q_mem 1028 (by decide +kernel) (by decide +kernel)
theorem se_Md_mourner : Cond.selects "OneMournerModel" y_Md_mourner y_Md_mourner ∈ qBIG := q_mem 1029 (by decide +kernel) (by decide +kernel)
theorem cw_Md_within : Cond.code y_Md_within b_Md_within 3 (some .boolean) ∈ qBIG := q_mem 1033 (by decide +kernel) (by decide +kernel)
theorem sw_Md_within : Cond.static y_Md_within ∈ qBIG := q_mem 1032 (by decide +kernel) (by decide +kernel)
theorem cw_Md_of : Cond.code y_Md_of b_Md_of 3 (some .int) ∈ qBIG := q_mem 1037 (by decide +kernel) (by decide +kernel)
theorem im_Md_of : Cond.instanceMethod y_Md_of ∈ qBIG := q_mem 1035 (by decide +kernel) (by decide +kernel)
theorem se_Md_of : Cond.selects "OneMournerModel" y_Md_of y_Md_of ∈ qBIG := q_mem 1036 (by decide +kernel) (by decide +kernel)
theorem cw_Md_isOne : Cond.code y_Md_isOne b_Md_isOne 2 (some .boolean) ∈ qBIG := q_mem 1041 (by decide +kernel) (by decide +kernel)
theorem im_Md_isOne : Cond.instanceMethod y_Md_isOne ∈ qBIG := q_mem 1040 (by decide +kernel) (by decide +kernel)
theorem se_Md_isOne : Cond.selects "OneMournerModel" y_Md_isOne y_Md_isOne ∈ qBIG := q_mem 47 (by decide +kernel) (by decide +kernel)
theorem cw_Md_placeOf : Cond.code y_Md_placeOf b_Md_placeOf 3 (some .int) ∈ qBIG := q_mem 1045 (by decide +kernel) (by decide +kernel)
theorem im_Md_placeOf : Cond.instanceMethod y_Md_placeOf ∈ qBIG := q_mem 1044 (by decide +kernel) (by decide +kernel)
theorem se_Md_placeOf : Cond.selects "OneMournerModel" y_Md_placeOf y_Md_placeOf ∈ qBIG := q_mem 48 (by decide +kernel) (by decide +kernel)
theorem cw_Md_pain : Cond.code y_Md_pain b_Md_pain 5 (some .int) ∈ qBIG := q_mem 1049 (by decide +kernel) (by decide +kernel)
theorem im_Md_pain : Cond.instanceMethod y_Md_pain ∈ qBIG := q_mem 1048 (by decide +kernel) (by decide +kernel)
theorem se_Md_pain : Cond.selects "OneMournerModel" y_Md_pain y_Md_pain ∈ qBIG := q_mem 49 (by decide +kernel) (by decide +kernel)
theorem cw_Md_sum : Cond.code y_Md_sum b_Md_sum 7 (some .int) ∈ qBIG := q_mem 1053 (by decide +kernel) (by decide +kernel)
theorem im_Md_sum : Cond.instanceMethod y_Md_sum ∈ qBIG := q_mem 1052 (by decide +kernel) (by decide +kernel)
theorem se_Md_sum : Cond.selects "OneMournerModel" y_Md_sum y_Md_sum ∈ qBIG := q_mem 50 (by decide +kernel) (by decide +kernel)
theorem cw_Md_isTrue : Cond.code y_Md_isTrue b_Md_isTrue 11 (some .boolean) ∈ qBIG := q_mem 1057 (by decide +kernel) (by decide +kernel)
theorem im_Md_isTrue : Cond.instanceMethod y_Md_isTrue ∈ qBIG := q_mem 1056 (by decide +kernel) (by decide +kernel)
theorem se_Md_isTrue : Cond.selects "OneMournerModel" y_Md_isTrue y_Md_isTrue ∈ qBIG := q_mem 51 (by decide +kernel) (by decide +kernel)
theorem cw_Md_letterOf : Cond.code y_Md_letterOf b_Md_letterOf 5 (some .int) ∈ qBIG := q_mem 1061 (by decide +kernel) (by decide +kernel)
theorem im_Md_letterOf : Cond.instanceMethod y_Md_letterOf ∈ qBIG := q_mem 1060 (by decide +kernel) (by decide +kernel)
theorem se_Md_letterOf : Cond.selects "OneMournerModel" y_Md_letterOf y_Md_letterOf ∈ qBIG := q_mem 52 (by decide +kernel) (by decide +kernel)
theorem cw_Md_set : Cond.code y_Md_set b_Md_set 5 (some .int) ∈ qBIG := q_mem 1066 (by decide +kernel) (by decide +kernel)
theorem im_Md_set : Cond.instanceMethod y_Md_set ∈ qBIG := q_mem 1064 (by decide +kernel) (by decide +kernel)
theorem se_Md_set : Cond.selects "OneMournerModel" y_Md_set y_Md_set ∈ qBIG := q_mem 1065 (by decide +kernel) (by decide +kernel)
theorem cw_Md_done : Cond.code y_Md_done b_Md_done 4 (some .int) ∈ qBIG := q_mem 1071 (by decide +kernel) (by decide +kernel)
theorem im_Md_done : Cond.instanceMethod y_Md_done ∈ qBIG := q_mem 1069 (by decide +kernel) (by decide +kernel)
theorem se_Md_done : Cond.selects "OneMournerModel" y_Md_done y_Md_done ∈ qBIG := q_mem 1070 (by decide +kernel) (by decide +kernel)
theorem cw_Md_list : Cond.code y_Md_list b_Md_list 2 (some .int) ∈ qBIG := q_mem 1075 (by decide +kernel) (by decide +kernel)
theorem im_Md_list : Cond.instanceMethod y_Md_list ∈ qBIG := q_mem 1073 (by decide +kernel) (by decide +kernel)
theorem se_Md_list : Cond.selects "OneMournerModel" y_Md_list y_Md_list ∈ qBIG := q_mem 1074 (by decide +kernel) (by decide +kernel)
theorem cw_Md_swap : Cond.code y_Md_swap b_Md_swap 5 (some .int) ∈ qBIG := q_mem 1079 (by decide +kernel) (by decide +kernel)
theorem im_Md_swap : Cond.instanceMethod y_Md_swap ∈ qBIG := q_mem 1077 (by decide +kernel) (by decide +kernel)
theorem se_Md_swap : Cond.selects "OneMournerModel" y_Md_swap y_Md_swap ∈ qBIG := q_mem 1078 (by decide +kernel) (by decide +kernel)
theorem cw_Md_row : Cond.code y_Md_row b_Md_row 5 (some .int) ∈ qBIG := q_mem 1083 (by decide +kernel) (by decide +kernel)
theorem im_Md_row : Cond.instanceMethod y_Md_row ∈ qBIG := q_mem 1081 (by decide +kernel) (by decide +kernel)
theorem se_Md_row : Cond.selects "OneMournerModel" y_Md_row y_Md_row ∈ qBIG := q_mem 1082 (by decide +kernel) (by decide +kernel)
theorem cw_Md_feed : Cond.code y_Md_feed b_Md_feed 2 (some .int) ∈ qBIG := q_mem 1087 (by decide +kernel) (by decide +kernel)
theorem im_Md_feed : Cond.instanceMethod y_Md_feed ∈ qBIG := q_mem 1085 (by decide +kernel) (by decide +kernel)
theorem se_Md_feed : Cond.selects "OneMournerModel" y_Md_feed y_Md_feed ∈ qBIG := q_mem 1086 (by decide +kernel) (by decide +kernel)
theorem cw_Md_island : Cond.code y_Md_island b_Md_island 5 (some .int) ∈ qBIG := q_mem 1091 (by decide +kernel) (by decide +kernel)
theorem im_Md_island : Cond.instanceMethod y_Md_island ∈ qBIG := q_mem 1089 (by decide +kernel) (by decide +kernel)
theorem se_Md_island : Cond.selects "OneMournerModel" y_Md_island y_Md_island ∈ qBIG := q_mem 1090 (by decide +kernel) (by decide +kernel)
theorem cw_Md_isClause : Cond.code y_Md_isClause b_Md_isClause 4 (some .boolean) ∈ qBIG := q_mem 1095 (by decide +kernel) (by decide +kernel)
theorem im_Md_isClause : Cond.instanceMethod y_Md_isClause ∈ qBIG := q_mem 1094 (by decide +kernel) (by decide +kernel)
theorem se_Md_isClause : Cond.selects "OneMournerModel" y_Md_isClause y_Md_isClause ∈ qBIG := q_mem 53 (by decide +kernel) (by decide +kernel)
theorem cw_Md_isAll : Cond.code y_Md_isAll b_Md_isAll 3 (some .boolean) ∈ qBIG := q_mem 1100 (by decide +kernel) (by decide +kernel)
theorem im_Md_isAll : Cond.instanceMethod y_Md_isAll ∈ qBIG := q_mem 1099 (by decide +kernel) (by decide +kernel)
theorem se_Md_isAll : Cond.selects "OneMournerModel" y_Md_isAll y_Md_isAll ∈ qBIG := q_mem 54 (by decide +kernel) (by decide +kernel)
theorem cw_Md_is : Cond.code y_Md_is b_Md_is 2 (some .boolean) ∈ qBIG := q_mem 1106 (by decide +kernel) (by decide +kernel)
theorem im_Md_is : Cond.instanceMethod y_Md_is ∈ qBIG := q_mem 1105 (by decide +kernel) (by decide +kernel)
theorem se_Md_is : Cond.selects "OneMournerModel" y_Md_is y_Md_is ∈ qBIG := q_mem 55 (by decide +kernel) (by decide +kernel)
theorem cw_Md_isNumber : Cond.code y_Md_isNumber b_Md_isNumber 1 (some .boolean) ∈ qBIG := q_mem 1112 (by decide +kernel) (by decide +kernel)
theorem im_Md_isNumber : Cond.instanceMethod y_Md_isNumber ∈ qBIG := q_mem 1111 (by decide +kernel) (by decide +kernel)
theorem se_Md_isNumber : Cond.selects "OneMournerModel" y_Md_isNumber y_Md_isNumber ∈ qBIG := q_mem 56 (by decide +kernel) (by decide +kernel)
theorem cw_Md_isDigit : Cond.code y_Md_isDigit b_Md_isDigit 1 (some .boolean) ∈ qBIG := q_mem 1116 (by decide +kernel) (by decide +kernel)
theorem im_Md_isDigit : Cond.instanceMethod y_Md_isDigit ∈ qBIG := q_mem 1115 (by decide +kernel) (by decide +kernel)
theorem se_Md_isDigit : Cond.selects "OneMournerModel" y_Md_isDigit y_Md_isDigit ∈ qBIG := q_mem 57 (by decide +kernel) (by decide +kernel)
theorem cw_Md_isE : Cond.code y_Md_isE b_Md_isE 1 (some .boolean) ∈ qBIG := q_mem 1120 (by decide +kernel) (by decide +kernel)
theorem im_Md_isE : Cond.instanceMethod y_Md_isE ∈ qBIG := q_mem 1119 (by decide +kernel) (by decide +kernel)
theorem se_Md_isE : Cond.selects "OneMournerModel" y_Md_isE y_Md_isE ∈ qBIG := q_mem 58 (by decide +kernel) (by decide +kernel)
theorem cw_Md_isT : Cond.code y_Md_isT b_Md_isT 1 (some .boolean) ∈ qBIG := q_mem 1124 (by decide +kernel) (by decide +kernel)
theorem im_Md_isT : Cond.instanceMethod y_Md_isT ∈ qBIG := q_mem 1123 (by decide +kernel) (by decide +kernel)
theorem se_Md_isT : Cond.selects "OneMournerModel" y_Md_isT y_Md_isT ∈ qBIG := q_mem 59 (by decide +kernel) (by decide +kernel)
theorem cw_Md_isF : Cond.code y_Md_isF b_Md_isF 2 (some .boolean) ∈ qBIG := q_mem 1128 (by decide +kernel) (by decide +kernel)
theorem im_Md_isF : Cond.instanceMethod y_Md_isF ∈ qBIG := q_mem 1127 (by decide +kernel) (by decide +kernel)
theorem se_Md_isF : Cond.selects "OneMournerModel" y_Md_isF y_Md_isF ∈ qBIG := q_mem 60 (by decide +kernel) (by decide +kernel)
theorem cw_Md_isOpened : Cond.code y_Md_isOpened b_Md_isOpened 2 (some .boolean) ∈ qBIG := q_mem 1132 (by decide +kernel) (by decide +kernel)
theorem im_Md_isOpened : Cond.instanceMethod y_Md_isOpened ∈ qBIG := q_mem 1131 (by decide +kernel) (by decide +kernel)
theorem se_Md_isOpened : Cond.selects "OneMournerModel" y_Md_isOpened y_Md_isOpened ∈ qBIG := q_mem 61 (by decide +kernel) (by decide +kernel)
theorem cw_Md_codes : Cond.code y_Md_codes b_Md_codes 2 (some .boolean) ∈ qBIG := q_mem 1136 (by decide +kernel) (by decide +kernel)
theorem im_Md_codes : Cond.instanceMethod y_Md_codes ∈ qBIG := q_mem 1135 (by decide +kernel) (by decide +kernel)
theorem se_Md_codes : Cond.selects "OneMournerModel" y_Md_codes y_Md_codes ∈ qBIG := q_mem 62 (by decide +kernel) (by decide +kernel)
theorem cw_Md_isTest : Cond.code y_Md_isTest b_Md_isTest 3 (some .boolean) ∈ qBIG := q_mem 1140 (by decide +kernel) (by decide +kernel)
theorem im_Md_isTest : Cond.instanceMethod y_Md_isTest ∈ qBIG := q_mem 1139 (by decide +kernel) (by decide +kernel)
theorem se_Md_isTest : Cond.selects "OneMournerModel" y_Md_isTest y_Md_isTest ∈ qBIG := q_mem 63 (by decide +kernel) (by decide +kernel)
theorem cw_jS_indexOf1 : Cond.code y_jS_indexOf1 b_jS_indexOf1 2 (some .int) ∈ qBIG := q_mem 1145 (by decide +kernel) (by decide +kernel)
theorem im_jS_indexOf1 : Cond.instanceMethod y_jS_indexOf1 ∈ qBIG := q_mem 1143 (by decide +kernel) (by decide +kernel)
theorem se_jS_indexOf1 : Cond.selects "java/lang/String" y_jS_indexOf1 y_jS_indexOf1 ∈ qBIG := q_mem 1144 (by decide +kernel) (by decide +kernel)
theorem cw_jS_indexOf2 : Cond.code y_jS_indexOf2 b_jS_indexOf2 3 (some .int) ∈ qBIG := q_mem 1149 (by decide +kernel) (by decide +kernel)
theorem im_jS_indexOf2 : Cond.instanceMethod y_jS_indexOf2 ∈ qBIG := q_mem 1147 (by decide +kernel) (by decide +kernel)
theorem se_jS_indexOf2 : Cond.selects "java/lang/String" y_jS_indexOf2 y_jS_indexOf2 ∈ qBIG := q_mem 1148 (by decide +kernel) (by decide +kernel)
theorem cw_jL_indexOf : Cond.code y_jL_indexOf b_jL_indexOf 4 (some .int) ∈ qBIG := q_mem 1153 (by decide +kernel) (by decide +kernel)
theorem sw_jL_indexOf : Cond.static y_jL_indexOf ∈ qBIG := q_mem 1152 (by decide +kernel) (by decide +kernel)
theorem cw_jL_canEncode : Cond.code y_jL_canEncode b_jL_canEncode 1 (some .boolean) ∈ qBIG := q_mem 1156 (by decide +kernel) (by decide +kernel)
theorem sw_jL_canEncode : Cond.static y_jL_canEncode ∈ qBIG := q_mem 1155 (by decide +kernel) (by decide +kernel)
theorem cw_jL_indexOfChar : Cond.code y_jL_indexOfChar b_jL_indexOfChar 6 (some .int) ∈ qBIG := q_mem 1161 (by decide +kernel) (by decide +kernel)
theorem sw_jL_indexOfChar : Cond.static y_jL_indexOfChar ∈ qBIG := q_mem 1160 (by decide +kernel) (by decide +kernel)
theorem cw_Md_pass : Cond.code y_Md_pass b_Md_pass 4 (some .int) ∈ qBIG := q_mem 1201 (by decide +kernel) (by decide +kernel)
theorem im_Md_pass : Cond.instanceMethod y_Md_pass ∈ qBIG := q_mem 1199 (by decide +kernel) (by decide +kernel)
theorem se_Md_pass : Cond.selects "OneMournerModel" y_Md_pass y_Md_pass ∈ qBIG := q_mem 1200 (by decide +kernel) (by decide +kernel)
theorem cw_Md_goesDay : Cond.code y_Md_goesDay b_Md_goesDay 3 none ∈ qBIG := q_mem 1205 (by decide +kernel) (by decide +kernel)
theorem im_Md_goesDay : Cond.instanceMethod y_Md_goesDay ∈ qBIG := q_mem 1204 (by decide +kernel) (by decide +kernel)
theorem se_Md_goesDay : Cond.selects "OneMournerModel" y_Md_goesDay y_Md_goesDay ∈ qBIG := q_mem 64 (by decide +kernel) (by decide +kernel)
theorem cw_Md_todays : Cond.code y_Md_todays b_Md_todays 2 (some .int) ∈ qBIG := q_mem 1209 (by decide +kernel) (by decide +kernel)
theorem im_Md_todays : Cond.instanceMethod y_Md_todays ∈ qBIG := q_mem 1208 (by decide +kernel) (by decide +kernel)
theorem se_Md_todays : Cond.selects "OneMournerModel" y_Md_todays y_Md_todays ∈ qBIG := q_mem 65 (by decide +kernel) (by decide +kernel)
theorem cw_Md_isLost : Cond.code y_Md_isLost b_Md_isLost 3 (some .boolean) ∈ qBIG := q_mem 1213 (by decide +kernel) (by decide +kernel)
theorem im_Md_isLost : Cond.instanceMethod y_Md_isLost ∈ qBIG := q_mem 1212 (by decide +kernel) (by decide +kernel)
theorem se_Md_isLost : Cond.selects "OneMournerModel" y_Md_isLost y_Md_isLost ∈ qBIG := q_mem 66 (by decide +kernel) (by decide +kernel)
theorem cw_Md_lostBy : Cond.code y_Md_lostBy b_Md_lostBy 3 (some .int) ∈ qBIG := q_mem 1217 (by decide +kernel) (by decide +kernel)
theorem im_Md_lostBy : Cond.instanceMethod y_Md_lostBy ∈ qBIG := q_mem 1216 (by decide +kernel) (by decide +kernel)
theorem se_Md_lostBy : Cond.selects "OneMournerModel" y_Md_lostBy y_Md_lostBy ∈ qBIG := q_mem 67 (by decide +kernel) (by decide +kernel)
theorem cw_Md_told : Cond.code y_Md_told b_Md_told 2 (some .int) ∈ qBIG := q_mem 1222 (by decide +kernel) (by decide +kernel)
theorem im_Md_told : Cond.instanceMethod y_Md_told ∈ qBIG := q_mem 1220 (by decide +kernel) (by decide +kernel)
theorem se_Md_told : Cond.selects "OneMournerModel" y_Md_told y_Md_told ∈ qBIG := q_mem 1221 (by decide +kernel) (by decide +kernel)
theorem cw_Md_allHurt : Cond.code y_Md_allHurt b_Md_allHurt 3 (some .int) ∈ qBIG := q_mem 1226 (by decide +kernel) (by decide +kernel)
theorem im_Md_allHurt : Cond.instanceMethod y_Md_allHurt ∈ qBIG := q_mem 1225 (by decide +kernel) (by decide +kernel)
theorem se_Md_allHurt : Cond.selects "OneMournerModel" y_Md_allHurt y_Md_allHurt ∈ qBIG := q_mem 68 (by decide +kernel) (by decide +kernel)
theorem cw_Md_allDone : Cond.code y_Md_allDone b_Md_allDone 3 (some .int) ∈ qBIG := q_mem 1230 (by decide +kernel) (by decide +kernel)
theorem im_Md_allDone : Cond.instanceMethod y_Md_allDone ∈ qBIG := q_mem 1229 (by decide +kernel) (by decide +kernel)
theorem se_Md_allDone : Cond.selects "OneMournerModel" y_Md_allDone y_Md_allDone ∈ qBIG := q_mem 69 (by decide +kernel) (by decide +kernel)
theorem cw_Md_agreed : Cond.code y_Md_agreed b_Md_agreed 7 (some .int) ∈ qBIG := q_mem 1234 (by decide +kernel) (by decide +kernel)
theorem im_Md_agreed : Cond.instanceMethod y_Md_agreed ∈ qBIG := q_mem 1233 (by decide +kernel) (by decide +kernel)
theorem se_Md_agreed : Cond.selects "OneMournerModel" y_Md_agreed y_Md_agreed ∈ qBIG := q_mem 70 (by decide +kernel) (by decide +kernel)
theorem cw_Md_looks : Cond.code y_Md_looks b_Md_looks 5 none ∈ qBIG := q_mem 1238 (by decide +kernel) (by decide +kernel)
theorem im_Md_looks : Cond.instanceMethod y_Md_looks ∈ qBIG := q_mem 1237 (by decide +kernel) (by decide +kernel)
theorem se_Md_looks : Cond.selects "OneMournerModel" y_Md_looks y_Md_looks ∈ qBIG := q_mem 71 (by decide +kernel) (by decide +kernel)
theorem cw_Md_turnOf : Cond.code y_Md_turnOf b_Md_turnOf 4 (some .int) ∈ qBIG := q_mem 1242 (by decide +kernel) (by decide +kernel)
theorem im_Md_turnOf : Cond.instanceMethod y_Md_turnOf ∈ qBIG := q_mem 1241 (by decide +kernel) (by decide +kernel)
theorem se_Md_turnOf : Cond.selects "OneMournerModel" y_Md_turnOf y_Md_turnOf ∈ qBIG := q_mem 72 (by decide +kernel) (by decide +kernel)
theorem cw_Md_dear : Cond.code y_Md_dear b_Md_dear 7 (some .int) ∈ qBIG := q_mem 1246 (by decide +kernel) (by decide +kernel)
theorem im_Md_dear : Cond.instanceMethod y_Md_dear ∈ qBIG := q_mem 1245 (by decide +kernel) (by decide +kernel)
theorem se_Md_dear : Cond.selects "OneMournerModel" y_Md_dear y_Md_dear ∈ qBIG := q_mem 73 (by decide +kernel) (by decide +kernel)
theorem cw_Md_on : Cond.code y_Md_on b_Md_on 4 (some .int) ∈ qBIG := q_mem 1250 (by decide +kernel) (by decide +kernel)
theorem im_Md_on : Cond.instanceMethod y_Md_on ∈ qBIG := q_mem 1248 (by decide +kernel) (by decide +kernel)
theorem se_Md_on : Cond.selects "OneMournerModel" y_Md_on y_Md_on ∈ qBIG := q_mem 1249 (by decide +kernel) (by decide +kernel)
theorem cw_Md_keep : Cond.code y_Md_keep b_Md_keep 3 none ∈ qBIG := q_mem 1254 (by decide +kernel) (by decide +kernel)
theorem im_Md_keep : Cond.instanceMethod y_Md_keep ∈ qBIG := q_mem 1253 (by decide +kernel) (by decide +kernel)
theorem se_Md_keep : Cond.selects "OneMournerModel" y_Md_keep y_Md_keep ∈ qBIG := q_mem 74 (by decide +kernel) (by decide +kernel)
theorem cw_Md_again : Cond.code y_Md_again b_Md_again 3 none ∈ qBIG := q_mem 1258 (by decide +kernel) (by decide +kernel)
theorem im_Md_again : Cond.instanceMethod y_Md_again ∈ qBIG := q_mem 1257 (by decide +kernel) (by decide +kernel)
theorem se_Md_again : Cond.selects "OneMournerModel" y_Md_again y_Md_again ∈ qBIG := q_mem 75 (by decide +kernel) (by decide +kernel)
theorem cw_Md_turn : Cond.code y_Md_turn b_Md_turn 4 (some .int) ∈ qBIG := q_mem 1262 (by decide +kernel) (by decide +kernel)
theorem im_Md_turn : Cond.instanceMethod y_Md_turn ∈ qBIG := q_mem 1260 (by decide +kernel) (by decide +kernel)
theorem se_Md_turn : Cond.selects "OneMournerModel" y_Md_turn y_Md_turn ∈ qBIG := q_mem 1261 (by decide +kernel) (by decide +kernel)
theorem cw_Md_empty : Cond.code y_Md_empty b_Md_empty 3 (some .int) ∈ qBIG := q_mem 1266 (by decide +kernel) (by decide +kernel)
theorem im_Md_empty : Cond.instanceMethod y_Md_empty ∈ qBIG := q_mem 1264 (by decide +kernel) (by decide +kernel)
theorem se_Md_empty : Cond.selects "OneMournerModel" y_Md_empty y_Md_empty ∈ qBIG := q_mem 1265 (by decide +kernel) (by decide +kernel)
theorem cw_Md_best : Cond.code y_Md_best b_Md_best 3 (some .int) ∈ qBIG := q_mem 1270 (by decide +kernel) (by decide +kernel)
theorem im_Md_best : Cond.instanceMethod y_Md_best ∈ qBIG := q_mem 1268 (by decide +kernel) (by decide +kernel)
theorem se_Md_best : Cond.selects "OneMournerModel" y_Md_best y_Md_best ∈ qBIG := q_mem 1269 (by decide +kernel) (by decide +kernel)
theorem cw_Md_allWays : Cond.code y_Md_allWays b_Md_allWays 3 none ∈ qBIG := q_mem 1274 (by decide +kernel) (by decide +kernel)
theorem im_Md_allWays : Cond.instanceMethod y_Md_allWays ∈ qBIG := q_mem 1273 (by decide +kernel) (by decide +kernel)
theorem se_Md_allWays : Cond.selects "OneMournerModel" y_Md_allWays y_Md_allWays ∈ qBIG := q_mem 76 (by decide +kernel) (by decide +kernel)
theorem cw_Md_tries : Cond.code y_Md_tries b_Md_tries 10 none ∈ qBIG := q_mem 1279 (by decide +kernel) (by decide +kernel)
theorem im_Md_tries : Cond.instanceMethod y_Md_tries ∈ qBIG := q_mem 1278 (by decide +kernel) (by decide +kernel)
theorem se_Md_tries : Cond.selects "OneMournerModel" y_Md_tries y_Md_tries ∈ qBIG := q_mem 77 (by decide +kernel) (by decide +kernel)
theorem cw_jM_maxL : Cond.code y_jM_maxL b_jM_maxL 4 (some .long) ∈ qBIG := q_mem 1282 (by decide +kernel) (by decide +kernel)
theorem sw_jM_maxL : Cond.static y_jM_maxL ∈ qBIG := q_mem 1281 (by decide +kernel) (by decide +kernel)
theorem cw_Md_see : Cond.code y_Md_see b_Md_see 4 (some .int) ∈ qBIG := q_mem 1286 (by decide +kernel) (by decide +kernel)
theorem im_Md_see : Cond.instanceMethod y_Md_see ∈ qBIG := q_mem 1284 (by decide +kernel) (by decide +kernel)
theorem se_Md_see : Cond.selects "OneMournerModel" y_Md_see y_Md_see ∈ qBIG := q_mem 1285 (by decide +kernel) (by decide +kernel)
theorem cw_Md_can : Cond.code y_Md_can b_Md_can 8 (some .int) ∈ qBIG := q_mem 1290 (by decide +kernel) (by decide +kernel)
theorem im_Md_can : Cond.instanceMethod y_Md_can ∈ qBIG := q_mem 1288 (by decide +kernel) (by decide +kernel)
theorem se_Md_can : Cond.selects "OneMournerModel" y_Md_can y_Md_can ∈ qBIG := q_mem 1289 (by decide +kernel) (by decide +kernel)
theorem cw_Md_getOf : Cond.code y_Md_getOf b_Md_getOf 3 (some .int) ∈ qBIG := q_mem 1294 (by decide +kernel) (by decide +kernel)
theorem im_Md_getOf : Cond.instanceMethod y_Md_getOf ∈ qBIG := q_mem 1293 (by decide +kernel) (by decide +kernel)
theorem se_Md_getOf : Cond.selects "OneMournerModel" y_Md_getOf y_Md_getOf ∈ qBIG := q_mem 78 (by decide +kernel) (by decide +kernel)
theorem cw_Md_setOf : Cond.code y_Md_setOf b_Md_setOf 4 none ∈ qBIG := q_mem 1298 (by decide +kernel) (by decide +kernel)
theorem im_Md_setOf : Cond.instanceMethod y_Md_setOf ∈ qBIG := q_mem 1297 (by decide +kernel) (by decide +kernel)
theorem se_Md_setOf : Cond.selects "OneMournerModel" y_Md_setOf y_Md_setOf ∈ qBIG := q_mem 79 (by decide +kernel) (by decide +kernel)
theorem cw_Md_isSeen : Cond.code y_Md_isSeen b_Md_isSeen 3 (some .boolean) ∈ qBIG := q_mem 1302 (by decide +kernel) (by decide +kernel)
theorem im_Md_isSeen : Cond.instanceMethod y_Md_isSeen ∈ qBIG := q_mem 1301 (by decide +kernel) (by decide +kernel)
theorem se_Md_isSeen : Cond.selects "OneMournerModel" y_Md_isSeen y_Md_isSeen ∈ qBIG := q_mem 80 (by decide +kernel) (by decide +kernel)
theorem cw_Md_odds : Cond.code y_Md_odds b_Md_odds 3 (some .long) ∈ qBIG := q_mem 1306 (by decide +kernel) (by decide +kernel)
theorem im_Md_odds : Cond.instanceMethod y_Md_odds ∈ qBIG := q_mem 1304 (by decide +kernel) (by decide +kernel)
theorem se_Md_odds : Cond.selects "OneMournerModel" y_Md_odds y_Md_odds ∈ qBIG := q_mem 1305 (by decide +kernel) (by decide +kernel)
theorem cw_Md_part : Cond.code y_Md_part b_Md_part 11 (some .long) ∈ qBIG := q_mem 1310 (by decide +kernel) (by decide +kernel)
theorem sw_Md_part : Cond.static y_Md_part ∈ qBIG := q_mem 1309 (by decide +kernel) (by decide +kernel)
theorem cw_Md_mean : Cond.code y_Md_mean b_Md_mean 2 (some .long) ∈ qBIG := q_mem 1314 (by decide +kernel) (by decide +kernel)
theorem im_Md_mean : Cond.instanceMethod y_Md_mean ∈ qBIG := q_mem 1312 (by decide +kernel) (by decide +kernel)
theorem se_Md_mean : Cond.selects "OneMournerModel" y_Md_mean y_Md_mean ∈ qBIG := q_mem 1313 (by decide +kernel) (by decide +kernel)
theorem cw_Md_plan : Cond.code y_Md_plan b_Md_plan 3 (some .int) ∈ qBIG := q_mem 1318 (by decide +kernel) (by decide +kernel)
theorem im_Md_plan : Cond.instanceMethod y_Md_plan ∈ qBIG := q_mem 1316 (by decide +kernel) (by decide +kernel)
theorem se_Md_plan : Cond.selects "OneMournerModel" y_Md_plan y_Md_plan ∈ qBIG := q_mem 1317 (by decide +kernel) (by decide +kernel)
theorem cw_Md_ends : Cond.code y_Md_ends b_Md_ends 4 (some .int) ∈ qBIG := q_mem 1322 (by decide +kernel) (by decide +kernel)
theorem im_Md_ends : Cond.instanceMethod y_Md_ends ∈ qBIG := q_mem 1320 (by decide +kernel) (by decide +kernel)
theorem se_Md_ends : Cond.selects "OneMournerModel" y_Md_ends y_Md_ends ∈ qBIG := q_mem 1321 (by decide +kernel) (by decide +kernel)
theorem cw_Md_book : Cond.code y_Md_book b_Md_book 3 (some .int) ∈ qBIG := q_mem 1326 (by decide +kernel) (by decide +kernel)
theorem im_Md_book : Cond.instanceMethod y_Md_book ∈ qBIG := q_mem 1324 (by decide +kernel) (by decide +kernel)
theorem se_Md_book : Cond.selects "OneMournerModel" y_Md_book y_Md_book ∈ qBIG := q_mem 1325 (by decide +kernel) (by decide +kernel)
theorem cw_Md_looked : Cond.code y_Md_looked b_Md_looked 2 (some .int) ∈ qBIG := q_mem 1330 (by decide +kernel) (by decide +kernel)
theorem im_Md_looked : Cond.instanceMethod y_Md_looked ∈ qBIG := q_mem 1328 (by decide +kernel) (by decide +kernel)
theorem se_Md_looked : Cond.selects "OneMournerModel" y_Md_looked y_Md_looked ∈ qBIG := q_mem 1329 (by decide +kernel) (by decide +kernel)
theorem cw_Md_judge : Cond.code y_Md_judge b_Md_judge 4 (some .int) ∈ qBIG := q_mem 1334 (by decide +kernel) (by decide +kernel)
theorem im_Md_judge : Cond.instanceMethod y_Md_judge ∈ qBIG := q_mem 1332 (by decide +kernel) (by decide +kernel)
theorem se_Md_judge : Cond.selects "OneMournerModel" y_Md_judge y_Md_judge ∈ qBIG := q_mem 1333 (by decide +kernel) (by decide +kernel)
theorem cw_Md_image : Cond.code y_Md_image b_Md_image 1 (some .int) ∈ qBIG := q_mem 1338 (by decide +kernel) (by decide +kernel)
theorem im_Md_image : Cond.instanceMethod y_Md_image ∈ qBIG := q_mem 1336 (by decide +kernel) (by decide +kernel)
theorem se_Md_image : Cond.selects "OneMournerModel" y_Md_image y_Md_image ∈ qBIG := q_mem 1337 (by decide +kernel) (by decide +kernel)
theorem cw_Md_undo : Cond.code y_Md_undo b_Md_undo 1 (some .int) ∈ qBIG := q_mem 1342 (by decide +kernel) (by decide +kernel)
theorem im_Md_undo : Cond.instanceMethod y_Md_undo ∈ qBIG := q_mem 1340 (by decide +kernel) (by decide +kernel)
theorem se_Md_undo : Cond.selects "OneMournerModel" y_Md_undo y_Md_undo ∈ qBIG := q_mem 1341 (by decide +kernel) (by decide +kernel)
theorem cw_Md_act : Cond.code y_Md_act b_Md_act 5 (some .int) ∈ qBIG := q_mem 1346 (by decide +kernel) (by decide +kernel)
theorem im_Md_act : Cond.instanceMethod y_Md_act ∈ qBIG := q_mem 1344 (by decide +kernel) (by decide +kernel)
theorem se_Md_act : Cond.selects "OneMournerModel" y_Md_act y_Md_act ∈ qBIG := q_mem 1345 (by decide +kernel) (by decide +kernel)
theorem cw_Md_weeps : Cond.code y_Md_weeps b_Md_weeps 4 (some .int) ∈ qBIG := q_mem 1350 (by decide +kernel) (by decide +kernel)
theorem im_Md_weeps : Cond.instanceMethod y_Md_weeps ∈ qBIG := q_mem 1349 (by decide +kernel) (by decide +kernel)
theorem se_Md_weeps : Cond.selects "OneMournerModel" y_Md_weeps y_Md_weeps ∈ qBIG := q_mem 81 (by decide +kernel) (by decide +kernel)
theorem cw_Md_ran : Cond.code y_Md_ran b_Md_ran 2 none ∈ qBIG := q_mem 1354 (by decide +kernel) (by decide +kernel)
theorem im_Md_ran : Cond.instanceMethod y_Md_ran ∈ qBIG := q_mem 1353 (by decide +kernel) (by decide +kernel)
theorem se_Md_ran : Cond.selects "OneMournerModel" y_Md_ran y_Md_ran ∈ qBIG := q_mem 82 (by decide +kernel) (by decide +kernel)
theorem cw_Md_above : Cond.code y_Md_above b_Md_above 1 (some .int) ∈ qBIG := q_mem 1357 (by decide +kernel) (by decide +kernel)
theorem sw_Md_above : Cond.static y_Md_above ∈ qBIG := q_mem 1356 (by decide +kernel) (by decide +kernel)
theorem cw_Md_waits : Cond.code y_Md_waits b_Md_waits 5 (some .int) ∈ qBIG := q_mem 1361 (by decide +kernel) (by decide +kernel)
theorem im_Md_waits : Cond.instanceMethod y_Md_waits ∈ qBIG := q_mem 1360 (by decide +kernel) (by decide +kernel)
theorem se_Md_waits : Cond.selects "OneMournerModel" y_Md_waits y_Md_waits ∈ qBIG := q_mem 83 (by decide +kernel) (by decide +kernel)
theorem cw_Md_tells : Cond.code y_Md_tells b_Md_tells 5 (some .int) ∈ qBIG := q_mem 1365 (by decide +kernel) (by decide +kernel)
theorem im_Md_tells : Cond.instanceMethod y_Md_tells ∈ qBIG := q_mem 1364 (by decide +kernel) (by decide +kernel)
theorem se_Md_tells : Cond.selects "OneMournerModel" y_Md_tells y_Md_tells ∈ qBIG := q_mem 84 (by decide +kernel) (by decide +kernel)
theorem cw_Md_trace : Cond.code y_Md_trace b_Md_trace 2 (some .int) ∈ qBIG := q_mem 1369 (by decide +kernel) (by decide +kernel)
theorem im_Md_trace : Cond.instanceMethod y_Md_trace ∈ qBIG := q_mem 1367 (by decide +kernel) (by decide +kernel)
theorem se_Md_trace : Cond.selects "OneMournerModel" y_Md_trace y_Md_trace ∈ qBIG := q_mem 1368 (by decide +kernel) (by decide +kernel)
theorem cw_Md_taken : Cond.code y_Md_taken b_Md_taken 4 (some .int) ∈ qBIG := q_mem 1373 (by decide +kernel) (by decide +kernel)
theorem im_Md_taken : Cond.instanceMethod y_Md_taken ∈ qBIG := q_mem 1371 (by decide +kernel) (by decide +kernel)
theorem se_Md_taken : Cond.selects "OneMournerModel" y_Md_taken y_Md_taken ∈ qBIG := q_mem 1372 (by decide +kernel) (by decide +kernel)
theorem cw_Md_count : Cond.code y_Md_count b_Md_count 2 (some .int) ∈ qBIG := q_mem 1377 (by decide +kernel) (by decide +kernel)
theorem im_Md_count : Cond.instanceMethod y_Md_count ∈ qBIG := q_mem 1375 (by decide +kernel) (by decide +kernel)
theorem se_Md_count : Cond.selects "OneMournerModel" y_Md_count y_Md_count ∈ qBIG := q_mem 1376 (by decide +kernel) (by decide +kernel)
theorem cw_Md_tape : Cond.code y_Md_tape b_Md_tape 5 (some .int) ∈ qBIG := q_mem 1381 (by decide +kernel) (by decide +kernel)
theorem im_Md_tape : Cond.instanceMethod y_Md_tape ∈ qBIG := q_mem 1379 (by decide +kernel) (by decide +kernel)
theorem se_Md_tape : Cond.selects "OneMournerModel" y_Md_tape y_Md_tape ∈ qBIG := q_mem 1380 (by decide +kernel) (by decide +kernel)
theorem cw_Md_isTape : Cond.code y_Md_isTape b_Md_isTape 1 (some .boolean) ∈ qBIG := q_mem 1384 (by decide +kernel) (by decide +kernel)
theorem sw_Md_isTape : Cond.static y_Md_isTape ∈ qBIG := q_mem 1383 (by decide +kernel) (by decide +kernel)
theorem cw_Md_item : Cond.code y_Md_item b_Md_item 5 (some .int) ∈ qBIG := q_mem 1388 (by decide +kernel) (by decide +kernel)
theorem im_Md_item : Cond.instanceMethod y_Md_item ∈ qBIG := q_mem 1386 (by decide +kernel) (by decide +kernel)
theorem se_Md_item : Cond.selects "OneMournerModel" y_Md_item y_Md_item ∈ qBIG := q_mem 1387 (by decide +kernel) (by decide +kernel)
theorem cw_Md_kept : Cond.code y_Md_kept b_Md_kept 3 (some .long) ∈ qBIG := q_mem 1391 (by decide +kernel) (by decide +kernel)
theorem sw_Md_kept : Cond.static y_Md_kept ∈ qBIG := q_mem 1390 (by decide +kernel) (by decide +kernel)
theorem cw_Md_read : Cond.code y_Md_read b_Md_read 3 (some .long) ∈ qBIG := q_mem 1395 (by decide +kernel) (by decide +kernel)
theorem im_Md_read : Cond.instanceMethod y_Md_read ∈ qBIG := q_mem 1393 (by decide +kernel) (by decide +kernel)
theorem se_Md_read : Cond.selects "OneMournerModel" y_Md_read y_Md_read ∈ qBIG := q_mem 1394 (by decide +kernel) (by decide +kernel)
theorem cw_Md_shift : Cond.code y_Md_shift b_Md_shift 7 (some .int) ∈ qBIG := q_mem 1399 (by decide +kernel) (by decide +kernel)
theorem im_Md_shift : Cond.instanceMethod y_Md_shift ∈ qBIG := q_mem 1397 (by decide +kernel) (by decide +kernel)
theorem se_Md_shift : Cond.selects "OneMournerModel" y_Md_shift y_Md_shift ∈ qBIG := q_mem 1398 (by decide +kernel) (by decide +kernel)
theorem fl_jS_38 : Cond.fieldLink "java/lang/String" 38 "java/lang/String" "COMPACT_STRINGS" "Z" ∈ qBIG := q_mem 126 (by decide +kernel) (by decide +kernel)
theorem fl_Is_9 : Cond.fieldLink "OneMourner$Island" 9 "OneMourner$Island" "codes" "[I" ∈ qBIG := q_mem 128 (by decide +kernel) (by decide +kernel)
theorem fl_Is_34 : Cond.fieldLink "OneMourner$Island" 34 "OneMourner$Island" "size" "I" ∈ qBIG := q_mem 129 (by decide +kernel) (by decide +kernel)
theorem fl_Is_15 : Cond.fieldLink "OneMourner$Island" 15 "OneMourner$Island" "more" "[I" ∈ qBIG := q_mem 130 (by decide +kernel) (by decide +kernel)
theorem fl_Is_18 : Cond.fieldLink "OneMourner$Island" 18 "OneMourner$Island" "ends" "[I" ∈ qBIG := q_mem 131 (by decide +kernel) (by decide +kernel)
theorem fl_Is_38 : Cond.fieldLink "OneMourner$Island" 38 "OneMourner$Island" "clauses" "I" ∈ qBIG := q_mem 132 (by decide +kernel) (by decide +kernel)
theorem fl_Is_41 : Cond.fieldLink "OneMourner$Island" 41 "OneMourner$Island" "lost" "I" ∈ qBIG := q_mem 133 (by decide +kernel) (by decide +kernel)
theorem fl_Is_31 : Cond.fieldLink "OneMourner$Island" 31 "OneMourner$Island" "values" "[I" ∈ qBIG := q_mem 137 (by decide +kernel) (by decide +kernel)
theorem fl_No_9 : Cond.fieldLink "OneMourner$Notes" 9 "OneMourner$Notes" "first" "[I" ∈ qBIG := q_mem 169 (by decide +kernel) (by decide +kernel)
theorem fl_No_15 : Cond.fieldLink "OneMourner$Notes" 15 "OneMourner$Notes" "second" "[I" ∈ qBIG := q_mem 172 (by decide +kernel) (by decide +kernel)
theorem fl_No_18 : Cond.fieldLink "OneMourner$Notes" 18 "OneMourner$Notes" "third" "[I" ∈ qBIG := q_mem 175 (by decide +kernel) (by decide +kernel)
theorem fl_No_21 : Cond.fieldLink "OneMourner$Notes" 21 "OneMourner$Notes" "size" "I" ∈ qBIG := q_mem 177 (by decide +kernel) (by decide +kernel)
theorem fl_Mo_15 : Cond.fieldLink "OneMourner$Mourner" 15 "OneMourner$Mourner" "number" "I" ∈ qBIG := q_mem 194 (by decide +kernel) (by decide +kernel)
theorem fl_Mo_19 : Cond.fieldLink "OneMourner$Mourner" 19 "OneMourner$Mourner" "kind" "I" ∈ qBIG := q_mem 198 (by decide +kernel) (by decide +kernel)
theorem fl_Mo_22 : Cond.fieldLink "OneMourner$Mourner" 22 "OneMourner$Mourner" "v" "I" ∈ qBIG := q_mem 202 (by decide +kernel) (by decide +kernel)
theorem fl_Mo_25 : Cond.fieldLink "OneMourner$Mourner" 25 "OneMourner$Mourner" "grief" "I" ∈ qBIG := q_mem 206 (by decide +kernel) (by decide +kernel)
theorem fl_Mo_28 : Cond.fieldLink "OneMourner$Mourner" 28 "OneMourner$Mourner" "waited" "I" ∈ qBIG := q_mem 210 (by decide +kernel) (by decide +kernel)
theorem fl_Mo_31 : Cond.fieldLink "OneMourner$Mourner" 31 "OneMourner$Mourner" "hurt" "I" ∈ qBIG := q_mem 213 (by decide +kernel) (by decide +kernel)
theorem fl_Mo_34 : Cond.fieldLink "OneMourner$Mourner" 34 "OneMourner$Mourner" "done" "Z" ∈ qBIG := q_mem 216 (by decide +kernel) (by decide +kernel)
theorem fl_Mo_9 : Cond.fieldLink "OneMourner$Mourner" 9 "OneMourner$Mourner" "row" "[I" ∈ qBIG := q_mem 219 (by decide +kernel) (by decide +kernel)
theorem fl_Mg_11 : Cond.fieldLink "OneMourner$Mourning" 11 "OneMourner$Mourning" "mourners" "[LOneMourner$Mourner;" ∈ qBIG := q_mem 238 (by decide +kernel) (by decide +kernel)
theorem fl_Mg_41 : Cond.fieldLink "OneMourner$Mourning" 41 "OneMourner$Mourning" "count" "I" ∈ qBIG := q_mem 241 (by decide +kernel) (by decide +kernel)
theorem fl_Mg_17 : Cond.fieldLink "OneMourner$Mourning" 17 "OneMourner$Mourning" "list" "[I" ∈ qBIG := q_mem 244 (by decide +kernel) (by decide +kernel)
theorem fl_Mg_49 : Cond.fieldLink "OneMourner$Mourning" 49 "OneMourner$Mourning" "listed" "I" ∈ qBIG := q_mem 247 (by decide +kernel) (by decide +kernel)
theorem fl_Mg_52 : Cond.fieldLink "OneMourner$Mourning" 52 "OneMourner$Mourning" "day" "I" ∈ qBIG := q_mem 250 (by decide +kernel) (by decide +kernel)
theorem fl_Mg_36 : Cond.fieldLink "OneMourner$Mourning" 36 "OneMourner$Mourning" "island" "LOneMourner$Island;" ∈ qBIG := q_mem 253 (by decide +kernel) (by decide +kernel)
theorem fl_Mg_26 : Cond.fieldLink "OneMourner$Mourning" 26 "OneMourner$Mourning" "seen" "LOneMourner$Notes;" ∈ qBIG := q_mem 255 (by decide +kernel) (by decide +kernel)
theorem fl_Mg_30 : Cond.fieldLink "OneMourner$Mourning" 30 "OneMourner$Mourning" "plan" "LOneMourner$Notes;" ∈ qBIG := q_mem 257 (by decide +kernel) (by decide +kernel)
theorem fl_Mg_33 : Cond.fieldLink "OneMourner$Mourning" 33 "OneMourner$Mourning" "book" "LOneMourner$Notes;" ∈ qBIG := q_mem 259 (by decide +kernel) (by decide +kernel)
theorem fl_Re_9 : Cond.fieldLink "OneMourner$Reader" 9 "OneMourner$Reader" "text" "[B" ∈ qBIG := q_mem 286 (by decide +kernel) (by decide +kernel)
theorem fl_Re_36 : Cond.fieldLink "OneMourner$Reader" 36 "OneMourner$Reader" "size" "I" ∈ qBIG := q_mem 288 (by decide +kernel) (by decide +kernel)
theorem fl_Re_20 : Cond.fieldLink "OneMourner$Reader" 20 "OneMourner$Reader" "at" "I" ∈ qBIG := q_mem 290 (by decide +kernel) (by decide +kernel)
theorem fl_Re_24 : Cond.fieldLink "OneMourner$Reader" 24 "OneMourner$Reader" "faulty" "Z" ∈ qBIG := q_mem 292 (by decide +kernel) (by decide +kernel)
theorem fl_Ro_9 : Cond.fieldLink "OneMourner$Rows" 9 "OneMourner$Rows" "hurts" "[I" ∈ qBIG := q_mem 308 (by decide +kernel) (by decide +kernel)
theorem fl_Ro_15 : Cond.fieldLink "OneMourner$Rows" 15 "OneMourner$Rows" "row" "[I" ∈ qBIG := q_mem 309 (by decide +kernel) (by decide +kernel)
theorem fl_Ro_57 : Cond.fieldLink "OneMourner$Rows" 57 "OneMourner$Rows" "size" "I" ∈ qBIG := q_mem 310 (by decide +kernel) (by decide +kernel)
theorem fl_Ro_18 : Cond.fieldLink "OneMourner$Rows" 18 "OneMourner$Rows" "least" "[I" ∈ qBIG := q_mem 312 (by decide +kernel) (by decide +kernel)
theorem fl_Ro_21 : Cond.fieldLink "OneMourner$Rows" 21 "OneMourner$Rows" "fair" "[I" ∈ qBIG := q_mem 314 (by decide +kernel) (by decide +kernel)
theorem fl_Ro_32 : Cond.fieldLink "OneMourner$Rows" 32 "OneMourner$Rows" "leastHurt" "I" ∈ qBIG := q_mem 316 (by decide +kernel) (by decide +kernel)
theorem fl_Ro_36 : Cond.fieldLink "OneMourner$Rows" 36 "OneMourner$Rows" "fairHurt" "I" ∈ qBIG := q_mem 318 (by decide +kernel) (by decide +kernel)
theorem fl_Ro_39 : Cond.fieldLink "OneMourner$Rows" 39 "OneMourner$Rows" "walked" "I" ∈ qBIG := q_mem 320 (by decide +kernel) (by decide +kernel)
theorem fl_Ro_42 : Cond.fieldLink "OneMourner$Rows" 42 "OneMourner$Rows" "upToQ" "I" ∈ qBIG := q_mem 322 (by decide +kernel) (by decide +kernel)
theorem fl_Ro_45 : Cond.fieldLink "OneMourner$Rows" 45 "OneMourner$Rows" "together" "J" ∈ qBIG := q_mem 324 (by decide +kernel) (by decide +kernel)
theorem fl_Ac_9 : Cond.fieldLink "OneMourner$Acts" 9 "OneMourner$Acts" "kept" "[I" ∈ qBIG := q_mem 353 (by decide +kernel) (by decide +kernel)
theorem fl_Ac_49 : Cond.fieldLink "OneMourner$Acts" 49 "OneMourner$Acts" "ran" "I" ∈ qBIG := q_mem 355 (by decide +kernel) (by decide +kernel)
theorem fl_Ta_11 : Cond.fieldLink "OneMourner$Tape" 11 "OneMourner$Tape" "sort" "I" ∈ qBIG := q_mem 369 (by decide +kernel) (by decide +kernel)
theorem fl_Ta_19 : Cond.fieldLink "OneMourner$Tape" 19 "OneMourner$Tape" "size" "I" ∈ qBIG := q_mem 371 (by decide +kernel) (by decide +kernel)
theorem fl_Ta_15 : Cond.fieldLink "OneMourner$Tape" 15 "OneMourner$Tape" "items" "[J" ∈ qBIG := q_mem 373 (by decide +kernel) (by decide +kernel)
theorem fl_On_12 : Cond.fieldLink "OneMourner" 12 "OneMourner" "without" "LOneMourner$Island;" ∈ qBIG := q_mem 383 (by decide +kernel) (by decide +kernel)
theorem fl_On_23 : Cond.fieldLink "OneMourner" 23 "OneMourner" "now" "LOneMourner$Mourning;" ∈ qBIG := q_mem 384 (by decide +kernel) (by decide +kernel)
theorem fl_On_27 : Cond.fieldLink "OneMourner" 27 "OneMourner" "ahead" "LOneMourner$Mourning;" ∈ qBIG := q_mem 385 (by decide +kernel) (by decide +kernel)
theorem fl_On_30 : Cond.fieldLink "OneMourner" 30 "OneMourner" "image" "LOneMourner$Mourning;" ∈ qBIG := q_mem 386 (by decide +kernel) (by decide +kernel)
theorem fl_On_258 : Cond.fieldLink "OneMourner" 258 "OneMourner" "imaged" "Z" ∈ qBIG := q_mem 387 (by decide +kernel) (by decide +kernel)
theorem fl_On_36 : Cond.fieldLink "OneMourner" 36 "OneMourner" "reader" "LOneMourner$Reader;" ∈ qBIG := q_mem 388 (by decide +kernel) (by decide +kernel)
theorem fl_On_40 : Cond.fieldLink "OneMourner" 40 "OneMourner" "blank" "LOneMourner$Island;" ∈ qBIG := q_mem 389 (by decide +kernel) (by decide +kernel)
theorem fl_On_135 : Cond.fieldLink "OneMourner" 135 "OneMourner" "islands" "I" ∈ qBIG := q_mem 390 (by decide +kernel) (by decide +kernel)
theorem fl_On_46 : Cond.fieldLink "OneMourner" 46 "OneMourner" "rows" "LOneMourner$Rows;" ∈ qBIG := q_mem 391 (by decide +kernel) (by decide +kernel)
theorem fl_On_53 : Cond.fieldLink "OneMourner" 53 "OneMourner" "acts" "LOneMourner$Acts;" ∈ qBIG := q_mem 392 (by decide +kernel) (by decide +kernel)
theorem fl_On_59 : Cond.fieldLink "OneMourner" 59 "OneMourner" "tapes" "[LOneMourner$Tape;" ∈ qBIG := q_mem 393 (by decide +kernel) (by decide +kernel)
theorem fl_jS_1053 : Cond.fieldLink "java/lang/String" 1053 "jdk/internal/util/Preconditions" "SIOOBE_FORMATTER" "Ljava/util/function/BiFunction;" ∈ qBIG := q_mem 544 (by decide +kernel) (by decide +kernel)
theorem fl_Ac_42 : Cond.fieldLink "OneMourner$Acts" 42 "OneMourner$Acts" "BODIES" "[I" ∈ qBIG := q_mem 796 (by decide +kernel) (by decide +kernel)
theorem fl_On_271 : Cond.fieldLink "OneMourner" 271 "OneMourner" "ABOVE" "[I" ∈ qBIG := q_mem 801 (by decide +kernel) (by decide +kernel)
theorem fl_Md_117 : Cond.fieldLink "OneMournerModel" 117 "OneMournerModel" "mourners" "I" ∈ qBIG := q_mem 857 (by decide +kernel) (by decide +kernel)
theorem fl_Md_9 : Cond.fieldLink "OneMournerModel" 9 "OneMournerModel" "kind" "[I" ∈ qBIG := q_mem 858 (by decide +kernel) (by decide +kernel)
theorem fl_Md_15 : Cond.fieldLink "OneMournerModel" 15 "OneMournerModel" "v" "[I" ∈ qBIG := q_mem 859 (by decide +kernel) (by decide +kernel)
theorem fl_Md_18 : Cond.fieldLink "OneMournerModel" 18 "OneMournerModel" "grief" "[I" ∈ qBIG := q_mem 860 (by decide +kernel) (by decide +kernel)
theorem fl_Md_21 : Cond.fieldLink "OneMournerModel" 21 "OneMournerModel" "waited" "[I" ∈ qBIG := q_mem 861 (by decide +kernel) (by decide +kernel)
theorem fl_Md_24 : Cond.fieldLink "OneMournerModel" 24 "OneMournerModel" "hurt" "[I" ∈ qBIG := q_mem 862 (by decide +kernel) (by decide +kernel)
theorem fl_Md_27 : Cond.fieldLink "OneMournerModel" 27 "OneMournerModel" "gone" "[I" ∈ qBIG := q_mem 863 (by decide +kernel) (by decide +kernel)
theorem fl_Md_30 : Cond.fieldLink "OneMournerModel" 30 "OneMournerModel" "rows" "[I" ∈ qBIG := q_mem 864 (by decide +kernel) (by decide +kernel)
theorem fl_Md_124 : Cond.fieldLink "OneMournerModel" 124 "OneMournerModel" "onList" "I" ∈ qBIG := q_mem 865 (by decide +kernel) (by decide +kernel)
theorem fl_Md_33 : Cond.fieldLink "OneMournerModel" 33 "OneMournerModel" "list" "[I" ∈ qBIG := q_mem 866 (by decide +kernel) (by decide +kernel)
theorem fl_Md_135 : Cond.fieldLink "OneMournerModel" 135 "OneMournerModel" "day" "I" ∈ qBIG := q_mem 867 (by decide +kernel) (by decide +kernel)
theorem fl_Md_143 : Cond.fieldLink "OneMournerModel" 143 "OneMournerModel" "texted" "I" ∈ qBIG := q_mem 868 (by decide +kernel) (by decide +kernel)
theorem fl_Md_36 : Cond.fieldLink "OneMournerModel" 36 "OneMournerModel" "text" "[I" ∈ qBIG := q_mem 869 (by decide +kernel) (by decide +kernel)
theorem fl_Md_146 : Cond.fieldLink "OneMournerModel" 146 "OneMournerModel" "at" "I" ∈ qBIG := q_mem 870 (by decide +kernel) (by decide +kernel)
theorem fl_Md_149 : Cond.fieldLink "OneMournerModel" 149 "OneMournerModel" "value" "I" ∈ qBIG := q_mem 871 (by decide +kernel) (by decide +kernel)
theorem fl_Md_152 : Cond.fieldLink "OneMournerModel" 152 "OneMournerModel" "digits" "I" ∈ qBIG := q_mem 872 (by decide +kernel) (by decide +kernel)
theorem fl_Md_187 : Cond.fieldLink "OneMournerModel" 187 "OneMournerModel" "open" "I" ∈ qBIG := q_mem 873 (by decide +kernel) (by decide +kernel)
theorem fl_Md_215 : Cond.fieldLink "OneMournerModel" 215 "OneMournerModel" "islands" "I" ∈ qBIG := q_mem 874 (by decide +kernel) (by decide +kernel)
theorem fl_Md_113 : Cond.fieldLink "OneMournerModel" 113 "OneMournerModel" "holds" "I" ∈ qBIG := q_mem 875 (by decide +kernel) (by decide +kernel)
theorem fl_Md_39 : Cond.fieldLink "OneMournerModel" 39 "OneMournerModel" "clauses" "[I" ∈ qBIG := q_mem 876 (by decide +kernel) (by decide +kernel)
theorem fl_Md_42 : Cond.fieldLink "OneMournerModel" 42 "OneMournerModel" "word" "[I" ∈ qBIG := q_mem 877 (by decide +kernel) (by decide +kernel)
theorem fl_Md_45 : Cond.fieldLink "OneMournerModel" 45 "OneMournerModel" "number" "[I" ∈ qBIG := q_mem 878 (by decide +kernel) (by decide +kernel)
theorem fl_Md_48 : Cond.fieldLink "OneMournerModel" 48 "OneMournerModel" "begins" "[I" ∈ qBIG := q_mem 879 (by decide +kernel) (by decide +kernel)
theorem fl_Md_51 : Cond.fieldLink "OneMournerModel" 51 "OneMournerModel" "length" "[I" ∈ qBIG := q_mem 880 (by decide +kernel) (by decide +kernel)
theorem fl_Md_54 : Cond.fieldLink "OneMournerModel" 54 "OneMournerModel" "code" "[I" ∈ qBIG := q_mem 881 (by decide +kernel) (by decide +kernel)
theorem fl_Md_171 : Cond.fieldLink "OneMournerModel" 171 "OneMournerModel" "coded" "I" ∈ qBIG := q_mem 882 (by decide +kernel) (by decide +kernel)
theorem fl_Md_57 : Cond.fieldLink "OneMournerModel" 57 "OneMournerModel" "stack" "[Z" ∈ qBIG := q_mem 883 (by decide +kernel) (by decide +kernel)
theorem fl_Md_314 : Cond.fieldLink "OneMournerModel" 314 "OneMournerModel" "seen" "I" ∈ qBIG := q_mem 884 (by decide +kernel) (by decide +kernel)
theorem fl_Md_61 : Cond.fieldLink "OneMournerModel" 61 "OneMournerModel" "seenOf" "[I" ∈ qBIG := q_mem 885 (by decide +kernel) (by decide +kernel)
theorem fl_Md_64 : Cond.fieldLink "OneMournerModel" 64 "OneMournerModel" "seenPain" "[I" ∈ qBIG := q_mem 886 (by decide +kernel) (by decide +kernel)
theorem fl_Md_67 : Cond.fieldLink "OneMournerModel" 67 "OneMournerModel" "seenIn" "[I" ∈ qBIG := q_mem 887 (by decide +kernel) (by decide +kernel)
theorem fl_Md_333 : Cond.fieldLink "OneMournerModel" 333 "OneMournerModel" "inPlan" "I" ∈ qBIG := q_mem 888 (by decide +kernel) (by decide +kernel)
theorem fl_Md_70 : Cond.fieldLink "OneMournerModel" 70 "OneMournerModel" "goes" "[I" ∈ qBIG := q_mem 889 (by decide +kernel) (by decide +kernel)
theorem fl_Md_73 : Cond.fieldLink "OneMournerModel" 73 "OneMournerModel" "whose" "[I" ∈ qBIG := q_mem 890 (by decide +kernel) (by decide +kernel)
theorem fl_Md_336 : Cond.fieldLink "OneMournerModel" 336 "OneMournerModel" "inBook" "I" ∈ qBIG := q_mem 891 (by decide +kernel) (by decide +kernel)
theorem fl_Md_76 : Cond.fieldLink "OneMournerModel" 76 "OneMournerModel" "booked" "[I" ∈ qBIG := q_mem 892 (by decide +kernel) (by decide +kernel)
theorem fl_Md_79 : Cond.fieldLink "OneMournerModel" 79 "OneMournerModel" "bookHurt" "[I" ∈ qBIG := q_mem 893 (by decide +kernel) (by decide +kernel)
theorem fl_Md_342 : Cond.fieldLink "OneMournerModel" 342 "OneMournerModel" "traced" "I" ∈ qBIG := q_mem 894 (by decide +kernel) (by decide +kernel)
theorem fl_Md_82 : Cond.fieldLink "OneMournerModel" 82 "OneMournerModel" "traces" "[I" ∈ qBIG := q_mem 895 (by decide +kernel) (by decide +kernel)
theorem fl_Md_339 : Cond.fieldLink "OneMournerModel" 339 "OneMournerModel" "imaged" "Z" ∈ qBIG := q_mem 896 (by decide +kernel) (by decide +kernel)
theorem fl_Md_85 : Cond.fieldLink "OneMournerModel" 85 "OneMournerModel" "image" "[I" ∈ qBIG := q_mem 897 (by decide +kernel) (by decide +kernel)
theorem fl_Md_88 : Cond.fieldLink "OneMournerModel" 88 "OneMournerModel" "ahead" "[I" ∈ qBIG := q_mem 898 (by decide +kernel) (by decide +kernel)
theorem fl_Md_91 : Cond.fieldLink "OneMournerModel" 91 "OneMournerModel" "hurts" "[I" ∈ qBIG := q_mem 899 (by decide +kernel) (by decide +kernel)
theorem fl_Md_272 : Cond.fieldLink "OneMournerModel" 272 "OneMournerModel" "left" "I" ∈ qBIG := q_mem 900 (by decide +kernel) (by decide +kernel)
theorem fl_Md_94 : Cond.fieldLink "OneMournerModel" 94 "OneMournerModel" "whoLeft" "[I" ∈ qBIG := q_mem 901 (by decide +kernel) (by decide +kernel)
theorem fl_Md_97 : Cond.fieldLink "OneMournerModel" 97 "OneMournerModel" "tried" "[I" ∈ qBIG := q_mem 902 (by decide +kernel) (by decide +kernel)
theorem fl_Md_100 : Cond.fieldLink "OneMournerModel" 100 "OneMournerModel" "best" "[I" ∈ qBIG := q_mem 903 (by decide +kernel) (by decide +kernel)
theorem fl_Md_292 : Cond.fieldLink "OneMournerModel" 292 "OneMournerModel" "least" "J" ∈ qBIG := q_mem 904 (by decide +kernel) (by decide +kernel)
theorem fl_Md_288 : Cond.fieldLink "OneMournerModel" 288 "OneMournerModel" "fair" "Z" ∈ qBIG := q_mem 905 (by decide +kernel) (by decide +kernel)
theorem fl_Md_282 : Cond.fieldLink "OneMournerModel" 282 "OneMournerModel" "bound" "J" ∈ qBIG := q_mem 906 (by decide +kernel) (by decide +kernel)
theorem fl_Md_285 : Cond.fieldLink "OneMournerModel" 285 "OneMournerModel" "fits" "J" ∈ qBIG := q_mem 907 (by decide +kernel) (by decide +kernel)
theorem fl_Md_275 : Cond.fieldLink "OneMournerModel" 275 "OneMournerModel" "allRows" "J" ∈ qBIG := q_mem 908 (by decide +kernel) (by decide +kernel)
theorem fl_Md_279 : Cond.fieldLink "OneMournerModel" 279 "OneMournerModel" "allHurts" "J" ∈ qBIG := q_mem 909 (by decide +kernel) (by decide +kernel)
theorem fl_Md_103 : Cond.fieldLink "OneMournerModel" 103 "OneMournerModel" "tapeSort" "[I" ∈ qBIG := q_mem 910 (by decide +kernel) (by decide +kernel)
theorem fl_Md_106 : Cond.fieldLink "OneMournerModel" 106 "OneMournerModel" "tapeSize" "[I" ∈ qBIG := q_mem 911 (by decide +kernel) (by decide +kernel)
theorem fl_Md_109 : Cond.fieldLink "OneMournerModel" 109 "OneMournerModel" "items" "[J" ∈ qBIG := q_mem 912 (by decide +kernel) (by decide +kernel)
theorem fl_jS_9 : Cond.fieldLink "java/lang/String" 9 "java/lang/String" "value" "[B" ∈ qBIG := q_mem 1401 (by decide +kernel) (by decide +kernel)
theorem fl_jS_15 : Cond.fieldLink "java/lang/String" 15 "java/lang/String" "coder" "B" ∈ qBIG := q_mem 1402 (by decide +kernel) (by decide +kernel)
theorem fn_Re_62 : ("OneMourner$Reader", 62, "OneMourner$Island", "lost", "I", "OneMourner") ∈ qNestF := List.mem_of_getElem? (i := 0) rfl
theorem fn_Mg_58 : ("OneMourner$Mourning", 58, "OneMourner$Island", "lost", "I", "OneMourner") ∈ qNestF := List.mem_of_getElem? (i := 1) rfl
theorem fn_On_151 : ("OneMourner", 151, "OneMourner$Island", "lost", "I", "OneMourner") ∈ qNestF := List.mem_of_getElem? (i := 2) rfl
theorem fn_Mg_112 : ("OneMourner$Mourning", 112, "OneMourner$Notes", "first", "[I", "OneMourner") ∈ qNestF := List.mem_of_getElem? (i := 3) rfl
theorem fn_On_241 : ("OneMourner", 241, "OneMourner$Notes", "first", "[I", "OneMourner") ∈ qNestF := List.mem_of_getElem? (i := 4) rfl
theorem fn_Mg_115 : ("OneMourner$Mourning", 115, "OneMourner$Notes", "second", "[I", "OneMourner") ∈ qNestF := List.mem_of_getElem? (i := 5) rfl
theorem fn_On_244 : ("OneMourner", 244, "OneMourner$Notes", "second", "[I", "OneMourner") ∈ qNestF := List.mem_of_getElem? (i := 6) rfl
theorem fn_Mg_133 : ("OneMourner$Mourning", 133, "OneMourner$Notes", "third", "[I", "OneMourner") ∈ qNestF := List.mem_of_getElem? (i := 7) rfl
theorem fn_Mg_109 : ("OneMourner$Mourning", 109, "OneMourner$Notes", "size", "I", "OneMourner") ∈ qNestF := List.mem_of_getElem? (i := 8) rfl
theorem fn_On_205 : ("OneMourner", 205, "OneMourner$Notes", "size", "I", "OneMourner") ∈ qNestF := List.mem_of_getElem? (i := 9) rfl
theorem fn_Ac_23 : ("OneMourner$Acts", 23, "OneMourner$Mourner", "number", "I", "OneMourner") ∈ qNestF := List.mem_of_getElem? (i := 10) rfl
theorem fn_Is_44 : ("OneMourner$Island", 44, "OneMourner$Mourner", "number", "I", "OneMourner") ∈ qNestF := List.mem_of_getElem? (i := 11) rfl
theorem fn_Mg_130 : ("OneMourner$Mourning", 130, "OneMourner$Mourner", "number", "I", "OneMourner") ∈ qNestF := List.mem_of_getElem? (i := 12) rfl
theorem fn_Ac_29 : ("OneMourner$Acts", 29, "OneMourner$Mourner", "kind", "I", "OneMourner") ∈ qNestF := List.mem_of_getElem? (i := 13) rfl
theorem fn_On_86 : ("OneMourner", 86, "OneMourner$Mourner", "kind", "I", "OneMourner") ∈ qNestF := List.mem_of_getElem? (i := 14) rfl
theorem fn_Is_49 : ("OneMourner$Island", 49, "OneMourner$Mourner", "kind", "I", "OneMourner") ∈ qNestF := List.mem_of_getElem? (i := 15) rfl
theorem fn_Ac_36 : ("OneMourner$Acts", 36, "OneMourner$Mourner", "v", "I", "OneMourner") ∈ qNestF := List.mem_of_getElem? (i := 16) rfl
theorem fn_On_89 : ("OneMourner", 89, "OneMourner$Mourner", "v", "I", "OneMourner") ∈ qNestF := List.mem_of_getElem? (i := 17) rfl
theorem fn_Is_52 : ("OneMourner$Island", 52, "OneMourner$Mourner", "v", "I", "OneMourner") ∈ qNestF := List.mem_of_getElem? (i := 18) rfl
theorem fn_On_92 : ("OneMourner", 92, "OneMourner$Mourner", "grief", "I", "OneMourner") ∈ qNestF := List.mem_of_getElem? (i := 19) rfl
theorem fn_Is_55 : ("OneMourner$Island", 55, "OneMourner$Mourner", "grief", "I", "OneMourner") ∈ qNestF := List.mem_of_getElem? (i := 20) rfl
theorem fn_Mg_127 : ("OneMourner$Mourning", 127, "OneMourner$Mourner", "grief", "I", "OneMourner") ∈ qNestF := List.mem_of_getElem? (i := 21) rfl
theorem fn_On_95 : ("OneMourner", 95, "OneMourner$Mourner", "waited", "I", "OneMourner") ∈ qNestF := List.mem_of_getElem? (i := 22) rfl
theorem fn_Mg_81 : ("OneMourner$Mourning", 81, "OneMourner$Mourner", "waited", "I", "OneMourner") ∈ qNestF := List.mem_of_getElem? (i := 23) rfl
theorem fn_On_98 : ("OneMourner", 98, "OneMourner$Mourner", "hurt", "I", "OneMourner") ∈ qNestF := List.mem_of_getElem? (i := 24) rfl
theorem fn_Mg_74 : ("OneMourner$Mourning", 74, "OneMourner$Mourner", "hurt", "I", "OneMourner") ∈ qNestF := List.mem_of_getElem? (i := 25) rfl
theorem fn_On_101 : ("OneMourner", 101, "OneMourner$Mourner", "done", "Z", "OneMourner") ∈ qNestF := List.mem_of_getElem? (i := 26) rfl
theorem fn_Mg_63 : ("OneMourner$Mourning", 63, "OneMourner$Mourner", "done", "Z", "OneMourner") ∈ qNestF := List.mem_of_getElem? (i := 27) rfl
theorem fn_On_125 : ("OneMourner", 125, "OneMourner$Mourner", "row", "[I", "OneMourner") ∈ qNestF := List.mem_of_getElem? (i := 28) rfl
theorem fn_On_72 : ("OneMourner", 72, "OneMourner$Mourning", "mourners", "[LOneMourner$Mourner;", "OneMourner") ∈ qNestF := List.mem_of_getElem? (i := 29) rfl
theorem fn_Ro_75 : ("OneMourner$Rows", 75, "OneMourner$Mourning", "mourners", "[LOneMourner$Mourner;", "OneMourner") ∈ qNestF := List.mem_of_getElem? (i := 30) rfl
theorem fn_On_68 : ("OneMourner", 68, "OneMourner$Mourning", "count", "I", "OneMourner") ∈ qNestF := List.mem_of_getElem? (i := 31) rfl
theorem fn_Ro_60 : ("OneMourner$Rows", 60, "OneMourner$Mourning", "count", "I", "OneMourner") ∈ qNestF := List.mem_of_getElem? (i := 32) rfl
theorem fn_On_121 : ("OneMourner", 121, "OneMourner$Mourning", "list", "[I", "OneMourner") ∈ qNestF := List.mem_of_getElem? (i := 33) rfl
theorem fn_Ro_105 : ("OneMourner$Rows", 105, "OneMourner$Mourning", "list", "[I", "OneMourner") ∈ qNestF := List.mem_of_getElem? (i := 34) rfl
theorem fn_On_118 : ("OneMourner", 118, "OneMourner$Mourning", "listed", "I", "OneMourner") ∈ qNestF := List.mem_of_getElem? (i := 35) rfl
theorem fn_Ro_102 : ("OneMourner$Rows", 102, "OneMourner$Mourning", "listed", "I", "OneMourner") ∈ qNestF := List.mem_of_getElem? (i := 36) rfl
theorem fn_Ro_69 : ("OneMourner$Rows", 69, "OneMourner$Mourning", "day", "I", "OneMourner") ∈ qNestF := List.mem_of_getElem? (i := 37) rfl
theorem fn_On_148 : ("OneMourner", 148, "OneMourner$Mourning", "day", "I", "OneMourner") ∈ qNestF := List.mem_of_getElem? (i := 38) rfl
theorem fn_On_145 : ("OneMourner", 145, "OneMourner$Mourning", "island", "LOneMourner$Island;", "OneMourner") ∈ qNestF := List.mem_of_getElem? (i := 39) rfl
theorem fn_On_201 : ("OneMourner", 201, "OneMourner$Mourning", "seen", "LOneMourner$Notes;", "OneMourner") ∈ qNestF := List.mem_of_getElem? (i := 40) rfl
theorem fn_On_232 : ("OneMourner", 232, "OneMourner$Mourning", "plan", "LOneMourner$Notes;", "OneMourner") ∈ qNestF := List.mem_of_getElem? (i := 41) rfl
theorem fn_On_238 : ("OneMourner", 238, "OneMourner$Mourning", "book", "LOneMourner$Notes;", "OneMourner") ∈ qNestF := List.mem_of_getElem? (i := 42) rfl
theorem fn_On_131 : ("OneMourner", 131, "OneMourner$Reader", "text", "[B", "OneMourner") ∈ qNestF := List.mem_of_getElem? (i := 43) rfl
theorem fn_On_128 : ("OneMourner", 128, "OneMourner$Reader", "size", "I", "OneMourner") ∈ qNestF := List.mem_of_getElem? (i := 44) rfl
theorem fn_On_142 : ("OneMourner", 142, "OneMourner$Reader", "at", "I", "OneMourner") ∈ qNestF := List.mem_of_getElem? (i := 45) rfl
theorem fn_On_194 : ("OneMourner", 194, "OneMourner$Rows", "size", "I", "OneMourner") ∈ qNestF := List.mem_of_getElem? (i := 46) rfl
theorem fn_On_195 : ("OneMourner", 195, "OneMourner$Rows", "least", "[I", "OneMourner") ∈ qNestF := List.mem_of_getElem? (i := 47) rfl
theorem fn_On_198 : ("OneMourner", 198, "OneMourner$Rows", "fair", "[I", "OneMourner") ∈ qNestF := List.mem_of_getElem? (i := 48) rfl
theorem fn_On_188 : ("OneMourner", 188, "OneMourner$Rows", "leastHurt", "I", "OneMourner") ∈ qNestF := List.mem_of_getElem? (i := 49) rfl
theorem fn_On_191 : ("OneMourner", 191, "OneMourner$Rows", "fairHurt", "I", "OneMourner") ∈ qNestF := List.mem_of_getElem? (i := 50) rfl
theorem fn_On_221 : ("OneMourner", 221, "OneMourner$Rows", "walked", "I", "OneMourner") ∈ qNestF := List.mem_of_getElem? (i := 51) rfl
theorem fn_On_218 : ("OneMourner", 218, "OneMourner$Rows", "upToQ", "I", "OneMourner") ∈ qNestF := List.mem_of_getElem? (i := 52) rfl
theorem fn_On_228 : ("OneMourner", 228, "OneMourner$Rows", "together", "J", "OneMourner") ∈ qNestF := List.mem_of_getElem? (i := 53) rfl
theorem fn_On_268 : ("OneMourner", 268, "OneMourner$Acts", "kept", "[I", "OneMourner") ∈ qNestF := List.mem_of_getElem? (i := 54) rfl
theorem fn_On_261 : ("OneMourner", 261, "OneMourner$Acts", "ran", "I", "OneMourner") ∈ qNestF := List.mem_of_getElem? (i := 55) rfl
theorem fn_On_250 : ("OneMourner", 250, "OneMourner$Tape", "sort", "I", "OneMourner") ∈ qNestF := List.mem_of_getElem? (i := 56) rfl
theorem fn_On_253 : ("OneMourner", 253, "OneMourner$Tape", "size", "I", "OneMourner") ∈ qNestF := List.mem_of_getElem? (i := 57) rfl
theorem fn_On_254 : ("OneMourner", 254, "OneMourner$Tape", "items", "[J", "OneMourner") ∈ qNestF := List.mem_of_getElem? (i := 58) rfl
theorem fn_Ac_39 : ("OneMourner$Acts", 39, "OneMourner", "ABOVE", "[I", "OneMourner") ∈ qNestF := List.mem_of_getElem? (i := 59) rfl
theorem ln_On_11 : ("OneMourner", 11, (⟨"OneMourner$Island", "<init>", "()V"⟩ : MethodName), "OneMourner") ∈ qNestM := List.mem_of_getElem? (i := 0) rfl
theorem ln_On_20 : ("OneMourner", 20, (⟨"OneMourner$Mourning", "<init>", "(LOneMourner$Island;)V"⟩ : MethodName), "OneMourner") ∈ qNestM := List.mem_of_getElem? (i := 1) rfl
theorem ln_Mg_23 : ("OneMourner$Mourning", 23, (⟨"OneMourner$Notes", "<init>", "(I)V"⟩ : MethodName), "OneMourner") ∈ qNestM := List.mem_of_getElem? (i := 2) rfl
theorem ln_Mg_40 : ("OneMourner$Mourning", 40, (⟨"OneMourner$Mourner", "<init>", "(I)V"⟩ : MethodName), "OneMourner") ∈ qNestM := List.mem_of_getElem? (i := 3) rfl
theorem ln_On_35 : ("OneMourner", 35, (⟨"OneMourner$Reader", "<init>", "()V"⟩ : MethodName), "OneMourner") ∈ qNestM := List.mem_of_getElem? (i := 4) rfl
theorem ln_On_45 : ("OneMourner", 45, (⟨"OneMourner$Rows", "<init>", "()V"⟩ : MethodName), "OneMourner") ∈ qNestM := List.mem_of_getElem? (i := 5) rfl
theorem ln_On_52 : ("OneMourner", 52, (⟨"OneMourner$Acts", "<init>", "()V"⟩ : MethodName), "OneMourner") ∈ qNestM := List.mem_of_getElem? (i := 6) rfl
theorem ln_On_63 : ("OneMourner", 63, (⟨"OneMourner$Tape", "<init>", "()V"⟩ : MethodName), "OneMourner") ∈ qNestM := List.mem_of_getElem? (i := 7) rfl
theorem ln_On_76 : ("OneMourner", 76, (⟨"OneMourner$Mourner", "comes", "(III)V"⟩ : MethodName), "OneMourner") ∈ qNestM := List.mem_of_getElem? (i := 8) rfl
theorem ln_On_109 : ("OneMourner", 109, (⟨"OneMourner$Mourning", "placeOf", "(I)I"⟩ : MethodName), "OneMourner") ∈ qNestM := List.mem_of_getElem? (i := 9) rfl
theorem ln_On_113 : ("OneMourner", 113, (⟨"OneMourner$Mourning", "painOf", "(LOneMourner$Mourner;I)I"⟩ : MethodName), "OneMourner") ∈ qNestM := List.mem_of_getElem? (i := 10) rfl
theorem ln_Mg_90 : ("OneMourner$Mourning", 90, (⟨"OneMourner$Island", "sum", "(LOneMourner$Mourner;II)I"⟩ : MethodName), "OneMourner") ∈ qNestM := List.mem_of_getElem? (i := 11) rfl
theorem ln_Is_66 : ("OneMourner$Island", 66, (⟨"OneMourner", "bit", "(Z)I"⟩ : MethodName), "OneMourner") ∈ qNestM := List.mem_of_getElem? (i := 12) rfl
theorem ln_Mg_94 : ("OneMourner$Mourning", 94, (⟨"OneMourner$Mourner", "painBy", "(III)I"⟩ : MethodName), "OneMourner") ∈ qNestM := List.mem_of_getElem? (i := 13) rfl
theorem ln_On_138 : ("OneMourner", 138, (⟨"OneMourner$Reader", "reads", "(LOneMourner$Island;)Z"⟩ : MethodName), "OneMourner") ∈ qNestM := List.mem_of_getElem? (i := 14) rfl
theorem ln_Re_15 : ("OneMourner$Reader", 15, (⟨"OneMourner$Island", "clear", "()V"⟩ : MethodName), "OneMourner") ∈ qNestM := List.mem_of_getElem? (i := 15) rfl
theorem ln_Re_68 : ("OneMourner$Reader", 68, (⟨"OneMourner$Island", "put", "(I)V"⟩ : MethodName), "OneMourner") ∈ qNestM := List.mem_of_getElem? (i := 16) rfl
theorem ln_Re_81 : ("OneMourner$Reader", 81, (⟨"OneMourner$Island", "testCode", "(III)I"⟩ : MethodName), "OneMourner") ∈ qNestM := List.mem_of_getElem? (i := 17) rfl
theorem ln_Re_58 : ("OneMourner$Reader", 58, (⟨"OneMourner$Island", "endClause", "(I)V"⟩ : MethodName), "OneMourner") ∈ qNestM := List.mem_of_getElem? (i := 18) rfl
theorem ln_On_154 : ("OneMourner", 154, (⟨"OneMourner$Mourning", "isLost", "(I)Z"⟩ : MethodName), "OneMourner") ∈ qNestM := List.mem_of_getElem? (i := 19) rfl
theorem ln_On_157 : ("OneMourner", 157, (⟨"OneMourner$Mourning", "hurtOfAll", "()I"⟩ : MethodName), "OneMourner") ∈ qNestM := List.mem_of_getElem? (i := 20) rfl
theorem ln_On_161 : ("OneMourner", 161, (⟨"OneMourner$Mourning", "howManyDone", "()I"⟩ : MethodName), "OneMourner") ∈ qNestM := List.mem_of_getElem? (i := 21) rfl
theorem ln_Mg_77 : ("OneMourner$Mourning", 77, (⟨"OneMourner", "bit", "(Z)I"⟩ : MethodName), "OneMourner") ∈ qNestM := List.mem_of_getElem? (i := 22) rfl
theorem ln_On_164 : ("OneMourner", 164, (⟨"OneMourner$Mourning", "hasDay", "()I"⟩ : MethodName), "OneMourner") ∈ qNestM := List.mem_of_getElem? (i := 23) rfl
theorem ln_On_167 : ("OneMourner", 167, (⟨"OneMourner$Rows", "agreed", "(LOneMourner$Mourning;)I"⟩ : MethodName), "OneMourner") ∈ qNestM := List.mem_of_getElem? (i := 24) rfl
theorem ln_Ro_72 : ("OneMourner$Rows", 72, (⟨"OneMourner$Mourning", "isLost", "(I)Z"⟩ : MethodName), "OneMourner") ∈ qNestM := List.mem_of_getElem? (i := 25) rfl
theorem ln_Ro_79 : ("OneMourner$Rows", 79, (⟨"OneMourner$Mourning", "painOf", "(LOneMourner$Mourner;I)I"⟩ : MethodName), "OneMourner") ∈ qNestM := List.mem_of_getElem? (i := 26) rfl
theorem ln_Ro_65 : ("OneMourner$Rows", 65, (⟨"OneMourner$Mourning", "isLeft", "(I)Z"⟩ : MethodName), "OneMourner") ∈ qNestM := List.mem_of_getElem? (i := 27) rfl
theorem ln_On_171 : ("OneMourner", 171, (⟨"OneMourner$Rows", "dear", "(LOneMourner$Mourning;Z)I"⟩ : MethodName), "OneMourner") ∈ qNestM := List.mem_of_getElem? (i := 28) rfl
theorem ln_On_175 : ("OneMourner", 175, (⟨"OneMourner$Mourning", "go", "(II)V"⟩ : MethodName), "OneMourner") ∈ qNestM := List.mem_of_getElem? (i := 29) rfl
theorem ln_On_179 : ("OneMourner", 179, (⟨"OneMourner$Mourning", "becomes", "(LOneMourner$Mourning;)V"⟩ : MethodName), "OneMourner") ∈ qNestM := List.mem_of_getElem? (i := 30) rfl
theorem ln_Mg_45 : ("OneMourner$Mourning", 45, (⟨"OneMourner$Mourner", "becomes", "(LOneMourner$Mourner;)V"⟩ : MethodName), "OneMourner") ∈ qNestM := List.mem_of_getElem? (i := 31) rfl
theorem ln_Mg_55 : ("OneMourner$Mourning", 55, (⟨"OneMourner$Notes", "becomes", "(LOneMourner$Notes;)V"⟩ : MethodName), "OneMourner") ∈ qNestM := List.mem_of_getElem? (i := 32) rfl
theorem ln_On_184 : ("OneMourner", 184, (⟨"OneMourner$Rows", "walk", "(LOneMourner$Mourning;I)V"⟩ : MethodName), "OneMourner") ∈ qNestM := List.mem_of_getElem? (i := 33) rfl
theorem ln_On_208 : ("OneMourner", 208, (⟨"OneMourner$Notes", "add", "(III)I"⟩ : MethodName), "OneMourner") ∈ qNestM := List.mem_of_getElem? (i := 34) rfl
theorem ln_On_212 : ("OneMourner", 212, (⟨"OneMourner$Mourning", "isAsSeen", "(LOneMourner$Mourner;)Z"⟩ : MethodName), "OneMourner") ∈ qNestM := List.mem_of_getElem? (i := 35) rfl
theorem ln_On_235 : ("OneMourner", 235, (⟨"OneMourner$Mourning", "goByPlan", "()V"⟩ : MethodName), "OneMourner") ∈ qNestM := List.mem_of_getElem? (i := 36) rfl
theorem ln_Mg_123 : ("OneMourner$Mourning", 123, (⟨"OneMourner", "within", "(III)Z"⟩ : MethodName), "OneMourner") ∈ qNestM := List.mem_of_getElem? (i := 37) rfl
theorem ln_On_264 : ("OneMourner", 264, (⟨"OneMourner$Acts", "body", "(LOneMourner$Mourner;IIII)I"⟩ : MethodName), "OneMourner") ∈ qNestM := List.mem_of_getElem? (i := 38) rfl
theorem ln_Ac_45 : ("OneMourner$Acts", 45, (⟨"OneMourner", "kindAbove", "(I)I"⟩ : MethodName), "OneMourner") ∈ qNestM := List.mem_of_getElem? (i := 39) rfl
theorem ln_On_277 : ("OneMourner", 277, (⟨"OneMourner$Tape", "becomes", "(II)V"⟩ : MethodName), "OneMourner") ∈ qNestM := List.mem_of_getElem? (i := 40) rfl
theorem ln_On_279 : ("OneMourner", 279, (⟨"OneMourner$Tape", "asItem", "(J)J"⟩ : MethodName), "OneMourner") ∈ qNestM := List.mem_of_getElem? (i := 41) rfl
theorem ln_Ta_22 : ("OneMourner$Tape", 22, (⟨"OneMourner", "bit", "(Z)I"⟩ : MethodName), "OneMourner") ∈ qNestM := List.mem_of_getElem? (i := 42) rfl
theorem ln_On_283 : ("OneMourner", 283, (⟨"OneMourner$Tape", "holds", "(II)Z"⟩ : MethodName), "OneMourner") ∈ qNestM := List.mem_of_getElem? (i := 43) rfl
theorem ln_Ta_26 : ("OneMourner$Tape", 26, (⟨"OneMourner", "within", "(III)Z"⟩ : MethodName), "OneMourner") ∈ qNestM := List.mem_of_getElem? (i := 44) rfl
theorem ml_L_9 : Cond.methodLink "OneMournerLaw" 9 ⟨"OneMourner", "<init>", "()V"⟩ ∈ qBIG := q_mem 105 (by decide +kernel) (by decide +kernel)
theorem ml_On_3 : Cond.methodLink "OneMourner" 3 ⟨"java/lang/Object", "<init>", "()V"⟩ ∈ qBIG := q_mem 108 (by decide +kernel) (by decide +kernel)
theorem ml_Is_3 : Cond.methodLink "OneMourner$Island" 3 ⟨"java/lang/Object", "<init>", "()V"⟩ ∈ qBIG := q_mem 116 (by decide +kernel) (by decide +kernel)
theorem ml_Is_25 : Cond.methodLink "OneMourner$Island" 25 ⟨"java/lang/String", "length", "()I"⟩ ∈ qBIG := q_mem 118 (by decide +kernel) (by decide +kernel)
theorem ml_jS_335 : Cond.methodLink "java/lang/String" 335 ⟨"java/lang/String", "coder", "()B"⟩ ∈ qBIG := q_mem 122 (by decide +kernel) (by decide +kernel)
theorem ml_Mg_3 : Cond.methodLink "OneMourner$Mourning" 3 ⟨"java/lang/Object", "<init>", "()V"⟩ ∈ qBIG := q_mem 160 (by decide +kernel) (by decide +kernel)
theorem ml_No_3 : Cond.methodLink "OneMourner$Notes" 3 ⟨"java/lang/Object", "<init>", "()V"⟩ ∈ qBIG := q_mem 168 (by decide +kernel) (by decide +kernel)
theorem ml_Mo_3 : Cond.methodLink "OneMourner$Mourner" 3 ⟨"java/lang/Object", "<init>", "()V"⟩ ∈ qBIG := q_mem 193 (by decide +kernel) (by decide +kernel)
theorem ml_Re_3 : Cond.methodLink "OneMourner$Reader" 3 ⟨"java/lang/Object", "<init>", "()V"⟩ ∈ qBIG := q_mem 285 (by decide +kernel) (by decide +kernel)
theorem ml_Ro_3 : Cond.methodLink "OneMourner$Rows" 3 ⟨"java/lang/Object", "<init>", "()V"⟩ ∈ qBIG := q_mem 307 (by decide +kernel) (by decide +kernel)
theorem ml_Ac_3 : Cond.methodLink "OneMourner$Acts" 3 ⟨"java/lang/Object", "<init>", "()V"⟩ ∈ qBIG := q_mem 352 (by decide +kernel) (by decide +kernel)
theorem ml_Ta_3 : Cond.methodLink "OneMourner$Tape" 3 ⟨"java/lang/Object", "<init>", "()V"⟩ ∈ qBIG := q_mem 368 (by decide +kernel) (by decide +kernel)
theorem ml_L_13 : Cond.methodLink "OneMournerLaw" 13 ⟨"OneMourner", "mourner", "(III)I"⟩ ∈ qBIG := q_mem 417 (by decide +kernel) (by decide +kernel)
theorem ml_On_64 : Cond.methodLink "OneMourner" 64 ⟨"OneMourner", "within", "(III)Z"⟩ ∈ qBIG := q_mem 421 (by decide +kernel) (by decide +kernel)
theorem ml_L_18 : Cond.methodLink "OneMournerLaw" 18 ⟨"OneMourner", "of", "(II)I"⟩ ∈ qBIG := q_mem 428 (by decide +kernel) (by decide +kernel)
theorem ml_On_82 : Cond.methodLink "OneMourner" 82 ⟨"OneMourner", "isMourner", "(I)Z"⟩ ∈ qBIG := q_mem 432 (by decide +kernel) (by decide +kernel)
theorem ml_On_105 : Cond.methodLink "OneMourner" 105 ⟨"OneMourner", "bit", "(Z)I"⟩ ∈ qBIG := q_mem 436 (by decide +kernel) (by decide +kernel)
theorem ml_Mg_84 : Cond.methodLink "OneMourner$Mourning" 84 ⟨"java/lang/Math", "min", "(II)I"⟩ ∈ qBIG := q_mem 447 (by decide +kernel) (by decide +kernel)
theorem ml_Is_58 : Cond.methodLink "OneMourner$Island" 58 ⟨"OneMourner$Island", "isSo", "(II)Z"⟩ ∈ qBIG := q_mem 454 (by decide +kernel) (by decide +kernel)
theorem ml_Is_62 : Cond.methodLink "OneMourner$Island" 62 ⟨"OneMourner$Island", "isTestSo", "(I)Z"⟩ ∈ qBIG := q_mem 458 (by decide +kernel) (by decide +kernel)
theorem ml_Mo_38 : Cond.methodLink "OneMourner$Mourner" 38 ⟨"OneMourner$Mourner", "saved", "(II)I"⟩ ∈ qBIG := q_mem 467 (by decide +kernel) (by decide +kernel)
theorem ml_Mo_42 : Cond.methodLink "OneMourner$Mourner" 42 ⟨"java/lang/Math", "floorMod", "(II)I"⟩ ∈ qBIG := q_mem 471 (by decide +kernel) (by decide +kernel)
theorem ml_Mg_98 : Cond.methodLink "OneMourner$Mourning" 98 ⟨"java/lang/Math", "max", "(II)I"⟩ ∈ qBIG := q_mem 474 (by decide +kernel) (by decide +kernel)
theorem ml_L_23 : Cond.methodLink "OneMournerLaw" 23 ⟨"OneMourner", "set", "(III)I"⟩ ∈ qBIG := q_mem 477 (by decide +kernel) (by decide +kernel)
theorem ml_L_27 : Cond.methodLink "OneMournerLaw" 27 ⟨"OneMourner", "done", "(IZ)I"⟩ ∈ qBIG := q_mem 482 (by decide +kernel) (by decide +kernel)
theorem ml_L_32 : Cond.methodLink "OneMournerLaw" 32 ⟨"OneMourner", "list", "(I)I"⟩ ∈ qBIG := q_mem 486 (by decide +kernel) (by decide +kernel)
theorem ml_L_37 : Cond.methodLink "OneMournerLaw" 37 ⟨"OneMourner", "swap", "(II)I"⟩ ∈ qBIG := q_mem 490 (by decide +kernel) (by decide +kernel)
theorem ml_L_41 : Cond.methodLink "OneMournerLaw" 41 ⟨"OneMourner", "row", "(III)I"⟩ ∈ qBIG := q_mem 494 (by decide +kernel) (by decide +kernel)
theorem ml_L_45 : Cond.methodLink "OneMournerLaw" 45 ⟨"OneMourner", "feed", "(I)I"⟩ ∈ qBIG := q_mem 498 (by decide +kernel) (by decide +kernel)
theorem ml_L_49 : Cond.methodLink "OneMournerLaw" 49 ⟨"OneMourner", "island", "()I"⟩ ∈ qBIG := q_mem 502 (by decide +kernel) (by decide +kernel)
theorem ml_Re_28 : Cond.methodLink "OneMourner$Reader" 28 ⟨"OneMourner$Reader", "clause", "(LOneMourner$Island;)V"⟩ ∈ qBIG := q_mem 514 (by decide +kernel) (by decide +kernel)
theorem ml_Re_32 : Cond.methodLink "OneMourner$Reader" 32 ⟨"OneMourner$Reader", "next", "()I"⟩ ∈ qBIG := q_mem 518 (by decide +kernel) (by decide +kernel)
theorem ml_Re_45 : Cond.methodLink "OneMourner$Reader" 45 ⟨"OneMourner$Reader", "take", "(Ljava/lang/String;)V"⟩ ∈ qBIG := q_mem 525 (by decide +kernel) (by decide +kernel)
theorem ml_Re_85 : Cond.methodLink "OneMourner$Reader" 85 ⟨"java/lang/String", "length", "()I"⟩ ∈ qBIG := q_mem 529 (by decide +kernel) (by decide +kernel)
theorem ml_Re_90 : Cond.methodLink "OneMourner$Reader" 90 ⟨"java/lang/String", "charAt", "(I)C"⟩ ∈ qBIG := q_mem 530 (by decide +kernel) (by decide +kernel)
theorem ml_jS_492 : Cond.methodLink "java/lang/String" 492 ⟨"java/lang/String", "isLatin1", "()Z"⟩ ∈ qBIG := q_mem 534 (by decide +kernel) (by decide +kernel)
theorem ml_jS_495 : Cond.methodLink "java/lang/String" 495 ⟨"java/lang/StringLatin1", "charAt", "([BI)C"⟩ ∈ qBIG := q_mem 538 (by decide +kernel) (by decide +kernel)
theorem ml_jL_9 : Cond.methodLink "java/lang/StringLatin1" 9 ⟨"java/lang/String", "checkIndex", "(II)V"⟩ ∈ qBIG := q_mem 541 (by decide +kernel) (by decide +kernel)
theorem ml_jS_1059 : Cond.methodLink "java/lang/String" 1059 ⟨"jdk/internal/util/Preconditions", "checkIndex", "(IILjava/util/function/BiFunction;)I"⟩ ∈ qBIG := q_mem 546 (by decide +kernel) (by decide +kernel)
theorem ml_Re_49 : Cond.methodLink "OneMourner$Reader" 49 ⟨"OneMourner$Reader", "number", "()I"⟩ ∈ qBIG := q_mem 568 (by decide +kernel) (by decide +kernel)
theorem ml_Re_54 : Cond.methodLink "OneMourner$Reader" 54 ⟨"OneMourner$Reader", "either", "(LOneMourner$Island;I)V"⟩ ∈ qBIG := q_mem 573 (by decide +kernel) (by decide +kernel)
theorem ml_Re_65 : Cond.methodLink "OneMourner$Reader" 65 ⟨"OneMourner$Reader", "one", "(LOneMourner$Island;I)V"⟩ ∈ qBIG := q_mem 577 (by decide +kernel) (by decide +kernel)
theorem ml_Re_75 : Cond.methodLink "OneMourner$Reader" 75 ⟨"OneMourner$Reader", "oneOf", "(Ljava/lang/String;)I"⟩ ∈ qBIG := q_mem 587 (by decide +kernel) (by decide +kernel)
theorem ml_L_54 : Cond.methodLink "OneMournerLaw" 54 ⟨"OneMourner", "told", "(I)I"⟩ ∈ qBIG := q_mem 599 (by decide +kernel) (by decide +kernel)
theorem ml_Mg_67 : Cond.methodLink "OneMourner$Mourning" 67 ⟨"OneMourner$Mourning", "isLost", "(I)Z"⟩ ∈ qBIG := q_mem 620 (by decide +kernel) (by decide +kernel)
theorem ml_Mg_71 : Cond.methodLink "OneMourner$Mourning" 71 ⟨"OneMourner$Mourning", "isLeft", "(I)Z"⟩ ∈ qBIG := q_mem 621 (by decide +kernel) (by decide +kernel)
theorem ml_Ro_24 : Cond.methodLink "OneMourner$Rows" 24 ⟨"OneMourner$Rows", "weigh", "(LOneMourner$Mourning;)V"⟩ ∈ qBIG := q_mem 629 (by decide +kernel) (by decide +kernel)
theorem ml_Ro_108 : Cond.methodLink "OneMourner$Rows" 108 ⟨"OneMourner$Rows", "agree", "(II)Z"⟩ ∈ qBIG := q_mem 636 (by decide +kernel) (by decide +kernel)
theorem ml_Ro_83 : Cond.methodLink "OneMourner$Rows" 83 ⟨"OneMourner$Rows", "hurtsAt", "(II)I"⟩ ∈ qBIG := q_mem 640 (by decide +kernel) (by decide +kernel)
theorem ml_Ro_112 : Cond.methodLink "OneMourner$Rows" 112 ⟨"java/lang/Math", "min", "(II)I"⟩ ∈ qBIG := q_mem 644 (by decide +kernel) (by decide +kernel)
theorem ml_Ro_87 : Cond.methodLink "OneMourner$Rows" 87 ⟨"java/lang/Math", "max", "(II)I"⟩ ∈ qBIG := q_mem 645 (by decide +kernel) (by decide +kernel)
theorem ml_Ro_28 : Cond.methodLink "OneMourner$Rows" 28 ⟨"OneMourner$Rows", "start", "(LOneMourner$Mourning;)V"⟩ ∈ qBIG := q_mem 650 (by decide +kernel) (by decide +kernel)
theorem ml_L_58 : Cond.methodLink "OneMournerLaw" 58 ⟨"OneMourner", "pass", "(I)I"⟩ ∈ qBIG := q_mem 654 (by decide +kernel) (by decide +kernel)
theorem ml_Mg_101 : Cond.methodLink "OneMourner$Mourning" 101 ⟨"OneMourner$Mourning", "hasDay", "()I"⟩ ∈ qBIG := q_mem 662 (by decide +kernel) (by decide +kernel)
theorem ml_Mg_105 : Cond.methodLink "OneMourner$Mourning" 105 ⟨"OneMourner$Mourning", "painOf", "(LOneMourner$Mourner;I)I"⟩ ∈ qBIG := q_mem 663 (by decide +kernel) (by decide +kernel)
theorem ml_L_62 : Cond.methodLink "OneMournerLaw" 62 ⟨"OneMourner", "on", "(II)I"⟩ ∈ qBIG := q_mem 664 (by decide +kernel) (by decide +kernel)
theorem ml_No_25 : Cond.methodLink "OneMourner$Notes" 25 ⟨"java/lang/Math", "min", "(II)I"⟩ ∈ qBIG := q_mem 680 (by decide +kernel) (by decide +kernel)
theorem ml_L_66 : Cond.methodLink "OneMournerLaw" 66 ⟨"OneMourner", "turn", "(I)I"⟩ ∈ qBIG := q_mem 682 (by decide +kernel) (by decide +kernel)
theorem ml_L_70 : Cond.methodLink "OneMournerLaw" 70 ⟨"OneMourner", "empty", "()I"⟩ ∈ qBIG := q_mem 686 (by decide +kernel) (by decide +kernel)
theorem ml_L_74 : Cond.methodLink "OneMournerLaw" 74 ⟨"OneMourner", "best", "(II)I"⟩ ∈ qBIG := q_mem 690 (by decide +kernel) (by decide +kernel)
theorem ml_Ro_49 : Cond.methodLink "OneMourner$Rows" 49 ⟨"OneMourner$Rows", "look", "(I)V"⟩ ∈ qBIG := q_mem 699 (by decide +kernel) (by decide +kernel)
theorem ml_Ro_92 : Cond.methodLink "OneMourner$Rows" 92 ⟨"java/lang/System", "arraycopy", "(Ljava/lang/Object;ILjava/lang/Object;II)V"⟩ ∈ qBIG := q_mem 703 (by decide +kernel) (by decide +kernel)
theorem ml_Ro_53 : Cond.methodLink "OneMourner$Rows" 53 ⟨"OneMourner$Rows", "goToNext", "()Z"⟩ ∈ qBIG := q_mem 706 (by decide +kernel) (by decide +kernel)
theorem ml_Ro_98 : Cond.methodLink "OneMourner$Rows" 98 ⟨"OneMourner$Rows", "change", "(II)V"⟩ ∈ qBIG := q_mem 710 (by decide +kernel) (by decide +kernel)
theorem ml_L_78 : Cond.methodLink "OneMournerLaw" 78 ⟨"OneMourner", "see", "(III)I"⟩ ∈ qBIG := q_mem 714 (by decide +kernel) (by decide +kernel)
theorem ml_L_82 : Cond.methodLink "OneMournerLaw" 82 ⟨"OneMourner", "can", "(III)I"⟩ ∈ qBIG := q_mem 722 (by decide +kernel) (by decide +kernel)
theorem ml_L_86 : Cond.methodLink "OneMournerLaw" 86 ⟨"OneMourner", "odds", "(II)J"⟩ ∈ qBIG := q_mem 730 (by decide +kernel) (by decide +kernel)
theorem ml_On_224 : Cond.methodLink "OneMourner" 224 ⟨"OneMourner", "inLowestTerms", "(JJI)J"⟩ ∈ qBIG := q_mem 735 (by decide +kernel) (by decide +kernel)
theorem ml_On_293 : Cond.methodLink "OneMourner" 293 ⟨"OneMourner", "commonDivisor", "(JJ)J"⟩ ∈ qBIG := q_mem 738 (by decide +kernel) (by decide +kernel)
theorem ml_L_91 : Cond.methodLink "OneMournerLaw" 91 ⟨"OneMourner", "mean", "(I)J"⟩ ∈ qBIG := q_mem 741 (by decide +kernel) (by decide +kernel)
theorem ml_L_96 : Cond.methodLink "OneMournerLaw" 96 ⟨"OneMourner", "plan", "(II)I"⟩ ∈ qBIG := q_mem 745 (by decide +kernel) (by decide +kernel)
theorem ml_L_100 : Cond.methodLink "OneMournerLaw" 100 ⟨"OneMourner", "ends", "(I)I"⟩ ∈ qBIG := q_mem 749 (by decide +kernel) (by decide +kernel)
theorem ml_Mg_119 : Cond.methodLink "OneMourner$Mourning" 119 ⟨"OneMourner$Mourning", "go", "(II)V"⟩ ∈ qBIG := q_mem 758 (by decide +kernel) (by decide +kernel)
theorem ml_L_104 : Cond.methodLink "OneMournerLaw" 104 ⟨"OneMourner", "book", "(II)I"⟩ ∈ qBIG := q_mem 760 (by decide +kernel) (by decide +kernel)
theorem ml_L_108 : Cond.methodLink "OneMournerLaw" 108 ⟨"OneMourner", "looked", "()I"⟩ ∈ qBIG := q_mem 764 (by decide +kernel) (by decide +kernel)
theorem ml_L_112 : Cond.methodLink "OneMournerLaw" 112 ⟨"OneMourner", "judge", "(II)I"⟩ ∈ qBIG := q_mem 768 (by decide +kernel) (by decide +kernel)
theorem ml_On_247 : Cond.methodLink "OneMourner" 247 ⟨"OneMourner", "isTape", "(I)Z"⟩ ∈ qBIG := q_mem 772 (by decide +kernel) (by decide +kernel)
theorem ml_L_116 : Cond.methodLink "OneMournerLaw" 116 ⟨"OneMourner", "image", "()I"⟩ ∈ qBIG := q_mem 775 (by decide +kernel) (by decide +kernel)
theorem ml_L_120 : Cond.methodLink "OneMournerLaw" 120 ⟨"OneMourner", "undo", "()I"⟩ ∈ qBIG := q_mem 779 (by decide +kernel) (by decide +kernel)
theorem ml_L_124 : Cond.methodLink "OneMournerLaw" 124 ⟨"OneMourner", "act", "(III)I"⟩ ∈ qBIG := q_mem 783 (by decide +kernel) (by decide +kernel)
theorem ml_Ac_15 : Cond.methodLink "OneMourner$Acts" 15 ⟨"OneMourner$Acts", "bodyOf", "(II)I"⟩ ∈ qBIG := q_mem 791 (by decide +kernel) (by decide +kernel)
theorem ml_Ac_19 : Cond.methodLink "OneMourner$Acts" 19 ⟨"OneMourner$Acts", "begins", "(I)V"⟩ ∈ qBIG := q_mem 802 (by decide +kernel) (by decide +kernel)
theorem ml_Ac_32 : Cond.methodLink "OneMourner$Acts" 32 ⟨"OneMourner$Acts", "body", "(LOneMourner$Mourner;IIII)I"⟩ ∈ qBIG := q_mem 806 (by decide +kernel) (by decide +kernel)
theorem ml_L_128 : Cond.methodLink "OneMournerLaw" 128 ⟨"OneMourner", "trace", "(I)I"⟩ ∈ qBIG := q_mem 807 (by decide +kernel) (by decide +kernel)
theorem ml_L_132 : Cond.methodLink "OneMournerLaw" 132 ⟨"OneMourner", "taken", "(II)I"⟩ ∈ qBIG := q_mem 811 (by decide +kernel) (by decide +kernel)
theorem ml_On_274 : Cond.methodLink "OneMourner" 274 ⟨"OneMourner", "kindAbove", "(I)I"⟩ ∈ qBIG := q_mem 815 (by decide +kernel) (by decide +kernel)
theorem ml_L_136 : Cond.methodLink "OneMournerLaw" 136 ⟨"OneMourner", "count", "(I)I"⟩ ∈ qBIG := q_mem 816 (by decide +kernel) (by decide +kernel)
theorem ml_L_140 : Cond.methodLink "OneMournerLaw" 140 ⟨"OneMourner", "tape", "(III)I"⟩ ∈ qBIG := q_mem 820 (by decide +kernel) (by decide +kernel)
theorem ml_L_146 : Cond.methodLink "OneMournerLaw" 146 ⟨"OneMourner", "item", "(IIJ)I"⟩ ∈ qBIG := q_mem 828 (by decide +kernel) (by decide +kernel)
theorem ml_L_151 : Cond.methodLink "OneMournerLaw" 151 ⟨"OneMourner", "read", "(II)J"⟩ ∈ qBIG := q_mem 837 (by decide +kernel) (by decide +kernel)
theorem ml_L_155 : Cond.methodLink "OneMournerLaw" 155 ⟨"OneMourner", "shift", "(IIIII)I"⟩ ∈ qBIG := q_mem 841 (by decide +kernel) (by decide +kernel)
theorem ml_On_287 : Cond.methodLink "OneMourner" 287 ⟨"java/lang/System", "arraycopy", "(Ljava/lang/Object;ILjava/lang/Object;II)V"⟩ ∈ qBIG := q_mem 850 (by decide +kernel) (by decide +kernel)
theorem ml_L_12 : Cond.methodLink "OneMournerLaw" 12 ⟨"OneMournerModel", "<init>", "()V"⟩ ∈ qBIG := q_mem 853 (by decide +kernel) (by decide +kernel)
theorem ml_Md_3 : Cond.methodLink "OneMournerModel" 3 ⟨"java/lang/Object", "<init>", "()V"⟩ ∈ qBIG := q_mem 856 (by decide +kernel) (by decide +kernel)
theorem ml_L_17 : Cond.methodLink "OneMournerLaw" 17 ⟨"OneMournerModel", "mourner", "(III)I"⟩ ∈ qBIG := q_mem 1027 (by decide +kernel) (by decide +kernel)
theorem ml_Md_120 : Cond.methodLink "OneMournerModel" 120 ⟨"OneMournerModel", "within", "(III)Z"⟩ ∈ qBIG := q_mem 1031 (by decide +kernel) (by decide +kernel)
theorem ml_L_22 : Cond.methodLink "OneMournerLaw" 22 ⟨"OneMournerModel", "of", "(II)I"⟩ ∈ qBIG := q_mem 1034 (by decide +kernel) (by decide +kernel)
theorem ml_Md_127 : Cond.methodLink "OneMournerModel" 127 ⟨"OneMournerModel", "isOne", "(I)Z"⟩ ∈ qBIG := q_mem 1038 (by decide +kernel) (by decide +kernel)
theorem ml_Md_131 : Cond.methodLink "OneMournerModel" 131 ⟨"OneMournerModel", "placeOf", "(I)I"⟩ ∈ qBIG := q_mem 1042 (by decide +kernel) (by decide +kernel)
theorem ml_Md_138 : Cond.methodLink "OneMournerModel" 138 ⟨"OneMournerModel", "pain", "(III)I"⟩ ∈ qBIG := q_mem 1046 (by decide +kernel) (by decide +kernel)
theorem ml_Md_232 : Cond.methodLink "OneMournerModel" 232 ⟨"OneMournerModel", "sum", "(III)I"⟩ ∈ qBIG := q_mem 1050 (by decide +kernel) (by decide +kernel)
theorem ml_Md_225 : Cond.methodLink "OneMournerModel" 225 ⟨"OneMournerModel", "isTrue", "(IIII)Z"⟩ ∈ qBIG := q_mem 1054 (by decide +kernel) (by decide +kernel)
theorem ml_Md_221 : Cond.methodLink "OneMournerModel" 221 ⟨"OneMournerModel", "letterOf", "(IIII)I"⟩ ∈ qBIG := q_mem 1058 (by decide +kernel) (by decide +kernel)
theorem ml_Md_235 : Cond.methodLink "OneMournerModel" 235 ⟨"java/lang/Math", "max", "(II)I"⟩ ∈ qBIG := q_mem 1062 (by decide +kernel) (by decide +kernel)
theorem ml_L_26 : Cond.methodLink "OneMournerLaw" 26 ⟨"OneMournerModel", "set", "(III)I"⟩ ∈ qBIG := q_mem 1063 (by decide +kernel) (by decide +kernel)
theorem ml_L_31 : Cond.methodLink "OneMournerLaw" 31 ⟨"OneMournerModel", "done", "(IZ)I"⟩ ∈ qBIG := q_mem 1068 (by decide +kernel) (by decide +kernel)
theorem ml_L_36 : Cond.methodLink "OneMournerLaw" 36 ⟨"OneMournerModel", "list", "(I)I"⟩ ∈ qBIG := q_mem 1072 (by decide +kernel) (by decide +kernel)
theorem ml_L_40 : Cond.methodLink "OneMournerLaw" 40 ⟨"OneMournerModel", "swap", "(II)I"⟩ ∈ qBIG := q_mem 1076 (by decide +kernel) (by decide +kernel)
theorem ml_L_44 : Cond.methodLink "OneMournerLaw" 44 ⟨"OneMournerModel", "row", "(III)I"⟩ ∈ qBIG := q_mem 1080 (by decide +kernel) (by decide +kernel)
theorem ml_L_48 : Cond.methodLink "OneMournerLaw" 48 ⟨"OneMournerModel", "feed", "(I)I"⟩ ∈ qBIG := q_mem 1084 (by decide +kernel) (by decide +kernel)
theorem ml_L_53 : Cond.methodLink "OneMournerLaw" 53 ⟨"OneMournerModel", "island", "()I"⟩ ∈ qBIG := q_mem 1088 (by decide +kernel) (by decide +kernel)
theorem ml_Md_218 : Cond.methodLink "OneMournerModel" 218 ⟨"OneMournerModel", "isClause", "(I)Z"⟩ ∈ qBIG := q_mem 1092 (by decide +kernel) (by decide +kernel)
theorem ml_Md_207 : Cond.methodLink "OneMournerModel" 207 ⟨"OneMournerModel", "isAll", "(Ljava/lang/String;)Z"⟩ ∈ qBIG := q_mem 1097 (by decide +kernel) (by decide +kernel)
theorem ml_Md_159 : Cond.methodLink "OneMournerModel" 159 ⟨"java/lang/String", "length", "()I"⟩ ∈ qBIG := q_mem 1101 (by decide +kernel) (by decide +kernel)
theorem ml_Md_164 : Cond.methodLink "OneMournerModel" 164 ⟨"java/lang/String", "charAt", "(I)C"⟩ ∈ qBIG := q_mem 1102 (by decide +kernel) (by decide +kernel)
theorem ml_Md_168 : Cond.methodLink "OneMournerModel" 168 ⟨"OneMournerModel", "is", "(I)Z"⟩ ∈ qBIG := q_mem 1103 (by decide +kernel) (by decide +kernel)
theorem ml_Md_181 : Cond.methodLink "OneMournerModel" 181 ⟨"OneMournerModel", "isNumber", "()Z"⟩ ∈ qBIG := q_mem 1109 (by decide +kernel) (by decide +kernel)
theorem ml_Md_155 : Cond.methodLink "OneMournerModel" 155 ⟨"OneMournerModel", "isDigit", "()Z"⟩ ∈ qBIG := q_mem 1113 (by decide +kernel) (by decide +kernel)
theorem ml_Md_196 : Cond.methodLink "OneMournerModel" 196 ⟨"OneMournerModel", "isE", "()Z"⟩ ∈ qBIG := q_mem 1117 (by decide +kernel) (by decide +kernel)
theorem ml_Md_202 : Cond.methodLink "OneMournerModel" 202 ⟨"OneMournerModel", "isT", "()Z"⟩ ∈ qBIG := q_mem 1121 (by decide +kernel) (by decide +kernel)
theorem ml_Md_193 : Cond.methodLink "OneMournerModel" 193 ⟨"OneMournerModel", "isF", "()Z"⟩ ∈ qBIG := q_mem 1125 (by decide +kernel) (by decide +kernel)
theorem ml_Md_190 : Cond.methodLink "OneMournerModel" 190 ⟨"OneMournerModel", "isOpened", "(I)Z"⟩ ∈ qBIG := q_mem 1129 (by decide +kernel) (by decide +kernel)
theorem ml_Md_184 : Cond.methodLink "OneMournerModel" 184 ⟨"OneMournerModel", "codes", "(I)Z"⟩ ∈ qBIG := q_mem 1133 (by decide +kernel) (by decide +kernel)
theorem ml_Md_199 : Cond.methodLink "OneMournerModel" 199 ⟨"OneMournerModel", "isTest", "()Z"⟩ ∈ qBIG := q_mem 1137 (by decide +kernel) (by decide +kernel)
theorem ml_Md_176 : Cond.methodLink "OneMournerModel" 176 ⟨"java/lang/String", "indexOf", "(I)I"⟩ ∈ qBIG := q_mem 1142 (by decide +kernel) (by decide +kernel)
theorem ml_jS_633 : Cond.methodLink "java/lang/String" 633 ⟨"java/lang/String", "indexOf", "(II)I"⟩ ∈ qBIG := q_mem 1146 (by decide +kernel) (by decide +kernel)
theorem ml_jS_505 : Cond.methodLink "java/lang/String" 505 ⟨"java/lang/String", "length", "()I"⟩ ∈ qBIG := q_mem 1150 (by decide +kernel) (by decide +kernel)
theorem ml_jS_637 : Cond.methodLink "java/lang/String" 637 ⟨"java/lang/StringLatin1", "indexOf", "([BIII)I"⟩ ∈ qBIG := q_mem 1151 (by decide +kernel) (by decide +kernel)
theorem ml_jL_88 : Cond.methodLink "java/lang/StringLatin1" 88 ⟨"java/lang/StringLatin1", "canEncode", "(I)Z"⟩ ∈ qBIG := q_mem 1154 (by decide +kernel) (by decide +kernel)
theorem ml_jL_92 : Cond.methodLink "java/lang/StringLatin1" 92 ⟨"java/lang/Math", "max", "(II)I"⟩ ∈ qBIG := q_mem 1157 (by decide +kernel) (by decide +kernel)
theorem ml_jL_38 : Cond.methodLink "java/lang/StringLatin1" 38 ⟨"java/lang/Math", "min", "(II)I"⟩ ∈ qBIG := q_mem 1158 (by decide +kernel) (by decide +kernel)
theorem ml_jL_95 : Cond.methodLink "java/lang/StringLatin1" 95 ⟨"java/lang/StringLatin1", "indexOfChar", "([BIII)I"⟩ ∈ qBIG := q_mem 1159 (by decide +kernel) (by decide +kernel)
theorem ml_L_61 : Cond.methodLink "OneMournerLaw" 61 ⟨"OneMournerModel", "pass", "(I)I"⟩ ∈ qBIG := q_mem 1198 (by decide +kernel) (by decide +kernel)
theorem ml_Md_250 : Cond.methodLink "OneMournerModel" 250 ⟨"OneMournerModel", "goesDay", "()V"⟩ ∈ qBIG := q_mem 1202 (by decide +kernel) (by decide +kernel)
theorem ml_Md_244 : Cond.methodLink "OneMournerModel" 244 ⟨"OneMournerModel", "todays", "()I"⟩ ∈ qBIG := q_mem 1206 (by decide +kernel) (by decide +kernel)
theorem ml_Md_241 : Cond.methodLink "OneMournerModel" 241 ⟨"OneMournerModel", "isLost", "(I)Z"⟩ ∈ qBIG := q_mem 1210 (by decide +kernel) (by decide +kernel)
theorem ml_Md_229 : Cond.methodLink "OneMournerModel" 229 ⟨"OneMournerModel", "lostBy", "()I"⟩ ∈ qBIG := q_mem 1214 (by decide +kernel) (by decide +kernel)
theorem ml_Md_247 : Cond.methodLink "OneMournerModel" 247 ⟨"java/lang/Math", "min", "(II)I"⟩ ∈ qBIG := q_mem 1218 (by decide +kernel) (by decide +kernel)
theorem ml_L_57 : Cond.methodLink "OneMournerLaw" 57 ⟨"OneMournerModel", "told", "(I)I"⟩ ∈ qBIG := q_mem 1219 (by decide +kernel) (by decide +kernel)
theorem ml_Md_253 : Cond.methodLink "OneMournerModel" 253 ⟨"OneMournerModel", "allHurt", "()I"⟩ ∈ qBIG := q_mem 1223 (by decide +kernel) (by decide +kernel)
theorem ml_Md_256 : Cond.methodLink "OneMournerModel" 256 ⟨"OneMournerModel", "allDone", "()I"⟩ ∈ qBIG := q_mem 1227 (by decide +kernel) (by decide +kernel)
theorem ml_Md_259 : Cond.methodLink "OneMournerModel" 259 ⟨"OneMournerModel", "agreed", "()I"⟩ ∈ qBIG := q_mem 1231 (by decide +kernel) (by decide +kernel)
theorem ml_Md_302 : Cond.methodLink "OneMournerModel" 302 ⟨"OneMournerModel", "looks", "()V"⟩ ∈ qBIG := q_mem 1235 (by decide +kernel) (by decide +kernel)
theorem ml_Md_311 : Cond.methodLink "OneMournerModel" 311 ⟨"OneMournerModel", "turnOf", "(I)I"⟩ ∈ qBIG := q_mem 1239 (by decide +kernel) (by decide +kernel)
theorem ml_Md_262 : Cond.methodLink "OneMournerModel" 262 ⟨"OneMournerModel", "dear", "(I)I"⟩ ∈ qBIG := q_mem 1243 (by decide +kernel) (by decide +kernel)
theorem ml_L_65 : Cond.methodLink "OneMournerLaw" 65 ⟨"OneMournerModel", "on", "(II)I"⟩ ∈ qBIG := q_mem 1247 (by decide +kernel) (by decide +kernel)
theorem ml_Md_265 : Cond.methodLink "OneMournerModel" 265 ⟨"OneMournerModel", "keep", "([I)V"⟩ ∈ qBIG := q_mem 1251 (by decide +kernel) (by decide +kernel)
theorem ml_Md_269 : Cond.methodLink "OneMournerModel" 269 ⟨"OneMournerModel", "again", "([I)V"⟩ ∈ qBIG := q_mem 1255 (by decide +kernel) (by decide +kernel)
theorem ml_L_69 : Cond.methodLink "OneMournerLaw" 69 ⟨"OneMournerModel", "turn", "(I)I"⟩ ∈ qBIG := q_mem 1259 (by decide +kernel) (by decide +kernel)
theorem ml_L_73 : Cond.methodLink "OneMournerLaw" 73 ⟨"OneMournerModel", "empty", "()I"⟩ ∈ qBIG := q_mem 1263 (by decide +kernel) (by decide +kernel)
theorem ml_L_77 : Cond.methodLink "OneMournerLaw" 77 ⟨"OneMournerModel", "best", "(II)I"⟩ ∈ qBIG := q_mem 1267 (by decide +kernel) (by decide +kernel)
theorem ml_Md_307 : Cond.methodLink "OneMournerModel" 307 ⟨"OneMournerModel", "allWays", "(ZI)V"⟩ ∈ qBIG := q_mem 1271 (by decide +kernel) (by decide +kernel)
theorem ml_Md_298 : Cond.methodLink "OneMournerModel" 298 ⟨"OneMournerModel", "tries", "(IIJJ)V"⟩ ∈ qBIG := q_mem 1276 (by decide +kernel) (by decide +kernel)
theorem ml_Md_295 : Cond.methodLink "OneMournerModel" 295 ⟨"java/lang/Math", "max", "(JJ)J"⟩ ∈ qBIG := q_mem 1280 (by decide +kernel) (by decide +kernel)
theorem ml_L_81 : Cond.methodLink "OneMournerLaw" 81 ⟨"OneMournerModel", "see", "(III)I"⟩ ∈ qBIG := q_mem 1283 (by decide +kernel) (by decide +kernel)
theorem ml_L_85 : Cond.methodLink "OneMournerLaw" 85 ⟨"OneMournerModel", "can", "(III)I"⟩ ∈ qBIG := q_mem 1287 (by decide +kernel) (by decide +kernel)
theorem ml_Md_317 : Cond.methodLink "OneMournerModel" 317 ⟨"OneMournerModel", "getOf", "(II)I"⟩ ∈ qBIG := q_mem 1291 (by decide +kernel) (by decide +kernel)
theorem ml_Md_320 : Cond.methodLink "OneMournerModel" 320 ⟨"OneMournerModel", "setOf", "(III)V"⟩ ∈ qBIG := q_mem 1295 (by decide +kernel) (by decide +kernel)
theorem ml_Md_324 : Cond.methodLink "OneMournerModel" 324 ⟨"OneMournerModel", "isSeen", "(I)Z"⟩ ∈ qBIG := q_mem 1299 (by decide +kernel) (by decide +kernel)
theorem ml_L_90 : Cond.methodLink "OneMournerLaw" 90 ⟨"OneMournerModel", "odds", "(II)J"⟩ ∈ qBIG := q_mem 1303 (by decide +kernel) (by decide +kernel)
theorem ml_Md_329 : Cond.methodLink "OneMournerModel" 329 ⟨"OneMournerModel", "part", "(JJI)J"⟩ ∈ qBIG := q_mem 1308 (by decide +kernel) (by decide +kernel)
theorem ml_L_95 : Cond.methodLink "OneMournerLaw" 95 ⟨"OneMournerModel", "mean", "(I)J"⟩ ∈ qBIG := q_mem 1311 (by decide +kernel) (by decide +kernel)
theorem ml_L_99 : Cond.methodLink "OneMournerLaw" 99 ⟨"OneMournerModel", "plan", "(II)I"⟩ ∈ qBIG := q_mem 1315 (by decide +kernel) (by decide +kernel)
theorem ml_L_103 : Cond.methodLink "OneMournerLaw" 103 ⟨"OneMournerModel", "ends", "(I)I"⟩ ∈ qBIG := q_mem 1319 (by decide +kernel) (by decide +kernel)
theorem ml_L_107 : Cond.methodLink "OneMournerLaw" 107 ⟨"OneMournerModel", "book", "(II)I"⟩ ∈ qBIG := q_mem 1323 (by decide +kernel) (by decide +kernel)
theorem ml_L_111 : Cond.methodLink "OneMournerLaw" 111 ⟨"OneMournerModel", "looked", "()I"⟩ ∈ qBIG := q_mem 1327 (by decide +kernel) (by decide +kernel)
theorem ml_L_115 : Cond.methodLink "OneMournerLaw" 115 ⟨"OneMournerModel", "judge", "(II)I"⟩ ∈ qBIG := q_mem 1331 (by decide +kernel) (by decide +kernel)
theorem ml_L_119 : Cond.methodLink "OneMournerLaw" 119 ⟨"OneMournerModel", "image", "()I"⟩ ∈ qBIG := q_mem 1335 (by decide +kernel) (by decide +kernel)
theorem ml_L_123 : Cond.methodLink "OneMournerLaw" 123 ⟨"OneMournerModel", "undo", "()I"⟩ ∈ qBIG := q_mem 1339 (by decide +kernel) (by decide +kernel)
theorem ml_L_127 : Cond.methodLink "OneMournerLaw" 127 ⟨"OneMournerModel", "act", "(III)I"⟩ ∈ qBIG := q_mem 1343 (by decide +kernel) (by decide +kernel)
theorem ml_Md_349 : Cond.methodLink "OneMournerModel" 349 ⟨"OneMournerModel", "weeps", "(III)I"⟩ ∈ qBIG := q_mem 1347 (by decide +kernel) (by decide +kernel)
theorem ml_Md_345 : Cond.methodLink "OneMournerModel" 345 ⟨"OneMournerModel", "ran", "(I)V"⟩ ∈ qBIG := q_mem 1351 (by decide +kernel) (by decide +kernel)
theorem ml_Md_352 : Cond.methodLink "OneMournerModel" 352 ⟨"OneMournerModel", "above", "(I)I"⟩ ∈ qBIG := q_mem 1355 (by decide +kernel) (by decide +kernel)
theorem ml_Md_355 : Cond.methodLink "OneMournerModel" 355 ⟨"OneMournerModel", "waits", "(III)I"⟩ ∈ qBIG := q_mem 1358 (by decide +kernel) (by decide +kernel)
theorem ml_Md_358 : Cond.methodLink "OneMournerModel" 358 ⟨"OneMournerModel", "tells", "(III)I"⟩ ∈ qBIG := q_mem 1362 (by decide +kernel) (by decide +kernel)
theorem ml_L_131 : Cond.methodLink "OneMournerLaw" 131 ⟨"OneMournerModel", "trace", "(I)I"⟩ ∈ qBIG := q_mem 1366 (by decide +kernel) (by decide +kernel)
theorem ml_L_135 : Cond.methodLink "OneMournerLaw" 135 ⟨"OneMournerModel", "taken", "(II)I"⟩ ∈ qBIG := q_mem 1370 (by decide +kernel) (by decide +kernel)
theorem ml_L_139 : Cond.methodLink "OneMournerLaw" 139 ⟨"OneMournerModel", "count", "(I)I"⟩ ∈ qBIG := q_mem 1374 (by decide +kernel) (by decide +kernel)
theorem ml_L_143 : Cond.methodLink "OneMournerLaw" 143 ⟨"OneMournerModel", "tape", "(III)I"⟩ ∈ qBIG := q_mem 1378 (by decide +kernel) (by decide +kernel)
theorem ml_Md_361 : Cond.methodLink "OneMournerModel" 361 ⟨"OneMournerModel", "isTape", "(I)Z"⟩ ∈ qBIG := q_mem 1382 (by decide +kernel) (by decide +kernel)
theorem ml_L_150 : Cond.methodLink "OneMournerLaw" 150 ⟨"OneMournerModel", "item", "(IIJ)I"⟩ ∈ qBIG := q_mem 1385 (by decide +kernel) (by decide +kernel)
theorem ml_Md_364 : Cond.methodLink "OneMournerModel" 364 ⟨"OneMournerModel", "kept", "(IJ)J"⟩ ∈ qBIG := q_mem 1389 (by decide +kernel) (by decide +kernel)
theorem ml_L_154 : Cond.methodLink "OneMournerLaw" 154 ⟨"OneMournerModel", "read", "(II)J"⟩ ∈ qBIG := q_mem 1392 (by decide +kernel) (by decide +kernel)
theorem ml_L_159 : Cond.methodLink "OneMournerLaw" 159 ⟨"OneMournerModel", "shift", "(IIIII)I"⟩ ∈ qBIG := q_mem 1396 (by decide +kernel) (by decide +kernel)
theorem ct_On_117 : Cond.constant "OneMourner" 117 (99999) ∈ qBIG := q_mem 481 (by decide +kernel) (by decide +kernel)
theorem ct_On_183 : Cond.constant "OneMourner" 183 (2147483647) ∈ qBIG := q_mem 681 (by decide +kernel) (by decide +kernel)
theorem ct_Ro_31 : Cond.constant "OneMourner$Rows" 31 (2147483647) ∈ qBIG := q_mem 698 (by decide +kernel) (by decide +kernel)
theorem ct_Mg_118 : Cond.constant "OneMourner$Mourning" 118 (2147483647) ∈ qBIG := q_mem 757 (by decide +kernel) (by decide +kernel)
theorem ct_Md_142 : Cond.constant "OneMournerModel" 142 (99999) ∈ qBIG := q_mem 1067 (by decide +kernel) (by decide +kernel)
theorem ct_xjavalangStringUTF16_227 : Cond.constant "java/lang/StringUTF16" 227 (65536) ∈ qBIG := q_mem 1167 (by decide +kernel) (by decide +kernel)
theorem ct_xjavalangCharacter_110 : Cond.constant "java/lang/Character" 110 (55232) ∈ qBIG := q_mem 1192 (by decide +kernel) (by decide +kernel)
theorem ct_xjavalangCharacter_76 : Cond.constant "java/lang/Character" 76 (56320) ∈ qBIG := q_mem 1196 (by decide +kernel) (by decide +kernel)
theorem cl_On_216 : Cond.constantLong "OneMourner" 216 (-9223372036854775808) ∈ qBIG := q_mem 734 (by decide +kernel) (by decide +kernel)
theorem cl_Md_305 : Cond.constantLong "OneMournerModel" 305 (-1) ∈ qBIG := q_mem 1275 (by decide +kernel) (by decide +kernel)
theorem cl_Md_327 : Cond.constantLong "OneMournerModel" 327 (-9223372036854775808) ∈ qBIG := q_mem 1307 (by decide +kernel) (by decide +kernel)
theorem cl_L_144 : Cond.constantLong "OneMournerLaw" 144 (4294967295) ∈ qBIG := q_mem 1400 (by decide +kernel) (by decide +kernel)
theorem ck_L_7 : Cond.classLink "OneMournerLaw" 7 "OneMourner" ∈ qBIG := q_mem 103 (by decide +kernel) (by decide +kernel)
theorem ck_On_9 : Cond.classLink "OneMourner" 9 "OneMourner$Island" ∈ qBIG := q_mem 111 (by decide +kernel) (by decide +kernel)
theorem ck_On_18 : Cond.classLink "OneMourner" 18 "OneMourner$Mourning" ∈ qBIG := q_mem 155 (by decide +kernel) (by decide +kernel)
theorem ck_Mg_9 : Cond.classLink "OneMourner$Mourning" 9 "OneMourner$Mourner" ∈ qBIG := q_mem 161 (by decide +kernel) (by decide +kernel)
theorem ck_Mg_21 : Cond.classLink "OneMourner$Mourning" 21 "OneMourner$Notes" ∈ qBIG := q_mem 163 (by decide +kernel) (by decide +kernel)
theorem ck_On_33 : Cond.classLink "OneMourner" 33 "OneMourner$Reader" ∈ qBIG := q_mem 280 (by decide +kernel) (by decide +kernel)
theorem ck_On_43 : Cond.classLink "OneMourner" 43 "OneMourner$Rows" ∈ qBIG := q_mem 302 (by decide +kernel) (by decide +kernel)
theorem ck_On_50 : Cond.classLink "OneMourner" 50 "OneMourner$Acts" ∈ qBIG := q_mem 347 (by decide +kernel) (by decide +kernel)
theorem ck_On_57 : Cond.classLink "OneMourner" 57 "OneMourner$Tape" ∈ qBIG := q_mem 362 (by decide +kernel) (by decide +kernel)
theorem ck_L_10 : Cond.classLink "OneMournerLaw" 10 "OneMournerModel" ∈ qBIG := q_mem 851 (by decide +kernel) (by decide +kernel)
theorem ia_Ac : Cond.instantiable "OneMourner$Acts" 2 ∈ qBIG := q_mem 348 (by decide +kernel) (by decide +kernel)
theorem la_Ac : ∀ w ∈ u_ws R_Ac T_Ac 2, w ∈ qBIG := by
  have h : u_ws R_Ac T_Ac 2 = ([357, 359] : List Nat).filterMap (fun i => lw_tbl[i]?) := by decide +kernel
  have hg : (u_ws R_Ac T_Ac 2).all goodWord = true := by decide +kernel
  intro w hw
  refine List.mem_filter.mpr ⟨?_, List.all_eq_true.mp hg w hw⟩
  rw [h] at hw
  obtain ⟨i, -, hi⟩ := List.mem_filterMap.mp hw
  exact List.mem_of_getElem? hi
theorem ia_Is : Cond.instantiable "OneMourner$Island" 7 ∈ qBIG := q_mem 112 (by decide +kernel) (by decide +kernel)
theorem la_Is : ∀ w ∈ u_ws R_Is T_Is 7, w ∈ qBIG := by
  have h : u_ws R_Is T_Is 7 = ([138, 140, 142, 144, 146, 148, 150] : List Nat).filterMap (fun i => lw_tbl[i]?) := by decide +kernel
  have hg : (u_ws R_Is T_Is 7).all goodWord = true := by decide +kernel
  intro w hw
  refine List.mem_filter.mpr ⟨?_, List.all_eq_true.mp hg w hw⟩
  rw [h] at hw
  obtain ⟨i, -, hi⟩ := List.mem_filterMap.mp hw
  exact List.mem_of_getElem? hi
theorem ia_Mo : Cond.instantiable "OneMourner$Mourner" 8 ∈ qBIG := q_mem 189 (by decide +kernel) (by decide +kernel)
theorem la_Mo : ∀ w ∈ u_ws R_Mo T_Mo 8, w ∈ qBIG := by
  have h : u_ws R_Mo T_Mo 8 = ([221, 223, 225, 227, 229, 231, 233, 235] : List Nat).filterMap (fun i => lw_tbl[i]?) := by decide +kernel
  have hg : (u_ws R_Mo T_Mo 8).all goodWord = true := by decide +kernel
  intro w hw
  refine List.mem_filter.mpr ⟨?_, List.all_eq_true.mp hg w hw⟩
  rw [h] at hw
  obtain ⟨i, -, hi⟩ := List.mem_filterMap.mp hw
  exact List.mem_of_getElem? hi
theorem ia_Mg : Cond.instantiable "OneMourner$Mourning" 9 ∈ qBIG := q_mem 156 (by decide +kernel) (by decide +kernel)
theorem la_Mg : ∀ w ∈ u_ws R_Mg T_Mg 9, w ∈ qBIG := by
  have h : u_ws R_Mg T_Mg 9 = ([261, 263, 265, 267, 269, 271, 273, 275, 277] : List Nat).filterMap (fun i => lw_tbl[i]?) := by decide +kernel
  have hg : (u_ws R_Mg T_Mg 9).all goodWord = true := by decide +kernel
  intro w hw
  refine List.mem_filter.mpr ⟨?_, List.all_eq_true.mp hg w hw⟩
  rw [h] at hw
  obtain ⟨i, -, hi⟩ := List.mem_filterMap.mp hw
  exact List.mem_of_getElem? hi
theorem ia_No : Cond.instantiable "OneMourner$Notes" 4 ∈ qBIG := q_mem 164 (by decide +kernel) (by decide +kernel)
theorem la_No : ∀ w ∈ u_ws R_No T_No 4, w ∈ qBIG := by
  have h : u_ws R_No T_No 4 = ([180, 182, 184, 186] : List Nat).filterMap (fun i => lw_tbl[i]?) := by decide +kernel
  have hg : (u_ws R_No T_No 4).all goodWord = true := by decide +kernel
  intro w hw
  refine List.mem_filter.mpr ⟨?_, List.all_eq_true.mp hg w hw⟩
  rw [h] at hw
  obtain ⟨i, -, hi⟩ := List.mem_filterMap.mp hw
  exact List.mem_of_getElem? hi
theorem ia_Re : Cond.instantiable "OneMourner$Reader" 4 ∈ qBIG := q_mem 281 (by decide +kernel) (by decide +kernel)
theorem la_Re : ∀ w ∈ u_ws R_Re T_Re 4, w ∈ qBIG := by
  have h : u_ws R_Re T_Re 4 = ([293, 295, 297, 299] : List Nat).filterMap (fun i => lw_tbl[i]?) := by decide +kernel
  have hg : (u_ws R_Re T_Re 4).all goodWord = true := by decide +kernel
  intro w hw
  refine List.mem_filter.mpr ⟨?_, List.all_eq_true.mp hg w hw⟩
  rw [h] at hw
  obtain ⟨i, -, hi⟩ := List.mem_filterMap.mp hw
  exact List.mem_of_getElem? hi
theorem ia_Ro : Cond.instantiable "OneMourner$Rows" 10 ∈ qBIG := q_mem 303 (by decide +kernel) (by decide +kernel)
theorem la_Ro : ∀ w ∈ u_ws R_Ro T_Ro 10, w ∈ qBIG := by
  have h : u_ws R_Ro T_Ro 10 = ([326, 328, 330, 332, 334, 336, 338, 340, 342, 344] : List Nat).filterMap (fun i => lw_tbl[i]?) := by decide +kernel
  have hg : (u_ws R_Ro T_Ro 10).all goodWord = true := by decide +kernel
  intro w hw
  refine List.mem_filter.mpr ⟨?_, List.all_eq_true.mp hg w hw⟩
  rw [h] at hw
  obtain ⟨i, -, hi⟩ := List.mem_filterMap.mp hw
  exact List.mem_of_getElem? hi
theorem ia_Ta : Cond.instantiable "OneMourner$Tape" 3 ∈ qBIG := q_mem 364 (by decide +kernel) (by decide +kernel)
theorem la_Ta : ∀ w ∈ u_ws R_Ta T_Ta 3, w ∈ qBIG := by
  have h : u_ws R_Ta T_Ta 3 = ([375, 377, 379] : List Nat).filterMap (fun i => lw_tbl[i]?) := by decide +kernel
  have hg : (u_ws R_Ta T_Ta 3).all goodWord = true := by decide +kernel
  intro w hw
  refine List.mem_filter.mpr ⟨?_, List.all_eq_true.mp hg w hw⟩
  rw [h] at hw
  obtain ⟨i, -, hi⟩ := List.mem_filterMap.mp hw
  exact List.mem_of_getElem? hi
theorem ia_On : Cond.instantiable "OneMourner" 11 ∈ qBIG := q_mem 104 (by decide +kernel) (by decide +kernel)
theorem la_On : ∀ w ∈ u_ws R_On T_On 11, w ∈ qBIG := by
  have h : u_ws R_On T_On 11 = ([394, 396, 398, 400, 402, 404, 406, 408, 410, 412, 414] : List Nat).filterMap (fun i => lw_tbl[i]?) := by decide +kernel
  have hg : (u_ws R_On T_On 11).all goodWord = true := by decide +kernel
  intro w hw
  refine List.mem_filter.mpr ⟨?_, List.all_eq_true.mp hg w hw⟩
  rw [h] at hw
  obtain ⟨i, -, hi⟩ := List.mem_filterMap.mp hw
  exact List.mem_of_getElem? hi
theorem ia_Md : Cond.instantiable "OneMournerModel" 56 ∈ qBIG := q_mem 852 (by decide +kernel) (by decide +kernel)
theorem la_Md : ∀ w ∈ u_ws R_Md T_Md 56, w ∈ qBIG := by
  have h : u_ws R_Md T_Md 56 = ([913, 915, 917, 919, 921, 923, 925, 927, 929, 931, 933, 935, 937, 939, 941, 943, 945, 947, 949, 951, 953, 955, 957, 959, 961, 963, 965, 967, 969, 971, 973, 975, 977, 979, 981, 983, 985, 987, 989, 991, 993, 995, 997, 999, 1001, 1003, 1005, 1007, 1009, 1011, 1013, 1015, 1017, 1019, 1021, 1023] : List Nat).filterMap (fun i => lw_tbl[i]?) := by decide +kernel
  have hg : (u_ws R_Md T_Md 56).all goodWord = true := by decide +kernel
  intro w hw
  refine List.mem_filter.mpr ⟨?_, List.all_eq_true.mp hg w hw⟩
  rw [h] at hw
  obtain ⟨i, -, hi⟩ := List.mem_filterMap.mp hw
  exact List.mem_of_getElem? hi
theorem ac_int : Cond.arrayClass .int ∈ qBIG := q_mem 153 (by decide +kernel) (by decide +kernel)
theorem ac_long : Cond.arrayClass .long ∈ qBIG := q_mem 382 (by decide +kernel) (by decide +kernel)
theorem ac_byte : Cond.arrayClass .byte ∈ qBIG := q_mem 154 (by decide +kernel) (by decide +kernel)
theorem ac_boolean : Cond.arrayClass .boolean ∈ qBIG := q_mem 1026 (by decide +kernel) (by decide +kernel)
