section
-- ===== PART A: goes FIRST, ahead of the names: the tables' words, and 'selects' of the private methods out of them =====
/-- a private method of a class that the tables say can be made, by its rows of tables_1 -/
def lw_okq (q : MethodName × Nat) : Prop := (q.1.cls ≠ "java/lang/invoke/MethodHandle" ∧ q.1.cls ≠ "java/lang/invoke/VarHandle") ∧ Cond.instantiable q.1.cls q.2 ∈ tables_1 ∧ Cond.privateMethod q.1 ∈ tables_1 ∧ Cond.instanceMethod q.1 ∈ tables_1
theorem lw_p0 : lw_okq (⟨"CutBoard$Board", "isTold", "()Z"⟩, 10) := ⟨⟨by decide +kernel, by decide +kernel⟩, List.mem_of_getElem? (i := 131) (by decide +kernel), List.mem_of_getElem? (i := 247) (by decide +kernel), List.mem_of_getElem? (i := 248) (by decide +kernel)⟩
theorem lw_p1 : lw_okq (⟨"CutBoard$Area", "liesOn", "(II)Z"⟩, 4) := ⟨⟨by decide +kernel, by decide +kernel⟩, List.mem_of_getElem? (i := 289) (by decide +kernel), List.mem_of_getElem? (i := 314) (by decide +kernel), List.mem_of_getElem? (i := 315) (by decide +kernel)⟩
theorem lw_p2 : lw_okq (⟨"CutBoard$Board", "standsInOutPiece", "(LCutBoard$Area;)Z"⟩, 10) := ⟨⟨by decide +kernel, by decide +kernel⟩, List.mem_of_getElem? (i := 131) (by decide +kernel), List.mem_of_getElem? (i := 318) (by decide +kernel), List.mem_of_getElem? (i := 319) (by decide +kernel)⟩
theorem lw_p3 : lw_okq (⟨"CutBoard$Area", "covers", "(I)Z"⟩, 4) := ⟨⟨by decide +kernel, by decide +kernel⟩, List.mem_of_getElem? (i := 289) (by decide +kernel), List.mem_of_getElem? (i := 322) (by decide +kernel), List.mem_of_getElem? (i := 323) (by decide +kernel)⟩
theorem lw_p4 : lw_okq (⟨"CutBoard$Board", "stands", "(I)Z"⟩, 10) := ⟨⟨by decide +kernel, by decide +kernel⟩, List.mem_of_getElem? (i := 131) (by decide +kernel), List.mem_of_getElem? (i := 327) (by decide +kernel), List.mem_of_getElem? (i := 328) (by decide +kernel)⟩
theorem lw_p5 : lw_okq (⟨"CutBoard$Board", "isIn", "(I)Z"⟩, 10) := ⟨⟨by decide +kernel, by decide +kernel⟩, List.mem_of_getElem? (i := 131) (by decide +kernel), List.mem_of_getElem? (i := 331) (by decide +kernel), List.mem_of_getElem? (i := 332) (by decide +kernel)⟩
theorem lw_p6 : lw_okq (⟨"CutBoard$Board", "cutAway", "(LCutBoard$Area;)I"⟩, 10) := ⟨⟨by decide +kernel, by decide +kernel⟩, List.mem_of_getElem? (i := 131) (by decide +kernel), List.mem_of_getElem? (i := 335) (by decide +kernel), List.mem_of_getElem? (i := 336) (by decide +kernel)⟩
theorem lw_p7 : lw_okq (⟨"CutBoard$Board", "hasPiece", "(I)Z"⟩, 10) := ⟨⟨by decide +kernel, by decide +kernel⟩, List.mem_of_getElem? (i := 131) (by decide +kernel), List.mem_of_getElem? (i := 344) (by decide +kernel), List.mem_of_getElem? (i := 345) (by decide +kernel)⟩
theorem lw_p8 : lw_okq (⟨"CutBoard$Board", "divides", "(LCutBoard$Area;I)Z"⟩, 10) := ⟨⟨by decide +kernel, by decide +kernel⟩, List.mem_of_getElem? (i := 131) (by decide +kernel), List.mem_of_getElem? (i := 349) (by decide +kernel), List.mem_of_getElem? (i := 350) (by decide +kernel)⟩
theorem lw_p9 : lw_okq (⟨"CutBoard$Board", "hasCell", "(I)Z"⟩, 10) := ⟨⟨by decide +kernel, by decide +kernel⟩, List.mem_of_getElem? (i := 131) (by decide +kernel), List.mem_of_getElem? (i := 353) (by decide +kernel), List.mem_of_getElem? (i := 354) (by decide +kernel)⟩
theorem lw_p10 : lw_okq (⟨"CutBoard$Board", "isAt", "(II)Z"⟩, 10) := ⟨⟨by decide +kernel, by decide +kernel⟩, List.mem_of_getElem? (i := 131) (by decide +kernel), List.mem_of_getElem? (i := 357) (by decide +kernel), List.mem_of_getElem? (i := 358) (by decide +kernel)⟩
theorem lw_p11 : lw_okq (⟨"CutBoard$Board", "sawFree", "(LCutBoard$Area;I)I"⟩, 10) := ⟨⟨by decide +kernel, by decide +kernel⟩, List.mem_of_getElem? (i := 131) (by decide +kernel), List.mem_of_getElem? (i := 361) (by decide +kernel), List.mem_of_getElem? (i := 362) (by decide +kernel)⟩
theorem lw_p12 : lw_okq (⟨"CutBoard$Board", "printingCells", "()I"⟩, 10) := ⟨⟨by decide +kernel, by decide +kernel⟩, List.mem_of_getElem? (i := 131) (by decide +kernel), List.mem_of_getElem? (i := 378) (by decide +kernel), List.mem_of_getElem? (i := 379) (by decide +kernel)⟩
theorem lw_p13 : lw_okq (⟨"CutBoard$Board", "prints", "(I)Z"⟩, 10) := ⟨⟨by decide +kernel, by decide +kernel⟩, List.mem_of_getElem? (i := 131) (by decide +kernel), List.mem_of_getElem? (i := 382) (by decide +kernel), List.mem_of_getElem? (i := 383) (by decide +kernel)⟩
theorem lw_p14 : lw_okq (⟨"CutBoard$Board", "markIslands", "()V"⟩, 10) := ⟨⟨by decide +kernel, by decide +kernel⟩, List.mem_of_getElem? (i := 131) (by decide +kernel), List.mem_of_getElem? (i := 389) (by decide +kernel), List.mem_of_getElem? (i := 390) (by decide +kernel)⟩
theorem lw_p15 : lw_okq (⟨"CutBoard$Board", "markIsland", "(I)I"⟩, 10) := ⟨⟨by decide +kernel, by decide +kernel⟩, List.mem_of_getElem? (i := 131) (by decide +kernel), List.mem_of_getElem? (i := 394) (by decide +kernel), List.mem_of_getElem? (i := 395) (by decide +kernel)⟩
def lw_privs_1 : List (MethodName × Nat) := [(⟨"CutBoard$Board", "isTold", "()Z"⟩, 10), (⟨"CutBoard$Area", "liesOn", "(II)Z"⟩, 4), (⟨"CutBoard$Board", "standsInOutPiece", "(LCutBoard$Area;)Z"⟩, 10), (⟨"CutBoard$Area", "covers", "(I)Z"⟩, 4), (⟨"CutBoard$Board", "stands", "(I)Z"⟩, 10), (⟨"CutBoard$Board", "isIn", "(I)Z"⟩, 10), (⟨"CutBoard$Board", "cutAway", "(LCutBoard$Area;)I"⟩, 10), (⟨"CutBoard$Board", "hasPiece", "(I)Z"⟩, 10), (⟨"CutBoard$Board", "divides", "(LCutBoard$Area;I)Z"⟩, 10), (⟨"CutBoard$Board", "hasCell", "(I)Z"⟩, 10), (⟨"CutBoard$Board", "isAt", "(II)Z"⟩, 10), (⟨"CutBoard$Board", "sawFree", "(LCutBoard$Area;I)I"⟩, 10), (⟨"CutBoard$Board", "printingCells", "()I"⟩, 10), (⟨"CutBoard$Board", "prints", "(I)Z"⟩, 10), (⟨"CutBoard$Board", "markIslands", "()V"⟩, 10), (⟨"CutBoard$Board", "markIsland", "(I)I"⟩, 10)]
theorem lw_r1 : ∀ q ∈ lw_privs_1, lw_okq q := List.forall_mem_cons.mpr ⟨lw_p0, List.forall_mem_cons.mpr ⟨lw_p1, List.forall_mem_cons.mpr ⟨lw_p2, List.forall_mem_cons.mpr ⟨lw_p3, List.forall_mem_cons.mpr ⟨lw_p4, List.forall_mem_cons.mpr ⟨lw_p5, List.forall_mem_cons.mpr ⟨lw_p6, List.forall_mem_cons.mpr ⟨lw_p7, List.forall_mem_cons.mpr ⟨lw_p8, List.forall_mem_cons.mpr ⟨lw_p9, List.forall_mem_cons.mpr ⟨lw_p10, List.forall_mem_cons.mpr ⟨lw_p11, List.forall_mem_cons.mpr ⟨lw_p12, List.forall_mem_cons.mpr ⟨lw_p13, List.forall_mem_cons.mpr ⟨lw_p14, List.forall_mem_cons.mpr ⟨lw_p15, fun _ h => absurd h List.not_mem_nil⟩⟩⟩⟩⟩⟩⟩⟩⟩⟩⟩⟩⟩⟩⟩⟩
theorem lw_p16 : lw_okq (⟨"CutBoard$Board", "findNeighbours", "(II)I"⟩, 10) := ⟨⟨by decide +kernel, by decide +kernel⟩, List.mem_of_getElem? (i := 131) (by decide +kernel), List.mem_of_getElem? (i := 398) (by decide +kernel), List.mem_of_getElem? (i := 399) (by decide +kernel)⟩
theorem lw_p17 : lw_okq (⟨"CutBoard", "pullRoll", "(II)I"⟩, 12) := ⟨⟨by decide +kernel, by decide +kernel⟩, List.mem_of_getElem? (i := 17) (by decide +kernel), List.mem_of_getElem? (i := 454) (by decide +kernel), List.mem_of_getElem? (i := 455) (by decide +kernel)⟩
theorem lw_p18 : lw_okq (⟨"CutBoard", "areSheets", "(I)Z"⟩, 12) := ⟨⟨by decide +kernel, by decide +kernel⟩, List.mem_of_getElem? (i := 17) (by decide +kernel), List.mem_of_getElem? (i := 458) (by decide +kernel), List.mem_of_getElem? (i := 459) (by decide +kernel)⟩
theorem lw_p19 : lw_okq (⟨"CutBoard", "isSheet", "(I)Z"⟩, 12) := ⟨⟨by decide +kernel, by decide +kernel⟩, List.mem_of_getElem? (i := 17) (by decide +kernel), List.mem_of_getElem? (i := 468) (by decide +kernel), List.mem_of_getElem? (i := 469) (by decide +kernel)⟩
theorem lw_p20 : lw_okq (⟨"CutBoard", "pullSheets", "(II)I"⟩, 12) := ⟨⟨by decide +kernel, by decide +kernel⟩, List.mem_of_getElem? (i := 17) (by decide +kernel), List.mem_of_getElem? (i := 472) (by decide +kernel), List.mem_of_getElem? (i := 473) (by decide +kernel)⟩
theorem lw_p21 : lw_okq (⟨"CutBoard$Lots", "slips", "()Z"⟩, 2) := ⟨⟨by decide +kernel, by decide +kernel⟩, List.mem_of_getElem? (i := 59) (by decide +kernel), List.mem_of_getElem? (i := 476) (by decide +kernel), List.mem_of_getElem? (i := 477) (by decide +kernel)⟩
theorem lw_p22 : lw_okq (⟨"CutBoard", "layRoll", "(LCutBoard$Sheet;)V"⟩, 12) := ⟨⟨by decide +kernel, by decide +kernel⟩, List.mem_of_getElem? (i := 17) (by decide +kernel), List.mem_of_getElem? (i := 481) (by decide +kernel), List.mem_of_getElem? (i := 482) (by decide +kernel)⟩
theorem lw_p23 : lw_okq (⟨"CutBoard$Sheet", "take", "(IILCutBoard$Inks;I)V"⟩, 6) := ⟨⟨by decide +kernel, by decide +kernel⟩, List.mem_of_getElem? (i := 417) (by decide +kernel), List.mem_of_getElem? (i := 486) (by decide +kernel), List.mem_of_getElem? (i := 487) (by decide +kernel)⟩
theorem lw_p24 : lw_okq (⟨"CutBoard$Entry", "fact", "(I)I"⟩, 5) := ⟨⟨by decide +kernel, by decide +kernel⟩, List.mem_of_getElem? (i := 489) (by decide +kernel), List.mem_of_getElem? (i := 532) (by decide +kernel), List.mem_of_getElem? (i := 533) (by decide +kernel)⟩
theorem lw_p25 : lw_okq (⟨"CutBoard$Sheet", "dryFor", "(ILCutBoard$Board;LCutBoard$Inks;)I"⟩, 6) := ⟨⟨by decide +kernel, by decide +kernel⟩, List.mem_of_getElem? (i := 417) (by decide +kernel), List.mem_of_getElem? (i := 540) (by decide +kernel), List.mem_of_getElem? (i := 541) (by decide +kernel)⟩
theorem lw_p26 : lw_okq (⟨"CutBoard$Picture", "hasCell", "(I)Z"⟩, 3) := ⟨⟨by decide +kernel, by decide +kernel⟩, List.mem_of_getElem? (i := 183) (by decide +kernel), List.mem_of_getElem? (i := 555) (by decide +kernel), List.mem_of_getElem? (i := 556) (by decide +kernel)⟩
theorem lw_p27 : lw_okq (⟨"CutBoard$Picture", "isAt", "(II)Z"⟩, 3) := ⟨⟨by decide +kernel, by decide +kernel⟩, List.mem_of_getElem? (i := 183) (by decide +kernel), List.mem_of_getElem? (i := 559) (by decide +kernel), List.mem_of_getElem? (i := 560) (by decide +kernel)⟩
theorem lw_p28 : lw_okq (⟨"CutBoard$Picture", "isTold", "()Z"⟩, 3) := ⟨⟨by decide +kernel, by decide +kernel⟩, List.mem_of_getElem? (i := 183) (by decide +kernel), List.mem_of_getElem? (i := 568) (by decide +kernel), List.mem_of_getElem? (i := 569) (by decide +kernel)⟩
theorem lw_p29 : lw_okq (⟨"CutBoard$Picture", "colourSet", "()I"⟩, 3) := ⟨⟨by decide +kernel, by decide +kernel⟩, List.mem_of_getElem? (i := 183) (by decide +kernel), List.mem_of_getElem? (i := 575) (by decide +kernel), List.mem_of_getElem? (i := 576) (by decide +kernel)⟩
theorem lw_p30 : lw_okq (⟨"CutBoard$RowSearch", "leastPulls", "(II)I"⟩, 4) := ⟨⟨by decide +kernel, by decide +kernel⟩, List.mem_of_getElem? (i := 78) (by decide +kernel), List.mem_of_getElem? (i := 580) (by decide +kernel), List.mem_of_getElem? (i := 581) (by decide +kernel)⟩
theorem lw_p31 : lw_okq (⟨"CutBoard$RowSearch", "numberNeeded", "(I)V"⟩, 4) := ⟨⟨by decide +kernel, by decide +kernel⟩, List.mem_of_getElem? (i := 78) (by decide +kernel), List.mem_of_getElem? (i := 593) (by decide +kernel), List.mem_of_getElem? (i := 594) (by decide +kernel)⟩
def lw_privs_2 : List (MethodName × Nat) := [(⟨"CutBoard$Board", "findNeighbours", "(II)I"⟩, 10), (⟨"CutBoard", "pullRoll", "(II)I"⟩, 12), (⟨"CutBoard", "areSheets", "(I)Z"⟩, 12), (⟨"CutBoard", "isSheet", "(I)Z"⟩, 12), (⟨"CutBoard", "pullSheets", "(II)I"⟩, 12), (⟨"CutBoard$Lots", "slips", "()Z"⟩, 2), (⟨"CutBoard", "layRoll", "(LCutBoard$Sheet;)V"⟩, 12), (⟨"CutBoard$Sheet", "take", "(IILCutBoard$Inks;I)V"⟩, 6), (⟨"CutBoard$Entry", "fact", "(I)I"⟩, 5), (⟨"CutBoard$Sheet", "dryFor", "(ILCutBoard$Board;LCutBoard$Inks;)I"⟩, 6), (⟨"CutBoard$Picture", "hasCell", "(I)Z"⟩, 3), (⟨"CutBoard$Picture", "isAt", "(II)Z"⟩, 3), (⟨"CutBoard$Picture", "isTold", "()Z"⟩, 3), (⟨"CutBoard$Picture", "colourSet", "()I"⟩, 3), (⟨"CutBoard$RowSearch", "leastPulls", "(II)I"⟩, 4), (⟨"CutBoard$RowSearch", "numberNeeded", "(I)V"⟩, 4)]
theorem lw_r2 : ∀ q ∈ lw_privs_2, lw_okq q := List.forall_mem_cons.mpr ⟨lw_p16, List.forall_mem_cons.mpr ⟨lw_p17, List.forall_mem_cons.mpr ⟨lw_p18, List.forall_mem_cons.mpr ⟨lw_p19, List.forall_mem_cons.mpr ⟨lw_p20, List.forall_mem_cons.mpr ⟨lw_p21, List.forall_mem_cons.mpr ⟨lw_p22, List.forall_mem_cons.mpr ⟨lw_p23, List.forall_mem_cons.mpr ⟨lw_p24, List.forall_mem_cons.mpr ⟨lw_p25, List.forall_mem_cons.mpr ⟨lw_p26, List.forall_mem_cons.mpr ⟨lw_p27, List.forall_mem_cons.mpr ⟨lw_p28, List.forall_mem_cons.mpr ⟨lw_p29, List.forall_mem_cons.mpr ⟨lw_p30, List.forall_mem_cons.mpr ⟨lw_p31, fun _ h => absurd h List.not_mem_nil⟩⟩⟩⟩⟩⟩⟩⟩⟩⟩⟩⟩⟩⟩⟩⟩
theorem lw_p32 : lw_okq (⟨"CutBoard$RowSearch", "fillEndings", "(I)V"⟩, 4) := ⟨⟨by decide +kernel, by decide +kernel⟩, List.mem_of_getElem? (i := 78) (by decide +kernel), List.mem_of_getElem? (i := 601) (by decide +kernel), List.mem_of_getElem? (i := 602) (by decide +kernel)⟩
theorem lw_p33 : lw_okq (⟨"CutBoard$RowSearch", "setsAhead", "(II)I"⟩, 4) := ⟨⟨by decide +kernel, by decide +kernel⟩, List.mem_of_getElem? (i := 78) (by decide +kernel), List.mem_of_getElem? (i := 605) (by decide +kernel), List.mem_of_getElem? (i := 606) (by decide +kernel)⟩
theorem lw_p34 : lw_okq (⟨"CutBoard$RowSearch", "writeRow", "(ILCutBoard$InkRow;)V"⟩, 4) := ⟨⟨by decide +kernel, by decide +kernel⟩, List.mem_of_getElem? (i := 78) (by decide +kernel), List.mem_of_getElem? (i := 611) (by decide +kernel), List.mem_of_getElem? (i := 612) (by decide +kernel)⟩
theorem lw_p35 : lw_okq (⟨"CutBoard$RowSearch", "firstInk", "(III)I"⟩, 4) := ⟨⟨by decide +kernel, by decide +kernel⟩, List.mem_of_getElem? (i := 78) (by decide +kernel), List.mem_of_getElem? (i := 615) (by decide +kernel), List.mem_of_getElem? (i := 616) (by decide +kernel)⟩
theorem lw_p36 : lw_okq (⟨"CutBoard$RowSearch", "setWith", "(II)I"⟩, 4) := ⟨⟨by decide +kernel, by decide +kernel⟩, List.mem_of_getElem? (i := 78) (by decide +kernel), List.mem_of_getElem? (i := 619) (by decide +kernel), List.mem_of_getElem? (i := 620) (by decide +kernel)⟩
theorem lw_p37 : lw_okq (⟨"CutBoard$Plan", "keepPlaces", "(LCutBoard$Picture;LCutBoard$Inks;)V"⟩, 2) := ⟨⟨by decide +kernel, by decide +kernel⟩, List.mem_of_getElem? (i := 98) (by decide +kernel), List.mem_of_getElem? (i := 623) (by decide +kernel), List.mem_of_getElem? (i := 624) (by decide +kernel)⟩
theorem lw_p38 : lw_okq (⟨"CutBoard$InkRow", "leastPlace", "(ILCutBoard$Inks;)I"⟩, 2) := ⟨⟨by decide +kernel, by decide +kernel⟩, List.mem_of_getElem? (i := 104) (by decide +kernel), List.mem_of_getElem? (i := 628) (by decide +kernel), List.mem_of_getElem? (i := 629) (by decide +kernel)⟩
theorem lw_p39 : lw_okq (⟨"CutBoard$InkRow", "colourAfter", "(ILCutBoard$Inks;)I"⟩, 2) := ⟨⟨by decide +kernel, by decide +kernel⟩, List.mem_of_getElem? (i := 104) (by decide +kernel), List.mem_of_getElem? (i := 632) (by decide +kernel), List.mem_of_getElem? (i := 633) (by decide +kernel)⟩
theorem lw_p40 : lw_okq (⟨"CutBoard$Inks", "reachedBy", "(I)I"⟩, 4) := ⟨⟨by decide +kernel, by decide +kernel⟩, List.mem_of_getElem? (i := 25) (by decide +kernel), List.mem_of_getElem? (i := 648) (by decide +kernel), List.mem_of_getElem? (i := 649) (by decide +kernel)⟩
theorem lw_p41 : lw_okq (⟨"CutBoard$Inks", "oneInkOn", "(II)I"⟩, 4) := ⟨⟨by decide +kernel, by decide +kernel⟩, List.mem_of_getElem? (i := 25) (by decide +kernel), List.mem_of_getElem? (i := 652) (by decide +kernel), List.mem_of_getElem? (i := 653) (by decide +kernel)⟩
theorem lw_p42 : lw_okq (⟨"CutBoard$InkRow", "coloursMade", "(LCutBoard$Inks;)I"⟩, 2) := ⟨⟨by decide +kernel, by decide +kernel⟩, List.mem_of_getElem? (i := 104) (by decide +kernel), List.mem_of_getElem? (i := 672) (by decide +kernel), List.mem_of_getElem? (i := 673) (by decide +kernel)⟩
theorem lw_p43 : lw_okq (⟨"CutBoard$Picture", "isOn", "(LCutBoard$Sheet;)Z"⟩, 3) := ⟨⟨by decide +kernel, by decide +kernel⟩, List.mem_of_getElem? (i := 183) (by decide +kernel), List.mem_of_getElem? (i := 690) (by decide +kernel), List.mem_of_getElem? (i := 691) (by decide +kernel)⟩
theorem lw_p44 : lw_okq (⟨"CutBoard$Picture", "colourAt", "(II)I"⟩, 3) := ⟨⟨by decide +kernel, by decide +kernel⟩, List.mem_of_getElem? (i := 183) (by decide +kernel), List.mem_of_getElem? (i := 694) (by decide +kernel), List.mem_of_getElem? (i := 695) (by decide +kernel)⟩
theorem lw_p45 : lw_okq (⟨"CutBoard", "goodSheets", "()I"⟩, 12) := ⟨⟨by decide +kernel, by decide +kernel⟩, List.mem_of_getElem? (i := 17) (by decide +kernel), List.mem_of_getElem? (i := 702) (by decide +kernel), List.mem_of_getElem? (i := 703) (by decide +kernel)⟩
theorem lw_p46 : lw_okq (⟨"CutBoard$Board", "standingCells", "()I"⟩, 10) := ⟨⟨by decide +kernel, by decide +kernel⟩, List.mem_of_getElem? (i := 131) (by decide +kernel), List.mem_of_getElem? (i := 706) (by decide +kernel), List.mem_of_getElem? (i := 707) (by decide +kernel)⟩
theorem lw_p47 : lw_okq (⟨"CutBoardModel", "takeCells", "(I)Z"⟩, 41) := ⟨⟨by decide +kernel, by decide +kernel⟩, List.mem_of_getElem? (i := 710) (by decide +kernel), List.mem_of_getElem? (i := 883) (by decide +kernel), List.mem_of_getElem? (i := 884) (by decide +kernel)⟩
def lw_privs_3 : List (MethodName × Nat) := [(⟨"CutBoard$RowSearch", "fillEndings", "(I)V"⟩, 4), (⟨"CutBoard$RowSearch", "setsAhead", "(II)I"⟩, 4), (⟨"CutBoard$RowSearch", "writeRow", "(ILCutBoard$InkRow;)V"⟩, 4), (⟨"CutBoard$RowSearch", "firstInk", "(III)I"⟩, 4), (⟨"CutBoard$RowSearch", "setWith", "(II)I"⟩, 4), (⟨"CutBoard$Plan", "keepPlaces", "(LCutBoard$Picture;LCutBoard$Inks;)V"⟩, 2), (⟨"CutBoard$InkRow", "leastPlace", "(ILCutBoard$Inks;)I"⟩, 2), (⟨"CutBoard$InkRow", "colourAfter", "(ILCutBoard$Inks;)I"⟩, 2), (⟨"CutBoard$Inks", "reachedBy", "(I)I"⟩, 4), (⟨"CutBoard$Inks", "oneInkOn", "(II)I"⟩, 4), (⟨"CutBoard$InkRow", "coloursMade", "(LCutBoard$Inks;)I"⟩, 2), (⟨"CutBoard$Picture", "isOn", "(LCutBoard$Sheet;)Z"⟩, 3), (⟨"CutBoard$Picture", "colourAt", "(II)I"⟩, 3), (⟨"CutBoard", "goodSheets", "()I"⟩, 12), (⟨"CutBoard$Board", "standingCells", "()I"⟩, 10), (⟨"CutBoardModel", "takeCells", "(I)Z"⟩, 41)]
theorem lw_r3 : ∀ q ∈ lw_privs_3, lw_okq q := List.forall_mem_cons.mpr ⟨lw_p32, List.forall_mem_cons.mpr ⟨lw_p33, List.forall_mem_cons.mpr ⟨lw_p34, List.forall_mem_cons.mpr ⟨lw_p35, List.forall_mem_cons.mpr ⟨lw_p36, List.forall_mem_cons.mpr ⟨lw_p37, List.forall_mem_cons.mpr ⟨lw_p38, List.forall_mem_cons.mpr ⟨lw_p39, List.forall_mem_cons.mpr ⟨lw_p40, List.forall_mem_cons.mpr ⟨lw_p41, List.forall_mem_cons.mpr ⟨lw_p42, List.forall_mem_cons.mpr ⟨lw_p43, List.forall_mem_cons.mpr ⟨lw_p44, List.forall_mem_cons.mpr ⟨lw_p45, List.forall_mem_cons.mpr ⟨lw_p46, List.forall_mem_cons.mpr ⟨lw_p47, fun _ h => absurd h List.not_mem_nil⟩⟩⟩⟩⟩⟩⟩⟩⟩⟩⟩⟩⟩⟩⟩⟩
theorem lw_p48 : lw_okq (⟨"CutBoardModel", "isPiece", "(I)Z"⟩, 41) := ⟨⟨by decide +kernel, by decide +kernel⟩, List.mem_of_getElem? (i := 710) (by decide +kernel), List.mem_of_getElem? (i := 891) (by decide +kernel), List.mem_of_getElem? (i := 892) (by decide +kernel)⟩
theorem lw_p49 : lw_okq (⟨"CutBoardModel", "cellsOf", "(I)I"⟩, 41) := ⟨⟨by decide +kernel, by decide +kernel⟩, List.mem_of_getElem? (i := 710) (by decide +kernel), List.mem_of_getElem? (i := 895) (by decide +kernel), List.mem_of_getElem? (i := 896) (by decide +kernel)⟩
theorem lw_p50 : lw_okq (⟨"CutBoardModel", "isCell", "(I)Z"⟩, 41) := ⟨⟨by decide +kernel, by decide +kernel⟩, List.mem_of_getElem? (i := 710) (by decide +kernel), List.mem_of_getElem? (i := 907) (by decide +kernel), List.mem_of_getElem? (i := 908) (by decide +kernel)⟩
theorem lw_p51 : lw_okq (⟨"CutBoardModel", "findGroups", "()V"⟩, 41) := ⟨⟨by decide +kernel, by decide +kernel⟩, List.mem_of_getElem? (i := 710) (by decide +kernel), List.mem_of_getElem? (i := 915) (by decide +kernel), List.mem_of_getElem? (i := 916) (by decide +kernel)⟩
theorem lw_p52 : lw_okq (⟨"CutBoardModel", "prints", "(I)Z"⟩, 41) := ⟨⟨by decide +kernel, by decide +kernel⟩, List.mem_of_getElem? (i := 710) (by decide +kernel), List.mem_of_getElem? (i := 919) (by decide +kernel), List.mem_of_getElem? (i := 920) (by decide +kernel)⟩
theorem lw_p53 : lw_okq (⟨"CutBoardModel", "join", "(II)Z"⟩, 41) := ⟨⟨by decide +kernel, by decide +kernel⟩, List.mem_of_getElem? (i := 710) (by decide +kernel), List.mem_of_getElem? (i := 923) (by decide +kernel), List.mem_of_getElem? (i := 924) (by decide +kernel)⟩
theorem lw_p54 : lw_okq (⟨"CutBoardModel", "areSheets", "(I)Z"⟩, 41) := ⟨⟨by decide +kernel, by decide +kernel⟩, List.mem_of_getElem? (i := 710) (by decide +kernel), List.mem_of_getElem? (i := 939) (by decide +kernel), List.mem_of_getElem? (i := 940) (by decide +kernel)⟩
theorem lw_p55 : lw_okq (⟨"CutBoardModel", "pulled", "(II)I"⟩, 41) := ⟨⟨by decide +kernel, by decide +kernel⟩, List.mem_of_getElem? (i := 710) (by decide +kernel), List.mem_of_getElem? (i := 943) (by decide +kernel), List.mem_of_getElem? (i := 944) (by decide +kernel)⟩
theorem lw_p56 : lw_okq (⟨"CutBoardModel", "throwsOff", "()Z"⟩, 41) := ⟨⟨by decide +kernel, by decide +kernel⟩, List.mem_of_getElem? (i := 710) (by decide +kernel), List.mem_of_getElem? (i := 947) (by decide +kernel), List.mem_of_getElem? (i := 948) (by decide +kernel)⟩
theorem lw_p57 : lw_okq (⟨"CutBoardModel", "lay", "(I)Z"⟩, 41) := ⟨⟨by decide +kernel, by decide +kernel⟩, List.mem_of_getElem? (i := 710) (by decide +kernel), List.mem_of_getElem? (i := 952) (by decide +kernel), List.mem_of_getElem? (i := 953) (by decide +kernel)⟩
theorem lw_p58 : lw_okq (⟨"CutBoardModel", "isSheet", "(I)Z"⟩, 41) := ⟨⟨by decide +kernel, by decide +kernel⟩, List.mem_of_getElem? (i := 710) (by decide +kernel), List.mem_of_getElem? (i := 964) (by decide +kernel), List.mem_of_getElem? (i := 965) (by decide +kernel)⟩
theorem lw_p59 : lw_okq (⟨"CutBoardModel", "isWanted", "(I)Z"⟩, 41) := ⟨⟨by decide +kernel, by decide +kernel⟩, List.mem_of_getElem? (i := 710) (by decide +kernel), List.mem_of_getElem? (i := 992) (by decide +kernel), List.mem_of_getElem? (i := 993) (by decide +kernel)⟩
theorem lw_p60 : lw_okq (⟨"CutBoardModel", "least", "(I)I"⟩, 41) := ⟨⟨by decide +kernel, by decide +kernel⟩, List.mem_of_getElem? (i := 710) (by decide +kernel), List.mem_of_getElem? (i := 1000) (by decide +kernel), List.mem_of_getElem? (i := 1001) (by decide +kernel)⟩
theorem lw_p61 : lw_okq (⟨"CutBoardModel", "wantedColours", "()I"⟩, 41) := ⟨⟨by decide +kernel, by decide +kernel⟩, List.mem_of_getElem? (i := 710) (by decide +kernel), List.mem_of_getElem? (i := 1004) (by decide +kernel), List.mem_of_getElem? (i := 1005) (by decide +kernel)⟩
theorem lw_p62 : lw_okq (⟨"CutBoardModel", "makes", "(IIIII)Z"⟩, 41) := ⟨⟨by decide +kernel, by decide +kernel⟩, List.mem_of_getElem? (i := 710) (by decide +kernel), List.mem_of_getElem? (i := 1008) (by decide +kernel), List.mem_of_getElem? (i := 1009) (by decide +kernel)⟩
theorem lw_p63 : lw_okq (⟨"CutBoardModel", "takeRow", "(I)Z"⟩, 41) := ⟨⟨by decide +kernel, by decide +kernel⟩, List.mem_of_getElem? (i := 710) (by decide +kernel), List.mem_of_getElem? (i := 1029) (by decide +kernel), List.mem_of_getElem? (i := 1030) (by decide +kernel)⟩
def lw_privs_4 : List (MethodName × Nat) := [(⟨"CutBoardModel", "isPiece", "(I)Z"⟩, 41), (⟨"CutBoardModel", "cellsOf", "(I)I"⟩, 41), (⟨"CutBoardModel", "isCell", "(I)Z"⟩, 41), (⟨"CutBoardModel", "findGroups", "()V"⟩, 41), (⟨"CutBoardModel", "prints", "(I)Z"⟩, 41), (⟨"CutBoardModel", "join", "(II)Z"⟩, 41), (⟨"CutBoardModel", "areSheets", "(I)Z"⟩, 41), (⟨"CutBoardModel", "pulled", "(II)I"⟩, 41), (⟨"CutBoardModel", "throwsOff", "()Z"⟩, 41), (⟨"CutBoardModel", "lay", "(I)Z"⟩, 41), (⟨"CutBoardModel", "isSheet", "(I)Z"⟩, 41), (⟨"CutBoardModel", "isWanted", "(I)Z"⟩, 41), (⟨"CutBoardModel", "least", "(I)I"⟩, 41), (⟨"CutBoardModel", "wantedColours", "()I"⟩, 41), (⟨"CutBoardModel", "makes", "(IIIII)Z"⟩, 41), (⟨"CutBoardModel", "takeRow", "(I)Z"⟩, 41)]
theorem lw_r4 : ∀ q ∈ lw_privs_4, lw_okq q := List.forall_mem_cons.mpr ⟨lw_p48, List.forall_mem_cons.mpr ⟨lw_p49, List.forall_mem_cons.mpr ⟨lw_p50, List.forall_mem_cons.mpr ⟨lw_p51, List.forall_mem_cons.mpr ⟨lw_p52, List.forall_mem_cons.mpr ⟨lw_p53, List.forall_mem_cons.mpr ⟨lw_p54, List.forall_mem_cons.mpr ⟨lw_p55, List.forall_mem_cons.mpr ⟨lw_p56, List.forall_mem_cons.mpr ⟨lw_p57, List.forall_mem_cons.mpr ⟨lw_p58, List.forall_mem_cons.mpr ⟨lw_p59, List.forall_mem_cons.mpr ⟨lw_p60, List.forall_mem_cons.mpr ⟨lw_p61, List.forall_mem_cons.mpr ⟨lw_p62, List.forall_mem_cons.mpr ⟨lw_p63, fun _ h => absurd h List.not_mem_nil⟩⟩⟩⟩⟩⟩⟩⟩⟩⟩⟩⟩⟩⟩⟩⟩
theorem lw_p64 : lw_okq (⟨"CutBoardModel", "coloursMade", "()I"⟩, 41) := ⟨⟨by decide +kernel, by decide +kernel⟩, List.mem_of_getElem? (i := 710) (by decide +kernel), List.mem_of_getElem? (i := 1034) (by decide +kernel), List.mem_of_getElem? (i := 1035) (by decide +kernel)⟩
theorem lw_p65 : lw_okq (⟨"CutBoardModel", "madeBy", "(I)I"⟩, 41) := ⟨⟨by decide +kernel, by decide +kernel⟩, List.mem_of_getElem? (i := 710) (by decide +kernel), List.mem_of_getElem? (i := 1038) (by decide +kernel), List.mem_of_getElem? (i := 1039) (by decide +kernel)⟩
def lw_privs_5 : List (MethodName × Nat) := [(⟨"CutBoardModel", "coloursMade", "()I"⟩, 41), (⟨"CutBoardModel", "madeBy", "(I)I"⟩, 41)]
theorem lw_r5 : ∀ q ∈ lw_privs_5, lw_okq q := List.forall_mem_cons.mpr ⟨lw_p64, List.forall_mem_cons.mpr ⟨lw_p65, fun _ h => absurd h List.not_mem_nil⟩⟩
def lw_privs : List (MethodName × Nat) := lw_privs_1 ++ (lw_privs_2 ++ (lw_privs_3 ++ (lw_privs_4 ++ (lw_privs_5))))
def lw_tbl : List Cond := k2_sels lw_privs ++ tables_1
theorem lw_privs_ok : ∀ q ∈ lw_privs, lw_okq q := by
  show ∀ q ∈ lw_privs_1 ++ (lw_privs_2 ++ (lw_privs_3 ++ (lw_privs_4 ++ (lw_privs_5)))), lw_okq q
  exact List.forall_mem_append.mpr ⟨lw_r1, List.forall_mem_append.mpr ⟨lw_r2, List.forall_mem_append.mpr ⟨lw_r3, List.forall_mem_append.mpr ⟨lw_r4, lw_r5⟩⟩⟩⟩
end
section
def RX0 : String := "CutBoard$Area"
def TX0 : u_T := fun k => match k with
  | 0 => ("CutBoard$Area", "firstRow", "I", true)
  | 1 => ("CutBoard$Area", "lastRow", "I", true)
  | 2 => ("CutBoard$Area", "firstColumn", "I", true)
  | _ => ("CutBoard$Area", "lastColumn", "I", true)
def tyX0 : Nat → FieldType := fun k => match k with
  | 0 => .int
  | 1 => .int
  | 2 => .int
  | _ => .int
abbrev wsX00 : List Cond := u_ws RX0 TX0 4
theorem nmX0 : ∀ a, a < 4 → ∀ b, b < 4 → a ≠ b → (TX0 a).2.1 ≠ (TX0 b).2.1 := by decide +kernel
theorem tyX0_ok : ∀ k, k < 4 → parseFieldDescriptor (TX0 k).2.2.1 = some (tyX0 k) := by decide +kernel
abbrev cX0_init : ByteArray := prog_2_method_1_code
def yX0_init : MethodName := ⟨RX0, "<init>", "(I)V"⟩
abbrev cX0_liesOn : ByteArray := prog_2_method_2_code
def yX0_liesOn : MethodName := ⟨RX0, "liesOn", "(II)Z"⟩
abbrev cX0_covers : ByteArray := prog_2_method_3_code
def yX0_covers : MethodName := ⟨RX0, "covers", "(I)Z"⟩
def RX1 : String := "CutBoard$Board"
def TX1 : u_T := fun k => match k with
  | 0 => ("CutBoard$Board", "rows", "I", true)
  | 1 => ("CutBoard$Board", "columns", "I", true)
  | 2 => ("CutBoard$Board", "standing", "[I", true)
  | 3 => ("CutBoard$Board", "pieceOf", "[I", true)
  | 4 => ("CutBoard$Board", "in", "[I", true)
  | 5 => ("CutBoard$Board", "pieces", "I", false)
  | 6 => ("CutBoard$Board", "islandOf", "[I", true)
  | 7 => ("CutBoard$Board", "found", "[I", true)
  | 8 => ("CutBoard$Board", "islandCount", "I", false)
  | _ => ("CutBoard$Board", "greatestIsland", "I", false)
def tyX1 : Nat → FieldType := fun k => match k with
  | 0 => .int
  | 1 => .int
  | 2 => .array .int
  | 3 => .array .int
  | 4 => .array .int
  | 5 => .int
  | 6 => .array .int
  | 7 => .array .int
  | 8 => .int
  | _ => .int
abbrev wsX10 : List Cond := u_ws RX1 TX1 10
theorem nmX1 : ∀ a, a < 10 → ∀ b, b < 10 → a ≠ b → (TX1 a).2.1 ≠ (TX1 b).2.1 := by decide +kernel
theorem tyX1_ok : ∀ k, k < 10 → parseFieldDescriptor (TX1 k).2.2.1 = some (tyX1 k) := by decide +kernel
abbrev cX1_init : ByteArray := prog_3_method_1_code
def yX1_init : MethodName := ⟨RX1, "<init>", "(II)V"⟩
abbrev cX1_isTold : ByteArray := prog_3_method_2_code
def yX1_isTold : MethodName := ⟨RX1, "isTold", "()Z"⟩
abbrev cX1_isAt : ByteArray := prog_3_method_3_code
def yX1_isAt : MethodName := ⟨RX1, "isAt", "(II)Z"⟩
abbrev cX1_hasCell : ByteArray := prog_3_method_4_code
def yX1_hasCell : MethodName := ⟨RX1, "hasCell", "(I)Z"⟩
abbrev cX1_hasPiece : ByteArray := prog_3_method_5_code
def yX1_hasPiece : MethodName := ⟨RX1, "hasPiece", "(I)Z"⟩
abbrev cX1_stands : ByteArray := prog_3_method_6_code
def yX1_stands : MethodName := ⟨RX1, "stands", "(I)Z"⟩
abbrev cX1_isIn : ByteArray := prog_3_method_7_code
def yX1_isIn : MethodName := ⟨RX1, "isIn", "(I)Z"⟩
abbrev cX1_prints : ByteArray := prog_3_method_8_code
def yX1_prints : MethodName := ⟨RX1, "prints", "(I)Z"⟩
abbrev cX1_standingCells : ByteArray := prog_3_method_9_code
def yX1_standingCells : MethodName := ⟨RX1, "standingCells", "()I"⟩
abbrev cX1_printingCells : ByteArray := prog_3_method_10_code
def yX1_printingCells : MethodName := ⟨RX1, "printingCells", "()I"⟩
abbrev cX1_standsInOutPiece : ByteArray := prog_3_method_11_code
def yX1_standsInOutPiece : MethodName := ⟨RX1, "standsInOutPiece", "(LCutBoard$Area;)Z"⟩
abbrev cX1_cutAway : ByteArray := prog_3_method_12_code
def yX1_cutAway : MethodName := ⟨RX1, "cutAway", "(LCutBoard$Area;)I"⟩
abbrev cX1_divides : ByteArray := prog_3_method_13_code
def yX1_divides : MethodName := ⟨RX1, "divides", "(LCutBoard$Area;I)Z"⟩
abbrev cX1_sawFree : ByteArray := prog_3_method_14_code
def yX1_sawFree : MethodName := ⟨RX1, "sawFree", "(LCutBoard$Area;I)I"⟩
abbrev cX1_markIslands : ByteArray := prog_3_method_15_code
def yX1_markIslands : MethodName := ⟨RX1, "markIslands", "()V"⟩
abbrev cX1_markIsland : ByteArray := prog_3_method_16_code
def yX1_markIsland : MethodName := ⟨RX1, "markIsland", "(I)I"⟩
abbrev cX1_findNeighbours : ByteArray := prog_3_method_17_code
def yX1_findNeighbours : MethodName := ⟨RX1, "findNeighbours", "(II)I"⟩
def RX2 : String := "CutBoard$Entry"
def TX2 : u_T := fun k => match k with
  | 0 => ("CutBoard$Entry", "ink", "I", true)
  | 1 => ("CutBoard$Entry", "minute", "I", true)
  | 2 => ("CutBoard$Entry", "sheetsTold", "I", true)
  | 3 => ("CutBoard$Entry", "laid", "I", true)
  | _ => ("CutBoard$Entry", "spoiled", "I", true)
def tyX2 : Nat → FieldType := fun k => match k with
  | 0 => .int
  | 1 => .int
  | 2 => .int
  | 3 => .int
  | _ => .int
abbrev wsX20 : List Cond := u_ws RX2 TX2 5
theorem nmX2 : ∀ a, a < 5 → ∀ b, b < 5 → a ≠ b → (TX2 a).2.1 ≠ (TX2 b).2.1 := by decide +kernel
theorem tyX2_ok : ∀ k, k < 5 → parseFieldDescriptor (TX2 k).2.2.1 = some (tyX2 k) := by decide +kernel
abbrev cX2_init : ByteArray := prog_4_method_1_code
def yX2_init : MethodName := ⟨RX2, "<init>", "(IIIII)V"⟩
abbrev cX2_fact : ByteArray := prog_4_method_2_code
def yX2_fact : MethodName := ⟨RX2, "fact", "(I)I"⟩
def RX3 : String := "CutBoard$InkRow"
def TX3 : u_T := fun k => match k with
  | 0 => ("CutBoard$InkRow", "inks", "[I", true)
  | _ => ("CutBoard$InkRow", "length", "I", false)
def tyX3 : Nat → FieldType := fun k => match k with
  | 0 => .array .int
  | _ => .int
abbrev wsX30 : List Cond := u_ws RX3 TX3 2
theorem nmX3 : ∀ a, a < 2 → ∀ b, b < 2 → a ≠ b → (TX3 a).2.1 ≠ (TX3 b).2.1 := by decide +kernel
theorem tyX3_ok : ∀ k, k < 2 → parseFieldDescriptor (TX3 k).2.2.1 = some (tyX3 k) := by decide +kernel
abbrev cX3_init : ByteArray := prog_5_method_1_code
def yX3_init : MethodName := ⟨RX3, "<init>", "()V"⟩
abbrev cX3_init_ : ByteArray := prog_5_method_2_code
def yX3_init_ : MethodName := ⟨RX3, "<init>", "(I)V"⟩
abbrev cX3_isRow : ByteArray := prog_5_method_3_code
def yX3_isRow : MethodName := ⟨RX3, "isRow", "(I)Z"⟩
abbrev cX3_colourAfter : ByteArray := prog_5_method_4_code
def yX3_colourAfter : MethodName := ⟨RX3, "colourAfter", "(ILCutBoard$Inks;)I"⟩
abbrev cX3_coloursMade : ByteArray := prog_5_method_5_code
def yX3_coloursMade : MethodName := ⟨RX3, "coloursMade", "(LCutBoard$Inks;)I"⟩
abbrev cX3_leastPlace : ByteArray := prog_5_method_6_code
def yX3_leastPlace : MethodName := ⟨RX3, "leastPlace", "(ILCutBoard$Inks;)I"⟩
def RX4 : String := "CutBoard$Inks"
def TX4 : u_T := fun k => match k with
  | 0 => ("CutBoard$Inks", "makes", "[[I", true)
  | 1 => ("CutBoard$Inks", "dryingMinutes", "[I", true)
  | 2 => ("CutBoard$Inks", "clashes", "[[I", true)
  | _ => ("CutBoard$Inks", "mixtures", "[[I", true)
def tyX4 : Nat → FieldType := fun k => match k with
  | 0 => .array (.array .int)
  | 1 => .array .int
  | 2 => .array (.array .int)
  | _ => .array (.array .int)
abbrev wsX40 : List Cond := u_ws RX4 TX4 4
theorem nmX4 : ∀ a, a < 4 → ∀ b, b < 4 → a ≠ b → (TX4 a).2.1 ≠ (TX4 b).2.1 := by decide +kernel
theorem tyX4_ok : ∀ k, k < 4 → parseFieldDescriptor (TX4 k).2.2.1 = some (tyX4 k) := by decide +kernel
abbrev cX4_init : ByteArray := prog_6_method_1_code
def yX4_init : MethodName := ⟨RX4, "<init>", "()V"⟩
abbrev cX4_reachedBy : ByteArray := prog_6_method_2_code
def yX4_reachedBy : MethodName := ⟨RX4, "reachedBy", "(I)I"⟩
abbrev cX4_oneInkOn : ByteArray := prog_6_method_3_code
def yX4_oneInkOn : MethodName := ⟨RX4, "oneInkOn", "(II)I"⟩
def RX5 : String := "CutBoard$Lots"
def TX5 : u_T := fun k => match k with
  | 0 => ("CutBoard$Lots", "z", "I", false)
  | _ => ("CutBoard$Lots", "slip", "I", false)
def tyX5 : Nat → FieldType := fun k => match k with
  | 0 => .int
  | _ => .int
abbrev wsX50 : List Cond := u_ws RX5 TX5 2
theorem nmX5 : ∀ a, a < 2 → ∀ b, b < 2 → a ≠ b → (TX5 a).2.1 ≠ (TX5 b).2.1 := by decide +kernel
theorem tyX5_ok : ∀ k, k < 2 → parseFieldDescriptor (TX5 k).2.2.1 = some (tyX5 k) := by decide +kernel
abbrev cX5_init : ByteArray := prog_7_method_1_code
def yX5_init : MethodName := ⟨RX5, "<init>", "()V"⟩
abbrev cX5_slips : ByteArray := prog_7_method_2_code
def yX5_slips : MethodName := ⟨RX5, "slips", "()Z"⟩
def RX6 : String := "CutBoard$Picture"
def TX6 : u_T := fun k => match k with
  | 0 => ("CutBoard$Picture", "rows", "I", true)
  | 1 => ("CutBoard$Picture", "columns", "I", true)
  | _ => ("CutBoard$Picture", "colours", "[I", true)
def tyX6 : Nat → FieldType := fun k => match k with
  | 0 => .int
  | 1 => .int
  | _ => .array .int
abbrev wsX60 : List Cond := u_ws RX6 TX6 3
theorem nmX6 : ∀ a, a < 3 → ∀ b, b < 3 → a ≠ b → (TX6 a).2.1 ≠ (TX6 b).2.1 := by decide +kernel
theorem tyX6_ok : ∀ k, k < 3 → parseFieldDescriptor (TX6 k).2.2.1 = some (tyX6 k) := by decide +kernel
abbrev cX6_init : ByteArray := prog_8_method_1_code
def yX6_init : MethodName := ⟨RX6, "<init>", "(II)V"⟩
abbrev cX6_isTold : ByteArray := prog_8_method_2_code
def yX6_isTold : MethodName := ⟨RX6, "isTold", "()Z"⟩
abbrev cX6_isAt : ByteArray := prog_8_method_3_code
def yX6_isAt : MethodName := ⟨RX6, "isAt", "(II)Z"⟩
abbrev cX6_hasCell : ByteArray := prog_8_method_4_code
def yX6_hasCell : MethodName := ⟨RX6, "hasCell", "(I)Z"⟩
abbrev cX6_colourSet : ByteArray := prog_8_method_5_code
def yX6_colourSet : MethodName := ⟨RX6, "colourSet", "()I"⟩
abbrev cX6_isOn : ByteArray := prog_8_method_6_code
def yX6_isOn : MethodName := ⟨RX6, "isOn", "(LCutBoard$Sheet;)Z"⟩
abbrev cX6_colourAt : ByteArray := prog_8_method_7_code
def yX6_colourAt : MethodName := ⟨RX6, "colourAt", "(II)I"⟩
def RX7 : String := "CutBoard$Plan"
def TX7 : u_T := fun k => match k with
  | 0 => ("CutBoard$Plan", "row", "LCutBoard$InkRow;", true)
  | _ => ("CutBoard$Plan", "places", "[I", true)
def tyX7 : Nat → FieldType := fun k => match k with
  | 0 => .object "CutBoard$InkRow"
  | _ => .array .int
abbrev wsX70 : List Cond := u_ws RX7 TX7 2
theorem nmX7 : ∀ a, a < 2 → ∀ b, b < 2 → a ≠ b → (TX7 a).2.1 ≠ (TX7 b).2.1 := by decide +kernel
theorem tyX7_ok : ∀ k, k < 2 → parseFieldDescriptor (TX7 k).2.2.1 = some (tyX7 k) := by decide +kernel
abbrev cX7_init : ByteArray := prog_9_method_1_code
def yX7_init : MethodName := ⟨RX7, "<init>", "()V"⟩
abbrev cX7_keepPlaces : ByteArray := prog_9_method_2_code
def yX7_keepPlaces : MethodName := ⟨RX7, "keepPlaces", "(LCutBoard$Picture;LCutBoard$Inks;)V"⟩
def RX8 : String := "CutBoard$RowSearch"
def TX8 : u_T := fun k => match k with
  | 0 => ("CutBoard$RowSearch", "numberOf", "[I", true)
  | 1 => ("CutBoard$RowSearch", "endings", "[[I", true)
  | 2 => ("CutBoard$RowSearch", "table", "LCutBoard$Inks;", true)
  | _ => ("CutBoard$RowSearch", "allowed", "I", false)
def tyX8 : Nat → FieldType := fun k => match k with
  | 0 => .array .int
  | 1 => .array (.array .int)
  | 2 => .object "CutBoard$Inks"
  | _ => .int
abbrev wsX80 : List Cond := u_ws RX8 TX8 4
theorem nmX8 : ∀ a, a < 4 → ∀ b, b < 4 → a ≠ b → (TX8 a).2.1 ≠ (TX8 b).2.1 := by decide +kernel
theorem tyX8_ok : ∀ k, k < 4 → parseFieldDescriptor (TX8 k).2.2.1 = some (tyX8 k) := by decide +kernel
abbrev cX8_init : ByteArray := prog_10_method_1_code
def yX8_init : MethodName := ⟨RX8, "<init>", "(LCutBoard$Inks;)V"⟩
abbrev cX8_leastPulls : ByteArray := prog_10_method_2_code
def yX8_leastPulls : MethodName := ⟨RX8, "leastPulls", "(II)I"⟩
abbrev cX8_numberNeeded : ByteArray := prog_10_method_3_code
def yX8_numberNeeded : MethodName := ⟨RX8, "numberNeeded", "(I)V"⟩
abbrev cX8_fillEndings : ByteArray := prog_10_method_4_code
def yX8_fillEndings : MethodName := ⟨RX8, "fillEndings", "(I)V"⟩
abbrev cX8_setsAhead : ByteArray := prog_10_method_5_code
def yX8_setsAhead : MethodName := ⟨RX8, "setsAhead", "(II)I"⟩
abbrev cX8_writeRow : ByteArray := prog_10_method_6_code
def yX8_writeRow : MethodName := ⟨RX8, "writeRow", "(ILCutBoard$InkRow;)V"⟩
abbrev cX8_firstInk : ByteArray := prog_10_method_7_code
def yX8_firstInk : MethodName := ⟨RX8, "firstInk", "(III)I"⟩
abbrev cX8_setWith : ByteArray := prog_10_method_8_code
def yX8_setWith : MethodName := ⟨RX8, "setWith", "(II)I"⟩
def RX9 : String := "CutBoard$Sheet"
def TX9 : u_T := fun k => match k with
  | 0 => ("CutBoard$Sheet", "colours", "[I", true)
  | 1 => ("CutBoard$Sheet", "lastInk", "[I", true)
  | 2 => ("CutBoard$Sheet", "lastPull", "[I", true)
  | 3 => ("CutBoard$Sheet", "timesLaid", "[I", true)
  | 4 => ("CutBoard$Sheet", "wetTill", "[I", true)
  | _ => ("CutBoard$Sheet", "isGood", "Z", false)
def tyX9 : Nat → FieldType := fun k => match k with
  | 0 => .array .int
  | 1 => .array .int
  | 2 => .array .int
  | 3 => .array .int
  | 4 => .array .int
  | _ => .boolean
abbrev wsX90 : List Cond := u_ws RX9 TX9 6
theorem nmX9 : ∀ a, a < 6 → ∀ b, b < 6 → a ≠ b → (TX9 a).2.1 ≠ (TX9 b).2.1 := by decide +kernel
theorem tyX9_ok : ∀ k, k < 6 → parseFieldDescriptor (TX9 k).2.2.1 = some (tyX9 k) := by decide +kernel
abbrev cX9_init : ByteArray := prog_11_method_1_code
def yX9_init : MethodName := ⟨RX9, "<init>", "()V"⟩
abbrev cX9_take : ByteArray := prog_11_method_2_code
def yX9_take : MethodName := ⟨RX9, "take", "(IILCutBoard$Inks;I)V"⟩
abbrev cX9_dryFor : ByteArray := prog_11_method_3_code
def yX9_dryFor : MethodName := ⟨RX9, "dryFor", "(ILCutBoard$Board;LCutBoard$Inks;)I"⟩
def RX10 : String := "CutBoard"
def TX10 : u_T := fun k => match k with
  | 0 => ("CutBoard", "inks", "LCutBoard$Inks;", true)
  | 1 => ("CutBoard", "register", "LCutBoard$Lots;", true)
  | 2 => ("CutBoard", "ready", "[LCutBoard$Sheet;", true)
  | 3 => ("CutBoard", "entries", "[LCutBoard$Entry;", true)
  | 4 => ("CutBoard", "roll", "[I", true)
  | 5 => ("CutBoard", "search", "LCutBoard$RowSearch;", true)
  | 6 => ("CutBoard", "plan", "LCutBoard$Plan;", true)
  | 7 => ("CutBoard", "relief", "LCutBoard$Board;", false)
  | 8 => ("CutBoard", "picture", "LCutBoard$Picture;", false)
  | 9 => ("CutBoard", "readySheets", "I", false)
  | 10 => ("CutBoard", "pulls", "I", false)
  | _ => ("CutBoard", "minute", "I", false)
def tyX10 : Nat → FieldType := fun k => match k with
  | 0 => .object "CutBoard$Inks"
  | 1 => .object "CutBoard$Lots"
  | 2 => .array (.object "CutBoard$Sheet")
  | 3 => .array (.object "CutBoard$Entry")
  | 4 => .array .int
  | 5 => .object "CutBoard$RowSearch"
  | 6 => .object "CutBoard$Plan"
  | 7 => .object "CutBoard$Board"
  | 8 => .object "CutBoard$Picture"
  | 9 => .int
  | 10 => .int
  | _ => .int
abbrev wsX100 : List Cond := u_ws RX10 TX10 12
theorem nmX10 : ∀ a, a < 12 → ∀ b, b < 12 → a ≠ b → (TX10 a).2.1 ≠ (TX10 b).2.1 := by decide +kernel
theorem tyX10_ok : ∀ k, k < 12 → parseFieldDescriptor (TX10 k).2.2.1 = some (tyX10 k) := by decide +kernel
abbrev cX10_init : ByteArray := prog_1_method_1_code
def yX10_init : MethodName := ⟨RX10, "<init>", "()V"⟩
abbrev cX10_board : ByteArray := prog_1_method_2_code
def yX10_board : MethodName := ⟨RX10, "board", "(II)I"⟩
abbrev cX10_table : ByteArray := prog_1_method_3_code
def yX10_table : MethodName := ⟨RX10, "table", "(III)I"⟩
abbrev cX10_drying : ByteArray := prog_1_method_4_code
def yX10_drying : MethodName := ⟨RX10, "drying", "(II)I"⟩
abbrev cX10_against : ByteArray := prog_1_method_5_code
def yX10_against : MethodName := ⟨RX10, "against", "(III)I"⟩
abbrev cX10_mixed : ByteArray := prog_1_method_6_code
def yX10_mixed : MethodName := ⟨RX10, "mixed", "(III)I"⟩
abbrev cX10_lots : ByteArray := prog_1_method_7_code
def yX10_lots : MethodName := ⟨RX10, "lots", "(II)I"⟩
abbrev cX10_minutes : ByteArray := prog_1_method_8_code
def yX10_minutes : MethodName := ⟨RX10, "minutes", "(I)I"⟩
abbrev cX10_cut : ByteArray := prog_1_method_9_code
def yX10_cut : MethodName := ⟨RX10, "cut", "(I)I"⟩
abbrev cX10_saw : ByteArray := prog_1_method_10_code
def yX10_saw : MethodName := ⟨RX10, "saw", "(II)I"⟩
abbrev cX10_piece : ByteArray := prog_1_method_11_code
def yX10_piece : MethodName := ⟨RX10, "piece", "(II)I"⟩
abbrev cX10_cell : ByteArray := prog_1_method_12_code
def yX10_cell : MethodName := ⟨RX10, "cell", "(II)I"⟩
abbrev cX10_islands : ByteArray := prog_1_method_13_code
def yX10_islands : MethodName := ⟨RX10, "islands", "(I)I"⟩
abbrev cX10_joined : ByteArray := prog_1_method_14_code
def yX10_joined : MethodName := ⟨RX10, "joined", "(II)I"⟩
abbrev cX10_sheets : ByteArray := prog_1_method_15_code
def yX10_sheets : MethodName := ⟨RX10, "sheets", "(I)I"⟩
abbrev cX10_pull : ByteArray := prog_1_method_16_code
def yX10_pull : MethodName := ⟨RX10, "pull", "(II)I"⟩
abbrev cX10_blend : ByteArray := prog_1_method_17_code
def yX10_blend : MethodName := ⟨RX10, "blend", "(II)I"⟩
abbrev cX10_colour : ByteArray := prog_1_method_18_code
def yX10_colour : MethodName := ⟨RX10, "colour", "(II)I"⟩
abbrev cX10_led : ByteArray := prog_1_method_19_code
def yX10_led : MethodName := ⟨RX10, "led", "(III)I"⟩
abbrev cX10_good : ByteArray := prog_1_method_20_code
def yX10_good : MethodName := ⟨RX10, "good", "(I)I"⟩
abbrev cX10_book : ByteArray := prog_1_method_21_code
def yX10_book : MethodName := ⟨RX10, "book", "(II)I"⟩
abbrev cX10_free : ByteArray := prog_1_method_22_code
def yX10_free : MethodName := ⟨RX10, "free", "(II)I"⟩
abbrev cX10_wanted : ByteArray := prog_1_method_23_code
def yX10_wanted : MethodName := ⟨RX10, "wanted", "(II)I"⟩
abbrev cX10_want : ByteArray := prog_1_method_24_code
def yX10_want : MethodName := ⟨RX10, "want", "(II)I"⟩
abbrev cX10_fewest : ByteArray := prog_1_method_25_code
def yX10_fewest : MethodName := ⟨RX10, "fewest", "(I)I"⟩
abbrev cX10_order : ByteArray := prog_1_method_26_code
def yX10_order : MethodName := ⟨RX10, "order", "(I)I"⟩
abbrev cX10_place : ByteArray := prog_1_method_27_code
def yX10_place : MethodName := ⟨RX10, "place", "(I)I"⟩
abbrev cX10_why : ByteArray := prog_1_method_28_code
def yX10_why : MethodName := ⟨RX10, "why", "(I)I"⟩
abbrev cX10_alike : ByteArray := prog_1_method_29_code
def yX10_alike : MethodName := ⟨RX10, "alike", "(III)I"⟩
abbrev cX10_made : ByteArray := prog_1_method_30_code
def yX10_made : MethodName := ⟨RX10, "made", "(II)I"⟩
abbrev cX10_begin : ByteArray := prog_1_method_31_code
def yX10_begin : MethodName := ⟨RX10, "begin", "(III)I"⟩
abbrev cX10_shows : ByteArray := prog_1_method_32_code
def yX10_shows : MethodName := ⟨RX10, "shows", "(I)I"⟩
abbrev cX10_count : ByteArray := prog_1_method_33_code
def yX10_count : MethodName := ⟨RX10, "count", "(I)I"⟩
abbrev cX10_within : ByteArray := prog_1_method_34_code
def yX10_within : MethodName := ⟨RX10, "within", "(III)Z"⟩
abbrev cX10_isInk : ByteArray := prog_1_method_35_code
def yX10_isInk : MethodName := ⟨RX10, "isInk", "(I)Z"⟩
abbrev cX10_isColour : ByteArray := prog_1_method_36_code
def yX10_isColour : MethodName := ⟨RX10, "isColour", "(I)Z"⟩
abbrev cX10_isInkSet : ByteArray := prog_1_method_37_code
def yX10_isInkSet : MethodName := ⟨RX10, "isInkSet", "(I)Z"⟩
abbrev cX10_has : ByteArray := prog_1_method_38_code
def yX10_has : MethodName := ⟨RX10, "has", "(II)Z"⟩
abbrev cX10_withoutPaper : ByteArray := prog_1_method_39_code
def yX10_withoutPaper : MethodName := ⟨RX10, "withoutPaper", "(I)I"⟩
abbrev cX10_answer : ByteArray := prog_1_method_40_code
def yX10_answer : MethodName := ⟨RX10, "answer", "(Z)I"⟩
abbrev cX10_replace : ByteArray := prog_1_method_41_code
def yX10_replace : MethodName := ⟨RX10, "replace", "([III)I"⟩
abbrev cX10_isSheet : ByteArray := prog_1_method_42_code
def yX10_isSheet : MethodName := ⟨RX10, "isSheet", "(I)Z"⟩
abbrev cX10_firstOf : ByteArray := prog_1_method_43_code
def yX10_firstOf : MethodName := ⟨RX10, "firstOf", "(I)I"⟩
abbrev cX10_lastOf : ByteArray := prog_1_method_44_code
def yX10_lastOf : MethodName := ⟨RX10, "lastOf", "(I)I"⟩
abbrev cX10_areSheets : ByteArray := prog_1_method_45_code
def yX10_areSheets : MethodName := ⟨RX10, "areSheets", "(I)Z"⟩
abbrev cX10_goodSheets : ByteArray := prog_1_method_46_code
def yX10_goodSheets : MethodName := ⟨RX10, "goodSheets", "()I"⟩
abbrev cX10_pullRoll : ByteArray := prog_1_method_47_code
def yX10_pullRoll : MethodName := ⟨RX10, "pullRoll", "(II)I"⟩
abbrev cX10_pullSheets : ByteArray := prog_1_method_48_code
def yX10_pullSheets : MethodName := ⟨RX10, "pullSheets", "(II)I"⟩
abbrev cX10_layRoll : ByteArray := prog_1_method_49_code
def yX10_layRoll : MethodName := ⟨RX10, "layRoll", "(LCutBoard$Sheet;)V"⟩
def RX11 : String := "CutBoardModel"
def TX11 : u_T := fun k => match k with
  | 0 => ("CutBoardModel", "rows", "I", false)
  | 1 => ("CutBoardModel", "columns", "I", false)
  | 2 => ("CutBoardModel", "table", "[I", true)
  | 3 => ("CutBoardModel", "drying", "[I", true)
  | 4 => ("CutBoardModel", "isAgainst", "[Z", true)
  | 5 => ("CutBoardModel", "mixed", "[I", true)
  | 6 => ("CutBoardModel", "slip", "I", false)
  | 7 => ("CutBoardModel", "z", "I", false)
  | 8 => ("CutBoardModel", "minute", "I", false)
  | 9 => ("CutBoardModel", "isCut", "[Z", true)
  | 10 => ("CutBoardModel", "pieceOf", "[I", true)
  | 11 => ("CutBoardModel", "isOut", "[Z", true)
  | 12 => ("CutBoardModel", "pieces", "I", false)
  | 13 => ("CutBoardModel", "group", "[I", true)
  | 14 => ("CutBoardModel", "colour", "[I", true)
  | 15 => ("CutBoardModel", "laidBy", "[I", true)
  | 16 => ("CutBoardModel", "laidMany", "[I", true)
  | 17 => ("CutBoardModel", "laidInk", "[I", true)
  | 18 => ("CutBoardModel", "wetTill", "[I", true)
  | 19 => ("CutBoardModel", "isSpoiled", "[Z", true)
  | 20 => ("CutBoardModel", "sheets", "I", false)
  | 21 => ("CutBoardModel", "bookInk", "[I", true)
  | 22 => ("CutBoardModel", "bookMinute", "[I", true)
  | 23 => ("CutBoardModel", "bookSheets", "[I", true)
  | 24 => ("CutBoardModel", "bookCells", "[I", true)
  | 25 => ("CutBoardModel", "bookSpoiled", "[I", true)
  | 26 => ("CutBoardModel", "pulls", "I", false)
  | 27 => ("CutBoardModel", "inkOf", "[I", true)
  | 28 => ("CutBoardModel", "wantRows", "I", false)
  | 29 => ("CutBoardModel", "wantColumns", "I", false)
  | 30 => ("CutBoardModel", "want", "[I", true)
  | 31 => ("CutBoardModel", "trying", "[I", true)
  | 32 => ("CutBoardModel", "found", "[I", true)
  | 33 => ("CutBoardModel", "foundMany", "I", false)
  | 34 => ("CutBoardModel", "foundPlace", "[I", true)
  | 35 => ("CutBoardModel", "given", "[I", true)
  | 36 => ("CutBoardModel", "givenMany", "I", false)
  | 37 => ("CutBoardModel", "firstRow", "I", false)
  | 38 => ("CutBoardModel", "lastRow", "I", false)
  | 39 => ("CutBoardModel", "firstColumn", "I", false)
  | _ => ("CutBoardModel", "lastColumn", "I", false)
def tyX11 : Nat → FieldType := fun k => match k with
  | 0 => .int
  | 1 => .int
  | 2 => .array .int
  | 3 => .array .int
  | 4 => .array .boolean
  | 5 => .array .int
  | 6 => .int
  | 7 => .int
  | 8 => .int
  | 9 => .array .boolean
  | 10 => .array .int
  | 11 => .array .boolean
  | 12 => .int
  | 13 => .array .int
  | 14 => .array .int
  | 15 => .array .int
  | 16 => .array .int
  | 17 => .array .int
  | 18 => .array .int
  | 19 => .array .boolean
  | 20 => .int
  | 21 => .array .int
  | 22 => .array .int
  | 23 => .array .int
  | 24 => .array .int
  | 25 => .array .int
  | 26 => .int
  | 27 => .array .int
  | 28 => .int
  | 29 => .int
  | 30 => .array .int
  | 31 => .array .int
  | 32 => .array .int
  | 33 => .int
  | 34 => .array .int
  | 35 => .array .int
  | 36 => .int
  | 37 => .int
  | 38 => .int
  | 39 => .int
  | _ => .int
abbrev wsX110 : List Cond := u_ws RX11 TX11 41
theorem nmX11 : ∀ a, a < 41 → ∀ b, b < 41 → a ≠ b → (TX11 a).2.1 ≠ (TX11 b).2.1 := by decide +kernel
theorem tyX11_ok : ∀ k, k < 41 → parseFieldDescriptor (TX11 k).2.2.1 = some (tyX11 k) := by decide +kernel
abbrev cX11_init : ByteArray := prog_13_method_1_code
def yX11_init : MethodName := ⟨RX11, "<init>", "()V"⟩
abbrev cX11_within : ByteArray := prog_13_method_2_code
def yX11_within : MethodName := ⟨RX11, "within", "(III)Z"⟩
abbrev cX11_isInk : ByteArray := prog_13_method_3_code
def yX11_isInk : MethodName := ⟨RX11, "isInk", "(I)Z"⟩
abbrev cX11_isColour : ByteArray := prog_13_method_4_code
def yX11_isColour : MethodName := ⟨RX11, "isColour", "(I)Z"⟩
abbrev cX11_board : ByteArray := prog_13_method_5_code
def yX11_board : MethodName := ⟨RX11, "board", "(II)I"⟩
abbrev cX11_table : ByteArray := prog_13_method_6_code
def yX11_table : MethodName := ⟨RX11, "table", "(III)I"⟩
abbrev cX11_drying : ByteArray := prog_13_method_7_code
def yX11_drying : MethodName := ⟨RX11, "drying", "(II)I"⟩
abbrev cX11_against : ByteArray := prog_13_method_8_code
def yX11_against : MethodName := ⟨RX11, "against", "(III)I"⟩
abbrev cX11_mixed : ByteArray := prog_13_method_9_code
def yX11_mixed : MethodName := ⟨RX11, "mixed", "(III)I"⟩
abbrev cX11_lots : ByteArray := prog_13_method_10_code
def yX11_lots : MethodName := ⟨RX11, "lots", "(II)I"⟩
abbrev cX11_minutes : ByteArray := prog_13_method_11_code
def yX11_minutes : MethodName := ⟨RX11, "minutes", "(I)I"⟩
abbrev cX11_takeCells : ByteArray := prog_13_method_12_code
def yX11_takeCells : MethodName := ⟨RX11, "takeCells", "(I)Z"⟩
abbrev cX11_cut : ByteArray := prog_13_method_13_code
def yX11_cut : MethodName := ⟨RX11, "cut", "(I)I"⟩
abbrev cX11_isPiece : ByteArray := prog_13_method_14_code
def yX11_isPiece : MethodName := ⟨RX11, "isPiece", "(I)Z"⟩
abbrev cX11_cellsOf : ByteArray := prog_13_method_15_code
def yX11_cellsOf : MethodName := ⟨RX11, "cellsOf", "(I)I"⟩
abbrev cX11_saw : ByteArray := prog_13_method_16_code
def yX11_saw : MethodName := ⟨RX11, "saw", "(II)I"⟩
abbrev cX11_piece : ByteArray := prog_13_method_17_code
def yX11_piece : MethodName := ⟨RX11, "piece", "(II)I"⟩
abbrev cX11_isCell : ByteArray := prog_13_method_18_code
def yX11_isCell : MethodName := ⟨RX11, "isCell", "(I)Z"⟩
abbrev cX11_cell : ByteArray := prog_13_method_19_code
def yX11_cell : MethodName := ⟨RX11, "cell", "(II)I"⟩
abbrev cX11_prints : ByteArray := prog_13_method_20_code
def yX11_prints : MethodName := ⟨RX11, "prints", "(I)Z"⟩
abbrev cX11_findGroups : ByteArray := prog_13_method_21_code
def yX11_findGroups : MethodName := ⟨RX11, "findGroups", "()V"⟩
abbrev cX11_join : ByteArray := prog_13_method_22_code
def yX11_join : MethodName := ⟨RX11, "join", "(II)Z"⟩
abbrev cX11_islands : ByteArray := prog_13_method_23_code
def yX11_islands : MethodName := ⟨RX11, "islands", "(I)I"⟩
abbrev cX11_joined : ByteArray := prog_13_method_24_code
def yX11_joined : MethodName := ⟨RX11, "joined", "(II)I"⟩
abbrev cX11_sheets : ByteArray := prog_13_method_25_code
def yX11_sheets : MethodName := ⟨RX11, "sheets", "(I)I"⟩
abbrev cX11_areSheets : ByteArray := prog_13_method_26_code
def yX11_areSheets : MethodName := ⟨RX11, "areSheets", "(I)Z"⟩
abbrev cX11_throwsOff : ByteArray := prog_13_method_27_code
def yX11_throwsOff : MethodName := ⟨RX11, "throwsOff", "()Z"⟩
abbrev cX11_lay : ByteArray := prog_13_method_28_code
def yX11_lay : MethodName := ⟨RX11, "lay", "(I)Z"⟩
abbrev cX11_pulled : ByteArray := prog_13_method_29_code
def yX11_pulled : MethodName := ⟨RX11, "pulled", "(II)I"⟩
abbrev cX11_pull : ByteArray := prog_13_method_30_code
def yX11_pull : MethodName := ⟨RX11, "pull", "(II)I"⟩
abbrev cX11_blend : ByteArray := prog_13_method_31_code
def yX11_blend : MethodName := ⟨RX11, "blend", "(II)I"⟩
abbrev cX11_isSheet : ByteArray := prog_13_method_32_code
def yX11_isSheet : MethodName := ⟨RX11, "isSheet", "(I)Z"⟩
abbrev cX11_colour : ByteArray := prog_13_method_33_code
def yX11_colour : MethodName := ⟨RX11, "colour", "(II)I"⟩
abbrev cX11_led : ByteArray := prog_13_method_34_code
def yX11_led : MethodName := ⟨RX11, "led", "(III)I"⟩
abbrev cX11_good : ByteArray := prog_13_method_35_code
def yX11_good : MethodName := ⟨RX11, "good", "(I)I"⟩
abbrev cX11_book : ByteArray := prog_13_method_36_code
def yX11_book : MethodName := ⟨RX11, "book", "(II)I"⟩
abbrev cX11_free : ByteArray := prog_13_method_37_code
def yX11_free : MethodName := ⟨RX11, "free", "(II)I"⟩
abbrev cX11_wanted : ByteArray := prog_13_method_38_code
def yX11_wanted : MethodName := ⟨RX11, "wanted", "(II)I"⟩
abbrev cX11_isWanted : ByteArray := prog_13_method_39_code
def yX11_isWanted : MethodName := ⟨RX11, "isWanted", "(I)Z"⟩
abbrev cX11_want : ByteArray := prog_13_method_40_code
def yX11_want : MethodName := ⟨RX11, "want", "(II)I"⟩
abbrev cX11_wantedColours : ByteArray := prog_13_method_41_code
def yX11_wantedColours : MethodName := ⟨RX11, "wantedColours", "()I"⟩
abbrev cX11_makes : ByteArray := prog_13_method_42_code
def yX11_makes : MethodName := ⟨RX11, "makes", "(IIIII)Z"⟩
abbrev cX11_least : ByteArray := prog_13_method_43_code
def yX11_least : MethodName := ⟨RX11, "least", "(I)I"⟩
abbrev cX11_fewest : ByteArray := prog_13_method_44_code
def yX11_fewest : MethodName := ⟨RX11, "fewest", "(I)I"⟩
abbrev cX11_order : ByteArray := prog_13_method_45_code
def yX11_order : MethodName := ⟨RX11, "order", "(I)I"⟩
abbrev cX11_place : ByteArray := prog_13_method_46_code
def yX11_place : MethodName := ⟨RX11, "place", "(I)I"⟩
abbrev cX11_why : ByteArray := prog_13_method_47_code
def yX11_why : MethodName := ⟨RX11, "why", "(I)I"⟩
abbrev cX11_takeRow : ByteArray := prog_13_method_48_code
def yX11_takeRow : MethodName := ⟨RX11, "takeRow", "(I)Z"⟩
abbrev cX11_madeBy : ByteArray := prog_13_method_49_code
def yX11_madeBy : MethodName := ⟨RX11, "madeBy", "(I)I"⟩
abbrev cX11_coloursMade : ByteArray := prog_13_method_50_code
def yX11_coloursMade : MethodName := ⟨RX11, "coloursMade", "()I"⟩
abbrev cX11_alike : ByteArray := prog_13_method_51_code
def yX11_alike : MethodName := ⟨RX11, "alike", "(III)I"⟩
abbrev cX11_made : ByteArray := prog_13_method_52_code
def yX11_made : MethodName := ⟨RX11, "made", "(II)I"⟩
abbrev cX11_goodOf : ByteArray := prog_13_method_53_code
def yX11_goodOf : MethodName := ⟨RX11, "goodOf", "(III)I"⟩
abbrev cX11_begin : ByteArray := prog_13_method_54_code
def yX11_begin : MethodName := ⟨RX11, "begin", "(III)I"⟩
abbrev cX11_shows : ByteArray := prog_13_method_55_code
def yX11_shows : MethodName := ⟨RX11, "shows", "(I)I"⟩
abbrev cX11_count : ByteArray := prog_13_method_56_code
def yX11_count : MethodName := ⟨RX11, "count", "(I)I"⟩
def RJ6 : String := "java/lang/Integer"
def TJ6 : u_T := fun k => match k with
  | _ => ("", "", "", false)
def tyJ6 : Nat → FieldType := fun k => match k with
  | _ => .int
abbrev wsJ60 : List Cond := u_ws RJ6 TJ6 0
theorem nmJ6 : ∀ a, a < 0 → ∀ b, b < 0 → a ≠ b → (TJ6 a).2.1 ≠ (TJ6 b).2.1 := by decide +kernel
theorem tyJ6_ok : ∀ k, k < 0 → parseFieldDescriptor (TJ6 k).2.2.1 = some (tyJ6 k) := by decide +kernel
abbrev cJ6_bitCount_0f7a4 : ByteArray := prog_14_method_49_code
def yJ6_bitCount_0f7a4 : MethodName := ⟨RJ6, "bitCount", "(I)I"⟩
def RJ9 : String := "java/lang/Math"
def TJ9 : u_T := fun k => match k with
  | _ => ("", "", "", false)
def tyJ9 : Nat → FieldType := fun k => match k with
  | _ => .int
abbrev wsJ90 : List Cond := u_ws RJ9 TJ9 0
theorem nmJ9 : ∀ a, a < 0 → ∀ b, b < 0 → a ≠ b → (TJ9 a).2.1 ≠ (TJ9 b).2.1 := by decide +kernel
theorem tyJ9_ok : ∀ k, k < 0 → parseFieldDescriptor (TJ9 k).2.2.1 = some (tyJ9 k) := by decide +kernel
abbrev cJ9_floorDiv_7cf53 : ByteArray := prog_15_method_47_code
def yJ9_floorDiv_7cf53 : MethodName := ⟨RJ9, "floorDiv", "(II)I"⟩
abbrev cJ9_floorMod_7cf53 : ByteArray := prog_15_method_50_code
def yJ9_floorMod_7cf53 : MethodName := ⟨RJ9, "floorMod", "(II)I"⟩
abbrev cJ9_max_7cf53 : ByteArray := prog_15_method_65_code
def yJ9_max_7cf53 : MethodName := ⟨RJ9, "max", "(II)I"⟩
def RJ7 : String := "java/util/Arrays"
def TJ7 : u_T := fun k => match k with
  | _ => ("", "", "", false)
def tyJ7 : Nat → FieldType := fun k => match k with
  | _ => .int
abbrev wsJ70 : List Cond := u_ws RJ7 TJ7 0
theorem nmJ7 : ∀ a, a < 0 → ∀ b, b < 0 → a ≠ b → (TJ7 a).2.1 ≠ (TJ7 b).2.1 := by decide +kernel
theorem tyJ7_ok : ∀ k, k < 0 → parseFieldDescriptor (TJ7 k).2.2.1 = some (tyJ7 k) := by decide +kernel
abbrev cJ7_rangeCheck_23922 : ByteArray := prog_16_method_30_code
def yJ7_rangeCheck_23922 : MethodName := ⟨RJ7, "rangeCheck", "(III)V"⟩
abbrev cJ7_fill_53178 : ByteArray := prog_16_method_103_code
def yJ7_fill_53178 : MethodName := ⟨RJ7, "fill", "([II)V"⟩
abbrev cJ7_fill_fda19 : ByteArray := prog_16_method_104_code
def yJ7_fill_fda19 : MethodName := ⟨RJ7, "fill", "([IIII)V"⟩
def RL : String := "CutBoardLaw"
abbrev cL_law : ByteArray := code
def yL_law : MethodName := ⟨RL, "law", "([I)Z"⟩
end
section
theorem dX0_init_0 : decode cX0_init 0 = .ok (.aload_n 0, 1) := by decide +kernel
theorem dX0_init_1 : decode cX0_init 1 = .ok (.invokespecial 3, 3) := by decide +kernel
theorem dX0_init_4 : decode cX0_init 4 = .ok (.aload_n 0, 1) := by decide +kernel
theorem dX0_init_5 : decode cX0_init 5 = .ok (.iload_n 1, 1) := by decide +kernel
theorem dX0_init_6 : decode cX0_init 6 = .ok (.sipush 512, 3) := by decide +kernel
theorem dX0_init_9 : decode cX0_init 9 = .ok (.invokestatic 9, 3) := by decide +kernel
theorem dX0_init_12 : decode cX0_init 12 = .ok (.putfield 15, 3) := by decide +kernel
theorem dX0_init_15 : decode cX0_init 15 = .ok (.aload_n 0, 1) := by decide +kernel
theorem dX0_init_16 : decode cX0_init 16 = .ok (.iload_n 1, 1) := by decide +kernel
theorem dX0_init_17 : decode cX0_init 17 = .ok (.sipush 512, 3) := by decide +kernel
theorem dX0_init_20 : decode cX0_init 20 = .ok (.invokestatic 21, 3) := by decide +kernel
theorem dX0_init_23 : decode cX0_init 23 = .ok (.bipush 64, 2) := by decide +kernel
theorem dX0_init_25 : decode cX0_init 25 = .ok (.idiv, 1) := by decide +kernel
theorem dX0_init_26 : decode cX0_init 26 = .ok (.putfield 24, 3) := by decide +kernel
theorem dX0_init_29 : decode cX0_init 29 = .ok (.aload_n 0, 1) := by decide +kernel
theorem dX0_init_30 : decode cX0_init 30 = .ok (.iload_n 1, 1) := by decide +kernel
theorem dX0_init_31 : decode cX0_init 31 = .ok (.bipush 64, 2) := by decide +kernel
theorem dX0_init_33 : decode cX0_init 33 = .ok (.invokestatic 21, 3) := by decide +kernel
theorem dX0_init_36 : decode cX0_init 36 = .ok (.bipush 8, 2) := by decide +kernel
theorem dX0_init_38 : decode cX0_init 38 = .ok (.idiv, 1) := by decide +kernel
theorem dX0_init_39 : decode cX0_init 39 = .ok (.putfield 27, 3) := by decide +kernel
theorem dX0_init_42 : decode cX0_init 42 = .ok (.aload_n 0, 1) := by decide +kernel
theorem dX0_init_43 : decode cX0_init 43 = .ok (.iload_n 1, 1) := by decide +kernel
theorem dX0_init_44 : decode cX0_init 44 = .ok (.bipush 8, 2) := by decide +kernel
theorem dX0_init_46 : decode cX0_init 46 = .ok (.invokestatic 21, 3) := by decide +kernel
theorem dX0_init_49 : decode cX0_init 49 = .ok (.putfield 30, 3) := by decide +kernel
theorem dX0_init_52 : decode cX0_init 52 = .ok (.return_, 1) := by decide +kernel
theorem dX0_liesOn_0 : decode cX0_liesOn 0 = .ok (.aload_n 0, 1) := by decide +kernel
theorem dX0_liesOn_1 : decode cX0_liesOn 1 = .ok (.getfield 15, 3) := by decide +kernel
theorem dX0_liesOn_4 : decode cX0_liesOn 4 = .ok (.ifCond .lt 45, 3) := by decide +kernel
theorem dX0_liesOn_7 : decode cX0_liesOn 7 = .ok (.aload_n 0, 1) := by decide +kernel
theorem dX0_liesOn_8 : decode cX0_liesOn 8 = .ok (.getfield 15, 3) := by decide +kernel
theorem dX0_liesOn_11 : decode cX0_liesOn 11 = .ok (.aload_n 0, 1) := by decide +kernel
theorem dX0_liesOn_12 : decode cX0_liesOn 12 = .ok (.getfield 24, 3) := by decide +kernel
theorem dX0_liesOn_15 : decode cX0_liesOn 15 = .ok (.if_icmp .gt 34, 3) := by decide +kernel
theorem dX0_liesOn_18 : decode cX0_liesOn 18 = .ok (.aload_n 0, 1) := by decide +kernel
theorem dX0_liesOn_19 : decode cX0_liesOn 19 = .ok (.getfield 24, 3) := by decide +kernel
theorem dX0_liesOn_22 : decode cX0_liesOn 22 = .ok (.iload_n 1, 1) := by decide +kernel
theorem dX0_liesOn_23 : decode cX0_liesOn 23 = .ok (.if_icmp .ge 26, 3) := by decide +kernel
theorem dX0_liesOn_26 : decode cX0_liesOn 26 = .ok (.aload_n 0, 1) := by decide +kernel
theorem dX0_liesOn_27 : decode cX0_liesOn 27 = .ok (.getfield 27, 3) := by decide +kernel
theorem dX0_liesOn_30 : decode cX0_liesOn 30 = .ok (.aload_n 0, 1) := by decide +kernel
theorem dX0_liesOn_31 : decode cX0_liesOn 31 = .ok (.getfield 30, 3) := by decide +kernel
theorem dX0_liesOn_34 : decode cX0_liesOn 34 = .ok (.if_icmp .gt 15, 3) := by decide +kernel
theorem dX0_liesOn_37 : decode cX0_liesOn 37 = .ok (.aload_n 0, 1) := by decide +kernel
theorem dX0_liesOn_38 : decode cX0_liesOn 38 = .ok (.getfield 30, 3) := by decide +kernel
theorem dX0_liesOn_41 : decode cX0_liesOn 41 = .ok (.iload_n 2, 1) := by decide +kernel
theorem dX0_liesOn_42 : decode cX0_liesOn 42 = .ok (.if_icmp .ge 7, 3) := by decide +kernel
theorem dX0_liesOn_45 : decode cX0_liesOn 45 = .ok (.iconst 1, 1) := by decide +kernel
theorem dX0_liesOn_46 : decode cX0_liesOn 46 = .ok (.goto 4, 3) := by decide +kernel
theorem dX0_liesOn_49 : decode cX0_liesOn 49 = .ok (.iconst 0, 1) := by decide +kernel
theorem dX0_liesOn_50 : decode cX0_liesOn 50 = .ok (.ireturn, 1) := by decide +kernel
theorem dX0_covers_0 : decode cX0_covers 0 = .ok (.iload_n 1, 1) := by decide +kernel
theorem dX0_covers_1 : decode cX0_covers 1 = .ok (.bipush 8, 2) := by decide +kernel
theorem dX0_covers_3 : decode cX0_covers 3 = .ok (.idiv, 1) := by decide +kernel
theorem dX0_covers_4 : decode cX0_covers 4 = .ok (.aload_n 0, 1) := by decide +kernel
theorem dX0_covers_5 : decode cX0_covers 5 = .ok (.getfield 15, 3) := by decide +kernel
theorem dX0_covers_8 : decode cX0_covers 8 = .ok (.aload_n 0, 1) := by decide +kernel
theorem dX0_covers_9 : decode cX0_covers 9 = .ok (.getfield 24, 3) := by decide +kernel
theorem dX0_covers_12 : decode cX0_covers 12 = .ok (.invokestatic 33, 3) := by decide +kernel
theorem dX0_covers_15 : decode cX0_covers 15 = .ok (.ifCond .eq 25, 3) := by decide +kernel
theorem dX0_covers_18 : decode cX0_covers 18 = .ok (.iload_n 1, 1) := by decide +kernel
theorem dX0_covers_19 : decode cX0_covers 19 = .ok (.bipush 8, 2) := by decide +kernel
theorem dX0_covers_21 : decode cX0_covers 21 = .ok (.irem, 1) := by decide +kernel
theorem dX0_covers_22 : decode cX0_covers 22 = .ok (.aload_n 0, 1) := by decide +kernel
theorem dX0_covers_23 : decode cX0_covers 23 = .ok (.getfield 27, 3) := by decide +kernel
theorem dX0_covers_26 : decode cX0_covers 26 = .ok (.aload_n 0, 1) := by decide +kernel
theorem dX0_covers_27 : decode cX0_covers 27 = .ok (.getfield 30, 3) := by decide +kernel
theorem dX0_covers_30 : decode cX0_covers 30 = .ok (.invokestatic 33, 3) := by decide +kernel
theorem dX0_covers_33 : decode cX0_covers 33 = .ok (.ifCond .eq 7, 3) := by decide +kernel
theorem dX0_covers_36 : decode cX0_covers 36 = .ok (.iconst 1, 1) := by decide +kernel
theorem dX0_covers_37 : decode cX0_covers 37 = .ok (.goto 4, 3) := by decide +kernel
theorem dX0_covers_40 : decode cX0_covers 40 = .ok (.iconst 0, 1) := by decide +kernel
theorem dX0_covers_41 : decode cX0_covers 41 = .ok (.ireturn, 1) := by decide +kernel
theorem dX1_init_0 : decode cX1_init 0 = .ok (.aload_n 0, 1) := by decide +kernel
theorem dX1_init_1 : decode cX1_init 1 = .ok (.invokespecial 3, 3) := by decide +kernel
theorem dX1_init_4 : decode cX1_init 4 = .ok (.aload_n 0, 1) := by decide +kernel
theorem dX1_init_5 : decode cX1_init 5 = .ok (.bipush 64, 2) := by decide +kernel
theorem dX1_init_7 : decode cX1_init 7 = .ok (.newarray .int, 2) := by decide +kernel
theorem dX1_init_9 : decode cX1_init 9 = .ok (.putfield 9, 3) := by decide +kernel
theorem dX1_init_12 : decode cX1_init 12 = .ok (.aload_n 0, 1) := by decide +kernel
theorem dX1_init_13 : decode cX1_init 13 = .ok (.bipush 64, 2) := by decide +kernel
theorem dX1_init_15 : decode cX1_init 15 = .ok (.newarray .int, 2) := by decide +kernel
theorem dX1_init_17 : decode cX1_init 17 = .ok (.putfield 15, 3) := by decide +kernel
theorem dX1_init_20 : decode cX1_init 20 = .ok (.aload_n 0, 1) := by decide +kernel
theorem dX1_init_21 : decode cX1_init 21 = .ok (.bipush 8, 2) := by decide +kernel
theorem dX1_init_23 : decode cX1_init 23 = .ok (.newarray .int, 2) := by decide +kernel
theorem dX1_init_25 : decode cX1_init 25 = .ok (.putfield 18, 3) := by decide +kernel
theorem dX1_init_28 : decode cX1_init 28 = .ok (.aload_n 0, 1) := by decide +kernel
theorem dX1_init_29 : decode cX1_init 29 = .ok (.bipush 64, 2) := by decide +kernel
theorem dX1_init_31 : decode cX1_init 31 = .ok (.newarray .int, 2) := by decide +kernel
theorem dX1_init_33 : decode cX1_init 33 = .ok (.putfield 21, 3) := by decide +kernel
theorem dX1_init_36 : decode cX1_init 36 = .ok (.aload_n 0, 1) := by decide +kernel
theorem dX1_init_37 : decode cX1_init 37 = .ok (.bipush 64, 2) := by decide +kernel
theorem dX1_init_39 : decode cX1_init 39 = .ok (.newarray .int, 2) := by decide +kernel
theorem dX1_init_41 : decode cX1_init 41 = .ok (.putfield 24, 3) := by decide +kernel
theorem dX1_init_44 : decode cX1_init 44 = .ok (.aload_n 0, 1) := by decide +kernel
theorem dX1_init_45 : decode cX1_init 45 = .ok (.iload_n 1, 1) := by decide +kernel
theorem dX1_init_46 : decode cX1_init 46 = .ok (.putfield 27, 3) := by decide +kernel
theorem dX1_init_49 : decode cX1_init 49 = .ok (.aload_n 0, 1) := by decide +kernel
theorem dX1_init_50 : decode cX1_init 50 = .ok (.iload_n 2, 1) := by decide +kernel
theorem dX1_init_51 : decode cX1_init 51 = .ok (.putfield 31, 3) := by decide +kernel
theorem dX1_init_54 : decode cX1_init 54 = .ok (.iconst 0, 1) := by decide +kernel
theorem dX1_init_55 : decode cX1_init 55 = .ok (.istore_n 3, 1) := by decide +kernel
theorem dX1_init_56 : decode cX1_init 56 = .ok (.iload_n 3, 1) := by decide +kernel
theorem dX1_init_57 : decode cX1_init 57 = .ok (.iload_n 1, 1) := by decide +kernel
theorem dX1_init_58 : decode cX1_init 58 = .ok (.if_icmp .ge 27, 3) := by decide +kernel
theorem dX1_init_61 : decode cX1_init 61 = .ok (.aload_n 0, 1) := by decide +kernel
theorem dX1_init_62 : decode cX1_init 62 = .ok (.getfield 9, 3) := by decide +kernel
theorem dX1_init_65 : decode cX1_init 65 = .ok (.iload_n 3, 1) := by decide +kernel
theorem dX1_init_66 : decode cX1_init 66 = .ok (.bipush 8, 2) := by decide +kernel
theorem dX1_init_68 : decode cX1_init 68 = .ok (.imul, 1) := by decide +kernel
theorem dX1_init_69 : decode cX1_init 69 = .ok (.iload_n 3, 1) := by decide +kernel
theorem dX1_init_70 : decode cX1_init 70 = .ok (.bipush 8, 2) := by decide +kernel
theorem dX1_init_72 : decode cX1_init 72 = .ok (.imul, 1) := by decide +kernel
theorem dX1_init_73 : decode cX1_init 73 = .ok (.iload_n 2, 1) := by decide +kernel
theorem dX1_init_74 : decode cX1_init 74 = .ok (.iadd, 1) := by decide +kernel
theorem dX1_init_75 : decode cX1_init 75 = .ok (.iconst 1, 1) := by decide +kernel
theorem dX1_init_76 : decode cX1_init 76 = .ok (.invokestatic 34, 3) := by decide +kernel
theorem dX1_init_79 : decode cX1_init 79 = .ok (.iinc 3 1, 3) := by decide +kernel
theorem dX1_init_82 : decode cX1_init 82 = .ok (.goto (-26), 3) := by decide +kernel
theorem dX1_init_85 : decode cX1_init 85 = .ok (.aload_n 0, 1) := by decide +kernel
theorem dX1_init_86 : decode cX1_init 86 = .ok (.iload_n 1, 1) := by decide +kernel
theorem dX1_init_87 : decode cX1_init 87 = .ok (.ifCond .le 7, 3) := by decide +kernel
theorem dX1_init_90 : decode cX1_init 90 = .ok (.iconst 1, 1) := by decide +kernel
theorem dX1_init_91 : decode cX1_init 91 = .ok (.goto 4, 3) := by decide +kernel
theorem dX1_init_94 : decode cX1_init 94 = .ok (.iconst 0, 1) := by decide +kernel
theorem dX1_init_95 : decode cX1_init 95 = .ok (.putfield 40, 3) := by decide +kernel
theorem dX1_init_98 : decode cX1_init 98 = .ok (.aload_n 0, 1) := by decide +kernel
theorem dX1_init_99 : decode cX1_init 99 = .ok (.getfield 18, 3) := by decide +kernel
theorem dX1_init_102 : decode cX1_init 102 = .ok (.iconst 0, 1) := by decide +kernel
theorem dX1_init_103 : decode cX1_init 103 = .ok (.iconst 1, 1) := by decide +kernel
theorem dX1_init_104 : decode cX1_init 104 = .ok (.iastore, 1) := by decide +kernel
theorem dX1_init_105 : decode cX1_init 105 = .ok (.return_, 1) := by decide +kernel
theorem dX1_isTold_0 : decode cX1_isTold 0 = .ok (.aload_n 0, 1) := by decide +kernel
theorem dX1_isTold_1 : decode cX1_isTold 1 = .ok (.getfield 27, 3) := by decide +kernel
theorem dX1_isTold_4 : decode cX1_isTold 4 = .ok (.ifCond .le 7, 3) := by decide +kernel
theorem dX1_isTold_7 : decode cX1_isTold 7 = .ok (.iconst 1, 1) := by decide +kernel
theorem dX1_isTold_8 : decode cX1_isTold 8 = .ok (.goto 4, 3) := by decide +kernel
theorem dX1_isTold_11 : decode cX1_isTold 11 = .ok (.iconst 0, 1) := by decide +kernel
theorem dX1_isTold_12 : decode cX1_isTold 12 = .ok (.ireturn, 1) := by decide +kernel
theorem dX1_isAt_0 : decode cX1_isAt 0 = .ok (.iload_n 1, 1) := by decide +kernel
theorem dX1_isAt_1 : decode cX1_isAt 1 = .ok (.iconst 0, 1) := by decide +kernel
theorem dX1_isAt_2 : decode cX1_isAt 2 = .ok (.aload_n 0, 1) := by decide +kernel
theorem dX1_isAt_3 : decode cX1_isAt 3 = .ok (.getfield 27, 3) := by decide +kernel
theorem dX1_isAt_6 : decode cX1_isAt 6 = .ok (.iconst 1, 1) := by decide +kernel
theorem dX1_isAt_7 : decode cX1_isAt 7 = .ok (.isub, 1) := by decide +kernel
theorem dX1_isAt_8 : decode cX1_isAt 8 = .ok (.invokestatic 43, 3) := by decide +kernel
theorem dX1_isAt_11 : decode cX1_isAt 11 = .ok (.ifCond .eq 21, 3) := by decide +kernel
theorem dX1_isAt_14 : decode cX1_isAt 14 = .ok (.iload_n 2, 1) := by decide +kernel
theorem dX1_isAt_15 : decode cX1_isAt 15 = .ok (.iconst 0, 1) := by decide +kernel
theorem dX1_isAt_16 : decode cX1_isAt 16 = .ok (.aload_n 0, 1) := by decide +kernel
theorem dX1_isAt_17 : decode cX1_isAt 17 = .ok (.getfield 31, 3) := by decide +kernel
theorem dX1_isAt_20 : decode cX1_isAt 20 = .ok (.iconst 1, 1) := by decide +kernel
theorem dX1_isAt_21 : decode cX1_isAt 21 = .ok (.isub, 1) := by decide +kernel
theorem dX1_isAt_22 : decode cX1_isAt 22 = .ok (.invokestatic 43, 3) := by decide +kernel
theorem dX1_isAt_25 : decode cX1_isAt 25 = .ok (.ifCond .eq 7, 3) := by decide +kernel
theorem dX1_isAt_28 : decode cX1_isAt 28 = .ok (.iconst 1, 1) := by decide +kernel
theorem dX1_isAt_29 : decode cX1_isAt 29 = .ok (.goto 4, 3) := by decide +kernel
theorem dX1_isAt_32 : decode cX1_isAt 32 = .ok (.iconst 0, 1) := by decide +kernel
theorem dX1_isAt_33 : decode cX1_isAt 33 = .ok (.ireturn, 1) := by decide +kernel
theorem dX1_hasCell_0 : decode cX1_hasCell 0 = .ok (.iload_n 1, 1) := by decide +kernel
theorem dX1_hasCell_1 : decode cX1_hasCell 1 = .ok (.ifCond .lt 22, 3) := by decide +kernel
theorem dX1_hasCell_4 : decode cX1_hasCell 4 = .ok (.aload_n 0, 1) := by decide +kernel
theorem dX1_hasCell_5 : decode cX1_hasCell 5 = .ok (.iload_n 1, 1) := by decide +kernel
theorem dX1_hasCell_6 : decode cX1_hasCell 6 = .ok (.bipush 8, 2) := by decide +kernel
theorem dX1_hasCell_8 : decode cX1_hasCell 8 = .ok (.idiv, 1) := by decide +kernel
theorem dX1_hasCell_9 : decode cX1_hasCell 9 = .ok (.iload_n 1, 1) := by decide +kernel
theorem dX1_hasCell_10 : decode cX1_hasCell 10 = .ok (.bipush 8, 2) := by decide +kernel
theorem dX1_hasCell_12 : decode cX1_hasCell 12 = .ok (.irem, 1) := by decide +kernel
theorem dX1_hasCell_13 : decode cX1_hasCell 13 = .ok (.invokevirtual 47, 3) := by decide +kernel
theorem dX1_hasCell_16 : decode cX1_hasCell 16 = .ok (.ifCond .eq 7, 3) := by decide +kernel
theorem dX1_hasCell_19 : decode cX1_hasCell 19 = .ok (.iconst 1, 1) := by decide +kernel
theorem dX1_hasCell_20 : decode cX1_hasCell 20 = .ok (.goto 4, 3) := by decide +kernel
theorem dX1_hasCell_23 : decode cX1_hasCell 23 = .ok (.iconst 0, 1) := by decide +kernel
theorem dX1_hasCell_24 : decode cX1_hasCell 24 = .ok (.ireturn, 1) := by decide +kernel
theorem dX1_hasPiece_0 : decode cX1_hasPiece 0 = .ok (.iload_n 1, 1) := by decide +kernel
theorem dX1_hasPiece_1 : decode cX1_hasPiece 1 = .ok (.iconst 0, 1) := by decide +kernel
theorem dX1_hasPiece_2 : decode cX1_hasPiece 2 = .ok (.aload_n 0, 1) := by decide +kernel
theorem dX1_hasPiece_3 : decode cX1_hasPiece 3 = .ok (.getfield 40, 3) := by decide +kernel
theorem dX1_hasPiece_6 : decode cX1_hasPiece 6 = .ok (.iconst 1, 1) := by decide +kernel
theorem dX1_hasPiece_7 : decode cX1_hasPiece 7 = .ok (.isub, 1) := by decide +kernel
theorem dX1_hasPiece_8 : decode cX1_hasPiece 8 = .ok (.invokestatic 43, 3) := by decide +kernel
theorem dX1_hasPiece_11 : decode cX1_hasPiece 11 = .ok (.ireturn, 1) := by decide +kernel
theorem dX1_stands_0 : decode cX1_stands 0 = .ok (.aload_n 0, 1) := by decide +kernel
theorem dX1_stands_1 : decode cX1_stands 1 = .ok (.getfield 9, 3) := by decide +kernel
theorem dX1_stands_4 : decode cX1_stands 4 = .ok (.iload_n 1, 1) := by decide +kernel
theorem dX1_stands_5 : decode cX1_stands 5 = .ok (.iaload, 1) := by decide +kernel
theorem dX1_stands_6 : decode cX1_stands 6 = .ok (.iconst 1, 1) := by decide +kernel
theorem dX1_stands_7 : decode cX1_stands 7 = .ok (.if_icmp .ne 7, 3) := by decide +kernel
theorem dX1_stands_10 : decode cX1_stands 10 = .ok (.iconst 1, 1) := by decide +kernel
theorem dX1_stands_11 : decode cX1_stands 11 = .ok (.goto 4, 3) := by decide +kernel
theorem dX1_stands_14 : decode cX1_stands 14 = .ok (.iconst 0, 1) := by decide +kernel
theorem dX1_stands_15 : decode cX1_stands 15 = .ok (.ireturn, 1) := by decide +kernel
theorem dX1_isIn_0 : decode cX1_isIn 0 = .ok (.aload_n 0, 1) := by decide +kernel
theorem dX1_isIn_1 : decode cX1_isIn 1 = .ok (.getfield 18, 3) := by decide +kernel
theorem dX1_isIn_4 : decode cX1_isIn 4 = .ok (.aload_n 0, 1) := by decide +kernel
theorem dX1_isIn_5 : decode cX1_isIn 5 = .ok (.getfield 15, 3) := by decide +kernel
theorem dX1_isIn_8 : decode cX1_isIn 8 = .ok (.iload_n 1, 1) := by decide +kernel
theorem dX1_isIn_9 : decode cX1_isIn 9 = .ok (.iaload, 1) := by decide +kernel
theorem dX1_isIn_10 : decode cX1_isIn 10 = .ok (.iaload, 1) := by decide +kernel
theorem dX1_isIn_11 : decode cX1_isIn 11 = .ok (.iconst 1, 1) := by decide +kernel
theorem dX1_isIn_12 : decode cX1_isIn 12 = .ok (.if_icmp .ne 7, 3) := by decide +kernel
theorem dX1_isIn_15 : decode cX1_isIn 15 = .ok (.iconst 1, 1) := by decide +kernel
theorem dX1_isIn_16 : decode cX1_isIn 16 = .ok (.goto 4, 3) := by decide +kernel
theorem dX1_isIn_19 : decode cX1_isIn 19 = .ok (.iconst 0, 1) := by decide +kernel
theorem dX1_isIn_20 : decode cX1_isIn 20 = .ok (.ireturn, 1) := by decide +kernel
theorem dX1_prints_0 : decode cX1_prints 0 = .ok (.aload_n 0, 1) := by decide +kernel
theorem dX1_prints_1 : decode cX1_prints 1 = .ok (.iload_n 1, 1) := by decide +kernel
theorem dX1_prints_2 : decode cX1_prints 2 = .ok (.invokevirtual 51, 3) := by decide +kernel
theorem dX1_prints_5 : decode cX1_prints 5 = .ok (.ifCond .eq 15, 3) := by decide +kernel
theorem dX1_prints_8 : decode cX1_prints 8 = .ok (.aload_n 0, 1) := by decide +kernel
theorem dX1_prints_9 : decode cX1_prints 9 = .ok (.iload_n 1, 1) := by decide +kernel
theorem dX1_prints_10 : decode cX1_prints 10 = .ok (.invokevirtual 55, 3) := by decide +kernel
theorem dX1_prints_13 : decode cX1_prints 13 = .ok (.ifCond .eq 7, 3) := by decide +kernel
theorem dX1_prints_16 : decode cX1_prints 16 = .ok (.iconst 1, 1) := by decide +kernel
theorem dX1_prints_17 : decode cX1_prints 17 = .ok (.goto 4, 3) := by decide +kernel
theorem dX1_prints_20 : decode cX1_prints 20 = .ok (.iconst 0, 1) := by decide +kernel
theorem dX1_prints_21 : decode cX1_prints 21 = .ok (.ireturn, 1) := by decide +kernel
theorem dX1_standingCells_0 : decode cX1_standingCells 0 = .ok (.iconst 0, 1) := by decide +kernel
theorem dX1_standingCells_1 : decode cX1_standingCells 1 = .ok (.istore_n 1, 1) := by decide +kernel
theorem dX1_standingCells_2 : decode cX1_standingCells 2 = .ok (.iconst 0, 1) := by decide +kernel
theorem dX1_standingCells_3 : decode cX1_standingCells 3 = .ok (.istore_n 2, 1) := by decide +kernel
theorem dX1_standingCells_4 : decode cX1_standingCells 4 = .ok (.iload_n 2, 1) := by decide +kernel
theorem dX1_standingCells_5 : decode cX1_standingCells 5 = .ok (.bipush 64, 2) := by decide +kernel
theorem dX1_standingCells_7 : decode cX1_standingCells 7 = .ok (.if_icmp .ge 18, 3) := by decide +kernel
theorem dX1_standingCells_10 : decode cX1_standingCells 10 = .ok (.iload_n 1, 1) := by decide +kernel
theorem dX1_standingCells_11 : decode cX1_standingCells 11 = .ok (.aload_n 0, 1) := by decide +kernel
theorem dX1_standingCells_12 : decode cX1_standingCells 12 = .ok (.getfield 9, 3) := by decide +kernel
theorem dX1_standingCells_15 : decode cX1_standingCells 15 = .ok (.iload_n 2, 1) := by decide +kernel
theorem dX1_standingCells_16 : decode cX1_standingCells 16 = .ok (.iaload, 1) := by decide +kernel
theorem dX1_standingCells_17 : decode cX1_standingCells 17 = .ok (.iadd, 1) := by decide +kernel
theorem dX1_standingCells_18 : decode cX1_standingCells 18 = .ok (.istore_n 1, 1) := by decide +kernel
theorem dX1_standingCells_19 : decode cX1_standingCells 19 = .ok (.iinc 2 1, 3) := by decide +kernel
theorem dX1_standingCells_22 : decode cX1_standingCells 22 = .ok (.goto (-18), 3) := by decide +kernel
theorem dX1_standingCells_25 : decode cX1_standingCells 25 = .ok (.iload_n 1, 1) := by decide +kernel
theorem dX1_standingCells_26 : decode cX1_standingCells 26 = .ok (.ireturn, 1) := by decide +kernel
theorem dX1_printingCells_0 : decode cX1_printingCells 0 = .ok (.iconst 0, 1) := by decide +kernel
theorem dX1_printingCells_1 : decode cX1_printingCells 1 = .ok (.istore_n 1, 1) := by decide +kernel
theorem dX1_printingCells_2 : decode cX1_printingCells 2 = .ok (.iconst 0, 1) := by decide +kernel
theorem dX1_printingCells_3 : decode cX1_printingCells 3 = .ok (.istore_n 2, 1) := by decide +kernel
theorem dX1_printingCells_4 : decode cX1_printingCells 4 = .ok (.iload_n 2, 1) := by decide +kernel
theorem dX1_printingCells_5 : decode cX1_printingCells 5 = .ok (.bipush 64, 2) := by decide +kernel
theorem dX1_printingCells_7 : decode cX1_printingCells 7 = .ok (.if_icmp .ge 20, 3) := by decide +kernel
theorem dX1_printingCells_10 : decode cX1_printingCells 10 = .ok (.iload_n 1, 1) := by decide +kernel
theorem dX1_printingCells_11 : decode cX1_printingCells 11 = .ok (.aload_n 0, 1) := by decide +kernel
theorem dX1_printingCells_12 : decode cX1_printingCells 12 = .ok (.iload_n 2, 1) := by decide +kernel
theorem dX1_printingCells_13 : decode cX1_printingCells 13 = .ok (.invokevirtual 58, 3) := by decide +kernel
theorem dX1_printingCells_16 : decode cX1_printingCells 16 = .ok (.invokestatic 61, 3) := by decide +kernel
theorem dX1_printingCells_19 : decode cX1_printingCells 19 = .ok (.iadd, 1) := by decide +kernel
theorem dX1_printingCells_20 : decode cX1_printingCells 20 = .ok (.istore_n 1, 1) := by decide +kernel
theorem dX1_printingCells_21 : decode cX1_printingCells 21 = .ok (.iinc 2 1, 3) := by decide +kernel
theorem dX1_printingCells_24 : decode cX1_printingCells 24 = .ok (.goto (-20), 3) := by decide +kernel
theorem dX1_printingCells_27 : decode cX1_printingCells 27 = .ok (.iload_n 1, 1) := by decide +kernel
theorem dX1_printingCells_28 : decode cX1_printingCells 28 = .ok (.ireturn, 1) := by decide +kernel
theorem dX1_standsInOutPiece_0 : decode cX1_standsInOutPiece 0 = .ok (.iconst 0, 1) := by decide +kernel
theorem dX1_standsInOutPiece_1 : decode cX1_standsInOutPiece 1 = .ok (.istore_n 2, 1) := by decide +kernel
theorem dX1_standsInOutPiece_2 : decode cX1_standsInOutPiece 2 = .ok (.iload_n 2, 1) := by decide +kernel
theorem dX1_standsInOutPiece_3 : decode cX1_standsInOutPiece 3 = .ok (.bipush 64, 2) := by decide +kernel
theorem dX1_standsInOutPiece_5 : decode cX1_standsInOutPiece 5 = .ok (.if_icmp .ge 35, 3) := by decide +kernel
theorem dX1_standsInOutPiece_8 : decode cX1_standsInOutPiece 8 = .ok (.aload_n 1, 1) := by decide +kernel
theorem dX1_standsInOutPiece_9 : decode cX1_standsInOutPiece 9 = .ok (.iload_n 2, 1) := by decide +kernel
theorem dX1_standsInOutPiece_10 : decode cX1_standsInOutPiece 10 = .ok (.invokevirtual 65, 3) := by decide +kernel
theorem dX1_standsInOutPiece_13 : decode cX1_standsInOutPiece 13 = .ok (.ifCond .eq 21, 3) := by decide +kernel
theorem dX1_standsInOutPiece_16 : decode cX1_standsInOutPiece 16 = .ok (.aload_n 0, 1) := by decide +kernel
theorem dX1_standsInOutPiece_17 : decode cX1_standsInOutPiece 17 = .ok (.iload_n 2, 1) := by decide +kernel
theorem dX1_standsInOutPiece_18 : decode cX1_standsInOutPiece 18 = .ok (.invokevirtual 51, 3) := by decide +kernel
theorem dX1_standsInOutPiece_21 : decode cX1_standsInOutPiece 21 = .ok (.ifCond .eq 13, 3) := by decide +kernel
theorem dX1_standsInOutPiece_24 : decode cX1_standsInOutPiece 24 = .ok (.aload_n 0, 1) := by decide +kernel
theorem dX1_standsInOutPiece_25 : decode cX1_standsInOutPiece 25 = .ok (.iload_n 2, 1) := by decide +kernel
theorem dX1_standsInOutPiece_26 : decode cX1_standsInOutPiece 26 = .ok (.invokevirtual 55, 3) := by decide +kernel
theorem dX1_standsInOutPiece_29 : decode cX1_standsInOutPiece 29 = .ok (.ifCond .ne 5, 3) := by decide +kernel
theorem dX1_standsInOutPiece_32 : decode cX1_standsInOutPiece 32 = .ok (.iconst 1, 1) := by decide +kernel
theorem dX1_standsInOutPiece_33 : decode cX1_standsInOutPiece 33 = .ok (.ireturn, 1) := by decide +kernel
theorem dX1_standsInOutPiece_34 : decode cX1_standsInOutPiece 34 = .ok (.iinc 2 1, 3) := by decide +kernel
theorem dX1_standsInOutPiece_37 : decode cX1_standsInOutPiece 37 = .ok (.goto (-35), 3) := by decide +kernel
theorem dX1_standsInOutPiece_40 : decode cX1_standsInOutPiece 40 = .ok (.iconst 0, 1) := by decide +kernel
theorem dX1_standsInOutPiece_41 : decode cX1_standsInOutPiece 41 = .ok (.ireturn, 1) := by decide +kernel
theorem dX1_cutAway_0 : decode cX1_cutAway 0 = .ok (.iconst 0, 1) := by decide +kernel
theorem dX1_cutAway_1 : decode cX1_cutAway 1 = .ok (.istore_n 2, 1) := by decide +kernel
theorem dX1_cutAway_2 : decode cX1_cutAway 2 = .ok (.iconst 0, 1) := by decide +kernel
theorem dX1_cutAway_3 : decode cX1_cutAway 3 = .ok (.istore_n 3, 1) := by decide +kernel
theorem dX1_cutAway_4 : decode cX1_cutAway 4 = .ok (.iload_n 3, 1) := by decide +kernel
theorem dX1_cutAway_5 : decode cX1_cutAway 5 = .ok (.bipush 64, 2) := by decide +kernel
theorem dX1_cutAway_7 : decode cX1_cutAway 7 = .ok (.if_icmp .ge 29, 3) := by decide +kernel
theorem dX1_cutAway_10 : decode cX1_cutAway 10 = .ok (.aload_n 1, 1) := by decide +kernel
theorem dX1_cutAway_11 : decode cX1_cutAway 11 = .ok (.iload_n 3, 1) := by decide +kernel
theorem dX1_cutAway_12 : decode cX1_cutAway 12 = .ok (.invokevirtual 65, 3) := by decide +kernel
theorem dX1_cutAway_15 : decode cX1_cutAway 15 = .ok (.ifCond .eq 15, 3) := by decide +kernel
theorem dX1_cutAway_18 : decode cX1_cutAway 18 = .ok (.iload_n 2, 1) := by decide +kernel
theorem dX1_cutAway_19 : decode cX1_cutAway 19 = .ok (.aload_n 0, 1) := by decide +kernel
theorem dX1_cutAway_20 : decode cX1_cutAway 20 = .ok (.getfield 9, 3) := by decide +kernel
theorem dX1_cutAway_23 : decode cX1_cutAway 23 = .ok (.iload_n 3, 1) := by decide +kernel
theorem dX1_cutAway_24 : decode cX1_cutAway 24 = .ok (.iconst 0, 1) := by decide +kernel
theorem dX1_cutAway_25 : decode cX1_cutAway 25 = .ok (.invokestatic 70, 3) := by decide +kernel
theorem dX1_cutAway_28 : decode cX1_cutAway 28 = .ok (.iadd, 1) := by decide +kernel
theorem dX1_cutAway_29 : decode cX1_cutAway 29 = .ok (.istore_n 2, 1) := by decide +kernel
theorem dX1_cutAway_30 : decode cX1_cutAway 30 = .ok (.iinc 3 1, 3) := by decide +kernel
theorem dX1_cutAway_33 : decode cX1_cutAway 33 = .ok (.goto (-29), 3) := by decide +kernel
theorem dX1_cutAway_36 : decode cX1_cutAway 36 = .ok (.iload_n 2, 1) := by decide +kernel
theorem dX1_cutAway_37 : decode cX1_cutAway 37 = .ok (.ireturn, 1) := by decide +kernel
theorem dX1_divides_0 : decode cX1_divides 0 = .ok (.iconst 0, 1) := by decide +kernel
theorem dX1_divides_1 : decode cX1_divides 1 = .ok (.istore_n 3, 1) := by decide +kernel
theorem dX1_divides_2 : decode cX1_divides 2 = .ok (.iconst 0, 1) := by decide +kernel
theorem dX1_divides_3 : decode cX1_divides 3 = .ok (.istore 4, 2) := by decide +kernel
theorem dX1_divides_5 : decode cX1_divides 5 = .ok (.iconst 0, 1) := by decide +kernel
theorem dX1_divides_6 : decode cX1_divides 6 = .ok (.istore 5, 2) := by decide +kernel
theorem dX1_divides_8 : decode cX1_divides 8 = .ok (.iload 5, 2) := by decide +kernel
theorem dX1_divides_10 : decode cX1_divides 10 = .ok (.bipush 64, 2) := by decide +kernel
theorem dX1_divides_12 : decode cX1_divides 12 = .ok (.if_icmp .ge 57, 3) := by decide +kernel
theorem dX1_divides_15 : decode cX1_divides 15 = .ok (.aload_n 0, 1) := by decide +kernel
theorem dX1_divides_16 : decode cX1_divides 16 = .ok (.iload 5, 2) := by decide +kernel
theorem dX1_divides_18 : decode cX1_divides 18 = .ok (.invokevirtual 74, 3) := by decide +kernel
theorem dX1_divides_21 : decode cX1_divides 21 = .ok (.ifCond .eq 42, 3) := by decide +kernel
theorem dX1_divides_24 : decode cX1_divides 24 = .ok (.aload_n 0, 1) := by decide +kernel
theorem dX1_divides_25 : decode cX1_divides 25 = .ok (.getfield 15, 3) := by decide +kernel
theorem dX1_divides_28 : decode cX1_divides 28 = .ok (.iload 5, 2) := by decide +kernel
theorem dX1_divides_30 : decode cX1_divides 30 = .ok (.iaload, 1) := by decide +kernel
theorem dX1_divides_31 : decode cX1_divides 31 = .ok (.iload_n 2, 1) := by decide +kernel
theorem dX1_divides_32 : decode cX1_divides 32 = .ok (.if_icmp .ne 31, 3) := by decide +kernel
theorem dX1_divides_35 : decode cX1_divides 35 = .ok (.iload_n 3, 1) := by decide +kernel
theorem dX1_divides_36 : decode cX1_divides 36 = .ok (.aload_n 1, 1) := by decide +kernel
theorem dX1_divides_37 : decode cX1_divides 37 = .ok (.iload 5, 2) := by decide +kernel
theorem dX1_divides_39 : decode cX1_divides 39 = .ok (.invokevirtual 65, 3) := by decide +kernel
theorem dX1_divides_42 : decode cX1_divides 42 = .ok (.ior, 1) := by decide +kernel
theorem dX1_divides_43 : decode cX1_divides 43 = .ok (.istore_n 3, 1) := by decide +kernel
theorem dX1_divides_44 : decode cX1_divides 44 = .ok (.iload 4, 2) := by decide +kernel
theorem dX1_divides_46 : decode cX1_divides 46 = .ok (.aload_n 1, 1) := by decide +kernel
theorem dX1_divides_47 : decode cX1_divides 47 = .ok (.iload 5, 2) := by decide +kernel
theorem dX1_divides_49 : decode cX1_divides 49 = .ok (.invokevirtual 65, 3) := by decide +kernel
theorem dX1_divides_52 : decode cX1_divides 52 = .ok (.ifCond .ne 7, 3) := by decide +kernel
theorem dX1_divides_55 : decode cX1_divides 55 = .ok (.iconst 1, 1) := by decide +kernel
theorem dX1_divides_56 : decode cX1_divides 56 = .ok (.goto 4, 3) := by decide +kernel
theorem dX1_divides_59 : decode cX1_divides 59 = .ok (.iconst 0, 1) := by decide +kernel
theorem dX1_divides_60 : decode cX1_divides 60 = .ok (.ior, 1) := by decide +kernel
theorem dX1_divides_61 : decode cX1_divides 61 = .ok (.istore 4, 2) := by decide +kernel
theorem dX1_divides_63 : decode cX1_divides 63 = .ok (.iinc 5 1, 3) := by decide +kernel
theorem dX1_divides_66 : decode cX1_divides 66 = .ok (.goto (-58), 3) := by decide +kernel
theorem dX1_divides_69 : decode cX1_divides 69 = .ok (.iload_n 3, 1) := by decide +kernel
theorem dX1_divides_70 : decode cX1_divides 70 = .ok (.ifCond .eq 12, 3) := by decide +kernel
theorem dX1_divides_73 : decode cX1_divides 73 = .ok (.iload 4, 2) := by decide +kernel
theorem dX1_divides_75 : decode cX1_divides 75 = .ok (.ifCond .eq 7, 3) := by decide +kernel
theorem dX1_divides_78 : decode cX1_divides 78 = .ok (.iconst 1, 1) := by decide +kernel
theorem dX1_divides_79 : decode cX1_divides 79 = .ok (.goto 4, 3) := by decide +kernel
theorem dX1_divides_82 : decode cX1_divides 82 = .ok (.iconst 0, 1) := by decide +kernel
theorem dX1_divides_83 : decode cX1_divides 83 = .ok (.ireturn, 1) := by decide +kernel
theorem dX1_sawFree_0 : decode cX1_sawFree 0 = .ok (.aload_n 0, 1) := by decide +kernel
theorem dX1_sawFree_1 : decode cX1_sawFree 1 = .ok (.getfield 40, 3) := by decide +kernel
theorem dX1_sawFree_4 : decode cX1_sawFree 4 = .ok (.istore_n 3, 1) := by decide +kernel
theorem dX1_sawFree_5 : decode cX1_sawFree 5 = .ok (.aload_n 0, 1) := by decide +kernel
theorem dX1_sawFree_6 : decode cX1_sawFree 6 = .ok (.dup, 1) := by decide +kernel
theorem dX1_sawFree_7 : decode cX1_sawFree 7 = .ok (.getfield 40, 3) := by decide +kernel
theorem dX1_sawFree_10 : decode cX1_sawFree 10 = .ok (.iconst 1, 1) := by decide +kernel
theorem dX1_sawFree_11 : decode cX1_sawFree 11 = .ok (.iadd, 1) := by decide +kernel
theorem dX1_sawFree_12 : decode cX1_sawFree 12 = .ok (.putfield 40, 3) := by decide +kernel
theorem dX1_sawFree_15 : decode cX1_sawFree 15 = .ok (.aload_n 0, 1) := by decide +kernel
theorem dX1_sawFree_16 : decode cX1_sawFree 16 = .ok (.getfield 18, 3) := by decide +kernel
theorem dX1_sawFree_19 : decode cX1_sawFree 19 = .ok (.iload_n 3, 1) := by decide +kernel
theorem dX1_sawFree_20 : decode cX1_sawFree 20 = .ok (.aload_n 0, 1) := by decide +kernel
theorem dX1_sawFree_21 : decode cX1_sawFree 21 = .ok (.getfield 18, 3) := by decide +kernel
theorem dX1_sawFree_24 : decode cX1_sawFree 24 = .ok (.iload_n 2, 1) := by decide +kernel
theorem dX1_sawFree_25 : decode cX1_sawFree 25 = .ok (.iaload, 1) := by decide +kernel
theorem dX1_sawFree_26 : decode cX1_sawFree 26 = .ok (.iastore, 1) := by decide +kernel
theorem dX1_sawFree_27 : decode cX1_sawFree 27 = .ok (.iconst 0, 1) := by decide +kernel
theorem dX1_sawFree_28 : decode cX1_sawFree 28 = .ok (.istore 4, 2) := by decide +kernel
theorem dX1_sawFree_30 : decode cX1_sawFree 30 = .ok (.iload 4, 2) := by decide +kernel
theorem dX1_sawFree_32 : decode cX1_sawFree 32 = .ok (.bipush 64, 2) := by decide +kernel
theorem dX1_sawFree_34 : decode cX1_sawFree 34 = .ok (.if_icmp .ge 37, 3) := by decide +kernel
theorem dX1_sawFree_37 : decode cX1_sawFree 37 = .ok (.aload_n 1, 1) := by decide +kernel
theorem dX1_sawFree_38 : decode cX1_sawFree 38 = .ok (.iload 4, 2) := by decide +kernel
theorem dX1_sawFree_40 : decode cX1_sawFree 40 = .ok (.invokevirtual 65, 3) := by decide +kernel
theorem dX1_sawFree_43 : decode cX1_sawFree 43 = .ok (.ifCond .eq 22, 3) := by decide +kernel
theorem dX1_sawFree_46 : decode cX1_sawFree 46 = .ok (.aload_n 0, 1) := by decide +kernel
theorem dX1_sawFree_47 : decode cX1_sawFree 47 = .ok (.getfield 15, 3) := by decide +kernel
theorem dX1_sawFree_50 : decode cX1_sawFree 50 = .ok (.iload 4, 2) := by decide +kernel
theorem dX1_sawFree_52 : decode cX1_sawFree 52 = .ok (.iaload, 1) := by decide +kernel
theorem dX1_sawFree_53 : decode cX1_sawFree 53 = .ok (.iload_n 2, 1) := by decide +kernel
theorem dX1_sawFree_54 : decode cX1_sawFree 54 = .ok (.if_icmp .ne 11, 3) := by decide +kernel
theorem dX1_sawFree_57 : decode cX1_sawFree 57 = .ok (.aload_n 0, 1) := by decide +kernel
theorem dX1_sawFree_58 : decode cX1_sawFree 58 = .ok (.getfield 15, 3) := by decide +kernel
theorem dX1_sawFree_61 : decode cX1_sawFree 61 = .ok (.iload 4, 2) := by decide +kernel
theorem dX1_sawFree_63 : decode cX1_sawFree 63 = .ok (.iload_n 3, 1) := by decide +kernel
theorem dX1_sawFree_64 : decode cX1_sawFree 64 = .ok (.iastore, 1) := by decide +kernel
theorem dX1_sawFree_65 : decode cX1_sawFree 65 = .ok (.iinc 4 1, 3) := by decide +kernel
theorem dX1_sawFree_68 : decode cX1_sawFree 68 = .ok (.goto (-38), 3) := by decide +kernel
theorem dX1_sawFree_71 : decode cX1_sawFree 71 = .ok (.iload_n 3, 1) := by decide +kernel
theorem dX1_sawFree_72 : decode cX1_sawFree 72 = .ok (.ireturn, 1) := by decide +kernel
theorem dX1_markIslands_0 : decode cX1_markIslands 0 = .ok (.aload_n 0, 1) := by decide +kernel
theorem dX1_markIslands_1 : decode cX1_markIslands 1 = .ok (.getfield 21, 3) := by decide +kernel
theorem dX1_markIslands_4 : decode cX1_markIslands 4 = .ok (.iconst (-1), 1) := by decide +kernel
theorem dX1_markIslands_5 : decode cX1_markIslands 5 = .ok (.invokestatic 77, 3) := by decide +kernel
theorem dX1_markIslands_8 : decode cX1_markIslands 8 = .ok (.aload_n 0, 1) := by decide +kernel
theorem dX1_markIslands_9 : decode cX1_markIslands 9 = .ok (.iconst 0, 1) := by decide +kernel
theorem dX1_markIslands_10 : decode cX1_markIslands 10 = .ok (.putfield 80, 3) := by decide +kernel
theorem dX1_markIslands_13 : decode cX1_markIslands 13 = .ok (.aload_n 0, 1) := by decide +kernel
theorem dX1_markIslands_14 : decode cX1_markIslands 14 = .ok (.iconst 0, 1) := by decide +kernel
theorem dX1_markIslands_15 : decode cX1_markIslands 15 = .ok (.putfield 83, 3) := by decide +kernel
theorem dX1_markIslands_18 : decode cX1_markIslands 18 = .ok (.iconst 0, 1) := by decide +kernel
theorem dX1_markIslands_19 : decode cX1_markIslands 19 = .ok (.istore_n 1, 1) := by decide +kernel
theorem dX1_markIslands_20 : decode cX1_markIslands 20 = .ok (.iload_n 1, 1) := by decide +kernel
theorem dX1_markIslands_21 : decode cX1_markIslands 21 = .ok (.bipush 64, 2) := by decide +kernel
theorem dX1_markIslands_23 : decode cX1_markIslands 23 = .ok (.if_icmp .ge 53, 3) := by decide +kernel
theorem dX1_markIslands_26 : decode cX1_markIslands 26 = .ok (.aload_n 0, 1) := by decide +kernel
theorem dX1_markIslands_27 : decode cX1_markIslands 27 = .ok (.iload_n 1, 1) := by decide +kernel
theorem dX1_markIslands_28 : decode cX1_markIslands 28 = .ok (.invokevirtual 58, 3) := by decide +kernel
theorem dX1_markIslands_31 : decode cX1_markIslands 31 = .ok (.ifCond .eq 39, 3) := by decide +kernel
theorem dX1_markIslands_34 : decode cX1_markIslands 34 = .ok (.aload_n 0, 1) := by decide +kernel
theorem dX1_markIslands_35 : decode cX1_markIslands 35 = .ok (.getfield 21, 3) := by decide +kernel
theorem dX1_markIslands_38 : decode cX1_markIslands 38 = .ok (.iload_n 1, 1) := by decide +kernel
theorem dX1_markIslands_39 : decode cX1_markIslands 39 = .ok (.iaload, 1) := by decide +kernel
theorem dX1_markIslands_40 : decode cX1_markIslands 40 = .ok (.iconst (-1), 1) := by decide +kernel
theorem dX1_markIslands_41 : decode cX1_markIslands 41 = .ok (.if_icmp .ne 29, 3) := by decide +kernel
theorem dX1_markIslands_44 : decode cX1_markIslands 44 = .ok (.aload_n 0, 1) := by decide +kernel
theorem dX1_markIslands_45 : decode cX1_markIslands 45 = .ok (.aload_n 0, 1) := by decide +kernel
theorem dX1_markIslands_46 : decode cX1_markIslands 46 = .ok (.getfield 83, 3) := by decide +kernel
theorem dX1_markIslands_49 : decode cX1_markIslands 49 = .ok (.aload_n 0, 1) := by decide +kernel
theorem dX1_markIslands_50 : decode cX1_markIslands 50 = .ok (.iload_n 1, 1) := by decide +kernel
theorem dX1_markIslands_51 : decode cX1_markIslands 51 = .ok (.invokevirtual 86, 3) := by decide +kernel
theorem dX1_markIslands_54 : decode cX1_markIslands 54 = .ok (.invokestatic 90, 3) := by decide +kernel
theorem dX1_markIslands_57 : decode cX1_markIslands 57 = .ok (.putfield 83, 3) := by decide +kernel
theorem dX1_markIslands_60 : decode cX1_markIslands 60 = .ok (.aload_n 0, 1) := by decide +kernel
theorem dX1_markIslands_61 : decode cX1_markIslands 61 = .ok (.dup, 1) := by decide +kernel
theorem dX1_markIslands_62 : decode cX1_markIslands 62 = .ok (.getfield 80, 3) := by decide +kernel
theorem dX1_markIslands_65 : decode cX1_markIslands 65 = .ok (.iconst 1, 1) := by decide +kernel
theorem dX1_markIslands_66 : decode cX1_markIslands 66 = .ok (.iadd, 1) := by decide +kernel
theorem dX1_markIslands_67 : decode cX1_markIslands 67 = .ok (.putfield 80, 3) := by decide +kernel
theorem dX1_markIslands_70 : decode cX1_markIslands 70 = .ok (.iinc 1 1, 3) := by decide +kernel
theorem dX1_markIslands_73 : decode cX1_markIslands 73 = .ok (.goto (-53), 3) := by decide +kernel
theorem dX1_markIslands_76 : decode cX1_markIslands 76 = .ok (.return_, 1) := by decide +kernel
theorem dX1_markIsland_0 : decode cX1_markIsland 0 = .ok (.aload_n 0, 1) := by decide +kernel
theorem dX1_markIsland_1 : decode cX1_markIsland 1 = .ok (.getfield 24, 3) := by decide +kernel
theorem dX1_markIsland_4 : decode cX1_markIsland 4 = .ok (.iconst 0, 1) := by decide +kernel
theorem dX1_markIsland_5 : decode cX1_markIsland 5 = .ok (.iload_n 1, 1) := by decide +kernel
theorem dX1_markIsland_6 : decode cX1_markIsland 6 = .ok (.iastore, 1) := by decide +kernel
theorem dX1_markIsland_7 : decode cX1_markIsland 7 = .ok (.aload_n 0, 1) := by decide +kernel
theorem dX1_markIsland_8 : decode cX1_markIsland 8 = .ok (.getfield 21, 3) := by decide +kernel
theorem dX1_markIsland_11 : decode cX1_markIsland 11 = .ok (.iload_n 1, 1) := by decide +kernel
theorem dX1_markIsland_12 : decode cX1_markIsland 12 = .ok (.aload_n 0, 1) := by decide +kernel
theorem dX1_markIsland_13 : decode cX1_markIsland 13 = .ok (.getfield 80, 3) := by decide +kernel
theorem dX1_markIsland_16 : decode cX1_markIsland 16 = .ok (.iastore, 1) := by decide +kernel
theorem dX1_markIsland_17 : decode cX1_markIsland 17 = .ok (.iconst 1, 1) := by decide +kernel
theorem dX1_markIsland_18 : decode cX1_markIsland 18 = .ok (.istore_n 2, 1) := by decide +kernel
theorem dX1_markIsland_19 : decode cX1_markIsland 19 = .ok (.iconst 0, 1) := by decide +kernel
theorem dX1_markIsland_20 : decode cX1_markIsland 20 = .ok (.istore_n 3, 1) := by decide +kernel
theorem dX1_markIsland_21 : decode cX1_markIsland 21 = .ok (.iload_n 3, 1) := by decide +kernel
theorem dX1_markIsland_22 : decode cX1_markIsland 22 = .ok (.iload_n 2, 1) := by decide +kernel
theorem dX1_markIsland_23 : decode cX1_markIsland 23 = .ok (.if_icmp .ge 27, 3) := by decide +kernel
theorem dX1_markIsland_26 : decode cX1_markIsland 26 = .ok (.iload_n 3, 1) := by decide +kernel
theorem dX1_markIsland_27 : decode cX1_markIsland 27 = .ok (.bipush 64, 2) := by decide +kernel
theorem dX1_markIsland_29 : decode cX1_markIsland 29 = .ok (.if_icmp .ge 21, 3) := by decide +kernel
theorem dX1_markIsland_32 : decode cX1_markIsland 32 = .ok (.aload_n 0, 1) := by decide +kernel
theorem dX1_markIsland_33 : decode cX1_markIsland 33 = .ok (.aload_n 0, 1) := by decide +kernel
theorem dX1_markIsland_34 : decode cX1_markIsland 34 = .ok (.getfield 24, 3) := by decide +kernel
theorem dX1_markIsland_37 : decode cX1_markIsland 37 = .ok (.iload_n 3, 1) := by decide +kernel
theorem dX1_markIsland_38 : decode cX1_markIsland 38 = .ok (.iaload, 1) := by decide +kernel
theorem dX1_markIsland_39 : decode cX1_markIsland 39 = .ok (.iload_n 2, 1) := by decide +kernel
theorem dX1_markIsland_40 : decode cX1_markIsland 40 = .ok (.invokevirtual 96, 3) := by decide +kernel
theorem dX1_markIsland_43 : decode cX1_markIsland 43 = .ok (.istore_n 2, 1) := by decide +kernel
theorem dX1_markIsland_44 : decode cX1_markIsland 44 = .ok (.iinc 3 1, 3) := by decide +kernel
theorem dX1_markIsland_47 : decode cX1_markIsland 47 = .ok (.goto (-26), 3) := by decide +kernel
theorem dX1_markIsland_50 : decode cX1_markIsland 50 = .ok (.iload_n 2, 1) := by decide +kernel
theorem dX1_markIsland_51 : decode cX1_markIsland 51 = .ok (.ireturn, 1) := by decide +kernel
theorem dX1_findNeighbours_0 : decode cX1_findNeighbours 0 = .ok (.iload_n 2, 1) := by decide +kernel
theorem dX1_findNeighbours_1 : decode cX1_findNeighbours 1 = .ok (.istore_n 3, 1) := by decide +kernel
theorem dX1_findNeighbours_2 : decode cX1_findNeighbours 2 = .ok (.iconst 0, 1) := by decide +kernel
theorem dX1_findNeighbours_3 : decode cX1_findNeighbours 3 = .ok (.istore 4, 2) := by decide +kernel
theorem dX1_findNeighbours_5 : decode cX1_findNeighbours 5 = .ok (.iload 4, 2) := by decide +kernel
theorem dX1_findNeighbours_7 : decode cX1_findNeighbours 7 = .ok (.getstatic 99, 3) := by decide +kernel
theorem dX1_findNeighbours_10 : decode cX1_findNeighbours 10 = .ok (.arraylength, 1) := by decide +kernel
theorem dX1_findNeighbours_11 : decode cX1_findNeighbours 11 = .ok (.if_icmp .ge 120, 3) := by decide +kernel
theorem dX1_findNeighbours_14 : decode cX1_findNeighbours 14 = .ok (.iload_n 1, 1) := by decide +kernel
theorem dX1_findNeighbours_15 : decode cX1_findNeighbours 15 = .ok (.bipush 8, 2) := by decide +kernel
theorem dX1_findNeighbours_17 : decode cX1_findNeighbours 17 = .ok (.idiv, 1) := by decide +kernel
theorem dX1_findNeighbours_18 : decode cX1_findNeighbours 18 = .ok (.getstatic 99, 3) := by decide +kernel
theorem dX1_findNeighbours_21 : decode cX1_findNeighbours 21 = .ok (.iload 4, 2) := by decide +kernel
theorem dX1_findNeighbours_23 : decode cX1_findNeighbours 23 = .ok (.iaload, 1) := by decide +kernel
theorem dX1_findNeighbours_24 : decode cX1_findNeighbours 24 = .ok (.iadd, 1) := by decide +kernel
theorem dX1_findNeighbours_25 : decode cX1_findNeighbours 25 = .ok (.istore 5, 2) := by decide +kernel
theorem dX1_findNeighbours_27 : decode cX1_findNeighbours 27 = .ok (.iload_n 1, 1) := by decide +kernel
theorem dX1_findNeighbours_28 : decode cX1_findNeighbours 28 = .ok (.bipush 8, 2) := by decide +kernel
theorem dX1_findNeighbours_30 : decode cX1_findNeighbours 30 = .ok (.irem, 1) := by decide +kernel
theorem dX1_findNeighbours_31 : decode cX1_findNeighbours 31 = .ok (.getstatic 102, 3) := by decide +kernel
theorem dX1_findNeighbours_34 : decode cX1_findNeighbours 34 = .ok (.iload 4, 2) := by decide +kernel
theorem dX1_findNeighbours_36 : decode cX1_findNeighbours 36 = .ok (.iaload, 1) := by decide +kernel
theorem dX1_findNeighbours_37 : decode cX1_findNeighbours 37 = .ok (.iadd, 1) := by decide +kernel
theorem dX1_findNeighbours_38 : decode cX1_findNeighbours 38 = .ok (.istore 6, 2) := by decide +kernel
theorem dX1_findNeighbours_40 : decode cX1_findNeighbours 40 = .ok (.iload 5, 2) := by decide +kernel
theorem dX1_findNeighbours_42 : decode cX1_findNeighbours 42 = .ok (.bipush 8, 2) := by decide +kernel
theorem dX1_findNeighbours_44 : decode cX1_findNeighbours 44 = .ok (.imul, 1) := by decide +kernel
theorem dX1_findNeighbours_45 : decode cX1_findNeighbours 45 = .ok (.iload 6, 2) := by decide +kernel
theorem dX1_findNeighbours_47 : decode cX1_findNeighbours 47 = .ok (.iadd, 1) := by decide +kernel
theorem dX1_findNeighbours_48 : decode cX1_findNeighbours 48 = .ok (.istore 7, 2) := by decide +kernel
theorem dX1_findNeighbours_50 : decode cX1_findNeighbours 50 = .ok (.aload_n 0, 1) := by decide +kernel
theorem dX1_findNeighbours_51 : decode cX1_findNeighbours 51 = .ok (.iload 5, 2) := by decide +kernel
theorem dX1_findNeighbours_53 : decode cX1_findNeighbours 53 = .ok (.iload 6, 2) := by decide +kernel
theorem dX1_findNeighbours_55 : decode cX1_findNeighbours 55 = .ok (.invokevirtual 47, 3) := by decide +kernel
theorem dX1_findNeighbours_58 : decode cX1_findNeighbours 58 = .ok (.ifCond .eq 67, 3) := by decide +kernel
theorem dX1_findNeighbours_61 : decode cX1_findNeighbours 61 = .ok (.aload_n 0, 1) := by decide +kernel
theorem dX1_findNeighbours_62 : decode cX1_findNeighbours 62 = .ok (.getfield 21, 3) := by decide +kernel
theorem dX1_findNeighbours_65 : decode cX1_findNeighbours 65 = .ok (.iload 7, 2) := by decide +kernel
theorem dX1_findNeighbours_67 : decode cX1_findNeighbours 67 = .ok (.iaload, 1) := by decide +kernel
theorem dX1_findNeighbours_68 : decode cX1_findNeighbours 68 = .ok (.iconst (-1), 1) := by decide +kernel
theorem dX1_findNeighbours_69 : decode cX1_findNeighbours 69 = .ok (.if_icmp .ne 56, 3) := by decide +kernel
theorem dX1_findNeighbours_72 : decode cX1_findNeighbours 72 = .ok (.iload_n 3, 1) := by decide +kernel
theorem dX1_findNeighbours_73 : decode cX1_findNeighbours 73 = .ok (.bipush 64, 2) := by decide +kernel
theorem dX1_findNeighbours_75 : decode cX1_findNeighbours 75 = .ok (.if_icmp .ge 50, 3) := by decide +kernel
theorem dX1_findNeighbours_78 : decode cX1_findNeighbours 78 = .ok (.aload_n 0, 1) := by decide +kernel
theorem dX1_findNeighbours_79 : decode cX1_findNeighbours 79 = .ok (.iload 7, 2) := by decide +kernel
theorem dX1_findNeighbours_81 : decode cX1_findNeighbours 81 = .ok (.invokevirtual 58, 3) := by decide +kernel
theorem dX1_findNeighbours_84 : decode cX1_findNeighbours 84 = .ok (.ifCond .eq 41, 3) := by decide +kernel
theorem dX1_findNeighbours_87 : decode cX1_findNeighbours 87 = .ok (.aload_n 0, 1) := by decide +kernel
theorem dX1_findNeighbours_88 : decode cX1_findNeighbours 88 = .ok (.getfield 15, 3) := by decide +kernel
theorem dX1_findNeighbours_91 : decode cX1_findNeighbours 91 = .ok (.iload 7, 2) := by decide +kernel
theorem dX1_findNeighbours_93 : decode cX1_findNeighbours 93 = .ok (.iaload, 1) := by decide +kernel
theorem dX1_findNeighbours_94 : decode cX1_findNeighbours 94 = .ok (.aload_n 0, 1) := by decide +kernel
theorem dX1_findNeighbours_95 : decode cX1_findNeighbours 95 = .ok (.getfield 15, 3) := by decide +kernel
theorem dX1_findNeighbours_98 : decode cX1_findNeighbours 98 = .ok (.iload_n 1, 1) := by decide +kernel
theorem dX1_findNeighbours_99 : decode cX1_findNeighbours 99 = .ok (.iaload, 1) := by decide +kernel
theorem dX1_findNeighbours_100 : decode cX1_findNeighbours 100 = .ok (.if_icmp .ne 25, 3) := by decide +kernel
theorem dX1_findNeighbours_103 : decode cX1_findNeighbours 103 = .ok (.aload_n 0, 1) := by decide +kernel
theorem dX1_findNeighbours_104 : decode cX1_findNeighbours 104 = .ok (.getfield 21, 3) := by decide +kernel
theorem dX1_findNeighbours_107 : decode cX1_findNeighbours 107 = .ok (.iload 7, 2) := by decide +kernel
theorem dX1_findNeighbours_109 : decode cX1_findNeighbours 109 = .ok (.aload_n 0, 1) := by decide +kernel
theorem dX1_findNeighbours_110 : decode cX1_findNeighbours 110 = .ok (.getfield 80, 3) := by decide +kernel
theorem dX1_findNeighbours_113 : decode cX1_findNeighbours 113 = .ok (.iastore, 1) := by decide +kernel
theorem dX1_findNeighbours_114 : decode cX1_findNeighbours 114 = .ok (.aload_n 0, 1) := by decide +kernel
theorem dX1_findNeighbours_115 : decode cX1_findNeighbours 115 = .ok (.getfield 24, 3) := by decide +kernel
theorem dX1_findNeighbours_118 : decode cX1_findNeighbours 118 = .ok (.iload_n 3, 1) := by decide +kernel
theorem dX1_findNeighbours_119 : decode cX1_findNeighbours 119 = .ok (.iload 7, 2) := by decide +kernel
theorem dX1_findNeighbours_121 : decode cX1_findNeighbours 121 = .ok (.iastore, 1) := by decide +kernel
theorem dX1_findNeighbours_122 : decode cX1_findNeighbours 122 = .ok (.iinc 3 1, 3) := by decide +kernel
theorem dX1_findNeighbours_125 : decode cX1_findNeighbours 125 = .ok (.iinc 4 1, 3) := by decide +kernel
theorem dX1_findNeighbours_128 : decode cX1_findNeighbours 128 = .ok (.goto (-123), 3) := by decide +kernel
theorem dX1_findNeighbours_131 : decode cX1_findNeighbours 131 = .ok (.iload_n 3, 1) := by decide +kernel
theorem dX1_findNeighbours_132 : decode cX1_findNeighbours 132 = .ok (.ireturn, 1) := by decide +kernel
theorem dX2_init_0 : decode cX2_init 0 = .ok (.aload_n 0, 1) := by decide +kernel
theorem dX2_init_1 : decode cX2_init 1 = .ok (.invokespecial 3, 3) := by decide +kernel
theorem dX2_init_4 : decode cX2_init 4 = .ok (.aload_n 0, 1) := by decide +kernel
theorem dX2_init_5 : decode cX2_init 5 = .ok (.iload_n 1, 1) := by decide +kernel
theorem dX2_init_6 : decode cX2_init 6 = .ok (.putfield 9, 3) := by decide +kernel
theorem dX2_init_9 : decode cX2_init 9 = .ok (.aload_n 0, 1) := by decide +kernel
theorem dX2_init_10 : decode cX2_init 10 = .ok (.iload_n 2, 1) := by decide +kernel
theorem dX2_init_11 : decode cX2_init 11 = .ok (.putfield 15, 3) := by decide +kernel
theorem dX2_init_14 : decode cX2_init 14 = .ok (.aload_n 0, 1) := by decide +kernel
theorem dX2_init_15 : decode cX2_init 15 = .ok (.iload_n 3, 1) := by decide +kernel
theorem dX2_init_16 : decode cX2_init 16 = .ok (.putfield 18, 3) := by decide +kernel
theorem dX2_init_19 : decode cX2_init 19 = .ok (.aload_n 0, 1) := by decide +kernel
theorem dX2_init_20 : decode cX2_init 20 = .ok (.iload 4, 2) := by decide +kernel
theorem dX2_init_22 : decode cX2_init 22 = .ok (.putfield 21, 3) := by decide +kernel
theorem dX2_init_25 : decode cX2_init 25 = .ok (.aload_n 0, 1) := by decide +kernel
theorem dX2_init_26 : decode cX2_init 26 = .ok (.iload 5, 2) := by decide +kernel
theorem dX2_init_28 : decode cX2_init 28 = .ok (.putfield 24, 3) := by decide +kernel
theorem dX2_init_31 : decode cX2_init 31 = .ok (.return_, 1) := by decide +kernel
theorem dX2_fact_0 : decode cX2_fact 0 = .ok (.iload_n 1, 1) := by decide +kernel
theorem dX2_fact_1 : decode cX2_fact 1 = .ok (.tableswitch 60 0 4 #[35, 40, 45, 50, 55], 35) := by decide +kernel
theorem dX2_fact_36 : decode cX2_fact 36 = .ok (.aload_n 0, 1) := by decide +kernel
theorem dX2_fact_37 : decode cX2_fact 37 = .ok (.getfield 9, 3) := by decide +kernel
theorem dX2_fact_40 : decode cX2_fact 40 = .ok (.ireturn, 1) := by decide +kernel
theorem dX2_fact_41 : decode cX2_fact 41 = .ok (.aload_n 0, 1) := by decide +kernel
theorem dX2_fact_42 : decode cX2_fact 42 = .ok (.getfield 15, 3) := by decide +kernel
theorem dX2_fact_45 : decode cX2_fact 45 = .ok (.ireturn, 1) := by decide +kernel
theorem dX2_fact_46 : decode cX2_fact 46 = .ok (.aload_n 0, 1) := by decide +kernel
theorem dX2_fact_47 : decode cX2_fact 47 = .ok (.getfield 18, 3) := by decide +kernel
theorem dX2_fact_50 : decode cX2_fact 50 = .ok (.ireturn, 1) := by decide +kernel
theorem dX2_fact_51 : decode cX2_fact 51 = .ok (.aload_n 0, 1) := by decide +kernel
theorem dX2_fact_52 : decode cX2_fact 52 = .ok (.getfield 21, 3) := by decide +kernel
theorem dX2_fact_55 : decode cX2_fact 55 = .ok (.ireturn, 1) := by decide +kernel
theorem dX2_fact_56 : decode cX2_fact 56 = .ok (.aload_n 0, 1) := by decide +kernel
theorem dX2_fact_57 : decode cX2_fact 57 = .ok (.getfield 24, 3) := by decide +kernel
theorem dX2_fact_60 : decode cX2_fact 60 = .ok (.ireturn, 1) := by decide +kernel
theorem dX2_fact_61 : decode cX2_fact 61 = .ok (.iconst (-1), 1) := by decide +kernel
theorem dX2_fact_62 : decode cX2_fact 62 = .ok (.ireturn, 1) := by decide +kernel
theorem dX3_init_0 : decode cX3_init 0 = .ok (.aload_n 0, 1) := by decide +kernel
theorem dX3_init_1 : decode cX3_init 1 = .ok (.invokespecial 3, 3) := by decide +kernel
theorem dX3_init_4 : decode cX3_init 4 = .ok (.aload_n 0, 1) := by decide +kernel
theorem dX3_init_5 : decode cX3_init 5 = .ok (.iconst 5, 1) := by decide +kernel
theorem dX3_init_6 : decode cX3_init 6 = .ok (.newarray .int, 2) := by decide +kernel
theorem dX3_init_8 : decode cX3_init 8 = .ok (.putfield 9, 3) := by decide +kernel
theorem dX3_init_11 : decode cX3_init 11 = .ok (.aload_n 0, 1) := by decide +kernel
theorem dX3_init_12 : decode cX3_init 12 = .ok (.iconst 0, 1) := by decide +kernel
theorem dX3_init_13 : decode cX3_init 13 = .ok (.putfield 15, 3) := by decide +kernel
theorem dX3_init_16 : decode cX3_init 16 = .ok (.return_, 1) := by decide +kernel
theorem dX3_init__0 : decode cX3_init_ 0 = .ok (.aload_n 0, 1) := by decide +kernel
theorem dX3_init__1 : decode cX3_init_ 1 = .ok (.invokespecial 3, 3) := by decide +kernel
theorem dX3_init__4 : decode cX3_init_ 4 = .ok (.aload_n 0, 1) := by decide +kernel
theorem dX3_init__5 : decode cX3_init_ 5 = .ok (.iconst 5, 1) := by decide +kernel
theorem dX3_init__6 : decode cX3_init_ 6 = .ok (.newarray .int, 2) := by decide +kernel
theorem dX3_init__8 : decode cX3_init_ 8 = .ok (.putfield 9, 3) := by decide +kernel
theorem dX3_init__11 : decode cX3_init_ 11 = .ok (.aload_n 0, 1) := by decide +kernel
theorem dX3_init__12 : decode cX3_init_ 12 = .ok (.iconst 0, 1) := by decide +kernel
theorem dX3_init__13 : decode cX3_init_ 13 = .ok (.putfield 15, 3) := by decide +kernel
theorem dX3_init__16 : decode cX3_init_ 16 = .ok (.sipush 14641, 3) := by decide +kernel
theorem dX3_init__19 : decode cX3_init_ 19 = .ok (.istore_n 2, 1) := by decide +kernel
theorem dX3_init__20 : decode cX3_init_ 20 = .ok (.iload_n 2, 1) := by decide +kernel
theorem dX3_init__21 : decode cX3_init_ 21 = .ok (.ifCond .le 52, 3) := by decide +kernel
theorem dX3_init__24 : decode cX3_init_ 24 = .ok (.iload_n 1, 1) := by decide +kernel
theorem dX3_init__25 : decode cX3_init_ 25 = .ok (.iload_n 2, 1) := by decide +kernel
theorem dX3_init__26 : decode cX3_init_ 26 = .ok (.idiv, 1) := by decide +kernel
theorem dX3_init__27 : decode cX3_init_ 27 = .ok (.bipush 11, 2) := by decide +kernel
theorem dX3_init__29 : decode cX3_init_ 29 = .ok (.irem, 1) := by decide +kernel
theorem dX3_init__30 : decode cX3_init_ 30 = .ok (.istore_n 3, 1) := by decide +kernel
theorem dX3_init__31 : decode cX3_init_ 31 = .ok (.iload_n 3, 1) := by decide +kernel
theorem dX3_init__32 : decode cX3_init_ 32 = .ok (.ifCond .le 33, 3) := by decide +kernel
theorem dX3_init__35 : decode cX3_init_ 35 = .ok (.aload_n 0, 1) := by decide +kernel
theorem dX3_init__36 : decode cX3_init_ 36 = .ok (.getfield 15, 3) := by decide +kernel
theorem dX3_init__39 : decode cX3_init_ 39 = .ok (.iconst 5, 1) := by decide +kernel
theorem dX3_init__40 : decode cX3_init_ 40 = .ok (.if_icmp .ge 25, 3) := by decide +kernel
theorem dX3_init__43 : decode cX3_init_ 43 = .ok (.aload_n 0, 1) := by decide +kernel
theorem dX3_init__44 : decode cX3_init_ 44 = .ok (.getfield 9, 3) := by decide +kernel
theorem dX3_init__47 : decode cX3_init_ 47 = .ok (.aload_n 0, 1) := by decide +kernel
theorem dX3_init__48 : decode cX3_init_ 48 = .ok (.getfield 15, 3) := by decide +kernel
theorem dX3_init__51 : decode cX3_init_ 51 = .ok (.iload_n 3, 1) := by decide +kernel
theorem dX3_init__52 : decode cX3_init_ 52 = .ok (.iconst 1, 1) := by decide +kernel
theorem dX3_init__53 : decode cX3_init_ 53 = .ok (.isub, 1) := by decide +kernel
theorem dX3_init__54 : decode cX3_init_ 54 = .ok (.iastore, 1) := by decide +kernel
theorem dX3_init__55 : decode cX3_init_ 55 = .ok (.aload_n 0, 1) := by decide +kernel
theorem dX3_init__56 : decode cX3_init_ 56 = .ok (.dup, 1) := by decide +kernel
theorem dX3_init__57 : decode cX3_init_ 57 = .ok (.getfield 15, 3) := by decide +kernel
theorem dX3_init__60 : decode cX3_init_ 60 = .ok (.iconst 1, 1) := by decide +kernel
theorem dX3_init__61 : decode cX3_init_ 61 = .ok (.iadd, 1) := by decide +kernel
theorem dX3_init__62 : decode cX3_init_ 62 = .ok (.putfield 15, 3) := by decide +kernel
theorem dX3_init__65 : decode cX3_init_ 65 = .ok (.iload_n 2, 1) := by decide +kernel
theorem dX3_init__66 : decode cX3_init_ 66 = .ok (.bipush 11, 2) := by decide +kernel
theorem dX3_init__68 : decode cX3_init_ 68 = .ok (.idiv, 1) := by decide +kernel
theorem dX3_init__69 : decode cX3_init_ 69 = .ok (.istore_n 2, 1) := by decide +kernel
theorem dX3_init__70 : decode cX3_init_ 70 = .ok (.goto (-50), 3) := by decide +kernel
theorem dX3_init__73 : decode cX3_init_ 73 = .ok (.return_, 1) := by decide +kernel
theorem dX3_isRow_0 : decode cX3_isRow 0 = .ok (.iload_n 0, 1) := by decide +kernel
theorem dX3_isRow_1 : decode cX3_isRow 1 = .ok (.iconst 0, 1) := by decide +kernel
theorem dX3_isRow_2 : decode cX3_isRow 2 = .ok (.ldc 19, 2) := by decide +kernel
theorem dX3_isRow_4 : decode cX3_isRow 4 = .ok (.invokestatic 20, 3) := by decide +kernel
theorem dX3_isRow_7 : decode cX3_isRow 7 = .ok (.ifCond .ne 5, 3) := by decide +kernel
theorem dX3_isRow_10 : decode cX3_isRow 10 = .ok (.iconst 0, 1) := by decide +kernel
theorem dX3_isRow_11 : decode cX3_isRow 11 = .ok (.ireturn, 1) := by decide +kernel
theorem dX3_isRow_12 : decode cX3_isRow 12 = .ok (.iload_n 0, 1) := by decide +kernel
theorem dX3_isRow_13 : decode cX3_isRow 13 = .ok (.istore_n 1, 1) := by decide +kernel
theorem dX3_isRow_14 : decode cX3_isRow 14 = .ok (.iload_n 1, 1) := by decide +kernel
theorem dX3_isRow_15 : decode cX3_isRow 15 = .ok (.ifCond .le 20, 3) := by decide +kernel
theorem dX3_isRow_18 : decode cX3_isRow 18 = .ok (.iload_n 1, 1) := by decide +kernel
theorem dX3_isRow_19 : decode cX3_isRow 19 = .ok (.bipush 11, 2) := by decide +kernel
theorem dX3_isRow_21 : decode cX3_isRow 21 = .ok (.irem, 1) := by decide +kernel
theorem dX3_isRow_22 : decode cX3_isRow 22 = .ok (.ifCond .ne 5, 3) := by decide +kernel
theorem dX3_isRow_25 : decode cX3_isRow 25 = .ok (.iconst 0, 1) := by decide +kernel
theorem dX3_isRow_26 : decode cX3_isRow 26 = .ok (.ireturn, 1) := by decide +kernel
theorem dX3_isRow_27 : decode cX3_isRow 27 = .ok (.iload_n 1, 1) := by decide +kernel
theorem dX3_isRow_28 : decode cX3_isRow 28 = .ok (.bipush 11, 2) := by decide +kernel
theorem dX3_isRow_30 : decode cX3_isRow 30 = .ok (.idiv, 1) := by decide +kernel
theorem dX3_isRow_31 : decode cX3_isRow 31 = .ok (.istore_n 1, 1) := by decide +kernel
theorem dX3_isRow_32 : decode cX3_isRow 32 = .ok (.goto (-18), 3) := by decide +kernel
theorem dX3_isRow_35 : decode cX3_isRow 35 = .ok (.iconst 1, 1) := by decide +kernel
theorem dX3_isRow_36 : decode cX3_isRow 36 = .ok (.ireturn, 1) := by decide +kernel
theorem dX3_colourAfter_0 : decode cX3_colourAfter 0 = .ok (.iconst 0, 1) := by decide +kernel
theorem dX3_colourAfter_1 : decode cX3_colourAfter 1 = .ok (.istore_n 3, 1) := by decide +kernel
theorem dX3_colourAfter_2 : decode cX3_colourAfter 2 = .ok (.iconst 0, 1) := by decide +kernel
theorem dX3_colourAfter_3 : decode cX3_colourAfter 3 = .ok (.istore 4, 2) := by decide +kernel
theorem dX3_colourAfter_5 : decode cX3_colourAfter 5 = .ok (.iload 4, 2) := by decide +kernel
theorem dX3_colourAfter_7 : decode cX3_colourAfter 7 = .ok (.iload_n 1, 1) := by decide +kernel
theorem dX3_colourAfter_8 : decode cX3_colourAfter 8 = .ok (.if_icmp .ge 33, 3) := by decide +kernel
theorem dX3_colourAfter_11 : decode cX3_colourAfter 11 = .ok (.iload 4, 2) := by decide +kernel
theorem dX3_colourAfter_13 : decode cX3_colourAfter 13 = .ok (.aload_n 0, 1) := by decide +kernel
theorem dX3_colourAfter_14 : decode cX3_colourAfter 14 = .ok (.getfield 15, 3) := by decide +kernel
theorem dX3_colourAfter_17 : decode cX3_colourAfter 17 = .ok (.if_icmp .ge 24, 3) := by decide +kernel
theorem dX3_colourAfter_20 : decode cX3_colourAfter 20 = .ok (.aload_n 2, 1) := by decide +kernel
theorem dX3_colourAfter_21 : decode cX3_colourAfter 21 = .ok (.getfield 24, 3) := by decide +kernel
theorem dX3_colourAfter_24 : decode cX3_colourAfter 24 = .ok (.aload_n 0, 1) := by decide +kernel
theorem dX3_colourAfter_25 : decode cX3_colourAfter 25 = .ok (.getfield 9, 3) := by decide +kernel
theorem dX3_colourAfter_28 : decode cX3_colourAfter 28 = .ok (.iload 4, 2) := by decide +kernel
theorem dX3_colourAfter_30 : decode cX3_colourAfter 30 = .ok (.iaload, 1) := by decide +kernel
theorem dX3_colourAfter_31 : decode cX3_colourAfter 31 = .ok (.aaload, 1) := by decide +kernel
theorem dX3_colourAfter_32 : decode cX3_colourAfter 32 = .ok (.iload_n 3, 1) := by decide +kernel
theorem dX3_colourAfter_33 : decode cX3_colourAfter 33 = .ok (.iaload, 1) := by decide +kernel
theorem dX3_colourAfter_34 : decode cX3_colourAfter 34 = .ok (.istore_n 3, 1) := by decide +kernel
theorem dX3_colourAfter_35 : decode cX3_colourAfter 35 = .ok (.iinc 4 1, 3) := by decide +kernel
theorem dX3_colourAfter_38 : decode cX3_colourAfter 38 = .ok (.goto (-33), 3) := by decide +kernel
theorem dX3_colourAfter_41 : decode cX3_colourAfter 41 = .ok (.iload_n 3, 1) := by decide +kernel
theorem dX3_colourAfter_42 : decode cX3_colourAfter 42 = .ok (.ireturn, 1) := by decide +kernel
theorem dX3_coloursMade_0 : decode cX3_coloursMade 0 = .ok (.iconst 0, 1) := by decide +kernel
theorem dX3_coloursMade_1 : decode cX3_coloursMade 1 = .ok (.istore_n 2, 1) := by decide +kernel
theorem dX3_coloursMade_2 : decode cX3_coloursMade 2 = .ok (.iconst 0, 1) := by decide +kernel
theorem dX3_coloursMade_3 : decode cX3_coloursMade 3 = .ok (.istore_n 3, 1) := by decide +kernel
theorem dX3_coloursMade_4 : decode cX3_coloursMade 4 = .ok (.iload_n 3, 1) := by decide +kernel
theorem dX3_coloursMade_5 : decode cX3_coloursMade 5 = .ok (.aload_n 0, 1) := by decide +kernel
theorem dX3_coloursMade_6 : decode cX3_coloursMade 6 = .ok (.getfield 15, 3) := by decide +kernel
theorem dX3_coloursMade_9 : decode cX3_coloursMade 9 = .ok (.if_icmp .gt 20, 3) := by decide +kernel
theorem dX3_coloursMade_12 : decode cX3_coloursMade 12 = .ok (.iload_n 2, 1) := by decide +kernel
theorem dX3_coloursMade_13 : decode cX3_coloursMade 13 = .ok (.iconst 1, 1) := by decide +kernel
theorem dX3_coloursMade_14 : decode cX3_coloursMade 14 = .ok (.aload_n 0, 1) := by decide +kernel
theorem dX3_coloursMade_15 : decode cX3_coloursMade 15 = .ok (.iload_n 3, 1) := by decide +kernel
theorem dX3_coloursMade_16 : decode cX3_coloursMade 16 = .ok (.aload_n 1, 1) := by decide +kernel
theorem dX3_coloursMade_17 : decode cX3_coloursMade 17 = .ok (.invokevirtual 30, 3) := by decide +kernel
theorem dX3_coloursMade_20 : decode cX3_coloursMade 20 = .ok (.ishl, 1) := by decide +kernel
theorem dX3_coloursMade_21 : decode cX3_coloursMade 21 = .ok (.ior, 1) := by decide +kernel
theorem dX3_coloursMade_22 : decode cX3_coloursMade 22 = .ok (.istore_n 2, 1) := by decide +kernel
theorem dX3_coloursMade_23 : decode cX3_coloursMade 23 = .ok (.iinc 3 1, 3) := by decide +kernel
theorem dX3_coloursMade_26 : decode cX3_coloursMade 26 = .ok (.goto (-22), 3) := by decide +kernel
theorem dX3_coloursMade_29 : decode cX3_coloursMade 29 = .ok (.iload_n 2, 1) := by decide +kernel
theorem dX3_coloursMade_30 : decode cX3_coloursMade 30 = .ok (.ireturn, 1) := by decide +kernel
theorem dX3_leastPlace_0 : decode cX3_leastPlace 0 = .ok (.iconst 0, 1) := by decide +kernel
theorem dX3_leastPlace_1 : decode cX3_leastPlace 1 = .ok (.istore_n 3, 1) := by decide +kernel
theorem dX3_leastPlace_2 : decode cX3_leastPlace 2 = .ok (.iload_n 3, 1) := by decide +kernel
theorem dX3_leastPlace_3 : decode cX3_leastPlace 3 = .ok (.aload_n 0, 1) := by decide +kernel
theorem dX3_leastPlace_4 : decode cX3_leastPlace 4 = .ok (.getfield 15, 3) := by decide +kernel
theorem dX3_leastPlace_7 : decode cX3_leastPlace 7 = .ok (.if_icmp .gt 21, 3) := by decide +kernel
theorem dX3_leastPlace_10 : decode cX3_leastPlace 10 = .ok (.aload_n 0, 1) := by decide +kernel
theorem dX3_leastPlace_11 : decode cX3_leastPlace 11 = .ok (.iload_n 3, 1) := by decide +kernel
theorem dX3_leastPlace_12 : decode cX3_leastPlace 12 = .ok (.aload_n 2, 1) := by decide +kernel
theorem dX3_leastPlace_13 : decode cX3_leastPlace 13 = .ok (.invokevirtual 30, 3) := by decide +kernel
theorem dX3_leastPlace_16 : decode cX3_leastPlace 16 = .ok (.iload_n 1, 1) := by decide +kernel
theorem dX3_leastPlace_17 : decode cX3_leastPlace 17 = .ok (.if_icmp .ne 5, 3) := by decide +kernel
theorem dX3_leastPlace_20 : decode cX3_leastPlace 20 = .ok (.iload_n 3, 1) := by decide +kernel
theorem dX3_leastPlace_21 : decode cX3_leastPlace 21 = .ok (.ireturn, 1) := by decide +kernel
theorem dX3_leastPlace_22 : decode cX3_leastPlace 22 = .ok (.iinc 3 1, 3) := by decide +kernel
theorem dX3_leastPlace_25 : decode cX3_leastPlace 25 = .ok (.goto (-23), 3) := by decide +kernel
theorem dX3_leastPlace_28 : decode cX3_leastPlace 28 = .ok (.iconst (-1), 1) := by decide +kernel
theorem dX3_leastPlace_29 : decode cX3_leastPlace 29 = .ok (.ireturn, 1) := by decide +kernel
theorem dX4_init_0 : decode cX4_init 0 = .ok (.aload_n 0, 1) := by decide +kernel
theorem dX4_init_1 : decode cX4_init 1 = .ok (.invokespecial 3, 3) := by decide +kernel
theorem dX4_init_4 : decode cX4_init 4 = .ok (.aload_n 0, 1) := by decide +kernel
theorem dX4_init_5 : decode cX4_init 5 = .ok (.bipush 10, 2) := by decide +kernel
theorem dX4_init_7 : decode cX4_init 7 = .ok (.bipush 16, 2) := by decide +kernel
theorem dX4_init_9 : decode cX4_init 9 = .ok (.multianewarray 9 2, 4) := by decide +kernel
theorem dX4_init_13 : decode cX4_init 13 = .ok (.putfield 11, 3) := by decide +kernel
theorem dX4_init_16 : decode cX4_init 16 = .ok (.aload_n 0, 1) := by decide +kernel
theorem dX4_init_17 : decode cX4_init 17 = .ok (.bipush 10, 2) := by decide +kernel
theorem dX4_init_19 : decode cX4_init 19 = .ok (.newarray .int, 2) := by decide +kernel
theorem dX4_init_21 : decode cX4_init 21 = .ok (.putfield 16, 3) := by decide +kernel
theorem dX4_init_24 : decode cX4_init 24 = .ok (.aload_n 0, 1) := by decide +kernel
theorem dX4_init_25 : decode cX4_init 25 = .ok (.bipush 10, 2) := by decide +kernel
theorem dX4_init_27 : decode cX4_init 27 = .ok (.bipush 10, 2) := by decide +kernel
theorem dX4_init_29 : decode cX4_init 29 = .ok (.multianewarray 9 2, 4) := by decide +kernel
theorem dX4_init_33 : decode cX4_init 33 = .ok (.putfield 20, 3) := by decide +kernel
theorem dX4_init_36 : decode cX4_init 36 = .ok (.aload_n 0, 1) := by decide +kernel
theorem dX4_init_37 : decode cX4_init 37 = .ok (.bipush 10, 2) := by decide +kernel
theorem dX4_init_39 : decode cX4_init 39 = .ok (.bipush 10, 2) := by decide +kernel
theorem dX4_init_41 : decode cX4_init 41 = .ok (.multianewarray 9 2, 4) := by decide +kernel
theorem dX4_init_45 : decode cX4_init 45 = .ok (.putfield 23, 3) := by decide +kernel
theorem dX4_init_48 : decode cX4_init 48 = .ok (.aload_n 0, 1) := by decide +kernel
theorem dX4_init_49 : decode cX4_init 49 = .ok (.getfield 16, 3) := by decide +kernel
theorem dX4_init_52 : decode cX4_init 52 = .ok (.bipush 60, 2) := by decide +kernel
theorem dX4_init_54 : decode cX4_init 54 = .ok (.invokestatic 26, 3) := by decide +kernel
theorem dX4_init_57 : decode cX4_init 57 = .ok (.iconst 0, 1) := by decide +kernel
theorem dX4_init_58 : decode cX4_init 58 = .ok (.istore_n 1, 1) := by decide +kernel
theorem dX4_init_59 : decode cX4_init 59 = .ok (.iload_n 1, 1) := by decide +kernel
theorem dX4_init_60 : decode cX4_init 60 = .ok (.bipush 10, 2) := by decide +kernel
theorem dX4_init_62 : decode cX4_init 62 = .ok (.if_icmp .ge 21, 3) := by decide +kernel
theorem dX4_init_65 : decode cX4_init 65 = .ok (.aload_n 0, 1) := by decide +kernel
theorem dX4_init_66 : decode cX4_init 66 = .ok (.getfield 11, 3) := by decide +kernel
theorem dX4_init_69 : decode cX4_init 69 = .ok (.iload_n 1, 1) := by decide +kernel
theorem dX4_init_70 : decode cX4_init 70 = .ok (.aaload, 1) := by decide +kernel
theorem dX4_init_71 : decode cX4_init 71 = .ok (.iload_n 1, 1) := by decide +kernel
theorem dX4_init_72 : decode cX4_init 72 = .ok (.iconst 1, 1) := by decide +kernel
theorem dX4_init_73 : decode cX4_init 73 = .ok (.iadd, 1) := by decide +kernel
theorem dX4_init_74 : decode cX4_init 74 = .ok (.invokestatic 26, 3) := by decide +kernel
theorem dX4_init_77 : decode cX4_init 77 = .ok (.iinc 1 1, 3) := by decide +kernel
theorem dX4_init_80 : decode cX4_init 80 = .ok (.goto (-21), 3) := by decide +kernel
theorem dX4_init_83 : decode cX4_init 83 = .ok (.return_, 1) := by decide +kernel
theorem dX4_reachedBy_0 : decode cX4_reachedBy 0 = .ok (.iconst 1, 1) := by decide +kernel
theorem dX4_reachedBy_1 : decode cX4_reachedBy 1 = .ok (.istore_n 2, 1) := by decide +kernel
theorem dX4_reachedBy_2 : decode cX4_reachedBy 2 = .ok (.iconst 0, 1) := by decide +kernel
theorem dX4_reachedBy_3 : decode cX4_reachedBy 3 = .ok (.istore_n 3, 1) := by decide +kernel
theorem dX4_reachedBy_4 : decode cX4_reachedBy 4 = .ok (.iload_n 3, 1) := by decide +kernel
theorem dX4_reachedBy_5 : decode cX4_reachedBy 5 = .ok (.iconst 5, 1) := by decide +kernel
theorem dX4_reachedBy_6 : decode cX4_reachedBy 6 = .ok (.if_icmp .ge 18, 3) := by decide +kernel
theorem dX4_reachedBy_9 : decode cX4_reachedBy 9 = .ok (.iload_n 2, 1) := by decide +kernel
theorem dX4_reachedBy_10 : decode cX4_reachedBy 10 = .ok (.aload_n 0, 1) := by decide +kernel
theorem dX4_reachedBy_11 : decode cX4_reachedBy 11 = .ok (.iload_n 2, 1) := by decide +kernel
theorem dX4_reachedBy_12 : decode cX4_reachedBy 12 = .ok (.iload_n 1, 1) := by decide +kernel
theorem dX4_reachedBy_13 : decode cX4_reachedBy 13 = .ok (.invokevirtual 32, 3) := by decide +kernel
theorem dX4_reachedBy_16 : decode cX4_reachedBy 16 = .ok (.ior, 1) := by decide +kernel
theorem dX4_reachedBy_17 : decode cX4_reachedBy 17 = .ok (.istore_n 2, 1) := by decide +kernel
theorem dX4_reachedBy_18 : decode cX4_reachedBy 18 = .ok (.iinc 3 1, 3) := by decide +kernel
theorem dX4_reachedBy_21 : decode cX4_reachedBy 21 = .ok (.goto (-17), 3) := by decide +kernel
theorem dX4_reachedBy_24 : decode cX4_reachedBy 24 = .ok (.iload_n 2, 1) := by decide +kernel
theorem dX4_reachedBy_25 : decode cX4_reachedBy 25 = .ok (.ireturn, 1) := by decide +kernel
theorem dX4_oneInkOn_0 : decode cX4_oneInkOn 0 = .ok (.iconst 0, 1) := by decide +kernel
theorem dX4_oneInkOn_1 : decode cX4_oneInkOn 1 = .ok (.istore_n 3, 1) := by decide +kernel
theorem dX4_oneInkOn_2 : decode cX4_oneInkOn 2 = .ok (.iconst 0, 1) := by decide +kernel
theorem dX4_oneInkOn_3 : decode cX4_oneInkOn 3 = .ok (.istore 4, 2) := by decide +kernel
theorem dX4_oneInkOn_5 : decode cX4_oneInkOn 5 = .ok (.iload 4, 2) := by decide +kernel
theorem dX4_oneInkOn_7 : decode cX4_oneInkOn 7 = .ok (.bipush 10, 2) := by decide +kernel
theorem dX4_oneInkOn_9 : decode cX4_oneInkOn 9 = .ok (.if_icmp .ge 58, 3) := by decide +kernel
theorem dX4_oneInkOn_12 : decode cX4_oneInkOn 12 = .ok (.iconst 0, 1) := by decide +kernel
theorem dX4_oneInkOn_13 : decode cX4_oneInkOn 13 = .ok (.istore 5, 2) := by decide +kernel
theorem dX4_oneInkOn_15 : decode cX4_oneInkOn 15 = .ok (.iload 5, 2) := by decide +kernel
theorem dX4_oneInkOn_17 : decode cX4_oneInkOn 17 = .ok (.bipush 16, 2) := by decide +kernel
theorem dX4_oneInkOn_19 : decode cX4_oneInkOn 19 = .ok (.if_icmp .ge 42, 3) := by decide +kernel
theorem dX4_oneInkOn_22 : decode cX4_oneInkOn 22 = .ok (.iload_n 2, 1) := by decide +kernel
theorem dX4_oneInkOn_23 : decode cX4_oneInkOn 23 = .ok (.iload 4, 2) := by decide +kernel
theorem dX4_oneInkOn_25 : decode cX4_oneInkOn 25 = .ok (.invokestatic 36, 3) := by decide +kernel
theorem dX4_oneInkOn_28 : decode cX4_oneInkOn 28 = .ok (.ifCond .eq 27, 3) := by decide +kernel
theorem dX4_oneInkOn_31 : decode cX4_oneInkOn 31 = .ok (.iload_n 1, 1) := by decide +kernel
theorem dX4_oneInkOn_32 : decode cX4_oneInkOn 32 = .ok (.iload 5, 2) := by decide +kernel
theorem dX4_oneInkOn_34 : decode cX4_oneInkOn 34 = .ok (.invokestatic 36, 3) := by decide +kernel
theorem dX4_oneInkOn_37 : decode cX4_oneInkOn 37 = .ok (.ifCond .eq 18, 3) := by decide +kernel
theorem dX4_oneInkOn_40 : decode cX4_oneInkOn 40 = .ok (.iload_n 3, 1) := by decide +kernel
theorem dX4_oneInkOn_41 : decode cX4_oneInkOn 41 = .ok (.iconst 1, 1) := by decide +kernel
theorem dX4_oneInkOn_42 : decode cX4_oneInkOn 42 = .ok (.aload_n 0, 1) := by decide +kernel
theorem dX4_oneInkOn_43 : decode cX4_oneInkOn 43 = .ok (.getfield 11, 3) := by decide +kernel
theorem dX4_oneInkOn_46 : decode cX4_oneInkOn 46 = .ok (.iload 4, 2) := by decide +kernel
theorem dX4_oneInkOn_48 : decode cX4_oneInkOn 48 = .ok (.aaload, 1) := by decide +kernel
theorem dX4_oneInkOn_49 : decode cX4_oneInkOn 49 = .ok (.iload 5, 2) := by decide +kernel
theorem dX4_oneInkOn_51 : decode cX4_oneInkOn 51 = .ok (.iaload, 1) := by decide +kernel
theorem dX4_oneInkOn_52 : decode cX4_oneInkOn 52 = .ok (.ishl, 1) := by decide +kernel
theorem dX4_oneInkOn_53 : decode cX4_oneInkOn 53 = .ok (.ior, 1) := by decide +kernel
theorem dX4_oneInkOn_54 : decode cX4_oneInkOn 54 = .ok (.istore_n 3, 1) := by decide +kernel
theorem dX4_oneInkOn_55 : decode cX4_oneInkOn 55 = .ok (.iinc 5 1, 3) := by decide +kernel
theorem dX4_oneInkOn_58 : decode cX4_oneInkOn 58 = .ok (.goto (-43), 3) := by decide +kernel
theorem dX4_oneInkOn_61 : decode cX4_oneInkOn 61 = .ok (.iinc 4 1, 3) := by decide +kernel
theorem dX4_oneInkOn_64 : decode cX4_oneInkOn 64 = .ok (.goto (-59), 3) := by decide +kernel
theorem dX4_oneInkOn_67 : decode cX4_oneInkOn 67 = .ok (.iload_n 3, 1) := by decide +kernel
theorem dX4_oneInkOn_68 : decode cX4_oneInkOn 68 = .ok (.ireturn, 1) := by decide +kernel
theorem dX5_init_0 : decode cX5_init 0 = .ok (.aload_n 0, 1) := by decide +kernel
theorem dX5_init_1 : decode cX5_init 1 = .ok (.invokespecial 1, 3) := by decide +kernel
theorem dX5_init_4 : decode cX5_init 4 = .ok (.aload_n 0, 1) := by decide +kernel
theorem dX5_init_5 : decode cX5_init 5 = .ok (.iconst 0, 1) := by decide +kernel
theorem dX5_init_6 : decode cX5_init 6 = .ok (.putfield 7, 3) := by decide +kernel
theorem dX5_init_9 : decode cX5_init 9 = .ok (.aload_n 0, 1) := by decide +kernel
theorem dX5_init_10 : decode cX5_init 10 = .ok (.iconst 0, 1) := by decide +kernel
theorem dX5_init_11 : decode cX5_init 11 = .ok (.putfield 13, 3) := by decide +kernel
theorem dX5_init_14 : decode cX5_init 14 = .ok (.return_, 1) := by decide +kernel
theorem dX5_slips_0 : decode cX5_slips 0 = .ok (.aload_n 0, 1) := by decide +kernel
theorem dX5_slips_1 : decode cX5_slips 1 = .ok (.aload_n 0, 1) := by decide +kernel
theorem dX5_slips_2 : decode cX5_slips 2 = .ok (.getfield 7, 3) := by decide +kernel
theorem dX5_slips_5 : decode cX5_slips 5 = .ok (.ldc 16, 2) := by decide +kernel
theorem dX5_slips_7 : decode cX5_slips 7 = .ok (.imul, 1) := by decide +kernel
theorem dX5_slips_8 : decode cX5_slips 8 = .ok (.sipush 12345, 3) := by decide +kernel
theorem dX5_slips_11 : decode cX5_slips 11 = .ok (.iadd, 1) := by decide +kernel
theorem dX5_slips_12 : decode cX5_slips 12 = .ok (.putfield 7, 3) := by decide +kernel
theorem dX5_slips_15 : decode cX5_slips 15 = .ok (.aload_n 0, 1) := by decide +kernel
theorem dX5_slips_16 : decode cX5_slips 16 = .ok (.getfield 7, 3) := by decide +kernel
theorem dX5_slips_19 : decode cX5_slips 19 = .ok (.bipush 8, 2) := by decide +kernel
theorem dX5_slips_21 : decode cX5_slips 21 = .ok (.iushr, 1) := by decide +kernel
theorem dX5_slips_22 : decode cX5_slips 22 = .ok (.sipush 1000, 3) := by decide +kernel
theorem dX5_slips_25 : decode cX5_slips 25 = .ok (.irem, 1) := by decide +kernel
theorem dX5_slips_26 : decode cX5_slips 26 = .ok (.aload_n 0, 1) := by decide +kernel
theorem dX5_slips_27 : decode cX5_slips 27 = .ok (.getfield 13, 3) := by decide +kernel
theorem dX5_slips_30 : decode cX5_slips 30 = .ok (.if_icmp .ge 7, 3) := by decide +kernel
theorem dX5_slips_33 : decode cX5_slips 33 = .ok (.iconst 1, 1) := by decide +kernel
theorem dX5_slips_34 : decode cX5_slips 34 = .ok (.goto 4, 3) := by decide +kernel
theorem dX5_slips_37 : decode cX5_slips 37 = .ok (.iconst 0, 1) := by decide +kernel
theorem dX5_slips_38 : decode cX5_slips 38 = .ok (.ireturn, 1) := by decide +kernel
theorem dX6_init_0 : decode cX6_init 0 = .ok (.aload_n 0, 1) := by decide +kernel
theorem dX6_init_1 : decode cX6_init 1 = .ok (.invokespecial 3, 3) := by decide +kernel
theorem dX6_init_4 : decode cX6_init 4 = .ok (.aload_n 0, 1) := by decide +kernel
theorem dX6_init_5 : decode cX6_init 5 = .ok (.bipush 16, 2) := by decide +kernel
theorem dX6_init_7 : decode cX6_init 7 = .ok (.newarray .int, 2) := by decide +kernel
theorem dX6_init_9 : decode cX6_init 9 = .ok (.putfield 9, 3) := by decide +kernel
theorem dX6_init_12 : decode cX6_init 12 = .ok (.aload_n 0, 1) := by decide +kernel
theorem dX6_init_13 : decode cX6_init 13 = .ok (.iload_n 1, 1) := by decide +kernel
theorem dX6_init_14 : decode cX6_init 14 = .ok (.putfield 15, 3) := by decide +kernel
theorem dX6_init_17 : decode cX6_init 17 = .ok (.aload_n 0, 1) := by decide +kernel
theorem dX6_init_18 : decode cX6_init 18 = .ok (.iload_n 2, 1) := by decide +kernel
theorem dX6_init_19 : decode cX6_init 19 = .ok (.putfield 19, 3) := by decide +kernel
theorem dX6_init_22 : decode cX6_init 22 = .ok (.return_, 1) := by decide +kernel
theorem dX6_isTold_0 : decode cX6_isTold 0 = .ok (.aload_n 0, 1) := by decide +kernel
theorem dX6_isTold_1 : decode cX6_isTold 1 = .ok (.getfield 15, 3) := by decide +kernel
theorem dX6_isTold_4 : decode cX6_isTold 4 = .ok (.ifCond .le 7, 3) := by decide +kernel
theorem dX6_isTold_7 : decode cX6_isTold 7 = .ok (.iconst 1, 1) := by decide +kernel
theorem dX6_isTold_8 : decode cX6_isTold 8 = .ok (.goto 4, 3) := by decide +kernel
theorem dX6_isTold_11 : decode cX6_isTold 11 = .ok (.iconst 0, 1) := by decide +kernel
theorem dX6_isTold_12 : decode cX6_isTold 12 = .ok (.ireturn, 1) := by decide +kernel
theorem dX6_isAt_0 : decode cX6_isAt 0 = .ok (.iload_n 1, 1) := by decide +kernel
theorem dX6_isAt_1 : decode cX6_isAt 1 = .ok (.iconst 0, 1) := by decide +kernel
theorem dX6_isAt_2 : decode cX6_isAt 2 = .ok (.aload_n 0, 1) := by decide +kernel
theorem dX6_isAt_3 : decode cX6_isAt 3 = .ok (.getfield 15, 3) := by decide +kernel
theorem dX6_isAt_6 : decode cX6_isAt 6 = .ok (.iconst 1, 1) := by decide +kernel
theorem dX6_isAt_7 : decode cX6_isAt 7 = .ok (.isub, 1) := by decide +kernel
theorem dX6_isAt_8 : decode cX6_isAt 8 = .ok (.invokestatic 22, 3) := by decide +kernel
theorem dX6_isAt_11 : decode cX6_isAt 11 = .ok (.ifCond .eq 21, 3) := by decide +kernel
theorem dX6_isAt_14 : decode cX6_isAt 14 = .ok (.iload_n 2, 1) := by decide +kernel
theorem dX6_isAt_15 : decode cX6_isAt 15 = .ok (.iconst 0, 1) := by decide +kernel
theorem dX6_isAt_16 : decode cX6_isAt 16 = .ok (.aload_n 0, 1) := by decide +kernel
theorem dX6_isAt_17 : decode cX6_isAt 17 = .ok (.getfield 19, 3) := by decide +kernel
theorem dX6_isAt_20 : decode cX6_isAt 20 = .ok (.iconst 1, 1) := by decide +kernel
theorem dX6_isAt_21 : decode cX6_isAt 21 = .ok (.isub, 1) := by decide +kernel
theorem dX6_isAt_22 : decode cX6_isAt 22 = .ok (.invokestatic 22, 3) := by decide +kernel
theorem dX6_isAt_25 : decode cX6_isAt 25 = .ok (.ifCond .eq 7, 3) := by decide +kernel
theorem dX6_isAt_28 : decode cX6_isAt 28 = .ok (.iconst 1, 1) := by decide +kernel
theorem dX6_isAt_29 : decode cX6_isAt 29 = .ok (.goto 4, 3) := by decide +kernel
theorem dX6_isAt_32 : decode cX6_isAt 32 = .ok (.iconst 0, 1) := by decide +kernel
theorem dX6_isAt_33 : decode cX6_isAt 33 = .ok (.ireturn, 1) := by decide +kernel
theorem dX6_hasCell_0 : decode cX6_hasCell 0 = .ok (.iload_n 1, 1) := by decide +kernel
theorem dX6_hasCell_1 : decode cX6_hasCell 1 = .ok (.ifCond .lt 20, 3) := by decide +kernel
theorem dX6_hasCell_4 : decode cX6_hasCell 4 = .ok (.aload_n 0, 1) := by decide +kernel
theorem dX6_hasCell_5 : decode cX6_hasCell 5 = .ok (.iload_n 1, 1) := by decide +kernel
theorem dX6_hasCell_6 : decode cX6_hasCell 6 = .ok (.iconst 4, 1) := by decide +kernel
theorem dX6_hasCell_7 : decode cX6_hasCell 7 = .ok (.idiv, 1) := by decide +kernel
theorem dX6_hasCell_8 : decode cX6_hasCell 8 = .ok (.iload_n 1, 1) := by decide +kernel
theorem dX6_hasCell_9 : decode cX6_hasCell 9 = .ok (.iconst 4, 1) := by decide +kernel
theorem dX6_hasCell_10 : decode cX6_hasCell 10 = .ok (.irem, 1) := by decide +kernel
theorem dX6_hasCell_11 : decode cX6_hasCell 11 = .ok (.invokevirtual 26, 3) := by decide +kernel
theorem dX6_hasCell_14 : decode cX6_hasCell 14 = .ok (.ifCond .eq 7, 3) := by decide +kernel
theorem dX6_hasCell_17 : decode cX6_hasCell 17 = .ok (.iconst 1, 1) := by decide +kernel
theorem dX6_hasCell_18 : decode cX6_hasCell 18 = .ok (.goto 4, 3) := by decide +kernel
theorem dX6_hasCell_21 : decode cX6_hasCell 21 = .ok (.iconst 0, 1) := by decide +kernel
theorem dX6_hasCell_22 : decode cX6_hasCell 22 = .ok (.ireturn, 1) := by decide +kernel
theorem dX6_colourSet_0 : decode cX6_colourSet 0 = .ok (.iconst 0, 1) := by decide +kernel
theorem dX6_colourSet_1 : decode cX6_colourSet 1 = .ok (.istore_n 1, 1) := by decide +kernel
theorem dX6_colourSet_2 : decode cX6_colourSet 2 = .ok (.iconst 0, 1) := by decide +kernel
theorem dX6_colourSet_3 : decode cX6_colourSet 3 = .ok (.istore_n 2, 1) := by decide +kernel
theorem dX6_colourSet_4 : decode cX6_colourSet 4 = .ok (.iload_n 2, 1) := by decide +kernel
theorem dX6_colourSet_5 : decode cX6_colourSet 5 = .ok (.bipush 16, 2) := by decide +kernel
theorem dX6_colourSet_7 : decode cX6_colourSet 7 = .ok (.if_icmp .ge 28, 3) := by decide +kernel
theorem dX6_colourSet_10 : decode cX6_colourSet 10 = .ok (.aload_n 0, 1) := by decide +kernel
theorem dX6_colourSet_11 : decode cX6_colourSet 11 = .ok (.iload_n 2, 1) := by decide +kernel
theorem dX6_colourSet_12 : decode cX6_colourSet 12 = .ok (.invokevirtual 30, 3) := by decide +kernel
theorem dX6_colourSet_15 : decode cX6_colourSet 15 = .ok (.ifCond .eq 14, 3) := by decide +kernel
theorem dX6_colourSet_18 : decode cX6_colourSet 18 = .ok (.iload_n 1, 1) := by decide +kernel
theorem dX6_colourSet_19 : decode cX6_colourSet 19 = .ok (.iconst 1, 1) := by decide +kernel
theorem dX6_colourSet_20 : decode cX6_colourSet 20 = .ok (.aload_n 0, 1) := by decide +kernel
theorem dX6_colourSet_21 : decode cX6_colourSet 21 = .ok (.getfield 9, 3) := by decide +kernel
theorem dX6_colourSet_24 : decode cX6_colourSet 24 = .ok (.iload_n 2, 1) := by decide +kernel
theorem dX6_colourSet_25 : decode cX6_colourSet 25 = .ok (.iaload, 1) := by decide +kernel
theorem dX6_colourSet_26 : decode cX6_colourSet 26 = .ok (.ishl, 1) := by decide +kernel
theorem dX6_colourSet_27 : decode cX6_colourSet 27 = .ok (.ior, 1) := by decide +kernel
theorem dX6_colourSet_28 : decode cX6_colourSet 28 = .ok (.istore_n 1, 1) := by decide +kernel
theorem dX6_colourSet_29 : decode cX6_colourSet 29 = .ok (.iinc 2 1, 3) := by decide +kernel
theorem dX6_colourSet_32 : decode cX6_colourSet 32 = .ok (.goto (-28), 3) := by decide +kernel
theorem dX6_colourSet_35 : decode cX6_colourSet 35 = .ok (.iload_n 1, 1) := by decide +kernel
theorem dX6_colourSet_36 : decode cX6_colourSet 36 = .ok (.ireturn, 1) := by decide +kernel
theorem dX6_isOn_0 : decode cX6_isOn 0 = .ok (.iconst 0, 1) := by decide +kernel
theorem dX6_isOn_1 : decode cX6_isOn 1 = .ok (.istore_n 2, 1) := by decide +kernel
theorem dX6_isOn_2 : decode cX6_isOn 2 = .ok (.iload_n 2, 1) := by decide +kernel
theorem dX6_isOn_3 : decode cX6_isOn 3 = .ok (.bipush 64, 2) := by decide +kernel
theorem dX6_isOn_5 : decode cX6_isOn 5 = .ok (.if_icmp .ge 32, 3) := by decide +kernel
theorem dX6_isOn_8 : decode cX6_isOn 8 = .ok (.aload_n 1, 1) := by decide +kernel
theorem dX6_isOn_9 : decode cX6_isOn 9 = .ok (.getfield 34, 3) := by decide +kernel
theorem dX6_isOn_12 : decode cX6_isOn 12 = .ok (.iload_n 2, 1) := by decide +kernel
theorem dX6_isOn_13 : decode cX6_isOn 13 = .ok (.iaload, 1) := by decide +kernel
theorem dX6_isOn_14 : decode cX6_isOn 14 = .ok (.aload_n 0, 1) := by decide +kernel
theorem dX6_isOn_15 : decode cX6_isOn 15 = .ok (.iload_n 2, 1) := by decide +kernel
theorem dX6_isOn_16 : decode cX6_isOn 16 = .ok (.bipush 8, 2) := by decide +kernel
theorem dX6_isOn_18 : decode cX6_isOn 18 = .ok (.idiv, 1) := by decide +kernel
theorem dX6_isOn_19 : decode cX6_isOn 19 = .ok (.iload_n 2, 1) := by decide +kernel
theorem dX6_isOn_20 : decode cX6_isOn 20 = .ok (.bipush 8, 2) := by decide +kernel
theorem dX6_isOn_22 : decode cX6_isOn 22 = .ok (.irem, 1) := by decide +kernel
theorem dX6_isOn_23 : decode cX6_isOn 23 = .ok (.invokevirtual 37, 3) := by decide +kernel
theorem dX6_isOn_26 : decode cX6_isOn 26 = .ok (.if_icmp .eq 5, 3) := by decide +kernel
theorem dX6_isOn_29 : decode cX6_isOn 29 = .ok (.iconst 0, 1) := by decide +kernel
theorem dX6_isOn_30 : decode cX6_isOn 30 = .ok (.ireturn, 1) := by decide +kernel
theorem dX6_isOn_31 : decode cX6_isOn 31 = .ok (.iinc 2 1, 3) := by decide +kernel
theorem dX6_isOn_34 : decode cX6_isOn 34 = .ok (.goto (-32), 3) := by decide +kernel
theorem dX6_isOn_37 : decode cX6_isOn 37 = .ok (.iconst 1, 1) := by decide +kernel
theorem dX6_isOn_38 : decode cX6_isOn 38 = .ok (.ireturn, 1) := by decide +kernel
theorem dX6_colourAt_0 : decode cX6_colourAt 0 = .ok (.aload_n 0, 1) := by decide +kernel
theorem dX6_colourAt_1 : decode cX6_colourAt 1 = .ok (.iload_n 1, 1) := by decide +kernel
theorem dX6_colourAt_2 : decode cX6_colourAt 2 = .ok (.iload_n 2, 1) := by decide +kernel
theorem dX6_colourAt_3 : decode cX6_colourAt 3 = .ok (.invokevirtual 26, 3) := by decide +kernel
theorem dX6_colourAt_6 : decode cX6_colourAt 6 = .ok (.ifCond .eq 16, 3) := by decide +kernel
theorem dX6_colourAt_9 : decode cX6_colourAt 9 = .ok (.aload_n 0, 1) := by decide +kernel
theorem dX6_colourAt_10 : decode cX6_colourAt 10 = .ok (.getfield 9, 3) := by decide +kernel
theorem dX6_colourAt_13 : decode cX6_colourAt 13 = .ok (.iload_n 1, 1) := by decide +kernel
theorem dX6_colourAt_14 : decode cX6_colourAt 14 = .ok (.iconst 4, 1) := by decide +kernel
theorem dX6_colourAt_15 : decode cX6_colourAt 15 = .ok (.imul, 1) := by decide +kernel
theorem dX6_colourAt_16 : decode cX6_colourAt 16 = .ok (.iload_n 2, 1) := by decide +kernel
theorem dX6_colourAt_17 : decode cX6_colourAt 17 = .ok (.iadd, 1) := by decide +kernel
theorem dX6_colourAt_18 : decode cX6_colourAt 18 = .ok (.iaload, 1) := by decide +kernel
theorem dX6_colourAt_19 : decode cX6_colourAt 19 = .ok (.goto 4, 3) := by decide +kernel
theorem dX6_colourAt_22 : decode cX6_colourAt 22 = .ok (.iconst 0, 1) := by decide +kernel
theorem dX6_colourAt_23 : decode cX6_colourAt 23 = .ok (.ireturn, 1) := by decide +kernel
theorem dX7_init_0 : decode cX7_init 0 = .ok (.aload_n 0, 1) := by decide +kernel
theorem dX7_init_1 : decode cX7_init 1 = .ok (.invokespecial 3, 3) := by decide +kernel
theorem dX7_init_4 : decode cX7_init 4 = .ok (.aload_n 0, 1) := by decide +kernel
theorem dX7_init_5 : decode cX7_init 5 = .ok (.new 9, 3) := by decide +kernel
theorem dX7_init_8 : decode cX7_init 8 = .ok (.dup, 1) := by decide +kernel
theorem dX7_init_9 : decode cX7_init 9 = .ok (.invokespecial 11, 3) := by decide +kernel
theorem dX7_init_12 : decode cX7_init 12 = .ok (.putfield 12, 3) := by decide +kernel
theorem dX7_init_15 : decode cX7_init 15 = .ok (.aload_n 0, 1) := by decide +kernel
theorem dX7_init_16 : decode cX7_init 16 = .ok (.bipush 16, 2) := by decide +kernel
theorem dX7_init_18 : decode cX7_init 18 = .ok (.newarray .int, 2) := by decide +kernel
theorem dX7_init_20 : decode cX7_init 20 = .ok (.putfield 18, 3) := by decide +kernel
theorem dX7_init_23 : decode cX7_init 23 = .ok (.aload_n 0, 1) := by decide +kernel
theorem dX7_init_24 : decode cX7_init 24 = .ok (.getfield 18, 3) := by decide +kernel
theorem dX7_init_27 : decode cX7_init 27 = .ok (.iconst (-1), 1) := by decide +kernel
theorem dX7_init_28 : decode cX7_init 28 = .ok (.invokestatic 22, 3) := by decide +kernel
theorem dX7_init_31 : decode cX7_init 31 = .ok (.return_, 1) := by decide +kernel
theorem dX7_keepPlaces_0 : decode cX7_keepPlaces 0 = .ok (.iconst 0, 1) := by decide +kernel
theorem dX7_keepPlaces_1 : decode cX7_keepPlaces 1 = .ok (.istore_n 3, 1) := by decide +kernel
theorem dX7_keepPlaces_2 : decode cX7_keepPlaces 2 = .ok (.iload_n 3, 1) := by decide +kernel
theorem dX7_keepPlaces_3 : decode cX7_keepPlaces 3 = .ok (.bipush 16, 2) := by decide +kernel
theorem dX7_keepPlaces_5 : decode cX7_keepPlaces 5 = .ok (.if_icmp .ge 41, 3) := by decide +kernel
theorem dX7_keepPlaces_8 : decode cX7_keepPlaces 8 = .ok (.aload_n 0, 1) := by decide +kernel
theorem dX7_keepPlaces_9 : decode cX7_keepPlaces 9 = .ok (.getfield 18, 3) := by decide +kernel
theorem dX7_keepPlaces_12 : decode cX7_keepPlaces 12 = .ok (.iload_n 3, 1) := by decide +kernel
theorem dX7_keepPlaces_13 : decode cX7_keepPlaces 13 = .ok (.aload_n 1, 1) := by decide +kernel
theorem dX7_keepPlaces_14 : decode cX7_keepPlaces 14 = .ok (.iload_n 3, 1) := by decide +kernel
theorem dX7_keepPlaces_15 : decode cX7_keepPlaces 15 = .ok (.invokevirtual 28, 3) := by decide +kernel
theorem dX7_keepPlaces_18 : decode cX7_keepPlaces 18 = .ok (.ifCond .eq 20, 3) := by decide +kernel
theorem dX7_keepPlaces_21 : decode cX7_keepPlaces 21 = .ok (.aload_n 0, 1) := by decide +kernel
theorem dX7_keepPlaces_22 : decode cX7_keepPlaces 22 = .ok (.getfield 12, 3) := by decide +kernel
theorem dX7_keepPlaces_25 : decode cX7_keepPlaces 25 = .ok (.aload_n 1, 1) := by decide +kernel
theorem dX7_keepPlaces_26 : decode cX7_keepPlaces 26 = .ok (.getfield 34, 3) := by decide +kernel
theorem dX7_keepPlaces_29 : decode cX7_keepPlaces 29 = .ok (.iload_n 3, 1) := by decide +kernel
theorem dX7_keepPlaces_30 : decode cX7_keepPlaces 30 = .ok (.iaload, 1) := by decide +kernel
theorem dX7_keepPlaces_31 : decode cX7_keepPlaces 31 = .ok (.aload_n 2, 1) := by decide +kernel
theorem dX7_keepPlaces_32 : decode cX7_keepPlaces 32 = .ok (.invokevirtual 37, 3) := by decide +kernel
theorem dX7_keepPlaces_35 : decode cX7_keepPlaces 35 = .ok (.goto 4, 3) := by decide +kernel
theorem dX7_keepPlaces_38 : decode cX7_keepPlaces 38 = .ok (.iconst (-1), 1) := by decide +kernel
theorem dX7_keepPlaces_39 : decode cX7_keepPlaces 39 = .ok (.iastore, 1) := by decide +kernel
theorem dX7_keepPlaces_40 : decode cX7_keepPlaces 40 = .ok (.iinc 3 1, 3) := by decide +kernel
theorem dX7_keepPlaces_43 : decode cX7_keepPlaces 43 = .ok (.goto (-41), 3) := by decide +kernel
theorem dX7_keepPlaces_46 : decode cX7_keepPlaces 46 = .ok (.return_, 1) := by decide +kernel
theorem dX8_init_0 : decode cX8_init 0 = .ok (.aload_n 0, 1) := by decide +kernel
theorem dX8_init_1 : decode cX8_init 1 = .ok (.invokespecial 3, 3) := by decide +kernel
theorem dX8_init_4 : decode cX8_init 4 = .ok (.aload_n 0, 1) := by decide +kernel
theorem dX8_init_5 : decode cX8_init 5 = .ok (.bipush 16, 2) := by decide +kernel
theorem dX8_init_7 : decode cX8_init 7 = .ok (.newarray .int, 2) := by decide +kernel
theorem dX8_init_9 : decode cX8_init 9 = .ok (.putfield 9, 3) := by decide +kernel
theorem dX8_init_12 : decode cX8_init 12 = .ok (.aload_n 0, 1) := by decide +kernel
theorem dX8_init_13 : decode cX8_init 13 = .ok (.bipush 6, 2) := by decide +kernel
theorem dX8_init_15 : decode cX8_init 15 = .ok (.bipush 16, 2) := by decide +kernel
theorem dX8_init_17 : decode cX8_init 17 = .ok (.multianewarray 15 2, 4) := by decide +kernel
theorem dX8_init_21 : decode cX8_init 21 = .ok (.putfield 17, 3) := by decide +kernel
theorem dX8_init_24 : decode cX8_init 24 = .ok (.aload_n 0, 1) := by decide +kernel
theorem dX8_init_25 : decode cX8_init 25 = .ok (.iconst 0, 1) := by decide +kernel
theorem dX8_init_26 : decode cX8_init 26 = .ok (.putfield 20, 3) := by decide +kernel
theorem dX8_init_29 : decode cX8_init 29 = .ok (.aload_n 0, 1) := by decide +kernel
theorem dX8_init_30 : decode cX8_init 30 = .ok (.aload_n 1, 1) := by decide +kernel
theorem dX8_init_31 : decode cX8_init 31 = .ok (.putfield 24, 3) := by decide +kernel
theorem dX8_init_34 : decode cX8_init 34 = .ok (.return_, 1) := by decide +kernel
theorem dX8_leastPulls_0 : decode cX8_leastPulls 0 = .ok (.iload_n 2, 1) := by decide +kernel
theorem dX8_leastPulls_1 : decode cX8_leastPulls 1 = .ok (.invokestatic 28, 3) := by decide +kernel
theorem dX8_leastPulls_4 : decode cX8_leastPulls 4 = .ok (.invokestatic 32, 3) := by decide +kernel
theorem dX8_leastPulls_7 : decode cX8_leastPulls 7 = .ok (.istore_n 3, 1) := by decide +kernel
theorem dX8_leastPulls_8 : decode cX8_leastPulls 8 = .ok (.iload_n 3, 1) := by decide +kernel
theorem dX8_leastPulls_9 : decode cX8_leastPulls 9 = .ok (.iconst 5, 1) := by decide +kernel
theorem dX8_leastPulls_10 : decode cX8_leastPulls 10 = .ok (.if_icmp .le 6, 3) := by decide +kernel
theorem dX8_leastPulls_13 : decode cX8_leastPulls 13 = .ok (.bipush (-4), 2) := by decide +kernel
theorem dX8_leastPulls_15 : decode cX8_leastPulls 15 = .ok (.ireturn, 1) := by decide +kernel
theorem dX8_leastPulls_16 : decode cX8_leastPulls 16 = .ok (.aload_n 0, 1) := by decide +kernel
theorem dX8_leastPulls_17 : decode cX8_leastPulls 17 = .ok (.iload_n 1, 1) := by decide +kernel
theorem dX8_leastPulls_18 : decode cX8_leastPulls 18 = .ok (.putfield 20, 3) := by decide +kernel
theorem dX8_leastPulls_21 : decode cX8_leastPulls 21 = .ok (.aload_n 0, 1) := by decide +kernel
theorem dX8_leastPulls_22 : decode cX8_leastPulls 22 = .ok (.iload_n 2, 1) := by decide +kernel
theorem dX8_leastPulls_23 : decode cX8_leastPulls 23 = .ok (.invokestatic 28, 3) := by decide +kernel
theorem dX8_leastPulls_26 : decode cX8_leastPulls 26 = .ok (.invokevirtual 37, 3) := by decide +kernel
theorem dX8_leastPulls_29 : decode cX8_leastPulls 29 = .ok (.iconst 1, 1) := by decide +kernel
theorem dX8_leastPulls_30 : decode cX8_leastPulls 30 = .ok (.iload_n 3, 1) := by decide +kernel
theorem dX8_leastPulls_31 : decode cX8_leastPulls 31 = .ok (.ishl, 1) := by decide +kernel
theorem dX8_leastPulls_32 : decode cX8_leastPulls 32 = .ok (.iconst 1, 1) := by decide +kernel
theorem dX8_leastPulls_33 : decode cX8_leastPulls 33 = .ok (.isub, 1) := by decide +kernel
theorem dX8_leastPulls_34 : decode cX8_leastPulls 34 = .ok (.istore 4, 2) := by decide +kernel
theorem dX8_leastPulls_36 : decode cX8_leastPulls 36 = .ok (.aload_n 0, 1) := by decide +kernel
theorem dX8_leastPulls_37 : decode cX8_leastPulls 37 = .ok (.getfield 17, 3) := by decide +kernel
theorem dX8_leastPulls_40 : decode cX8_leastPulls 40 = .ok (.iconst 0, 1) := by decide +kernel
theorem dX8_leastPulls_41 : decode cX8_leastPulls 41 = .ok (.aaload, 1) := by decide +kernel
theorem dX8_leastPulls_42 : decode cX8_leastPulls 42 = .ok (.iconst 1, 1) := by decide +kernel
theorem dX8_leastPulls_43 : decode cX8_leastPulls 43 = .ok (.iload 4, 2) := by decide +kernel
theorem dX8_leastPulls_45 : decode cX8_leastPulls 45 = .ok (.ishl, 1) := by decide +kernel
theorem dX8_leastPulls_46 : decode cX8_leastPulls 46 = .ok (.invokestatic 41, 3) := by decide +kernel
theorem dX8_leastPulls_49 : decode cX8_leastPulls 49 = .ok (.iload_n 3, 1) := by decide +kernel
theorem dX8_leastPulls_50 : decode cX8_leastPulls 50 = .ok (.ifCond .ne 5, 3) := by decide +kernel
theorem dX8_leastPulls_53 : decode cX8_leastPulls 53 = .ok (.iconst 0, 1) := by decide +kernel
theorem dX8_leastPulls_54 : decode cX8_leastPulls 54 = .ok (.ireturn, 1) := by decide +kernel
theorem dX8_leastPulls_55 : decode cX8_leastPulls 55 = .ok (.iconst 1, 1) := by decide +kernel
theorem dX8_leastPulls_56 : decode cX8_leastPulls 56 = .ok (.istore 5, 2) := by decide +kernel
theorem dX8_leastPulls_58 : decode cX8_leastPulls 58 = .ok (.iload 5, 2) := by decide +kernel
theorem dX8_leastPulls_60 : decode cX8_leastPulls 60 = .ok (.iconst 5, 1) := by decide +kernel
theorem dX8_leastPulls_61 : decode cX8_leastPulls 61 = .ok (.if_icmp .gt 34, 3) := by decide +kernel
theorem dX8_leastPulls_64 : decode cX8_leastPulls 64 = .ok (.aload_n 0, 1) := by decide +kernel
theorem dX8_leastPulls_65 : decode cX8_leastPulls 65 = .ok (.iload 5, 2) := by decide +kernel
theorem dX8_leastPulls_67 : decode cX8_leastPulls 67 = .ok (.invokevirtual 47, 3) := by decide +kernel
theorem dX8_leastPulls_70 : decode cX8_leastPulls 70 = .ok (.aload_n 0, 1) := by decide +kernel
theorem dX8_leastPulls_71 : decode cX8_leastPulls 71 = .ok (.getfield 17, 3) := by decide +kernel
theorem dX8_leastPulls_74 : decode cX8_leastPulls 74 = .ok (.iload 5, 2) := by decide +kernel
theorem dX8_leastPulls_76 : decode cX8_leastPulls 76 = .ok (.aaload, 1) := by decide +kernel
theorem dX8_leastPulls_77 : decode cX8_leastPulls 77 = .ok (.iconst 0, 1) := by decide +kernel
theorem dX8_leastPulls_78 : decode cX8_leastPulls 78 = .ok (.iaload, 1) := by decide +kernel
theorem dX8_leastPulls_79 : decode cX8_leastPulls 79 = .ok (.iconst 0, 1) := by decide +kernel
theorem dX8_leastPulls_80 : decode cX8_leastPulls 80 = .ok (.invokestatic 50, 3) := by decide +kernel
theorem dX8_leastPulls_83 : decode cX8_leastPulls 83 = .ok (.ifCond .eq 6, 3) := by decide +kernel
theorem dX8_leastPulls_86 : decode cX8_leastPulls 86 = .ok (.iload 5, 2) := by decide +kernel
theorem dX8_leastPulls_88 : decode cX8_leastPulls 88 = .ok (.ireturn, 1) := by decide +kernel
theorem dX8_leastPulls_89 : decode cX8_leastPulls 89 = .ok (.iinc 5 1, 3) := by decide +kernel
theorem dX8_leastPulls_92 : decode cX8_leastPulls 92 = .ok (.goto (-34), 3) := by decide +kernel
theorem dX8_leastPulls_95 : decode cX8_leastPulls 95 = .ok (.bipush (-4), 2) := by decide +kernel
theorem dX8_leastPulls_97 : decode cX8_leastPulls 97 = .ok (.ireturn, 1) := by decide +kernel
theorem dX8_numberNeeded_0 : decode cX8_numberNeeded 0 = .ok (.iconst 0, 1) := by decide +kernel
theorem dX8_numberNeeded_1 : decode cX8_numberNeeded 1 = .ok (.istore_n 2, 1) := by decide +kernel
theorem dX8_numberNeeded_2 : decode cX8_numberNeeded 2 = .ok (.iconst 0, 1) := by decide +kernel
theorem dX8_numberNeeded_3 : decode cX8_numberNeeded 3 = .ok (.istore_n 3, 1) := by decide +kernel
theorem dX8_numberNeeded_4 : decode cX8_numberNeeded 4 = .ok (.iload_n 3, 1) := by decide +kernel
theorem dX8_numberNeeded_5 : decode cX8_numberNeeded 5 = .ok (.bipush 16, 2) := by decide +kernel
theorem dX8_numberNeeded_7 : decode cX8_numberNeeded 7 = .ok (.if_icmp .ge 39, 3) := by decide +kernel
theorem dX8_numberNeeded_10 : decode cX8_numberNeeded 10 = .ok (.aload_n 0, 1) := by decide +kernel
theorem dX8_numberNeeded_11 : decode cX8_numberNeeded 11 = .ok (.getfield 9, 3) := by decide +kernel
theorem dX8_numberNeeded_14 : decode cX8_numberNeeded 14 = .ok (.iload_n 3, 1) := by decide +kernel
theorem dX8_numberNeeded_15 : decode cX8_numberNeeded 15 = .ok (.iconst (-1), 1) := by decide +kernel
theorem dX8_numberNeeded_16 : decode cX8_numberNeeded 16 = .ok (.iastore, 1) := by decide +kernel
theorem dX8_numberNeeded_17 : decode cX8_numberNeeded 17 = .ok (.iload_n 1, 1) := by decide +kernel
theorem dX8_numberNeeded_18 : decode cX8_numberNeeded 18 = .ok (.iload_n 3, 1) := by decide +kernel
theorem dX8_numberNeeded_19 : decode cX8_numberNeeded 19 = .ok (.invokestatic 50, 3) := by decide +kernel
theorem dX8_numberNeeded_22 : decode cX8_numberNeeded 22 = .ok (.ifCond .eq 18, 3) := by decide +kernel
theorem dX8_numberNeeded_25 : decode cX8_numberNeeded 25 = .ok (.iload_n 2, 1) := by decide +kernel
theorem dX8_numberNeeded_26 : decode cX8_numberNeeded 26 = .ok (.iconst 5, 1) := by decide +kernel
theorem dX8_numberNeeded_27 : decode cX8_numberNeeded 27 = .ok (.if_icmp .ge 13, 3) := by decide +kernel
theorem dX8_numberNeeded_30 : decode cX8_numberNeeded 30 = .ok (.aload_n 0, 1) := by decide +kernel
theorem dX8_numberNeeded_31 : decode cX8_numberNeeded 31 = .ok (.getfield 9, 3) := by decide +kernel
theorem dX8_numberNeeded_34 : decode cX8_numberNeeded 34 = .ok (.iload_n 3, 1) := by decide +kernel
theorem dX8_numberNeeded_35 : decode cX8_numberNeeded 35 = .ok (.iload_n 2, 1) := by decide +kernel
theorem dX8_numberNeeded_36 : decode cX8_numberNeeded 36 = .ok (.iastore, 1) := by decide +kernel
theorem dX8_numberNeeded_37 : decode cX8_numberNeeded 37 = .ok (.iinc 2 1, 3) := by decide +kernel
theorem dX8_numberNeeded_40 : decode cX8_numberNeeded 40 = .ok (.iinc 3 1, 3) := by decide +kernel
theorem dX8_numberNeeded_43 : decode cX8_numberNeeded 43 = .ok (.goto (-39), 3) := by decide +kernel
theorem dX8_numberNeeded_46 : decode cX8_numberNeeded 46 = .ok (.return_, 1) := by decide +kernel
theorem dX8_fillEndings_0 : decode cX8_fillEndings 0 = .ok (.iconst 0, 1) := by decide +kernel
theorem dX8_fillEndings_1 : decode cX8_fillEndings 1 = .ok (.istore_n 2, 1) := by decide +kernel
theorem dX8_fillEndings_2 : decode cX8_fillEndings 2 = .ok (.iload_n 2, 1) := by decide +kernel
theorem dX8_fillEndings_3 : decode cX8_fillEndings 3 = .ok (.bipush 16, 2) := by decide +kernel
theorem dX8_fillEndings_5 : decode cX8_fillEndings 5 = .ok (.if_icmp .ge 82, 3) := by decide +kernel
theorem dX8_fillEndings_8 : decode cX8_fillEndings 8 = .ok (.iconst 0, 1) := by decide +kernel
theorem dX8_fillEndings_9 : decode cX8_fillEndings 9 = .ok (.istore_n 3, 1) := by decide +kernel
theorem dX8_fillEndings_10 : decode cX8_fillEndings 10 = .ok (.iconst 0, 1) := by decide +kernel
theorem dX8_fillEndings_11 : decode cX8_fillEndings 11 = .ok (.istore 4, 2) := by decide +kernel
theorem dX8_fillEndings_13 : decode cX8_fillEndings 13 = .ok (.iload 4, 2) := by decide +kernel
theorem dX8_fillEndings_15 : decode cX8_fillEndings 15 = .ok (.bipush 10, 2) := by decide +kernel
theorem dX8_fillEndings_17 : decode cX8_fillEndings 17 = .ok (.if_icmp .ge 55, 3) := by decide +kernel
theorem dX8_fillEndings_20 : decode cX8_fillEndings 20 = .ok (.aload_n 0, 1) := by decide +kernel
theorem dX8_fillEndings_21 : decode cX8_fillEndings 21 = .ok (.getfield 20, 3) := by decide +kernel
theorem dX8_fillEndings_24 : decode cX8_fillEndings 24 = .ok (.iload 4, 2) := by decide +kernel
theorem dX8_fillEndings_26 : decode cX8_fillEndings 26 = .ok (.invokestatic 50, 3) := by decide +kernel
theorem dX8_fillEndings_29 : decode cX8_fillEndings 29 = .ok (.ifCond .eq 37, 3) := by decide +kernel
theorem dX8_fillEndings_32 : decode cX8_fillEndings 32 = .ok (.aload_n 0, 1) := by decide +kernel
theorem dX8_fillEndings_33 : decode cX8_fillEndings 33 = .ok (.getfield 24, 3) := by decide +kernel
theorem dX8_fillEndings_36 : decode cX8_fillEndings 36 = .ok (.getfield 54, 3) := by decide +kernel
theorem dX8_fillEndings_39 : decode cX8_fillEndings 39 = .ok (.iload 4, 2) := by decide +kernel
theorem dX8_fillEndings_41 : decode cX8_fillEndings 41 = .ok (.aaload, 1) := by decide +kernel
theorem dX8_fillEndings_42 : decode cX8_fillEndings 42 = .ok (.iload_n 2, 1) := by decide +kernel
theorem dX8_fillEndings_43 : decode cX8_fillEndings 43 = .ok (.iaload, 1) := by decide +kernel
theorem dX8_fillEndings_44 : decode cX8_fillEndings 44 = .ok (.istore 5, 2) := by decide +kernel
theorem dX8_fillEndings_46 : decode cX8_fillEndings 46 = .ok (.iload_n 3, 1) := by decide +kernel
theorem dX8_fillEndings_47 : decode cX8_fillEndings 47 = .ok (.aload_n 0, 1) := by decide +kernel
theorem dX8_fillEndings_48 : decode cX8_fillEndings 48 = .ok (.aload_n 0, 1) := by decide +kernel
theorem dX8_fillEndings_49 : decode cX8_fillEndings 49 = .ok (.getfield 17, 3) := by decide +kernel
theorem dX8_fillEndings_52 : decode cX8_fillEndings 52 = .ok (.iload_n 1, 1) := by decide +kernel
theorem dX8_fillEndings_53 : decode cX8_fillEndings 53 = .ok (.iconst 1, 1) := by decide +kernel
theorem dX8_fillEndings_54 : decode cX8_fillEndings 54 = .ok (.isub, 1) := by decide +kernel
theorem dX8_fillEndings_55 : decode cX8_fillEndings 55 = .ok (.aaload, 1) := by decide +kernel
theorem dX8_fillEndings_56 : decode cX8_fillEndings 56 = .ok (.iload 5, 2) := by decide +kernel
theorem dX8_fillEndings_58 : decode cX8_fillEndings 58 = .ok (.iaload, 1) := by decide +kernel
theorem dX8_fillEndings_59 : decode cX8_fillEndings 59 = .ok (.iload 5, 2) := by decide +kernel
theorem dX8_fillEndings_61 : decode cX8_fillEndings 61 = .ok (.invokevirtual 59, 3) := by decide +kernel
theorem dX8_fillEndings_64 : decode cX8_fillEndings 64 = .ok (.ior, 1) := by decide +kernel
theorem dX8_fillEndings_65 : decode cX8_fillEndings 65 = .ok (.istore_n 3, 1) := by decide +kernel
theorem dX8_fillEndings_66 : decode cX8_fillEndings 66 = .ok (.iinc 4 1, 3) := by decide +kernel
theorem dX8_fillEndings_69 : decode cX8_fillEndings 69 = .ok (.goto (-56), 3) := by decide +kernel
theorem dX8_fillEndings_72 : decode cX8_fillEndings 72 = .ok (.aload_n 0, 1) := by decide +kernel
theorem dX8_fillEndings_73 : decode cX8_fillEndings 73 = .ok (.getfield 17, 3) := by decide +kernel
theorem dX8_fillEndings_76 : decode cX8_fillEndings 76 = .ok (.iload_n 1, 1) := by decide +kernel
theorem dX8_fillEndings_77 : decode cX8_fillEndings 77 = .ok (.aaload, 1) := by decide +kernel
theorem dX8_fillEndings_78 : decode cX8_fillEndings 78 = .ok (.iload_n 2, 1) := by decide +kernel
theorem dX8_fillEndings_79 : decode cX8_fillEndings 79 = .ok (.iload_n 3, 1) := by decide +kernel
theorem dX8_fillEndings_80 : decode cX8_fillEndings 80 = .ok (.iastore, 1) := by decide +kernel
theorem dX8_fillEndings_81 : decode cX8_fillEndings 81 = .ok (.iinc 2 1, 3) := by decide +kernel
theorem dX8_fillEndings_84 : decode cX8_fillEndings 84 = .ok (.goto (-82), 3) := by decide +kernel
theorem dX8_fillEndings_87 : decode cX8_fillEndings 87 = .ok (.return_, 1) := by decide +kernel
theorem dX8_setsAhead_0 : decode cX8_setsAhead 0 = .ok (.aload_n 0, 1) := by decide +kernel
theorem dX8_setsAhead_1 : decode cX8_setsAhead 1 = .ok (.getfield 9, 3) := by decide +kernel
theorem dX8_setsAhead_4 : decode cX8_setsAhead 4 = .ok (.iload_n 2, 1) := by decide +kernel
theorem dX8_setsAhead_5 : decode cX8_setsAhead 5 = .ok (.iaload, 1) := by decide +kernel
theorem dX8_setsAhead_6 : decode cX8_setsAhead 6 = .ok (.istore_n 3, 1) := by decide +kernel
theorem dX8_setsAhead_7 : decode cX8_setsAhead 7 = .ok (.iload_n 3, 1) := by decide +kernel
theorem dX8_setsAhead_8 : decode cX8_setsAhead 8 = .ok (.iconst (-1), 1) := by decide +kernel
theorem dX8_setsAhead_9 : decode cX8_setsAhead 9 = .ok (.if_icmp .ne 5, 3) := by decide +kernel
theorem dX8_setsAhead_12 : decode cX8_setsAhead 12 = .ok (.iload_n 1, 1) := by decide +kernel
theorem dX8_setsAhead_13 : decode cX8_setsAhead 13 = .ok (.ireturn, 1) := by decide +kernel
theorem dX8_setsAhead_14 : decode cX8_setsAhead 14 = .ok (.iload_n 1, 1) := by decide +kernel
theorem dX8_setsAhead_15 : decode cX8_setsAhead 15 = .ok (.getstatic 63, 3) := by decide +kernel
theorem dX8_setsAhead_18 : decode cX8_setsAhead 18 = .ok (.iload_n 3, 1) := by decide +kernel
theorem dX8_setsAhead_19 : decode cX8_setsAhead 19 = .ok (.iaload, 1) := by decide +kernel
theorem dX8_setsAhead_20 : decode cX8_setsAhead 20 = .ok (.iand, 1) := by decide +kernel
theorem dX8_setsAhead_21 : decode cX8_setsAhead 21 = .ok (.istore 4, 2) := by decide +kernel
theorem dX8_setsAhead_23 : decode cX8_setsAhead 23 = .ok (.iload 4, 2) := by decide +kernel
theorem dX8_setsAhead_25 : decode cX8_setsAhead 25 = .ok (.iload 4, 2) := by decide +kernel
theorem dX8_setsAhead_27 : decode cX8_setsAhead 27 = .ok (.iconst 1, 1) := by decide +kernel
theorem dX8_setsAhead_28 : decode cX8_setsAhead 28 = .ok (.iload_n 3, 1) := by decide +kernel
theorem dX8_setsAhead_29 : decode cX8_setsAhead 29 = .ok (.ishl, 1) := by decide +kernel
theorem dX8_setsAhead_30 : decode cX8_setsAhead 30 = .ok (.iushr, 1) := by decide +kernel
theorem dX8_setsAhead_31 : decode cX8_setsAhead 31 = .ok (.ior, 1) := by decide +kernel
theorem dX8_setsAhead_32 : decode cX8_setsAhead 32 = .ok (.ireturn, 1) := by decide +kernel
theorem dX8_writeRow_0 : decode cX8_writeRow 0 = .ok (.iconst 0, 1) := by decide +kernel
theorem dX8_writeRow_1 : decode cX8_writeRow 1 = .ok (.istore_n 3, 1) := by decide +kernel
theorem dX8_writeRow_2 : decode cX8_writeRow 2 = .ok (.iconst 0, 1) := by decide +kernel
theorem dX8_writeRow_3 : decode cX8_writeRow 3 = .ok (.istore 4, 2) := by decide +kernel
theorem dX8_writeRow_5 : decode cX8_writeRow 5 = .ok (.aload_n 2, 1) := by decide +kernel
theorem dX8_writeRow_6 : decode cX8_writeRow 6 = .ok (.iload_n 1, 1) := by decide +kernel
theorem dX8_writeRow_7 : decode cX8_writeRow 7 = .ok (.putfield 66, 3) := by decide +kernel
theorem dX8_writeRow_10 : decode cX8_writeRow 10 = .ok (.iconst 0, 1) := by decide +kernel
theorem dX8_writeRow_11 : decode cX8_writeRow 11 = .ok (.istore 5, 2) := by decide +kernel
theorem dX8_writeRow_13 : decode cX8_writeRow 13 = .ok (.iload 5, 2) := by decide +kernel
theorem dX8_writeRow_15 : decode cX8_writeRow 15 = .ok (.iload_n 1, 1) := by decide +kernel
theorem dX8_writeRow_16 : decode cX8_writeRow 16 = .ok (.if_icmp .ge 55, 3) := by decide +kernel
theorem dX8_writeRow_19 : decode cX8_writeRow 19 = .ok (.aload_n 0, 1) := by decide +kernel
theorem dX8_writeRow_20 : decode cX8_writeRow 20 = .ok (.iload_n 3, 1) := by decide +kernel
theorem dX8_writeRow_21 : decode cX8_writeRow 21 = .ok (.iload 4, 2) := by decide +kernel
theorem dX8_writeRow_23 : decode cX8_writeRow 23 = .ok (.iload_n 1, 1) := by decide +kernel
theorem dX8_writeRow_24 : decode cX8_writeRow 24 = .ok (.iload 5, 2) := by decide +kernel
theorem dX8_writeRow_26 : decode cX8_writeRow 26 = .ok (.isub, 1) := by decide +kernel
theorem dX8_writeRow_27 : decode cX8_writeRow 27 = .ok (.iconst 1, 1) := by decide +kernel
theorem dX8_writeRow_28 : decode cX8_writeRow 28 = .ok (.isub, 1) := by decide +kernel
theorem dX8_writeRow_29 : decode cX8_writeRow 29 = .ok (.invokevirtual 71, 3) := by decide +kernel
theorem dX8_writeRow_32 : decode cX8_writeRow 32 = .ok (.istore 6, 2) := by decide +kernel
theorem dX8_writeRow_34 : decode cX8_writeRow 34 = .ok (.aload_n 2, 1) := by decide +kernel
theorem dX8_writeRow_35 : decode cX8_writeRow 35 = .ok (.getfield 75, 3) := by decide +kernel
theorem dX8_writeRow_38 : decode cX8_writeRow 38 = .ok (.iload 5, 2) := by decide +kernel
theorem dX8_writeRow_40 : decode cX8_writeRow 40 = .ok (.iload 6, 2) := by decide +kernel
theorem dX8_writeRow_42 : decode cX8_writeRow 42 = .ok (.iastore, 1) := by decide +kernel
theorem dX8_writeRow_43 : decode cX8_writeRow 43 = .ok (.aload_n 0, 1) := by decide +kernel
theorem dX8_writeRow_44 : decode cX8_writeRow 44 = .ok (.getfield 24, 3) := by decide +kernel
theorem dX8_writeRow_47 : decode cX8_writeRow 47 = .ok (.getfield 54, 3) := by decide +kernel
theorem dX8_writeRow_50 : decode cX8_writeRow 50 = .ok (.iload 6, 2) := by decide +kernel
theorem dX8_writeRow_52 : decode cX8_writeRow 52 = .ok (.aaload, 1) := by decide +kernel
theorem dX8_writeRow_53 : decode cX8_writeRow 53 = .ok (.iload_n 3, 1) := by decide +kernel
theorem dX8_writeRow_54 : decode cX8_writeRow 54 = .ok (.iaload, 1) := by decide +kernel
theorem dX8_writeRow_55 : decode cX8_writeRow 55 = .ok (.istore_n 3, 1) := by decide +kernel
theorem dX8_writeRow_56 : decode cX8_writeRow 56 = .ok (.aload_n 0, 1) := by decide +kernel
theorem dX8_writeRow_57 : decode cX8_writeRow 57 = .ok (.iload 4, 2) := by decide +kernel
theorem dX8_writeRow_59 : decode cX8_writeRow 59 = .ok (.iload_n 3, 1) := by decide +kernel
theorem dX8_writeRow_60 : decode cX8_writeRow 60 = .ok (.invokevirtual 78, 3) := by decide +kernel
theorem dX8_writeRow_63 : decode cX8_writeRow 63 = .ok (.istore 4, 2) := by decide +kernel
theorem dX8_writeRow_65 : decode cX8_writeRow 65 = .ok (.iinc 5 1, 3) := by decide +kernel
theorem dX8_writeRow_68 : decode cX8_writeRow 68 = .ok (.goto (-55), 3) := by decide +kernel
theorem dX8_writeRow_71 : decode cX8_writeRow 71 = .ok (.return_, 1) := by decide +kernel
theorem dX8_firstInk_0 : decode cX8_firstInk 0 = .ok (.iconst 0, 1) := by decide +kernel
theorem dX8_firstInk_1 : decode cX8_firstInk 1 = .ok (.istore 4, 2) := by decide +kernel
theorem dX8_firstInk_3 : decode cX8_firstInk 3 = .ok (.iload 4, 2) := by decide +kernel
theorem dX8_firstInk_5 : decode cX8_firstInk 5 = .ok (.bipush 10, 2) := by decide +kernel
theorem dX8_firstInk_7 : decode cX8_firstInk 7 = .ok (.if_icmp .ge 60, 3) := by decide +kernel
theorem dX8_firstInk_10 : decode cX8_firstInk 10 = .ok (.aload_n 0, 1) := by decide +kernel
theorem dX8_firstInk_11 : decode cX8_firstInk 11 = .ok (.getfield 24, 3) := by decide +kernel
theorem dX8_firstInk_14 : decode cX8_firstInk 14 = .ok (.getfield 54, 3) := by decide +kernel
theorem dX8_firstInk_17 : decode cX8_firstInk 17 = .ok (.iload 4, 2) := by decide +kernel
theorem dX8_firstInk_19 : decode cX8_firstInk 19 = .ok (.aaload, 1) := by decide +kernel
theorem dX8_firstInk_20 : decode cX8_firstInk 20 = .ok (.iload_n 1, 1) := by decide +kernel
theorem dX8_firstInk_21 : decode cX8_firstInk 21 = .ok (.iaload, 1) := by decide +kernel
theorem dX8_firstInk_22 : decode cX8_firstInk 22 = .ok (.istore 5, 2) := by decide +kernel
theorem dX8_firstInk_24 : decode cX8_firstInk 24 = .ok (.aload_n 0, 1) := by decide +kernel
theorem dX8_firstInk_25 : decode cX8_firstInk 25 = .ok (.getfield 20, 3) := by decide +kernel
theorem dX8_firstInk_28 : decode cX8_firstInk 28 = .ok (.iload 4, 2) := by decide +kernel
theorem dX8_firstInk_30 : decode cX8_firstInk 30 = .ok (.invokestatic 50, 3) := by decide +kernel
theorem dX8_firstInk_33 : decode cX8_firstInk 33 = .ok (.ifCond .eq 28, 3) := by decide +kernel
theorem dX8_firstInk_36 : decode cX8_firstInk 36 = .ok (.aload_n 0, 1) := by decide +kernel
theorem dX8_firstInk_37 : decode cX8_firstInk 37 = .ok (.getfield 17, 3) := by decide +kernel
theorem dX8_firstInk_40 : decode cX8_firstInk 40 = .ok (.iload_n 3, 1) := by decide +kernel
theorem dX8_firstInk_41 : decode cX8_firstInk 41 = .ok (.aaload, 1) := by decide +kernel
theorem dX8_firstInk_42 : decode cX8_firstInk 42 = .ok (.iload 5, 2) := by decide +kernel
theorem dX8_firstInk_44 : decode cX8_firstInk 44 = .ok (.iaload, 1) := by decide +kernel
theorem dX8_firstInk_45 : decode cX8_firstInk 45 = .ok (.aload_n 0, 1) := by decide +kernel
theorem dX8_firstInk_46 : decode cX8_firstInk 46 = .ok (.iload_n 2, 1) := by decide +kernel
theorem dX8_firstInk_47 : decode cX8_firstInk 47 = .ok (.iload 5, 2) := by decide +kernel
theorem dX8_firstInk_49 : decode cX8_firstInk 49 = .ok (.invokevirtual 78, 3) := by decide +kernel
theorem dX8_firstInk_52 : decode cX8_firstInk 52 = .ok (.invokestatic 50, 3) := by decide +kernel
theorem dX8_firstInk_55 : decode cX8_firstInk 55 = .ok (.ifCond .eq 6, 3) := by decide +kernel
theorem dX8_firstInk_58 : decode cX8_firstInk 58 = .ok (.iload 4, 2) := by decide +kernel
theorem dX8_firstInk_60 : decode cX8_firstInk 60 = .ok (.ireturn, 1) := by decide +kernel
theorem dX8_firstInk_61 : decode cX8_firstInk 61 = .ok (.iinc 4 1, 3) := by decide +kernel
theorem dX8_firstInk_64 : decode cX8_firstInk 64 = .ok (.goto (-61), 3) := by decide +kernel
theorem dX8_firstInk_67 : decode cX8_firstInk 67 = .ok (.iconst 0, 1) := by decide +kernel
theorem dX8_firstInk_68 : decode cX8_firstInk 68 = .ok (.ireturn, 1) := by decide +kernel
theorem dX8_setWith_0 : decode cX8_setWith 0 = .ok (.aload_n 0, 1) := by decide +kernel
theorem dX8_setWith_1 : decode cX8_setWith 1 = .ok (.getfield 9, 3) := by decide +kernel
theorem dX8_setWith_4 : decode cX8_setWith 4 = .ok (.iload_n 2, 1) := by decide +kernel
theorem dX8_setWith_5 : decode cX8_setWith 5 = .ok (.iaload, 1) := by decide +kernel
theorem dX8_setWith_6 : decode cX8_setWith 6 = .ok (.iconst (-1), 1) := by decide +kernel
theorem dX8_setWith_7 : decode cX8_setWith 7 = .ok (.if_icmp .ne 7, 3) := by decide +kernel
theorem dX8_setWith_10 : decode cX8_setWith 10 = .ok (.iload_n 1, 1) := by decide +kernel
theorem dX8_setWith_11 : decode cX8_setWith 11 = .ok (.goto 13, 3) := by decide +kernel
theorem dX8_setWith_14 : decode cX8_setWith 14 = .ok (.iload_n 1, 1) := by decide +kernel
theorem dX8_setWith_15 : decode cX8_setWith 15 = .ok (.iconst 1, 1) := by decide +kernel
theorem dX8_setWith_16 : decode cX8_setWith 16 = .ok (.aload_n 0, 1) := by decide +kernel
theorem dX8_setWith_17 : decode cX8_setWith 17 = .ok (.getfield 9, 3) := by decide +kernel
theorem dX8_setWith_20 : decode cX8_setWith 20 = .ok (.iload_n 2, 1) := by decide +kernel
theorem dX8_setWith_21 : decode cX8_setWith 21 = .ok (.iaload, 1) := by decide +kernel
theorem dX8_setWith_22 : decode cX8_setWith 22 = .ok (.ishl, 1) := by decide +kernel
theorem dX8_setWith_23 : decode cX8_setWith 23 = .ok (.ior, 1) := by decide +kernel
theorem dX8_setWith_24 : decode cX8_setWith 24 = .ok (.ireturn, 1) := by decide +kernel
theorem dX9_init_0 : decode cX9_init 0 = .ok (.aload_n 0, 1) := by decide +kernel
theorem dX9_init_1 : decode cX9_init 1 = .ok (.invokespecial 3, 3) := by decide +kernel
theorem dX9_init_4 : decode cX9_init 4 = .ok (.aload_n 0, 1) := by decide +kernel
theorem dX9_init_5 : decode cX9_init 5 = .ok (.bipush 64, 2) := by decide +kernel
theorem dX9_init_7 : decode cX9_init 7 = .ok (.newarray .int, 2) := by decide +kernel
theorem dX9_init_9 : decode cX9_init 9 = .ok (.putfield 9, 3) := by decide +kernel
theorem dX9_init_12 : decode cX9_init 12 = .ok (.aload_n 0, 1) := by decide +kernel
theorem dX9_init_13 : decode cX9_init 13 = .ok (.bipush 64, 2) := by decide +kernel
theorem dX9_init_15 : decode cX9_init 15 = .ok (.newarray .int, 2) := by decide +kernel
theorem dX9_init_17 : decode cX9_init 17 = .ok (.putfield 15, 3) := by decide +kernel
theorem dX9_init_20 : decode cX9_init 20 = .ok (.aload_n 0, 1) := by decide +kernel
theorem dX9_init_21 : decode cX9_init 21 = .ok (.bipush 64, 2) := by decide +kernel
theorem dX9_init_23 : decode cX9_init 23 = .ok (.newarray .int, 2) := by decide +kernel
theorem dX9_init_25 : decode cX9_init 25 = .ok (.putfield 18, 3) := by decide +kernel
theorem dX9_init_28 : decode cX9_init 28 = .ok (.aload_n 0, 1) := by decide +kernel
theorem dX9_init_29 : decode cX9_init 29 = .ok (.bipush 64, 2) := by decide +kernel
theorem dX9_init_31 : decode cX9_init 31 = .ok (.newarray .int, 2) := by decide +kernel
theorem dX9_init_33 : decode cX9_init 33 = .ok (.putfield 21, 3) := by decide +kernel
theorem dX9_init_36 : decode cX9_init 36 = .ok (.aload_n 0, 1) := by decide +kernel
theorem dX9_init_37 : decode cX9_init 37 = .ok (.bipush 64, 2) := by decide +kernel
theorem dX9_init_39 : decode cX9_init 39 = .ok (.newarray .int, 2) := by decide +kernel
theorem dX9_init_41 : decode cX9_init 41 = .ok (.putfield 24, 3) := by decide +kernel
theorem dX9_init_44 : decode cX9_init 44 = .ok (.aload_n 0, 1) := by decide +kernel
theorem dX9_init_45 : decode cX9_init 45 = .ok (.iconst 1, 1) := by decide +kernel
theorem dX9_init_46 : decode cX9_init 46 = .ok (.putfield 27, 3) := by decide +kernel
theorem dX9_init_49 : decode cX9_init 49 = .ok (.aload_n 0, 1) := by decide +kernel
theorem dX9_init_50 : decode cX9_init 50 = .ok (.getfield 18, 3) := by decide +kernel
theorem dX9_init_53 : decode cX9_init 53 = .ok (.iconst (-1), 1) := by decide +kernel
theorem dX9_init_54 : decode cX9_init 54 = .ok (.invokestatic 31, 3) := by decide +kernel
theorem dX9_init_57 : decode cX9_init 57 = .ok (.return_, 1) := by decide +kernel
theorem dX9_take_0 : decode cX9_take 0 = .ok (.iload 4, 2) := by decide +kernel
theorem dX9_take_2 : decode cX9_take 2 = .ok (.aload_n 0, 1) := by decide +kernel
theorem dX9_take_3 : decode cX9_take 3 = .ok (.getfield 24, 3) := by decide +kernel
theorem dX9_take_6 : decode cX9_take 6 = .ok (.iload_n 2, 1) := by decide +kernel
theorem dX9_take_7 : decode cX9_take 7 = .ok (.iaload, 1) := by decide +kernel
theorem dX9_take_8 : decode cX9_take 8 = .ok (.if_icmp .ge 25, 3) := by decide +kernel
theorem dX9_take_11 : decode cX9_take 11 = .ok (.aload_n 3, 1) := by decide +kernel
theorem dX9_take_12 : decode cX9_take 12 = .ok (.getfield 37, 3) := by decide +kernel
theorem dX9_take_15 : decode cX9_take 15 = .ok (.aload_n 0, 1) := by decide +kernel
theorem dX9_take_16 : decode cX9_take 16 = .ok (.getfield 15, 3) := by decide +kernel
theorem dX9_take_19 : decode cX9_take 19 = .ok (.iload_n 2, 1) := by decide +kernel
theorem dX9_take_20 : decode cX9_take 20 = .ok (.iaload, 1) := by decide +kernel
theorem dX9_take_21 : decode cX9_take 21 = .ok (.aaload, 1) := by decide +kernel
theorem dX9_take_22 : decode cX9_take 22 = .ok (.iload_n 1, 1) := by decide +kernel
theorem dX9_take_23 : decode cX9_take 23 = .ok (.iaload, 1) := by decide +kernel
theorem dX9_take_24 : decode cX9_take 24 = .ok (.iconst 1, 1) := by decide +kernel
theorem dX9_take_25 : decode cX9_take 25 = .ok (.if_icmp .ne 8, 3) := by decide +kernel
theorem dX9_take_28 : decode cX9_take 28 = .ok (.aload_n 0, 1) := by decide +kernel
theorem dX9_take_29 : decode cX9_take 29 = .ok (.iconst 0, 1) := by decide +kernel
theorem dX9_take_30 : decode cX9_take 30 = .ok (.putfield 27, 3) := by decide +kernel
theorem dX9_take_33 : decode cX9_take 33 = .ok (.aload_n 0, 1) := by decide +kernel
theorem dX9_take_34 : decode cX9_take 34 = .ok (.getfield 9, 3) := by decide +kernel
theorem dX9_take_37 : decode cX9_take 37 = .ok (.iload_n 2, 1) := by decide +kernel
theorem dX9_take_38 : decode cX9_take 38 = .ok (.aload_n 3, 1) := by decide +kernel
theorem dX9_take_39 : decode cX9_take 39 = .ok (.getfield 43, 3) := by decide +kernel
theorem dX9_take_42 : decode cX9_take 42 = .ok (.iload_n 1, 1) := by decide +kernel
theorem dX9_take_43 : decode cX9_take 43 = .ok (.aaload, 1) := by decide +kernel
theorem dX9_take_44 : decode cX9_take 44 = .ok (.aload_n 0, 1) := by decide +kernel
theorem dX9_take_45 : decode cX9_take 45 = .ok (.getfield 9, 3) := by decide +kernel
theorem dX9_take_48 : decode cX9_take 48 = .ok (.iload_n 2, 1) := by decide +kernel
theorem dX9_take_49 : decode cX9_take 49 = .ok (.iaload, 1) := by decide +kernel
theorem dX9_take_50 : decode cX9_take 50 = .ok (.iaload, 1) := by decide +kernel
theorem dX9_take_51 : decode cX9_take 51 = .ok (.iastore, 1) := by decide +kernel
theorem dX9_take_52 : decode cX9_take 52 = .ok (.aload_n 0, 1) := by decide +kernel
theorem dX9_take_53 : decode cX9_take 53 = .ok (.getfield 15, 3) := by decide +kernel
theorem dX9_take_56 : decode cX9_take 56 = .ok (.iload_n 2, 1) := by decide +kernel
theorem dX9_take_57 : decode cX9_take 57 = .ok (.iload_n 1, 1) := by decide +kernel
theorem dX9_take_58 : decode cX9_take 58 = .ok (.iastore, 1) := by decide +kernel
theorem dX9_take_59 : decode cX9_take 59 = .ok (.aload_n 0, 1) := by decide +kernel
theorem dX9_take_60 : decode cX9_take 60 = .ok (.getfield 24, 3) := by decide +kernel
theorem dX9_take_63 : decode cX9_take 63 = .ok (.iload_n 2, 1) := by decide +kernel
theorem dX9_take_64 : decode cX9_take 64 = .ok (.iload 4, 2) := by decide +kernel
theorem dX9_take_66 : decode cX9_take 66 = .ok (.aload_n 3, 1) := by decide +kernel
theorem dX9_take_67 : decode cX9_take 67 = .ok (.getfield 46, 3) := by decide +kernel
theorem dX9_take_70 : decode cX9_take 70 = .ok (.iload_n 1, 1) := by decide +kernel
theorem dX9_take_71 : decode cX9_take 71 = .ok (.iaload, 1) := by decide +kernel
theorem dX9_take_72 : decode cX9_take 72 = .ok (.iadd, 1) := by decide +kernel
theorem dX9_take_73 : decode cX9_take 73 = .ok (.iastore, 1) := by decide +kernel
theorem dX9_take_74 : decode cX9_take 74 = .ok (.aload_n 0, 1) := by decide +kernel
theorem dX9_take_75 : decode cX9_take 75 = .ok (.getfield 21, 3) := by decide +kernel
theorem dX9_take_78 : decode cX9_take 78 = .ok (.iload_n 2, 1) := by decide +kernel
theorem dX9_take_79 : decode cX9_take 79 = .ok (.dup2, 1) := by decide +kernel
theorem dX9_take_80 : decode cX9_take 80 = .ok (.iaload, 1) := by decide +kernel
theorem dX9_take_81 : decode cX9_take 81 = .ok (.iconst 1, 1) := by decide +kernel
theorem dX9_take_82 : decode cX9_take 82 = .ok (.iadd, 1) := by decide +kernel
theorem dX9_take_83 : decode cX9_take 83 = .ok (.iastore, 1) := by decide +kernel
theorem dX9_take_84 : decode cX9_take 84 = .ok (.return_, 1) := by decide +kernel
theorem dX9_dryFor_0 : decode cX9_dryFor 0 = .ok (.iconst 0, 1) := by decide +kernel
theorem dX9_dryFor_1 : decode cX9_dryFor 1 = .ok (.istore 4, 2) := by decide +kernel
theorem dX9_dryFor_3 : decode cX9_dryFor 3 = .ok (.iconst 0, 1) := by decide +kernel
theorem dX9_dryFor_4 : decode cX9_dryFor 4 = .ok (.istore 5, 2) := by decide +kernel
theorem dX9_dryFor_6 : decode cX9_dryFor 6 = .ok (.aload_n 0, 1) := by decide +kernel
theorem dX9_dryFor_7 : decode cX9_dryFor 7 = .ok (.getfield 27, 3) := by decide +kernel
theorem dX9_dryFor_10 : decode cX9_dryFor 10 = .ok (.ifCond .eq 57, 3) := by decide +kernel
theorem dX9_dryFor_13 : decode cX9_dryFor 13 = .ok (.iload 5, 2) := by decide +kernel
theorem dX9_dryFor_15 : decode cX9_dryFor 15 = .ok (.bipush 64, 2) := by decide +kernel
theorem dX9_dryFor_17 : decode cX9_dryFor 17 = .ok (.if_icmp .ge 50, 3) := by decide +kernel
theorem dX9_dryFor_20 : decode cX9_dryFor 20 = .ok (.aload_n 2, 1) := by decide +kernel
theorem dX9_dryFor_21 : decode cX9_dryFor 21 = .ok (.iload 5, 2) := by decide +kernel
theorem dX9_dryFor_23 : decode cX9_dryFor 23 = .ok (.invokevirtual 49, 3) := by decide +kernel
theorem dX9_dryFor_26 : decode cX9_dryFor 26 = .ok (.ifCond .eq 35, 3) := by decide +kernel
theorem dX9_dryFor_29 : decode cX9_dryFor 29 = .ok (.aload_n 3, 1) := by decide +kernel
theorem dX9_dryFor_30 : decode cX9_dryFor 30 = .ok (.getfield 37, 3) := by decide +kernel
theorem dX9_dryFor_33 : decode cX9_dryFor 33 = .ok (.aload_n 0, 1) := by decide +kernel
theorem dX9_dryFor_34 : decode cX9_dryFor 34 = .ok (.getfield 15, 3) := by decide +kernel
theorem dX9_dryFor_37 : decode cX9_dryFor 37 = .ok (.iload 5, 2) := by decide +kernel
theorem dX9_dryFor_39 : decode cX9_dryFor 39 = .ok (.iaload, 1) := by decide +kernel
theorem dX9_dryFor_40 : decode cX9_dryFor 40 = .ok (.aaload, 1) := by decide +kernel
theorem dX9_dryFor_41 : decode cX9_dryFor 41 = .ok (.iload_n 1, 1) := by decide +kernel
theorem dX9_dryFor_42 : decode cX9_dryFor 42 = .ok (.iaload, 1) := by decide +kernel
theorem dX9_dryFor_43 : decode cX9_dryFor 43 = .ok (.iconst 1, 1) := by decide +kernel
theorem dX9_dryFor_44 : decode cX9_dryFor 44 = .ok (.if_icmp .ne 17, 3) := by decide +kernel
theorem dX9_dryFor_47 : decode cX9_dryFor 47 = .ok (.iload 4, 2) := by decide +kernel
theorem dX9_dryFor_49 : decode cX9_dryFor 49 = .ok (.aload_n 0, 1) := by decide +kernel
theorem dX9_dryFor_50 : decode cX9_dryFor 50 = .ok (.getfield 24, 3) := by decide +kernel
theorem dX9_dryFor_53 : decode cX9_dryFor 53 = .ok (.iload 5, 2) := by decide +kernel
theorem dX9_dryFor_55 : decode cX9_dryFor 55 = .ok (.iaload, 1) := by decide +kernel
theorem dX9_dryFor_56 : decode cX9_dryFor 56 = .ok (.invokestatic 55, 3) := by decide +kernel
theorem dX9_dryFor_59 : decode cX9_dryFor 59 = .ok (.istore 4, 2) := by decide +kernel
theorem dX9_dryFor_61 : decode cX9_dryFor 61 = .ok (.iinc 5 1, 3) := by decide +kernel
theorem dX9_dryFor_64 : decode cX9_dryFor 64 = .ok (.goto (-58), 3) := by decide +kernel
theorem dX9_dryFor_67 : decode cX9_dryFor 67 = .ok (.iload 4, 2) := by decide +kernel
theorem dX9_dryFor_69 : decode cX9_dryFor 69 = .ok (.ireturn, 1) := by decide +kernel
theorem dJ6_bitCount_0f7a4_0 : decode cJ6_bitCount_0f7a4 0 = .ok (.iload_n 0, 1) := by decide +kernel
theorem dJ6_bitCount_0f7a4_1 : decode cJ6_bitCount_0f7a4 1 = .ok (.iload_n 0, 1) := by decide +kernel
theorem dJ6_bitCount_0f7a4_2 : decode cJ6_bitCount_0f7a4 2 = .ok (.iconst 1, 1) := by decide +kernel
theorem dJ6_bitCount_0f7a4_3 : decode cJ6_bitCount_0f7a4 3 = .ok (.iushr, 1) := by decide +kernel
theorem dJ6_bitCount_0f7a4_4 : decode cJ6_bitCount_0f7a4 4 = .ok (.ldc_w 265, 3) := by decide +kernel
theorem dJ6_bitCount_0f7a4_7 : decode cJ6_bitCount_0f7a4 7 = .ok (.iand, 1) := by decide +kernel
theorem dJ6_bitCount_0f7a4_8 : decode cJ6_bitCount_0f7a4 8 = .ok (.isub, 1) := by decide +kernel
theorem dJ6_bitCount_0f7a4_9 : decode cJ6_bitCount_0f7a4 9 = .ok (.istore_n 0, 1) := by decide +kernel
theorem dJ6_bitCount_0f7a4_10 : decode cJ6_bitCount_0f7a4 10 = .ok (.iload_n 0, 1) := by decide +kernel
theorem dJ6_bitCount_0f7a4_11 : decode cJ6_bitCount_0f7a4 11 = .ok (.ldc_w 266, 3) := by decide +kernel
theorem dJ6_bitCount_0f7a4_14 : decode cJ6_bitCount_0f7a4 14 = .ok (.iand, 1) := by decide +kernel
theorem dJ6_bitCount_0f7a4_15 : decode cJ6_bitCount_0f7a4 15 = .ok (.iload_n 0, 1) := by decide +kernel
theorem dJ6_bitCount_0f7a4_16 : decode cJ6_bitCount_0f7a4 16 = .ok (.iconst 2, 1) := by decide +kernel
theorem dJ6_bitCount_0f7a4_17 : decode cJ6_bitCount_0f7a4 17 = .ok (.iushr, 1) := by decide +kernel
theorem dJ6_bitCount_0f7a4_18 : decode cJ6_bitCount_0f7a4 18 = .ok (.ldc_w 266, 3) := by decide +kernel
theorem dJ6_bitCount_0f7a4_21 : decode cJ6_bitCount_0f7a4 21 = .ok (.iand, 1) := by decide +kernel
theorem dJ6_bitCount_0f7a4_22 : decode cJ6_bitCount_0f7a4 22 = .ok (.iadd, 1) := by decide +kernel
theorem dJ6_bitCount_0f7a4_23 : decode cJ6_bitCount_0f7a4 23 = .ok (.istore_n 0, 1) := by decide +kernel
theorem dJ6_bitCount_0f7a4_24 : decode cJ6_bitCount_0f7a4 24 = .ok (.iload_n 0, 1) := by decide +kernel
theorem dJ6_bitCount_0f7a4_25 : decode cJ6_bitCount_0f7a4 25 = .ok (.iload_n 0, 1) := by decide +kernel
theorem dJ6_bitCount_0f7a4_26 : decode cJ6_bitCount_0f7a4 26 = .ok (.iconst 4, 1) := by decide +kernel
theorem dJ6_bitCount_0f7a4_27 : decode cJ6_bitCount_0f7a4 27 = .ok (.iushr, 1) := by decide +kernel
theorem dJ6_bitCount_0f7a4_28 : decode cJ6_bitCount_0f7a4 28 = .ok (.iadd, 1) := by decide +kernel
theorem dJ6_bitCount_0f7a4_29 : decode cJ6_bitCount_0f7a4 29 = .ok (.ldc_w 267, 3) := by decide +kernel
theorem dJ6_bitCount_0f7a4_32 : decode cJ6_bitCount_0f7a4 32 = .ok (.iand, 1) := by decide +kernel
theorem dJ6_bitCount_0f7a4_33 : decode cJ6_bitCount_0f7a4 33 = .ok (.istore_n 0, 1) := by decide +kernel
theorem dJ6_bitCount_0f7a4_34 : decode cJ6_bitCount_0f7a4 34 = .ok (.iload_n 0, 1) := by decide +kernel
theorem dJ6_bitCount_0f7a4_35 : decode cJ6_bitCount_0f7a4 35 = .ok (.iload_n 0, 1) := by decide +kernel
theorem dJ6_bitCount_0f7a4_36 : decode cJ6_bitCount_0f7a4 36 = .ok (.bipush 8, 2) := by decide +kernel
theorem dJ6_bitCount_0f7a4_38 : decode cJ6_bitCount_0f7a4 38 = .ok (.iushr, 1) := by decide +kernel
theorem dJ6_bitCount_0f7a4_39 : decode cJ6_bitCount_0f7a4 39 = .ok (.iadd, 1) := by decide +kernel
theorem dJ6_bitCount_0f7a4_40 : decode cJ6_bitCount_0f7a4 40 = .ok (.istore_n 0, 1) := by decide +kernel
theorem dJ6_bitCount_0f7a4_41 : decode cJ6_bitCount_0f7a4 41 = .ok (.iload_n 0, 1) := by decide +kernel
theorem dJ6_bitCount_0f7a4_42 : decode cJ6_bitCount_0f7a4 42 = .ok (.iload_n 0, 1) := by decide +kernel
theorem dJ6_bitCount_0f7a4_43 : decode cJ6_bitCount_0f7a4 43 = .ok (.bipush 16, 2) := by decide +kernel
theorem dJ6_bitCount_0f7a4_45 : decode cJ6_bitCount_0f7a4 45 = .ok (.iushr, 1) := by decide +kernel
theorem dJ6_bitCount_0f7a4_46 : decode cJ6_bitCount_0f7a4 46 = .ok (.iadd, 1) := by decide +kernel
theorem dJ6_bitCount_0f7a4_47 : decode cJ6_bitCount_0f7a4 47 = .ok (.istore_n 0, 1) := by decide +kernel
theorem dJ6_bitCount_0f7a4_48 : decode cJ6_bitCount_0f7a4 48 = .ok (.iload_n 0, 1) := by decide +kernel
theorem dJ6_bitCount_0f7a4_49 : decode cJ6_bitCount_0f7a4 49 = .ok (.bipush 63, 2) := by decide +kernel
theorem dJ6_bitCount_0f7a4_51 : decode cJ6_bitCount_0f7a4 51 = .ok (.iand, 1) := by decide +kernel
theorem dJ6_bitCount_0f7a4_52 : decode cJ6_bitCount_0f7a4 52 = .ok (.ireturn, 1) := by decide +kernel
theorem dJ9_floorDiv_7cf53_0 : decode cJ9_floorDiv_7cf53 0 = .ok (.iload_n 0, 1) := by decide +kernel
theorem dJ9_floorDiv_7cf53_1 : decode cJ9_floorDiv_7cf53 1 = .ok (.iload_n 1, 1) := by decide +kernel
theorem dJ9_floorDiv_7cf53_2 : decode cJ9_floorDiv_7cf53 2 = .ok (.idiv, 1) := by decide +kernel
theorem dJ9_floorDiv_7cf53_3 : decode cJ9_floorDiv_7cf53 3 = .ok (.istore_n 2, 1) := by decide +kernel
theorem dJ9_floorDiv_7cf53_4 : decode cJ9_floorDiv_7cf53 4 = .ok (.iload_n 0, 1) := by decide +kernel
theorem dJ9_floorDiv_7cf53_5 : decode cJ9_floorDiv_7cf53 5 = .ok (.iload_n 1, 1) := by decide +kernel
theorem dJ9_floorDiv_7cf53_6 : decode cJ9_floorDiv_7cf53 6 = .ok (.ixor, 1) := by decide +kernel
theorem dJ9_floorDiv_7cf53_7 : decode cJ9_floorDiv_7cf53 7 = .ok (.ifCond .ge 14, 3) := by decide +kernel
theorem dJ9_floorDiv_7cf53_10 : decode cJ9_floorDiv_7cf53 10 = .ok (.iload_n 2, 1) := by decide +kernel
theorem dJ9_floorDiv_7cf53_11 : decode cJ9_floorDiv_7cf53 11 = .ok (.iload_n 1, 1) := by decide +kernel
theorem dJ9_floorDiv_7cf53_12 : decode cJ9_floorDiv_7cf53 12 = .ok (.imul, 1) := by decide +kernel
theorem dJ9_floorDiv_7cf53_13 : decode cJ9_floorDiv_7cf53 13 = .ok (.iload_n 0, 1) := by decide +kernel
theorem dJ9_floorDiv_7cf53_14 : decode cJ9_floorDiv_7cf53 14 = .ok (.if_icmp .eq 7, 3) := by decide +kernel
theorem dJ9_floorDiv_7cf53_17 : decode cJ9_floorDiv_7cf53 17 = .ok (.iload_n 2, 1) := by decide +kernel
theorem dJ9_floorDiv_7cf53_18 : decode cJ9_floorDiv_7cf53 18 = .ok (.iconst 1, 1) := by decide +kernel
theorem dJ9_floorDiv_7cf53_19 : decode cJ9_floorDiv_7cf53 19 = .ok (.isub, 1) := by decide +kernel
theorem dJ9_floorDiv_7cf53_20 : decode cJ9_floorDiv_7cf53 20 = .ok (.ireturn, 1) := by decide +kernel
theorem dJ9_floorDiv_7cf53_21 : decode cJ9_floorDiv_7cf53 21 = .ok (.iload_n 2, 1) := by decide +kernel
theorem dJ9_floorDiv_7cf53_22 : decode cJ9_floorDiv_7cf53 22 = .ok (.ireturn, 1) := by decide +kernel
theorem dJ9_floorMod_7cf53_0 : decode cJ9_floorMod_7cf53 0 = .ok (.iload_n 0, 1) := by decide +kernel
theorem dJ9_floorMod_7cf53_1 : decode cJ9_floorMod_7cf53 1 = .ok (.iload_n 1, 1) := by decide +kernel
theorem dJ9_floorMod_7cf53_2 : decode cJ9_floorMod_7cf53 2 = .ok (.irem, 1) := by decide +kernel
theorem dJ9_floorMod_7cf53_3 : decode cJ9_floorMod_7cf53 3 = .ok (.istore_n 2, 1) := by decide +kernel
theorem dJ9_floorMod_7cf53_4 : decode cJ9_floorMod_7cf53 4 = .ok (.iload_n 0, 1) := by decide +kernel
theorem dJ9_floorMod_7cf53_5 : decode cJ9_floorMod_7cf53 5 = .ok (.iload_n 1, 1) := by decide +kernel
theorem dJ9_floorMod_7cf53_6 : decode cJ9_floorMod_7cf53 6 = .ok (.ixor, 1) := by decide +kernel
theorem dJ9_floorMod_7cf53_7 : decode cJ9_floorMod_7cf53 7 = .ok (.ifCond .ge 11, 3) := by decide +kernel
theorem dJ9_floorMod_7cf53_10 : decode cJ9_floorMod_7cf53 10 = .ok (.iload_n 2, 1) := by decide +kernel
theorem dJ9_floorMod_7cf53_11 : decode cJ9_floorMod_7cf53 11 = .ok (.ifCond .eq 7, 3) := by decide +kernel
theorem dJ9_floorMod_7cf53_14 : decode cJ9_floorMod_7cf53 14 = .ok (.iload_n 2, 1) := by decide +kernel
theorem dJ9_floorMod_7cf53_15 : decode cJ9_floorMod_7cf53 15 = .ok (.iload_n 1, 1) := by decide +kernel
theorem dJ9_floorMod_7cf53_16 : decode cJ9_floorMod_7cf53 16 = .ok (.iadd, 1) := by decide +kernel
theorem dJ9_floorMod_7cf53_17 : decode cJ9_floorMod_7cf53 17 = .ok (.ireturn, 1) := by decide +kernel
theorem dJ9_floorMod_7cf53_18 : decode cJ9_floorMod_7cf53 18 = .ok (.iload_n 2, 1) := by decide +kernel
theorem dJ9_floorMod_7cf53_19 : decode cJ9_floorMod_7cf53 19 = .ok (.ireturn, 1) := by decide +kernel
theorem dJ9_max_7cf53_0 : decode cJ9_max_7cf53 0 = .ok (.iload_n 0, 1) := by decide +kernel
theorem dJ9_max_7cf53_1 : decode cJ9_max_7cf53 1 = .ok (.iload_n 1, 1) := by decide +kernel
theorem dJ9_max_7cf53_2 : decode cJ9_max_7cf53 2 = .ok (.if_icmp .lt 7, 3) := by decide +kernel
theorem dJ9_max_7cf53_5 : decode cJ9_max_7cf53 5 = .ok (.iload_n 0, 1) := by decide +kernel
theorem dJ9_max_7cf53_6 : decode cJ9_max_7cf53 6 = .ok (.goto 4, 3) := by decide +kernel
theorem dJ9_max_7cf53_9 : decode cJ9_max_7cf53 9 = .ok (.iload_n 1, 1) := by decide +kernel
theorem dJ9_max_7cf53_10 : decode cJ9_max_7cf53 10 = .ok (.ireturn, 1) := by decide +kernel
theorem dJ7_rangeCheck_23922_0 : decode cJ7_rangeCheck_23922 0 = .ok (.iload_n 1, 1) := by decide +kernel
theorem dJ7_rangeCheck_23922_1 : decode cJ7_rangeCheck_23922 1 = .ok (.iload_n 2, 1) := by decide +kernel
theorem dJ7_rangeCheck_23922_2 : decode cJ7_rangeCheck_23922 2 = .ok (.if_icmp .le 44, 3) := by decide +kernel
theorem dJ7_rangeCheck_23922_5 : decode cJ7_rangeCheck_23922 5 = .ok (.new 43, 3) := by decide +kernel
theorem dJ7_rangeCheck_23922_8 : decode cJ7_rangeCheck_23922 8 = .ok (.dup, 1) := by decide +kernel
theorem dJ7_rangeCheck_23922_9 : decode cJ7_rangeCheck_23922 9 = .ok (.new 45, 3) := by decide +kernel
theorem dJ7_rangeCheck_23922_12 : decode cJ7_rangeCheck_23922 12 = .ok (.dup, 1) := by decide +kernel
theorem dJ7_rangeCheck_23922_13 : decode cJ7_rangeCheck_23922 13 = .ok (.invokespecial 47, 3) := by decide +kernel
theorem dJ7_rangeCheck_23922_16 : decode cJ7_rangeCheck_23922 16 = .ok (.ldc 48, 2) := by decide +kernel
theorem dJ7_rangeCheck_23922_18 : decode cJ7_rangeCheck_23922 18 = .ok (.invokevirtual 50, 3) := by decide +kernel
theorem dJ7_rangeCheck_23922_21 : decode cJ7_rangeCheck_23922 21 = .ok (.iload_n 1, 1) := by decide +kernel
theorem dJ7_rangeCheck_23922_22 : decode cJ7_rangeCheck_23922 22 = .ok (.invokevirtual 54, 3) := by decide +kernel
theorem dJ7_rangeCheck_23922_25 : decode cJ7_rangeCheck_23922 25 = .ok (.ldc 57, 2) := by decide +kernel
theorem dJ7_rangeCheck_23922_27 : decode cJ7_rangeCheck_23922 27 = .ok (.invokevirtual 50, 3) := by decide +kernel
theorem dJ7_rangeCheck_23922_30 : decode cJ7_rangeCheck_23922 30 = .ok (.iload_n 2, 1) := by decide +kernel
theorem dJ7_rangeCheck_23922_31 : decode cJ7_rangeCheck_23922 31 = .ok (.invokevirtual 54, 3) := by decide +kernel
theorem dJ7_rangeCheck_23922_34 : decode cJ7_rangeCheck_23922 34 = .ok (.ldc 59, 2) := by decide +kernel
theorem dJ7_rangeCheck_23922_36 : decode cJ7_rangeCheck_23922 36 = .ok (.invokevirtual 50, 3) := by decide +kernel
theorem dJ7_rangeCheck_23922_39 : decode cJ7_rangeCheck_23922 39 = .ok (.invokevirtual 61, 3) := by decide +kernel
theorem dJ7_rangeCheck_23922_42 : decode cJ7_rangeCheck_23922 42 = .ok (.invokespecial 65, 3) := by decide +kernel
theorem dJ7_rangeCheck_23922_45 : decode cJ7_rangeCheck_23922 45 = .ok (.athrow, 1) := by decide +kernel
theorem dJ7_rangeCheck_23922_46 : decode cJ7_rangeCheck_23922 46 = .ok (.iload_n 1, 1) := by decide +kernel
theorem dJ7_rangeCheck_23922_47 : decode cJ7_rangeCheck_23922 47 = .ok (.ifCond .ge 12, 3) := by decide +kernel
theorem dJ7_rangeCheck_23922_50 : decode cJ7_rangeCheck_23922 50 = .ok (.new 68, 3) := by decide +kernel
theorem dJ7_rangeCheck_23922_53 : decode cJ7_rangeCheck_23922 53 = .ok (.dup, 1) := by decide +kernel
theorem dJ7_rangeCheck_23922_54 : decode cJ7_rangeCheck_23922 54 = .ok (.iload_n 1, 1) := by decide +kernel
theorem dJ7_rangeCheck_23922_55 : decode cJ7_rangeCheck_23922 55 = .ok (.invokespecial 70, 3) := by decide +kernel
theorem dJ7_rangeCheck_23922_58 : decode cJ7_rangeCheck_23922 58 = .ok (.athrow, 1) := by decide +kernel
theorem dJ7_rangeCheck_23922_59 : decode cJ7_rangeCheck_23922 59 = .ok (.iload_n 2, 1) := by decide +kernel
theorem dJ7_rangeCheck_23922_60 : decode cJ7_rangeCheck_23922 60 = .ok (.iload_n 0, 1) := by decide +kernel
theorem dJ7_rangeCheck_23922_61 : decode cJ7_rangeCheck_23922 61 = .ok (.if_icmp .le 12, 3) := by decide +kernel
theorem dJ7_rangeCheck_23922_64 : decode cJ7_rangeCheck_23922 64 = .ok (.new 68, 3) := by decide +kernel
theorem dJ7_rangeCheck_23922_67 : decode cJ7_rangeCheck_23922 67 = .ok (.dup, 1) := by decide +kernel
theorem dJ7_rangeCheck_23922_68 : decode cJ7_rangeCheck_23922 68 = .ok (.iload_n 2, 1) := by decide +kernel
theorem dJ7_rangeCheck_23922_69 : decode cJ7_rangeCheck_23922 69 = .ok (.invokespecial 70, 3) := by decide +kernel
theorem dJ7_rangeCheck_23922_72 : decode cJ7_rangeCheck_23922 72 = .ok (.athrow, 1) := by decide +kernel
theorem dJ7_rangeCheck_23922_73 : decode cJ7_rangeCheck_23922 73 = .ok (.return_, 1) := by decide +kernel
theorem dJ7_fill_53178_0 : decode cJ7_fill_53178 0 = .ok (.iconst 0, 1) := by decide +kernel
theorem dJ7_fill_53178_1 : decode cJ7_fill_53178 1 = .ok (.istore_n 2, 1) := by decide +kernel
theorem dJ7_fill_53178_2 : decode cJ7_fill_53178 2 = .ok (.aload_n 0, 1) := by decide +kernel
theorem dJ7_fill_53178_3 : decode cJ7_fill_53178 3 = .ok (.arraylength, 1) := by decide +kernel
theorem dJ7_fill_53178_4 : decode cJ7_fill_53178 4 = .ok (.istore_n 3, 1) := by decide +kernel
theorem dJ7_fill_53178_5 : decode cJ7_fill_53178 5 = .ok (.iload_n 2, 1) := by decide +kernel
theorem dJ7_fill_53178_6 : decode cJ7_fill_53178 6 = .ok (.iload_n 3, 1) := by decide +kernel
theorem dJ7_fill_53178_7 : decode cJ7_fill_53178 7 = .ok (.if_icmp .ge 13, 3) := by decide +kernel
theorem dJ7_fill_53178_10 : decode cJ7_fill_53178 10 = .ok (.aload_n 0, 1) := by decide +kernel
theorem dJ7_fill_53178_11 : decode cJ7_fill_53178 11 = .ok (.iload_n 2, 1) := by decide +kernel
theorem dJ7_fill_53178_12 : decode cJ7_fill_53178 12 = .ok (.iload_n 1, 1) := by decide +kernel
theorem dJ7_fill_53178_13 : decode cJ7_fill_53178 13 = .ok (.iastore, 1) := by decide +kernel
theorem dJ7_fill_53178_14 : decode cJ7_fill_53178 14 = .ok (.iinc 2 1, 3) := by decide +kernel
theorem dJ7_fill_53178_17 : decode cJ7_fill_53178 17 = .ok (.goto (-12), 3) := by decide +kernel
theorem dJ7_fill_53178_20 : decode cJ7_fill_53178 20 = .ok (.return_, 1) := by decide +kernel
theorem dJ7_fill_fda19_0 : decode cJ7_fill_fda19 0 = .ok (.aload_n 0, 1) := by decide +kernel
theorem dJ7_fill_fda19_1 : decode cJ7_fill_fda19 1 = .ok (.arraylength, 1) := by decide +kernel
theorem dJ7_fill_fda19_2 : decode cJ7_fill_fda19 2 = .ok (.iload_n 1, 1) := by decide +kernel
theorem dJ7_fill_fda19_3 : decode cJ7_fill_fda19 3 = .ok (.iload_n 2, 1) := by decide +kernel
theorem dJ7_fill_fda19_4 : decode cJ7_fill_fda19 4 = .ok (.invokestatic 13, 3) := by decide +kernel
theorem dJ7_fill_fda19_7 : decode cJ7_fill_fda19 7 = .ok (.iload_n 1, 1) := by decide +kernel
theorem dJ7_fill_fda19_8 : decode cJ7_fill_fda19 8 = .ok (.istore 4, 2) := by decide +kernel
theorem dJ7_fill_fda19_10 : decode cJ7_fill_fda19 10 = .ok (.iload 4, 2) := by decide +kernel
theorem dJ7_fill_fda19_12 : decode cJ7_fill_fda19 12 = .ok (.iload_n 2, 1) := by decide +kernel
theorem dJ7_fill_fda19_13 : decode cJ7_fill_fda19 13 = .ok (.if_icmp .ge 14, 3) := by decide +kernel
theorem dJ7_fill_fda19_16 : decode cJ7_fill_fda19 16 = .ok (.aload_n 0, 1) := by decide +kernel
theorem dJ7_fill_fda19_17 : decode cJ7_fill_fda19 17 = .ok (.iload 4, 2) := by decide +kernel
theorem dJ7_fill_fda19_19 : decode cJ7_fill_fda19 19 = .ok (.iload_n 3, 1) := by decide +kernel
theorem dJ7_fill_fda19_20 : decode cJ7_fill_fda19 20 = .ok (.iastore, 1) := by decide +kernel
theorem dJ7_fill_fda19_21 : decode cJ7_fill_fda19 21 = .ok (.iinc 4 1, 3) := by decide +kernel
theorem dJ7_fill_fda19_24 : decode cJ7_fill_fda19 24 = .ok (.goto (-14), 3) := by decide +kernel
theorem dJ7_fill_fda19_27 : decode cJ7_fill_fda19 27 = .ok (.return_, 1) := by decide +kernel
end
section
theorem dX10_init_0 : decode cX10_init 0 = .ok (.aload_n 0, 1) := by decide +kernel
theorem dX10_init_1 : decode cX10_init 1 = .ok (.invokespecial 3, 3) := by decide +kernel
theorem dX10_init_4 : decode cX10_init 4 = .ok (.aload_n 0, 1) := by decide +kernel
theorem dX10_init_5 : decode cX10_init 5 = .ok (.new 9, 3) := by decide +kernel
theorem dX10_init_8 : decode cX10_init 8 = .ok (.dup, 1) := by decide +kernel
theorem dX10_init_9 : decode cX10_init 9 = .ok (.invokespecial 11, 3) := by decide +kernel
theorem dX10_init_12 : decode cX10_init 12 = .ok (.putfield 12, 3) := by decide +kernel
theorem dX10_init_15 : decode cX10_init 15 = .ok (.aload_n 0, 1) := by decide +kernel
theorem dX10_init_16 : decode cX10_init 16 = .ok (.new 16, 3) := by decide +kernel
theorem dX10_init_19 : decode cX10_init 19 = .ok (.dup, 1) := by decide +kernel
theorem dX10_init_20 : decode cX10_init 20 = .ok (.invokespecial 18, 3) := by decide +kernel
theorem dX10_init_23 : decode cX10_init 23 = .ok (.putfield 19, 3) := by decide +kernel
theorem dX10_init_26 : decode cX10_init 26 = .ok (.aload_n 0, 1) := by decide +kernel
theorem dX10_init_27 : decode cX10_init 27 = .ok (.bipush 20, 2) := by decide +kernel
theorem dX10_init_29 : decode cX10_init 29 = .ok (.anewarray 23, 3) := by decide +kernel
theorem dX10_init_32 : decode cX10_init 32 = .ok (.putfield 25, 3) := by decide +kernel
theorem dX10_init_35 : decode cX10_init 35 = .ok (.aload_n 0, 1) := by decide +kernel
theorem dX10_init_36 : decode cX10_init 36 = .ok (.sipush 200, 3) := by decide +kernel
theorem dX10_init_39 : decode cX10_init 39 = .ok (.anewarray 29, 3) := by decide +kernel
theorem dX10_init_42 : decode cX10_init 42 = .ok (.putfield 31, 3) := by decide +kernel
theorem dX10_init_45 : decode cX10_init 45 = .ok (.aload_n 0, 1) := by decide +kernel
theorem dX10_init_46 : decode cX10_init 46 = .ok (.bipush 8, 2) := by decide +kernel
theorem dX10_init_48 : decode cX10_init 48 = .ok (.newarray .int, 2) := by decide +kernel
theorem dX10_init_50 : decode cX10_init 50 = .ok (.putfield 35, 3) := by decide +kernel
theorem dX10_init_53 : decode cX10_init 53 = .ok (.aload_n 0, 1) := by decide +kernel
theorem dX10_init_54 : decode cX10_init 54 = .ok (.new 39, 3) := by decide +kernel
theorem dX10_init_57 : decode cX10_init 57 = .ok (.dup, 1) := by decide +kernel
theorem dX10_init_58 : decode cX10_init 58 = .ok (.aload_n 0, 1) := by decide +kernel
theorem dX10_init_59 : decode cX10_init 59 = .ok (.getfield 12, 3) := by decide +kernel
theorem dX10_init_62 : decode cX10_init 62 = .ok (.invokespecial 41, 3) := by decide +kernel
theorem dX10_init_65 : decode cX10_init 65 = .ok (.putfield 44, 3) := by decide +kernel
theorem dX10_init_68 : decode cX10_init 68 = .ok (.aload_n 0, 1) := by decide +kernel
theorem dX10_init_69 : decode cX10_init 69 = .ok (.new 48, 3) := by decide +kernel
theorem dX10_init_72 : decode cX10_init 72 = .ok (.dup, 1) := by decide +kernel
theorem dX10_init_73 : decode cX10_init 73 = .ok (.invokespecial 50, 3) := by decide +kernel
theorem dX10_init_76 : decode cX10_init 76 = .ok (.putfield 51, 3) := by decide +kernel
theorem dX10_init_79 : decode cX10_init 79 = .ok (.aload_n 0, 1) := by decide +kernel
theorem dX10_init_80 : decode cX10_init 80 = .ok (.new 55, 3) := by decide +kernel
theorem dX10_init_83 : decode cX10_init 83 = .ok (.dup, 1) := by decide +kernel
theorem dX10_init_84 : decode cX10_init 84 = .ok (.iconst 0, 1) := by decide +kernel
theorem dX10_init_85 : decode cX10_init 85 = .ok (.iconst 0, 1) := by decide +kernel
theorem dX10_init_86 : decode cX10_init 86 = .ok (.invokespecial 57, 3) := by decide +kernel
theorem dX10_init_89 : decode cX10_init 89 = .ok (.putfield 60, 3) := by decide +kernel
theorem dX10_init_92 : decode cX10_init 92 = .ok (.aload_n 0, 1) := by decide +kernel
theorem dX10_init_93 : decode cX10_init 93 = .ok (.new 64, 3) := by decide +kernel
theorem dX10_init_96 : decode cX10_init 96 = .ok (.dup, 1) := by decide +kernel
theorem dX10_init_97 : decode cX10_init 97 = .ok (.iconst 0, 1) := by decide +kernel
theorem dX10_init_98 : decode cX10_init 98 = .ok (.iconst 0, 1) := by decide +kernel
theorem dX10_init_99 : decode cX10_init 99 = .ok (.invokespecial 66, 3) := by decide +kernel
theorem dX10_init_102 : decode cX10_init 102 = .ok (.putfield 67, 3) := by decide +kernel
theorem dX10_init_105 : decode cX10_init 105 = .ok (.aload_n 0, 1) := by decide +kernel
theorem dX10_init_106 : decode cX10_init 106 = .ok (.iconst 0, 1) := by decide +kernel
theorem dX10_init_107 : decode cX10_init 107 = .ok (.putfield 71, 3) := by decide +kernel
theorem dX10_init_110 : decode cX10_init 110 = .ok (.aload_n 0, 1) := by decide +kernel
theorem dX10_init_111 : decode cX10_init 111 = .ok (.iconst 0, 1) := by decide +kernel
theorem dX10_init_112 : decode cX10_init 112 = .ok (.putfield 75, 3) := by decide +kernel
theorem dX10_init_115 : decode cX10_init 115 = .ok (.aload_n 0, 1) := by decide +kernel
theorem dX10_init_116 : decode cX10_init 116 = .ok (.iconst 0, 1) := by decide +kernel
theorem dX10_init_117 : decode cX10_init 117 = .ok (.putfield 78, 3) := by decide +kernel
theorem dX10_init_120 : decode cX10_init 120 = .ok (.return_, 1) := by decide +kernel
theorem dX10_board_0 : decode cX10_board 0 = .ok (.iload_n 1, 1) := by decide +kernel
theorem dX10_board_1 : decode cX10_board 1 = .ok (.iconst 1, 1) := by decide +kernel
theorem dX10_board_2 : decode cX10_board 2 = .ok (.bipush 8, 2) := by decide +kernel
theorem dX10_board_4 : decode cX10_board 4 = .ok (.invokestatic 81, 3) := by decide +kernel
theorem dX10_board_7 : decode cX10_board 7 = .ok (.ifCond .eq 13, 3) := by decide +kernel
theorem dX10_board_10 : decode cX10_board 10 = .ok (.iload_n 2, 1) := by decide +kernel
theorem dX10_board_11 : decode cX10_board 11 = .ok (.iconst 1, 1) := by decide +kernel
theorem dX10_board_12 : decode cX10_board 12 = .ok (.bipush 8, 2) := by decide +kernel
theorem dX10_board_14 : decode cX10_board 14 = .ok (.invokestatic 81, 3) := by decide +kernel
theorem dX10_board_17 : decode cX10_board 17 = .ok (.ifCond .ne 5, 3) := by decide +kernel
theorem dX10_board_20 : decode cX10_board 20 = .ok (.iconst (-1), 1) := by decide +kernel
theorem dX10_board_21 : decode cX10_board 21 = .ok (.ireturn, 1) := by decide +kernel
theorem dX10_board_22 : decode cX10_board 22 = .ok (.aload_n 0, 1) := by decide +kernel
theorem dX10_board_23 : decode cX10_board 23 = .ok (.getfield 60, 3) := by decide +kernel
theorem dX10_board_26 : decode cX10_board 26 = .ok (.invokevirtual 85, 3) := by decide +kernel
theorem dX10_board_29 : decode cX10_board 29 = .ok (.ifCond .eq 6, 3) := by decide +kernel
theorem dX10_board_32 : decode cX10_board 32 = .ok (.bipush (-3), 2) := by decide +kernel
theorem dX10_board_34 : decode cX10_board 34 = .ok (.ireturn, 1) := by decide +kernel
theorem dX10_board_35 : decode cX10_board 35 = .ok (.aload_n 0, 1) := by decide +kernel
theorem dX10_board_36 : decode cX10_board 36 = .ok (.new 55, 3) := by decide +kernel
theorem dX10_board_39 : decode cX10_board 39 = .ok (.dup, 1) := by decide +kernel
theorem dX10_board_40 : decode cX10_board 40 = .ok (.iload_n 1, 1) := by decide +kernel
theorem dX10_board_41 : decode cX10_board 41 = .ok (.iload_n 2, 1) := by decide +kernel
theorem dX10_board_42 : decode cX10_board 42 = .ok (.invokespecial 57, 3) := by decide +kernel
theorem dX10_board_45 : decode cX10_board 45 = .ok (.putfield 60, 3) := by decide +kernel
theorem dX10_board_48 : decode cX10_board 48 = .ok (.iconst 1, 1) := by decide +kernel
theorem dX10_board_49 : decode cX10_board 49 = .ok (.ireturn, 1) := by decide +kernel
theorem dX10_table_0 : decode cX10_table 0 = .ok (.iload_n 1, 1) := by decide +kernel
theorem dX10_table_1 : decode cX10_table 1 = .ok (.invokestatic 89, 3) := by decide +kernel
theorem dX10_table_4 : decode cX10_table 4 = .ok (.ifCond .eq 17, 3) := by decide +kernel
theorem dX10_table_7 : decode cX10_table 7 = .ok (.iload_n 2, 1) := by decide +kernel
theorem dX10_table_8 : decode cX10_table 8 = .ok (.invokestatic 93, 3) := by decide +kernel
theorem dX10_table_11 : decode cX10_table 11 = .ok (.ifCond .eq 10, 3) := by decide +kernel
theorem dX10_table_14 : decode cX10_table 14 = .ok (.iload_n 3, 1) := by decide +kernel
theorem dX10_table_15 : decode cX10_table 15 = .ok (.invokestatic 93, 3) := by decide +kernel
theorem dX10_table_18 : decode cX10_table 18 = .ok (.ifCond .ne 5, 3) := by decide +kernel
theorem dX10_table_21 : decode cX10_table 21 = .ok (.iconst (-1), 1) := by decide +kernel
theorem dX10_table_22 : decode cX10_table 22 = .ok (.ireturn, 1) := by decide +kernel
theorem dX10_table_23 : decode cX10_table 23 = .ok (.aload_n 0, 1) := by decide +kernel
theorem dX10_table_24 : decode cX10_table 24 = .ok (.getfield 12, 3) := by decide +kernel
theorem dX10_table_27 : decode cX10_table 27 = .ok (.getfield 96, 3) := by decide +kernel
theorem dX10_table_30 : decode cX10_table 30 = .ok (.iload_n 1, 1) := by decide +kernel
theorem dX10_table_31 : decode cX10_table 31 = .ok (.aaload, 1) := by decide +kernel
theorem dX10_table_32 : decode cX10_table 32 = .ok (.iload_n 2, 1) := by decide +kernel
theorem dX10_table_33 : decode cX10_table 33 = .ok (.iload_n 3, 1) := by decide +kernel
theorem dX10_table_34 : decode cX10_table 34 = .ok (.invokestatic 100, 3) := by decide +kernel
theorem dX10_table_37 : decode cX10_table 37 = .ok (.ireturn, 1) := by decide +kernel
theorem dX10_drying_0 : decode cX10_drying 0 = .ok (.iload_n 1, 1) := by decide +kernel
theorem dX10_drying_1 : decode cX10_drying 1 = .ok (.invokestatic 89, 3) := by decide +kernel
theorem dX10_drying_4 : decode cX10_drying 4 = .ok (.ifCond .eq 14, 3) := by decide +kernel
theorem dX10_drying_7 : decode cX10_drying 7 = .ok (.iload_n 2, 1) := by decide +kernel
theorem dX10_drying_8 : decode cX10_drying 8 = .ok (.iconst 0, 1) := by decide +kernel
theorem dX10_drying_9 : decode cX10_drying 9 = .ok (.sipush 999, 3) := by decide +kernel
theorem dX10_drying_12 : decode cX10_drying 12 = .ok (.invokestatic 81, 3) := by decide +kernel
theorem dX10_drying_15 : decode cX10_drying 15 = .ok (.ifCond .ne 5, 3) := by decide +kernel
theorem dX10_drying_18 : decode cX10_drying 18 = .ok (.iconst (-1), 1) := by decide +kernel
theorem dX10_drying_19 : decode cX10_drying 19 = .ok (.ireturn, 1) := by decide +kernel
theorem dX10_drying_20 : decode cX10_drying 20 = .ok (.aload_n 0, 1) := by decide +kernel
theorem dX10_drying_21 : decode cX10_drying 21 = .ok (.getfield 12, 3) := by decide +kernel
theorem dX10_drying_24 : decode cX10_drying 24 = .ok (.getfield 104, 3) := by decide +kernel
theorem dX10_drying_27 : decode cX10_drying 27 = .ok (.iload_n 1, 1) := by decide +kernel
theorem dX10_drying_28 : decode cX10_drying 28 = .ok (.iload_n 2, 1) := by decide +kernel
theorem dX10_drying_29 : decode cX10_drying 29 = .ok (.invokestatic 100, 3) := by decide +kernel
theorem dX10_drying_32 : decode cX10_drying 32 = .ok (.ireturn, 1) := by decide +kernel
theorem dX10_against_0 : decode cX10_against 0 = .ok (.iload_n 1, 1) := by decide +kernel
theorem dX10_against_1 : decode cX10_against 1 = .ok (.invokestatic 89, 3) := by decide +kernel
theorem dX10_against_4 : decode cX10_against 4 = .ok (.ifCond .eq 19, 3) := by decide +kernel
theorem dX10_against_7 : decode cX10_against 7 = .ok (.iload_n 2, 1) := by decide +kernel
theorem dX10_against_8 : decode cX10_against 8 = .ok (.invokestatic 89, 3) := by decide +kernel
theorem dX10_against_11 : decode cX10_against 11 = .ok (.ifCond .eq 12, 3) := by decide +kernel
theorem dX10_against_14 : decode cX10_against 14 = .ok (.iload_n 3, 1) := by decide +kernel
theorem dX10_against_15 : decode cX10_against 15 = .ok (.iconst 0, 1) := by decide +kernel
theorem dX10_against_16 : decode cX10_against 16 = .ok (.iconst 1, 1) := by decide +kernel
theorem dX10_against_17 : decode cX10_against 17 = .ok (.invokestatic 81, 3) := by decide +kernel
theorem dX10_against_20 : decode cX10_against 20 = .ok (.ifCond .ne 5, 3) := by decide +kernel
theorem dX10_against_23 : decode cX10_against 23 = .ok (.iconst (-1), 1) := by decide +kernel
theorem dX10_against_24 : decode cX10_against 24 = .ok (.ireturn, 1) := by decide +kernel
theorem dX10_against_25 : decode cX10_against 25 = .ok (.aload_n 0, 1) := by decide +kernel
theorem dX10_against_26 : decode cX10_against 26 = .ok (.getfield 12, 3) := by decide +kernel
theorem dX10_against_29 : decode cX10_against 29 = .ok (.getfield 107, 3) := by decide +kernel
theorem dX10_against_32 : decode cX10_against 32 = .ok (.iload_n 1, 1) := by decide +kernel
theorem dX10_against_33 : decode cX10_against 33 = .ok (.aaload, 1) := by decide +kernel
theorem dX10_against_34 : decode cX10_against 34 = .ok (.iload_n 2, 1) := by decide +kernel
theorem dX10_against_35 : decode cX10_against 35 = .ok (.iload_n 3, 1) := by decide +kernel
theorem dX10_against_36 : decode cX10_against 36 = .ok (.invokestatic 100, 3) := by decide +kernel
theorem dX10_against_39 : decode cX10_against 39 = .ok (.ireturn, 1) := by decide +kernel
theorem dX10_mixed_0 : decode cX10_mixed 0 = .ok (.iload_n 1, 1) := by decide +kernel
theorem dX10_mixed_1 : decode cX10_mixed 1 = .ok (.invokestatic 89, 3) := by decide +kernel
theorem dX10_mixed_4 : decode cX10_mixed 4 = .ok (.ifCond .eq 22, 3) := by decide +kernel
theorem dX10_mixed_7 : decode cX10_mixed 7 = .ok (.iload_n 2, 1) := by decide +kernel
theorem dX10_mixed_8 : decode cX10_mixed 8 = .ok (.invokestatic 89, 3) := by decide +kernel
theorem dX10_mixed_11 : decode cX10_mixed 11 = .ok (.ifCond .eq 15, 3) := by decide +kernel
theorem dX10_mixed_14 : decode cX10_mixed 14 = .ok (.iload_n 1, 1) := by decide +kernel
theorem dX10_mixed_15 : decode cX10_mixed 15 = .ok (.iload_n 2, 1) := by decide +kernel
theorem dX10_mixed_16 : decode cX10_mixed 16 = .ok (.if_icmp .eq 10, 3) := by decide +kernel
theorem dX10_mixed_19 : decode cX10_mixed 19 = .ok (.iload_n 3, 1) := by decide +kernel
theorem dX10_mixed_20 : decode cX10_mixed 20 = .ok (.invokestatic 89, 3) := by decide +kernel
theorem dX10_mixed_23 : decode cX10_mixed 23 = .ok (.ifCond .ne 5, 3) := by decide +kernel
theorem dX10_mixed_26 : decode cX10_mixed 26 = .ok (.iconst (-1), 1) := by decide +kernel
theorem dX10_mixed_27 : decode cX10_mixed 27 = .ok (.ireturn, 1) := by decide +kernel
theorem dX10_mixed_28 : decode cX10_mixed 28 = .ok (.aload_n 0, 1) := by decide +kernel
theorem dX10_mixed_29 : decode cX10_mixed 29 = .ok (.getfield 12, 3) := by decide +kernel
theorem dX10_mixed_32 : decode cX10_mixed 32 = .ok (.getfield 110, 3) := by decide +kernel
theorem dX10_mixed_35 : decode cX10_mixed 35 = .ok (.iload_n 2, 1) := by decide +kernel
theorem dX10_mixed_36 : decode cX10_mixed 36 = .ok (.aaload, 1) := by decide +kernel
theorem dX10_mixed_37 : decode cX10_mixed 37 = .ok (.iload_n 1, 1) := by decide +kernel
theorem dX10_mixed_38 : decode cX10_mixed 38 = .ok (.iload_n 3, 1) := by decide +kernel
theorem dX10_mixed_39 : decode cX10_mixed 39 = .ok (.iastore, 1) := by decide +kernel
theorem dX10_mixed_40 : decode cX10_mixed 40 = .ok (.aload_n 0, 1) := by decide +kernel
theorem dX10_mixed_41 : decode cX10_mixed 41 = .ok (.getfield 12, 3) := by decide +kernel
theorem dX10_mixed_44 : decode cX10_mixed 44 = .ok (.getfield 110, 3) := by decide +kernel
theorem dX10_mixed_47 : decode cX10_mixed 47 = .ok (.iload_n 1, 1) := by decide +kernel
theorem dX10_mixed_48 : decode cX10_mixed 48 = .ok (.aaload, 1) := by decide +kernel
theorem dX10_mixed_49 : decode cX10_mixed 49 = .ok (.iload_n 2, 1) := by decide +kernel
theorem dX10_mixed_50 : decode cX10_mixed 50 = .ok (.iload_n 3, 1) := by decide +kernel
theorem dX10_mixed_51 : decode cX10_mixed 51 = .ok (.invokestatic 100, 3) := by decide +kernel
theorem dX10_mixed_54 : decode cX10_mixed 54 = .ok (.ireturn, 1) := by decide +kernel
theorem dX10_lots_0 : decode cX10_lots 0 = .ok (.iload_n 1, 1) := by decide +kernel
theorem dX10_lots_1 : decode cX10_lots 1 = .ok (.ifCond .ne 24, 3) := by decide +kernel
theorem dX10_lots_4 : decode cX10_lots 4 = .ok (.iload_n 2, 1) := by decide +kernel
theorem dX10_lots_5 : decode cX10_lots 5 = .ok (.iconst 0, 1) := by decide +kernel
theorem dX10_lots_6 : decode cX10_lots 6 = .ok (.sipush 999, 3) := by decide +kernel
theorem dX10_lots_9 : decode cX10_lots 9 = .ok (.invokestatic 81, 3) := by decide +kernel
theorem dX10_lots_12 : decode cX10_lots 12 = .ok (.ifCond .eq 13, 3) := by decide +kernel
theorem dX10_lots_15 : decode cX10_lots 15 = .ok (.aload_n 0, 1) := by decide +kernel
theorem dX10_lots_16 : decode cX10_lots 16 = .ok (.getfield 19, 3) := by decide +kernel
theorem dX10_lots_19 : decode cX10_lots 19 = .ok (.iload_n 2, 1) := by decide +kernel
theorem dX10_lots_20 : decode cX10_lots 20 = .ok (.putfield 113, 3) := by decide +kernel
theorem dX10_lots_23 : decode cX10_lots 23 = .ok (.iconst 1, 1) := by decide +kernel
theorem dX10_lots_24 : decode cX10_lots 24 = .ok (.ireturn, 1) := by decide +kernel
theorem dX10_lots_25 : decode cX10_lots 25 = .ok (.iload_n 1, 1) := by decide +kernel
theorem dX10_lots_26 : decode cX10_lots 26 = .ok (.iconst 1, 1) := by decide +kernel
theorem dX10_lots_27 : decode cX10_lots 27 = .ok (.if_icmp .ne 13, 3) := by decide +kernel
theorem dX10_lots_30 : decode cX10_lots 30 = .ok (.aload_n 0, 1) := by decide +kernel
theorem dX10_lots_31 : decode cX10_lots 31 = .ok (.getfield 19, 3) := by decide +kernel
theorem dX10_lots_34 : decode cX10_lots 34 = .ok (.iload_n 2, 1) := by decide +kernel
theorem dX10_lots_35 : decode cX10_lots 35 = .ok (.putfield 116, 3) := by decide +kernel
theorem dX10_lots_38 : decode cX10_lots 38 = .ok (.iconst 1, 1) := by decide +kernel
theorem dX10_lots_39 : decode cX10_lots 39 = .ok (.ireturn, 1) := by decide +kernel
theorem dX10_lots_40 : decode cX10_lots 40 = .ok (.iconst (-1), 1) := by decide +kernel
theorem dX10_lots_41 : decode cX10_lots 41 = .ok (.ireturn, 1) := by decide +kernel
theorem dX10_minutes_0 : decode cX10_minutes 0 = .ok (.iload_n 1, 1) := by decide +kernel
theorem dX10_minutes_1 : decode cX10_minutes 1 = .ok (.iconst 1, 1) := by decide +kernel
theorem dX10_minutes_2 : decode cX10_minutes 2 = .ok (.sipush 1000, 3) := by decide +kernel
theorem dX10_minutes_5 : decode cX10_minutes 5 = .ok (.invokestatic 81, 3) := by decide +kernel
theorem dX10_minutes_8 : decode cX10_minutes 8 = .ok (.ifCond .eq 14, 3) := by decide +kernel
theorem dX10_minutes_11 : decode cX10_minutes 11 = .ok (.aload_n 0, 1) := by decide +kernel
theorem dX10_minutes_12 : decode cX10_minutes 12 = .ok (.getfield 78, 3) := by decide +kernel
theorem dX10_minutes_15 : decode cX10_minutes 15 = .ok (.iload_n 1, 1) := by decide +kernel
theorem dX10_minutes_16 : decode cX10_minutes 16 = .ok (.iadd, 1) := by decide +kernel
theorem dX10_minutes_17 : decode cX10_minutes 17 = .ok (.ldc 119, 2) := by decide +kernel
theorem dX10_minutes_19 : decode cX10_minutes 19 = .ok (.if_icmp .le 5, 3) := by decide +kernel
theorem dX10_minutes_22 : decode cX10_minutes 22 = .ok (.iconst (-1), 1) := by decide +kernel
theorem dX10_minutes_23 : decode cX10_minutes 23 = .ok (.ireturn, 1) := by decide +kernel
theorem dX10_minutes_24 : decode cX10_minutes 24 = .ok (.aload_n 0, 1) := by decide +kernel
theorem dX10_minutes_25 : decode cX10_minutes 25 = .ok (.dup, 1) := by decide +kernel
theorem dX10_minutes_26 : decode cX10_minutes 26 = .ok (.getfield 78, 3) := by decide +kernel
theorem dX10_minutes_29 : decode cX10_minutes 29 = .ok (.iload_n 1, 1) := by decide +kernel
theorem dX10_minutes_30 : decode cX10_minutes 30 = .ok (.iadd, 1) := by decide +kernel
theorem dX10_minutes_31 : decode cX10_minutes 31 = .ok (.putfield 78, 3) := by decide +kernel
theorem dX10_minutes_34 : decode cX10_minutes 34 = .ok (.aload_n 0, 1) := by decide +kernel
theorem dX10_minutes_35 : decode cX10_minutes 35 = .ok (.getfield 78, 3) := by decide +kernel
theorem dX10_minutes_38 : decode cX10_minutes 38 = .ok (.ireturn, 1) := by decide +kernel
theorem dX10_cut_0 : decode cX10_cut 0 = .ok (.new 120, 3) := by decide +kernel
theorem dX10_cut_3 : decode cX10_cut 3 = .ok (.dup, 1) := by decide +kernel
theorem dX10_cut_4 : decode cX10_cut 4 = .ok (.iload_n 1, 1) := by decide +kernel
theorem dX10_cut_5 : decode cX10_cut 5 = .ok (.invokespecial 122, 3) := by decide +kernel
theorem dX10_cut_8 : decode cX10_cut 8 = .ok (.astore_n 2, 1) := by decide +kernel
theorem dX10_cut_9 : decode cX10_cut 9 = .ok (.aload_n 2, 1) := by decide +kernel
theorem dX10_cut_10 : decode cX10_cut 10 = .ok (.aload_n 0, 1) := by decide +kernel
theorem dX10_cut_11 : decode cX10_cut 11 = .ok (.getfield 60, 3) := by decide +kernel
theorem dX10_cut_14 : decode cX10_cut 14 = .ok (.getfield 125, 3) := by decide +kernel
theorem dX10_cut_17 : decode cX10_cut 17 = .ok (.aload_n 0, 1) := by decide +kernel
theorem dX10_cut_18 : decode cX10_cut 18 = .ok (.getfield 60, 3) := by decide +kernel
theorem dX10_cut_21 : decode cX10_cut 21 = .ok (.getfield 128, 3) := by decide +kernel
theorem dX10_cut_24 : decode cX10_cut 24 = .ok (.invokevirtual 131, 3) := by decide +kernel
theorem dX10_cut_27 : decode cX10_cut 27 = .ok (.ifCond .ne 5, 3) := by decide +kernel
theorem dX10_cut_30 : decode cX10_cut 30 = .ok (.iconst (-1), 1) := by decide +kernel
theorem dX10_cut_31 : decode cX10_cut 31 = .ok (.ireturn, 1) := by decide +kernel
theorem dX10_cut_32 : decode cX10_cut 32 = .ok (.aload_n 0, 1) := by decide +kernel
theorem dX10_cut_33 : decode cX10_cut 33 = .ok (.getfield 60, 3) := by decide +kernel
theorem dX10_cut_36 : decode cX10_cut 36 = .ok (.aload_n 2, 1) := by decide +kernel
theorem dX10_cut_37 : decode cX10_cut 37 = .ok (.invokevirtual 135, 3) := by decide +kernel
theorem dX10_cut_40 : decode cX10_cut 40 = .ok (.ifCond .eq 6, 3) := by decide +kernel
theorem dX10_cut_43 : decode cX10_cut 43 = .ok (.bipush (-3), 2) := by decide +kernel
theorem dX10_cut_45 : decode cX10_cut 45 = .ok (.ireturn, 1) := by decide +kernel
theorem dX10_cut_46 : decode cX10_cut 46 = .ok (.aload_n 0, 1) := by decide +kernel
theorem dX10_cut_47 : decode cX10_cut 47 = .ok (.getfield 60, 3) := by decide +kernel
theorem dX10_cut_50 : decode cX10_cut 50 = .ok (.aload_n 2, 1) := by decide +kernel
theorem dX10_cut_51 : decode cX10_cut 51 = .ok (.invokevirtual 139, 3) := by decide +kernel
theorem dX10_cut_54 : decode cX10_cut 54 = .ok (.ireturn, 1) := by decide +kernel
theorem dX10_saw_0 : decode cX10_saw 0 = .ok (.new 120, 3) := by decide +kernel
theorem dX10_saw_3 : decode cX10_saw 3 = .ok (.dup, 1) := by decide +kernel
theorem dX10_saw_4 : decode cX10_saw 4 = .ok (.iload_n 2, 1) := by decide +kernel
theorem dX10_saw_5 : decode cX10_saw 5 = .ok (.invokespecial 122, 3) := by decide +kernel
theorem dX10_saw_8 : decode cX10_saw 8 = .ok (.astore_n 3, 1) := by decide +kernel
theorem dX10_saw_9 : decode cX10_saw 9 = .ok (.aload_n 0, 1) := by decide +kernel
theorem dX10_saw_10 : decode cX10_saw 10 = .ok (.getfield 60, 3) := by decide +kernel
theorem dX10_saw_13 : decode cX10_saw 13 = .ok (.iload_n 1, 1) := by decide +kernel
theorem dX10_saw_14 : decode cX10_saw 14 = .ok (.invokevirtual 143, 3) := by decide +kernel
theorem dX10_saw_17 : decode cX10_saw 17 = .ok (.ifCond .eq 24, 3) := by decide +kernel
theorem dX10_saw_20 : decode cX10_saw 20 = .ok (.aload_n 3, 1) := by decide +kernel
theorem dX10_saw_21 : decode cX10_saw 21 = .ok (.aload_n 0, 1) := by decide +kernel
theorem dX10_saw_22 : decode cX10_saw 22 = .ok (.getfield 60, 3) := by decide +kernel
theorem dX10_saw_25 : decode cX10_saw 25 = .ok (.getfield 125, 3) := by decide +kernel
theorem dX10_saw_28 : decode cX10_saw 28 = .ok (.aload_n 0, 1) := by decide +kernel
theorem dX10_saw_29 : decode cX10_saw 29 = .ok (.getfield 60, 3) := by decide +kernel
theorem dX10_saw_32 : decode cX10_saw 32 = .ok (.getfield 128, 3) := by decide +kernel
theorem dX10_saw_35 : decode cX10_saw 35 = .ok (.invokevirtual 131, 3) := by decide +kernel
theorem dX10_saw_38 : decode cX10_saw 38 = .ok (.ifCond .ne 5, 3) := by decide +kernel
theorem dX10_saw_41 : decode cX10_saw 41 = .ok (.iconst (-1), 1) := by decide +kernel
theorem dX10_saw_42 : decode cX10_saw 42 = .ok (.ireturn, 1) := by decide +kernel
theorem dX10_saw_43 : decode cX10_saw 43 = .ok (.aload_n 0, 1) := by decide +kernel
theorem dX10_saw_44 : decode cX10_saw 44 = .ok (.getfield 60, 3) := by decide +kernel
theorem dX10_saw_47 : decode cX10_saw 47 = .ok (.aload_n 3, 1) := by decide +kernel
theorem dX10_saw_48 : decode cX10_saw 48 = .ok (.iload_n 1, 1) := by decide +kernel
theorem dX10_saw_49 : decode cX10_saw 49 = .ok (.invokevirtual 146, 3) := by decide +kernel
theorem dX10_saw_52 : decode cX10_saw 52 = .ok (.ifCond .ne 6, 3) := by decide +kernel
theorem dX10_saw_55 : decode cX10_saw 55 = .ok (.bipush (-4), 2) := by decide +kernel
theorem dX10_saw_57 : decode cX10_saw 57 = .ok (.ireturn, 1) := by decide +kernel
theorem dX10_saw_58 : decode cX10_saw 58 = .ok (.aload_n 0, 1) := by decide +kernel
theorem dX10_saw_59 : decode cX10_saw 59 = .ok (.getfield 60, 3) := by decide +kernel
theorem dX10_saw_62 : decode cX10_saw 62 = .ok (.getfield 150, 3) := by decide +kernel
theorem dX10_saw_65 : decode cX10_saw 65 = .ok (.bipush 8, 2) := by decide +kernel
theorem dX10_saw_67 : decode cX10_saw 67 = .ok (.if_icmp .ne 6, 3) := by decide +kernel
theorem dX10_saw_70 : decode cX10_saw 70 = .ok (.bipush (-2), 2) := by decide +kernel
theorem dX10_saw_72 : decode cX10_saw 72 = .ok (.ireturn, 1) := by decide +kernel
theorem dX10_saw_73 : decode cX10_saw 73 = .ok (.aload_n 0, 1) := by decide +kernel
theorem dX10_saw_74 : decode cX10_saw 74 = .ok (.getfield 60, 3) := by decide +kernel
theorem dX10_saw_77 : decode cX10_saw 77 = .ok (.aload_n 3, 1) := by decide +kernel
theorem dX10_saw_78 : decode cX10_saw 78 = .ok (.iload_n 1, 1) := by decide +kernel
theorem dX10_saw_79 : decode cX10_saw 79 = .ok (.invokevirtual 153, 3) := by decide +kernel
theorem dX10_saw_82 : decode cX10_saw 82 = .ok (.ireturn, 1) := by decide +kernel
theorem dX10_piece_0 : decode cX10_piece 0 = .ok (.aload_n 0, 1) := by decide +kernel
theorem dX10_piece_1 : decode cX10_piece 1 = .ok (.getfield 60, 3) := by decide +kernel
theorem dX10_piece_4 : decode cX10_piece 4 = .ok (.iload_n 1, 1) := by decide +kernel
theorem dX10_piece_5 : decode cX10_piece 5 = .ok (.invokevirtual 143, 3) := by decide +kernel
theorem dX10_piece_8 : decode cX10_piece 8 = .ok (.ifCond .eq 12, 3) := by decide +kernel
theorem dX10_piece_11 : decode cX10_piece 11 = .ok (.iload_n 2, 1) := by decide +kernel
theorem dX10_piece_12 : decode cX10_piece 12 = .ok (.iconst 0, 1) := by decide +kernel
theorem dX10_piece_13 : decode cX10_piece 13 = .ok (.iconst 1, 1) := by decide +kernel
theorem dX10_piece_14 : decode cX10_piece 14 = .ok (.invokestatic 81, 3) := by decide +kernel
theorem dX10_piece_17 : decode cX10_piece 17 = .ok (.ifCond .ne 5, 3) := by decide +kernel
theorem dX10_piece_20 : decode cX10_piece 20 = .ok (.iconst (-1), 1) := by decide +kernel
theorem dX10_piece_21 : decode cX10_piece 21 = .ok (.ireturn, 1) := by decide +kernel
theorem dX10_piece_22 : decode cX10_piece 22 = .ok (.aload_n 0, 1) := by decide +kernel
theorem dX10_piece_23 : decode cX10_piece 23 = .ok (.getfield 60, 3) := by decide +kernel
theorem dX10_piece_26 : decode cX10_piece 26 = .ok (.getfield 157, 3) := by decide +kernel
theorem dX10_piece_29 : decode cX10_piece 29 = .ok (.iload_n 1, 1) := by decide +kernel
theorem dX10_piece_30 : decode cX10_piece 30 = .ok (.iload_n 2, 1) := by decide +kernel
theorem dX10_piece_31 : decode cX10_piece 31 = .ok (.invokestatic 100, 3) := by decide +kernel
theorem dX10_piece_34 : decode cX10_piece 34 = .ok (.ireturn, 1) := by decide +kernel
theorem dX10_cell_0 : decode cX10_cell 0 = .ok (.aload_n 0, 1) := by decide +kernel
theorem dX10_cell_1 : decode cX10_cell 1 = .ok (.getfield 60, 3) := by decide +kernel
theorem dX10_cell_4 : decode cX10_cell 4 = .ok (.iload_n 1, 1) := by decide +kernel
theorem dX10_cell_5 : decode cX10_cell 5 = .ok (.invokevirtual 160, 3) := by decide +kernel
theorem dX10_cell_8 : decode cX10_cell 8 = .ok (.ifCond .ne 5, 3) := by decide +kernel
theorem dX10_cell_11 : decode cX10_cell 11 = .ok (.iconst (-1), 1) := by decide +kernel
theorem dX10_cell_12 : decode cX10_cell 12 = .ok (.ireturn, 1) := by decide +kernel
theorem dX10_cell_13 : decode cX10_cell 13 = .ok (.iload_n 2, 1) := by decide +kernel
theorem dX10_cell_14 : decode cX10_cell 14 = .ok (.lookupswitch 46 #[(0, 26), (1, 36)], 26) := by decide +kernel
theorem dX10_cell_40 : decode cX10_cell 40 = .ok (.aload_n 0, 1) := by decide +kernel
theorem dX10_cell_41 : decode cX10_cell 41 = .ok (.getfield 60, 3) := by decide +kernel
theorem dX10_cell_44 : decode cX10_cell 44 = .ok (.getfield 163, 3) := by decide +kernel
theorem dX10_cell_47 : decode cX10_cell 47 = .ok (.iload_n 1, 1) := by decide +kernel
theorem dX10_cell_48 : decode cX10_cell 48 = .ok (.iaload, 1) := by decide +kernel
theorem dX10_cell_49 : decode cX10_cell 49 = .ok (.ireturn, 1) := by decide +kernel
theorem dX10_cell_50 : decode cX10_cell 50 = .ok (.aload_n 0, 1) := by decide +kernel
theorem dX10_cell_51 : decode cX10_cell 51 = .ok (.getfield 60, 3) := by decide +kernel
theorem dX10_cell_54 : decode cX10_cell 54 = .ok (.getfield 166, 3) := by decide +kernel
theorem dX10_cell_57 : decode cX10_cell 57 = .ok (.iload_n 1, 1) := by decide +kernel
theorem dX10_cell_58 : decode cX10_cell 58 = .ok (.iaload, 1) := by decide +kernel
theorem dX10_cell_59 : decode cX10_cell 59 = .ok (.ireturn, 1) := by decide +kernel
theorem dX10_cell_60 : decode cX10_cell 60 = .ok (.iconst (-1), 1) := by decide +kernel
theorem dX10_cell_61 : decode cX10_cell 61 = .ok (.ireturn, 1) := by decide +kernel
theorem dX10_islands_0 : decode cX10_islands 0 = .ok (.iload_n 1, 1) := by decide +kernel
theorem dX10_islands_1 : decode cX10_islands 1 = .ok (.iconst 0, 1) := by decide +kernel
theorem dX10_islands_2 : decode cX10_islands 2 = .ok (.iconst 2, 1) := by decide +kernel
theorem dX10_islands_3 : decode cX10_islands 3 = .ok (.invokestatic 81, 3) := by decide +kernel
theorem dX10_islands_6 : decode cX10_islands 6 = .ok (.ifCond .ne 5, 3) := by decide +kernel
theorem dX10_islands_9 : decode cX10_islands 9 = .ok (.iconst (-1), 1) := by decide +kernel
theorem dX10_islands_10 : decode cX10_islands 10 = .ok (.ireturn, 1) := by decide +kernel
theorem dX10_islands_11 : decode cX10_islands 11 = .ok (.iload_n 1, 1) := by decide +kernel
theorem dX10_islands_12 : decode cX10_islands 12 = .ok (.iconst 2, 1) := by decide +kernel
theorem dX10_islands_13 : decode cX10_islands 13 = .ok (.if_icmp .ne 11, 3) := by decide +kernel
theorem dX10_islands_16 : decode cX10_islands 16 = .ok (.aload_n 0, 1) := by decide +kernel
theorem dX10_islands_17 : decode cX10_islands 17 = .ok (.getfield 60, 3) := by decide +kernel
theorem dX10_islands_20 : decode cX10_islands 20 = .ok (.invokevirtual 169, 3) := by decide +kernel
theorem dX10_islands_23 : decode cX10_islands 23 = .ok (.ireturn, 1) := by decide +kernel
theorem dX10_islands_24 : decode cX10_islands 24 = .ok (.aload_n 0, 1) := by decide +kernel
theorem dX10_islands_25 : decode cX10_islands 25 = .ok (.getfield 60, 3) := by decide +kernel
theorem dX10_islands_28 : decode cX10_islands 28 = .ok (.invokevirtual 173, 3) := by decide +kernel
theorem dX10_islands_31 : decode cX10_islands 31 = .ok (.iload_n 1, 1) := by decide +kernel
theorem dX10_islands_32 : decode cX10_islands 32 = .ok (.ifCond .ne 13, 3) := by decide +kernel
theorem dX10_islands_35 : decode cX10_islands 35 = .ok (.aload_n 0, 1) := by decide +kernel
theorem dX10_islands_36 : decode cX10_islands 36 = .ok (.getfield 60, 3) := by decide +kernel
theorem dX10_islands_39 : decode cX10_islands 39 = .ok (.getfield 176, 3) := by decide +kernel
theorem dX10_islands_42 : decode cX10_islands 42 = .ok (.goto 10, 3) := by decide +kernel
theorem dX10_islands_45 : decode cX10_islands 45 = .ok (.aload_n 0, 1) := by decide +kernel
theorem dX10_islands_46 : decode cX10_islands 46 = .ok (.getfield 60, 3) := by decide +kernel
theorem dX10_islands_49 : decode cX10_islands 49 = .ok (.getfield 179, 3) := by decide +kernel
theorem dX10_islands_52 : decode cX10_islands 52 = .ok (.ireturn, 1) := by decide +kernel
theorem dX10_joined_0 : decode cX10_joined 0 = .ok (.aload_n 0, 1) := by decide +kernel
theorem dX10_joined_1 : decode cX10_joined 1 = .ok (.getfield 60, 3) := by decide +kernel
theorem dX10_joined_4 : decode cX10_joined 4 = .ok (.iload_n 1, 1) := by decide +kernel
theorem dX10_joined_5 : decode cX10_joined 5 = .ok (.invokevirtual 160, 3) := by decide +kernel
theorem dX10_joined_8 : decode cX10_joined 8 = .ok (.ifCond .eq 14, 3) := by decide +kernel
theorem dX10_joined_11 : decode cX10_joined 11 = .ok (.aload_n 0, 1) := by decide +kernel
theorem dX10_joined_12 : decode cX10_joined 12 = .ok (.getfield 60, 3) := by decide +kernel
theorem dX10_joined_15 : decode cX10_joined 15 = .ok (.iload_n 2, 1) := by decide +kernel
theorem dX10_joined_16 : decode cX10_joined 16 = .ok (.invokevirtual 160, 3) := by decide +kernel
theorem dX10_joined_19 : decode cX10_joined 19 = .ok (.ifCond .ne 5, 3) := by decide +kernel
theorem dX10_joined_22 : decode cX10_joined 22 = .ok (.iconst (-1), 1) := by decide +kernel
theorem dX10_joined_23 : decode cX10_joined 23 = .ok (.ireturn, 1) := by decide +kernel
theorem dX10_joined_24 : decode cX10_joined 24 = .ok (.aload_n 0, 1) := by decide +kernel
theorem dX10_joined_25 : decode cX10_joined 25 = .ok (.getfield 60, 3) := by decide +kernel
theorem dX10_joined_28 : decode cX10_joined 28 = .ok (.invokevirtual 173, 3) := by decide +kernel
theorem dX10_joined_31 : decode cX10_joined 31 = .ok (.aload_n 0, 1) := by decide +kernel
theorem dX10_joined_32 : decode cX10_joined 32 = .ok (.getfield 60, 3) := by decide +kernel
theorem dX10_joined_35 : decode cX10_joined 35 = .ok (.getfield 182, 3) := by decide +kernel
theorem dX10_joined_38 : decode cX10_joined 38 = .ok (.iload_n 1, 1) := by decide +kernel
theorem dX10_joined_39 : decode cX10_joined 39 = .ok (.iaload, 1) := by decide +kernel
theorem dX10_joined_40 : decode cX10_joined 40 = .ok (.iconst (-1), 1) := by decide +kernel
theorem dX10_joined_41 : decode cX10_joined 41 = .ok (.if_icmp .eq 28, 3) := by decide +kernel
theorem dX10_joined_44 : decode cX10_joined 44 = .ok (.aload_n 0, 1) := by decide +kernel
theorem dX10_joined_45 : decode cX10_joined 45 = .ok (.getfield 60, 3) := by decide +kernel
theorem dX10_joined_48 : decode cX10_joined 48 = .ok (.getfield 182, 3) := by decide +kernel
theorem dX10_joined_51 : decode cX10_joined 51 = .ok (.iload_n 1, 1) := by decide +kernel
theorem dX10_joined_52 : decode cX10_joined 52 = .ok (.iaload, 1) := by decide +kernel
theorem dX10_joined_53 : decode cX10_joined 53 = .ok (.aload_n 0, 1) := by decide +kernel
theorem dX10_joined_54 : decode cX10_joined 54 = .ok (.getfield 60, 3) := by decide +kernel
theorem dX10_joined_57 : decode cX10_joined 57 = .ok (.getfield 182, 3) := by decide +kernel
theorem dX10_joined_60 : decode cX10_joined 60 = .ok (.iload_n 2, 1) := by decide +kernel
theorem dX10_joined_61 : decode cX10_joined 61 = .ok (.iaload, 1) := by decide +kernel
theorem dX10_joined_62 : decode cX10_joined 62 = .ok (.if_icmp .ne 7, 3) := by decide +kernel
theorem dX10_joined_65 : decode cX10_joined 65 = .ok (.iconst 1, 1) := by decide +kernel
theorem dX10_joined_66 : decode cX10_joined 66 = .ok (.goto 4, 3) := by decide +kernel
theorem dX10_joined_69 : decode cX10_joined 69 = .ok (.iconst 0, 1) := by decide +kernel
theorem dX10_joined_70 : decode cX10_joined 70 = .ok (.invokestatic 185, 3) := by decide +kernel
theorem dX10_joined_73 : decode cX10_joined 73 = .ok (.ireturn, 1) := by decide +kernel
theorem dX10_sheets_0 : decode cX10_sheets 0 = .ok (.iload_n 1, 1) := by decide +kernel
theorem dX10_sheets_1 : decode cX10_sheets 1 = .ok (.iconst 1, 1) := by decide +kernel
theorem dX10_sheets_2 : decode cX10_sheets 2 = .ok (.bipush 20, 2) := by decide +kernel
theorem dX10_sheets_4 : decode cX10_sheets 4 = .ok (.invokestatic 81, 3) := by decide +kernel
theorem dX10_sheets_7 : decode cX10_sheets 7 = .ok (.ifCond .eq 13, 3) := by decide +kernel
theorem dX10_sheets_10 : decode cX10_sheets 10 = .ok (.aload_n 0, 1) := by decide +kernel
theorem dX10_sheets_11 : decode cX10_sheets 11 = .ok (.getfield 60, 3) := by decide +kernel
theorem dX10_sheets_14 : decode cX10_sheets 14 = .ok (.invokevirtual 85, 3) := by decide +kernel
theorem dX10_sheets_17 : decode cX10_sheets 17 = .ok (.ifCond .ne 5, 3) := by decide +kernel
theorem dX10_sheets_20 : decode cX10_sheets 20 = .ok (.iconst (-1), 1) := by decide +kernel
theorem dX10_sheets_21 : decode cX10_sheets 21 = .ok (.ireturn, 1) := by decide +kernel
theorem dX10_sheets_22 : decode cX10_sheets 22 = .ok (.aload_n 0, 1) := by decide +kernel
theorem dX10_sheets_23 : decode cX10_sheets 23 = .ok (.getfield 71, 3) := by decide +kernel
theorem dX10_sheets_26 : decode cX10_sheets 26 = .ok (.iload_n 1, 1) := by decide +kernel
theorem dX10_sheets_27 : decode cX10_sheets 27 = .ok (.iadd, 1) := by decide +kernel
theorem dX10_sheets_28 : decode cX10_sheets 28 = .ok (.bipush 20, 2) := by decide +kernel
theorem dX10_sheets_30 : decode cX10_sheets 30 = .ok (.if_icmp .le 6, 3) := by decide +kernel
theorem dX10_sheets_33 : decode cX10_sheets 33 = .ok (.bipush (-2), 2) := by decide +kernel
theorem dX10_sheets_35 : decode cX10_sheets 35 = .ok (.ireturn, 1) := by decide +kernel
theorem dX10_sheets_36 : decode cX10_sheets 36 = .ok (.iconst 0, 1) := by decide +kernel
theorem dX10_sheets_37 : decode cX10_sheets 37 = .ok (.istore_n 2, 1) := by decide +kernel
theorem dX10_sheets_38 : decode cX10_sheets 38 = .ok (.iload_n 2, 1) := by decide +kernel
theorem dX10_sheets_39 : decode cX10_sheets 39 = .ok (.iload_n 1, 1) := by decide +kernel
theorem dX10_sheets_40 : decode cX10_sheets 40 = .ok (.if_icmp .ge 27, 3) := by decide +kernel
theorem dX10_sheets_43 : decode cX10_sheets 43 = .ok (.aload_n 0, 1) := by decide +kernel
theorem dX10_sheets_44 : decode cX10_sheets 44 = .ok (.getfield 25, 3) := by decide +kernel
theorem dX10_sheets_47 : decode cX10_sheets 47 = .ok (.aload_n 0, 1) := by decide +kernel
theorem dX10_sheets_48 : decode cX10_sheets 48 = .ok (.getfield 71, 3) := by decide +kernel
theorem dX10_sheets_51 : decode cX10_sheets 51 = .ok (.iload_n 2, 1) := by decide +kernel
theorem dX10_sheets_52 : decode cX10_sheets 52 = .ok (.iadd, 1) := by decide +kernel
theorem dX10_sheets_53 : decode cX10_sheets 53 = .ok (.new 23, 3) := by decide +kernel
theorem dX10_sheets_56 : decode cX10_sheets 56 = .ok (.dup, 1) := by decide +kernel
theorem dX10_sheets_57 : decode cX10_sheets 57 = .ok (.invokespecial 189, 3) := by decide +kernel
theorem dX10_sheets_60 : decode cX10_sheets 60 = .ok (.aastore, 1) := by decide +kernel
theorem dX10_sheets_61 : decode cX10_sheets 61 = .ok (.iinc 2 1, 3) := by decide +kernel
theorem dX10_sheets_64 : decode cX10_sheets 64 = .ok (.goto (-26), 3) := by decide +kernel
theorem dX10_sheets_67 : decode cX10_sheets 67 = .ok (.aload_n 0, 1) := by decide +kernel
theorem dX10_sheets_68 : decode cX10_sheets 68 = .ok (.dup, 1) := by decide +kernel
theorem dX10_sheets_69 : decode cX10_sheets 69 = .ok (.getfield 71, 3) := by decide +kernel
theorem dX10_sheets_72 : decode cX10_sheets 72 = .ok (.iload_n 1, 1) := by decide +kernel
theorem dX10_sheets_73 : decode cX10_sheets 73 = .ok (.iadd, 1) := by decide +kernel
theorem dX10_sheets_74 : decode cX10_sheets 74 = .ok (.putfield 71, 3) := by decide +kernel
theorem dX10_sheets_77 : decode cX10_sheets 77 = .ok (.aload_n 0, 1) := by decide +kernel
theorem dX10_sheets_78 : decode cX10_sheets 78 = .ok (.getfield 71, 3) := by decide +kernel
theorem dX10_sheets_81 : decode cX10_sheets 81 = .ok (.ireturn, 1) := by decide +kernel
theorem dX10_pull_0 : decode cX10_pull 0 = .ok (.iload_n 2, 1) := by decide +kernel
theorem dX10_pull_1 : decode cX10_pull 1 = .ok (.invokestatic 89, 3) := by decide +kernel
theorem dX10_pull_4 : decode cX10_pull 4 = .ok (.ifCond .ne 5, 3) := by decide +kernel
theorem dX10_pull_7 : decode cX10_pull 7 = .ok (.iconst (-1), 1) := by decide +kernel
theorem dX10_pull_8 : decode cX10_pull 8 = .ok (.ireturn, 1) := by decide +kernel
theorem dX10_pull_9 : decode cX10_pull 9 = .ok (.aload_n 0, 1) := by decide +kernel
theorem dX10_pull_10 : decode cX10_pull 10 = .ok (.getfield 35, 3) := by decide +kernel
theorem dX10_pull_13 : decode cX10_pull 13 = .ok (.iload_n 2, 1) := by decide +kernel
theorem dX10_pull_14 : decode cX10_pull 14 = .ok (.invokestatic 190, 3) := by decide +kernel
theorem dX10_pull_17 : decode cX10_pull 17 = .ok (.aload_n 0, 1) := by decide +kernel
theorem dX10_pull_18 : decode cX10_pull 18 = .ok (.iload_n 1, 1) := by decide +kernel
theorem dX10_pull_19 : decode cX10_pull 19 = .ok (.iload_n 2, 1) := by decide +kernel
theorem dX10_pull_20 : decode cX10_pull 20 = .ok (.invokevirtual 196, 3) := by decide +kernel
theorem dX10_pull_23 : decode cX10_pull 23 = .ok (.ireturn, 1) := by decide +kernel
theorem dX10_blend_0 : decode cX10_blend 0 = .ok (.iload_n 2, 1) := by decide +kernel
theorem dX10_blend_1 : decode cX10_blend 1 = .ok (.iconst 0, 1) := by decide +kernel
theorem dX10_blend_2 : decode cX10_blend 2 = .ok (.sipush 999, 3) := by decide +kernel
theorem dX10_blend_5 : decode cX10_blend 5 = .ok (.invokestatic 81, 3) := by decide +kernel
theorem dX10_blend_8 : decode cX10_blend 8 = .ok (.ifCond .ne 5, 3) := by decide +kernel
theorem dX10_blend_11 : decode cX10_blend 11 = .ok (.iconst (-1), 1) := by decide +kernel
theorem dX10_blend_12 : decode cX10_blend 12 = .ok (.ireturn, 1) := by decide +kernel
theorem dX10_blend_13 : decode cX10_blend 13 = .ok (.iload_n 2, 1) := by decide +kernel
theorem dX10_blend_14 : decode cX10_blend 14 = .ok (.bipush 100, 2) := by decide +kernel
theorem dX10_blend_16 : decode cX10_blend 16 = .ok (.idiv, 1) := by decide +kernel
theorem dX10_blend_17 : decode cX10_blend 17 = .ok (.istore_n 3, 1) := by decide +kernel
theorem dX10_blend_18 : decode cX10_blend 18 = .ok (.iload_n 2, 1) := by decide +kernel
theorem dX10_blend_19 : decode cX10_blend 19 = .ok (.bipush 10, 2) := by decide +kernel
theorem dX10_blend_21 : decode cX10_blend 21 = .ok (.idiv, 1) := by decide +kernel
theorem dX10_blend_22 : decode cX10_blend 22 = .ok (.bipush 10, 2) := by decide +kernel
theorem dX10_blend_24 : decode cX10_blend 24 = .ok (.irem, 1) := by decide +kernel
theorem dX10_blend_25 : decode cX10_blend 25 = .ok (.istore 4, 2) := by decide +kernel
theorem dX10_blend_27 : decode cX10_blend 27 = .ok (.iload_n 2, 1) := by decide +kernel
theorem dX10_blend_28 : decode cX10_blend 28 = .ok (.bipush 10, 2) := by decide +kernel
theorem dX10_blend_30 : decode cX10_blend 30 = .ok (.irem, 1) := by decide +kernel
theorem dX10_blend_31 : decode cX10_blend 31 = .ok (.istore 5, 2) := by decide +kernel
theorem dX10_blend_33 : decode cX10_blend 33 = .ok (.iload_n 3, 1) := by decide +kernel
theorem dX10_blend_34 : decode cX10_blend 34 = .ok (.iload 4, 2) := by decide +kernel
theorem dX10_blend_36 : decode cX10_blend 36 = .ok (.if_icmp .eq 15, 3) := by decide +kernel
theorem dX10_blend_39 : decode cX10_blend 39 = .ok (.iload 5, 2) := by decide +kernel
theorem dX10_blend_41 : decode cX10_blend 41 = .ok (.aload_n 0, 1) := by decide +kernel
theorem dX10_blend_42 : decode cX10_blend 42 = .ok (.getfield 60, 3) := by decide +kernel
theorem dX10_blend_45 : decode cX10_blend 45 = .ok (.getfield 128, 3) := by decide +kernel
theorem dX10_blend_48 : decode cX10_blend 48 = .ok (.if_icmp .lt 5, 3) := by decide +kernel
theorem dX10_blend_51 : decode cX10_blend 51 = .ok (.iconst (-1), 1) := by decide +kernel
theorem dX10_blend_52 : decode cX10_blend 52 = .ok (.ireturn, 1) := by decide +kernel
theorem dX10_blend_53 : decode cX10_blend 53 = .ok (.aload_n 0, 1) := by decide +kernel
theorem dX10_blend_54 : decode cX10_blend 54 = .ok (.getfield 35, 3) := by decide +kernel
theorem dX10_blend_57 : decode cX10_blend 57 = .ok (.iconst 0, 1) := by decide +kernel
theorem dX10_blend_58 : decode cX10_blend 58 = .ok (.iload 5, 2) := by decide +kernel
theorem dX10_blend_60 : decode cX10_blend 60 = .ok (.iload_n 3, 1) := by decide +kernel
theorem dX10_blend_61 : decode cX10_blend 61 = .ok (.invokestatic 200, 3) := by decide +kernel
theorem dX10_blend_64 : decode cX10_blend 64 = .ok (.aload_n 0, 1) := by decide +kernel
theorem dX10_blend_65 : decode cX10_blend 65 = .ok (.getfield 35, 3) := by decide +kernel
theorem dX10_blend_68 : decode cX10_blend 68 = .ok (.iload 5, 2) := by decide +kernel
theorem dX10_blend_70 : decode cX10_blend 70 = .ok (.aload_n 0, 1) := by decide +kernel
theorem dX10_blend_71 : decode cX10_blend 71 = .ok (.getfield 12, 3) := by decide +kernel
theorem dX10_blend_74 : decode cX10_blend 74 = .ok (.getfield 110, 3) := by decide +kernel
theorem dX10_blend_77 : decode cX10_blend 77 = .ok (.iload_n 3, 1) := by decide +kernel
theorem dX10_blend_78 : decode cX10_blend 78 = .ok (.aaload, 1) := by decide +kernel
theorem dX10_blend_79 : decode cX10_blend 79 = .ok (.iload 4, 2) := by decide +kernel
theorem dX10_blend_81 : decode cX10_blend 81 = .ok (.iaload, 1) := by decide +kernel
theorem dX10_blend_82 : decode cX10_blend 82 = .ok (.iastore, 1) := by decide +kernel
theorem dX10_blend_83 : decode cX10_blend 83 = .ok (.aload_n 0, 1) := by decide +kernel
theorem dX10_blend_84 : decode cX10_blend 84 = .ok (.getfield 35, 3) := by decide +kernel
theorem dX10_blend_87 : decode cX10_blend 87 = .ok (.iload 5, 2) := by decide +kernel
theorem dX10_blend_89 : decode cX10_blend 89 = .ok (.iconst 1, 1) := by decide +kernel
theorem dX10_blend_90 : decode cX10_blend 90 = .ok (.iadd, 1) := by decide +kernel
theorem dX10_blend_91 : decode cX10_blend 91 = .ok (.bipush 8, 2) := by decide +kernel
theorem dX10_blend_93 : decode cX10_blend 93 = .ok (.iload 4, 2) := by decide +kernel
theorem dX10_blend_95 : decode cX10_blend 95 = .ok (.invokestatic 200, 3) := by decide +kernel
theorem dX10_blend_98 : decode cX10_blend 98 = .ok (.aload_n 0, 1) := by decide +kernel
theorem dX10_blend_99 : decode cX10_blend 99 = .ok (.iload_n 1, 1) := by decide +kernel
theorem dX10_blend_100 : decode cX10_blend 100 = .ok (.bipush 10, 2) := by decide +kernel
theorem dX10_blend_102 : decode cX10_blend 102 = .ok (.invokevirtual 196, 3) := by decide +kernel
theorem dX10_blend_105 : decode cX10_blend 105 = .ok (.ireturn, 1) := by decide +kernel
theorem dX10_colour_0 : decode cX10_colour 0 = .ok (.aload_n 0, 1) := by decide +kernel
theorem dX10_colour_1 : decode cX10_colour 1 = .ok (.iload_n 1, 1) := by decide +kernel
theorem dX10_colour_2 : decode cX10_colour 2 = .ok (.invokevirtual 203, 3) := by decide +kernel
theorem dX10_colour_5 : decode cX10_colour 5 = .ok (.ifCond .eq 14, 3) := by decide +kernel
theorem dX10_colour_8 : decode cX10_colour 8 = .ok (.aload_n 0, 1) := by decide +kernel
theorem dX10_colour_9 : decode cX10_colour 9 = .ok (.getfield 60, 3) := by decide +kernel
theorem dX10_colour_12 : decode cX10_colour 12 = .ok (.iload_n 2, 1) := by decide +kernel
theorem dX10_colour_13 : decode cX10_colour 13 = .ok (.invokevirtual 160, 3) := by decide +kernel
theorem dX10_colour_16 : decode cX10_colour 16 = .ok (.ifCond .ne 5, 3) := by decide +kernel
theorem dX10_colour_19 : decode cX10_colour 19 = .ok (.iconst (-1), 1) := by decide +kernel
theorem dX10_colour_20 : decode cX10_colour 20 = .ok (.ireturn, 1) := by decide +kernel
theorem dX10_colour_21 : decode cX10_colour 21 = .ok (.aload_n 0, 1) := by decide +kernel
theorem dX10_colour_22 : decode cX10_colour 22 = .ok (.getfield 25, 3) := by decide +kernel
theorem dX10_colour_25 : decode cX10_colour 25 = .ok (.iload_n 1, 1) := by decide +kernel
theorem dX10_colour_26 : decode cX10_colour 26 = .ok (.aaload, 1) := by decide +kernel
theorem dX10_colour_27 : decode cX10_colour 27 = .ok (.getfield 206, 3) := by decide +kernel
theorem dX10_colour_30 : decode cX10_colour 30 = .ok (.iload_n 2, 1) := by decide +kernel
theorem dX10_colour_31 : decode cX10_colour 31 = .ok (.iaload, 1) := by decide +kernel
theorem dX10_colour_32 : decode cX10_colour 32 = .ok (.ireturn, 1) := by decide +kernel
theorem dX10_led_0 : decode cX10_led 0 = .ok (.aload_n 0, 1) := by decide +kernel
theorem dX10_led_1 : decode cX10_led 1 = .ok (.iload_n 1, 1) := by decide +kernel
theorem dX10_led_2 : decode cX10_led 2 = .ok (.invokevirtual 203, 3) := by decide +kernel
theorem dX10_led_5 : decode cX10_led 5 = .ok (.ifCond .eq 14, 3) := by decide +kernel
theorem dX10_led_8 : decode cX10_led 8 = .ok (.aload_n 0, 1) := by decide +kernel
theorem dX10_led_9 : decode cX10_led 9 = .ok (.getfield 60, 3) := by decide +kernel
theorem dX10_led_12 : decode cX10_led 12 = .ok (.iload_n 2, 1) := by decide +kernel
theorem dX10_led_13 : decode cX10_led 13 = .ok (.invokevirtual 160, 3) := by decide +kernel
theorem dX10_led_16 : decode cX10_led 16 = .ok (.ifCond .ne 5, 3) := by decide +kernel
theorem dX10_led_19 : decode cX10_led 19 = .ok (.iconst (-1), 1) := by decide +kernel
theorem dX10_led_20 : decode cX10_led 20 = .ok (.ireturn, 1) := by decide +kernel
theorem dX10_led_21 : decode cX10_led 21 = .ok (.iload_n 3, 1) := by decide +kernel
theorem dX10_led_22 : decode cX10_led 22 = .ok (.tableswitch 62 0 2 #[26, 38, 50], 26) := by decide +kernel
theorem dX10_led_48 : decode cX10_led 48 = .ok (.aload_n 0, 1) := by decide +kernel
theorem dX10_led_49 : decode cX10_led 49 = .ok (.getfield 25, 3) := by decide +kernel
theorem dX10_led_52 : decode cX10_led 52 = .ok (.iload_n 1, 1) := by decide +kernel
theorem dX10_led_53 : decode cX10_led 53 = .ok (.aaload, 1) := by decide +kernel
theorem dX10_led_54 : decode cX10_led 54 = .ok (.getfield 209, 3) := by decide +kernel
theorem dX10_led_57 : decode cX10_led 57 = .ok (.iload_n 2, 1) := by decide +kernel
theorem dX10_led_58 : decode cX10_led 58 = .ok (.iaload, 1) := by decide +kernel
theorem dX10_led_59 : decode cX10_led 59 = .ok (.ireturn, 1) := by decide +kernel
theorem dX10_led_60 : decode cX10_led 60 = .ok (.aload_n 0, 1) := by decide +kernel
theorem dX10_led_61 : decode cX10_led 61 = .ok (.getfield 25, 3) := by decide +kernel
theorem dX10_led_64 : decode cX10_led 64 = .ok (.iload_n 1, 1) := by decide +kernel
theorem dX10_led_65 : decode cX10_led 65 = .ok (.aaload, 1) := by decide +kernel
theorem dX10_led_66 : decode cX10_led 66 = .ok (.getfield 212, 3) := by decide +kernel
theorem dX10_led_69 : decode cX10_led 69 = .ok (.iload_n 2, 1) := by decide +kernel
theorem dX10_led_70 : decode cX10_led 70 = .ok (.iaload, 1) := by decide +kernel
theorem dX10_led_71 : decode cX10_led 71 = .ok (.ireturn, 1) := by decide +kernel
theorem dX10_led_72 : decode cX10_led 72 = .ok (.aload_n 0, 1) := by decide +kernel
theorem dX10_led_73 : decode cX10_led 73 = .ok (.getfield 25, 3) := by decide +kernel
theorem dX10_led_76 : decode cX10_led 76 = .ok (.iload_n 1, 1) := by decide +kernel
theorem dX10_led_77 : decode cX10_led 77 = .ok (.aaload, 1) := by decide +kernel
theorem dX10_led_78 : decode cX10_led 78 = .ok (.getfield 215, 3) := by decide +kernel
theorem dX10_led_81 : decode cX10_led 81 = .ok (.iload_n 2, 1) := by decide +kernel
theorem dX10_led_82 : decode cX10_led 82 = .ok (.iaload, 1) := by decide +kernel
theorem dX10_led_83 : decode cX10_led 83 = .ok (.ireturn, 1) := by decide +kernel
theorem dX10_led_84 : decode cX10_led 84 = .ok (.iconst (-1), 1) := by decide +kernel
theorem dX10_led_85 : decode cX10_led 85 = .ok (.ireturn, 1) := by decide +kernel
theorem dX10_good_0 : decode cX10_good 0 = .ok (.aload_n 0, 1) := by decide +kernel
theorem dX10_good_1 : decode cX10_good 1 = .ok (.iload_n 1, 1) := by decide +kernel
theorem dX10_good_2 : decode cX10_good 2 = .ok (.invokevirtual 203, 3) := by decide +kernel
theorem dX10_good_5 : decode cX10_good 5 = .ok (.ifCond .eq 18, 3) := by decide +kernel
theorem dX10_good_8 : decode cX10_good 8 = .ok (.aload_n 0, 1) := by decide +kernel
theorem dX10_good_9 : decode cX10_good 9 = .ok (.getfield 25, 3) := by decide +kernel
theorem dX10_good_12 : decode cX10_good 12 = .ok (.iload_n 1, 1) := by decide +kernel
theorem dX10_good_13 : decode cX10_good 13 = .ok (.aaload, 1) := by decide +kernel
theorem dX10_good_14 : decode cX10_good 14 = .ok (.getfield 218, 3) := by decide +kernel
theorem dX10_good_17 : decode cX10_good 17 = .ok (.invokestatic 185, 3) := by decide +kernel
theorem dX10_good_20 : decode cX10_good 20 = .ok (.goto 4, 3) := by decide +kernel
theorem dX10_good_23 : decode cX10_good 23 = .ok (.iconst (-1), 1) := by decide +kernel
theorem dX10_good_24 : decode cX10_good 24 = .ok (.ireturn, 1) := by decide +kernel
theorem dX10_book_0 : decode cX10_book 0 = .ok (.iload_n 1, 1) := by decide +kernel
theorem dX10_book_1 : decode cX10_book 1 = .ok (.iconst 0, 1) := by decide +kernel
theorem dX10_book_2 : decode cX10_book 2 = .ok (.aload_n 0, 1) := by decide +kernel
theorem dX10_book_3 : decode cX10_book 3 = .ok (.getfield 75, 3) := by decide +kernel
theorem dX10_book_6 : decode cX10_book 6 = .ok (.iconst 1, 1) := by decide +kernel
theorem dX10_book_7 : decode cX10_book 7 = .ok (.isub, 1) := by decide +kernel
theorem dX10_book_8 : decode cX10_book 8 = .ok (.invokestatic 81, 3) := by decide +kernel
theorem dX10_book_11 : decode cX10_book 11 = .ok (.ifCond .eq 16, 3) := by decide +kernel
theorem dX10_book_14 : decode cX10_book 14 = .ok (.aload_n 0, 1) := by decide +kernel
theorem dX10_book_15 : decode cX10_book 15 = .ok (.getfield 31, 3) := by decide +kernel
theorem dX10_book_18 : decode cX10_book 18 = .ok (.iload_n 1, 1) := by decide +kernel
theorem dX10_book_19 : decode cX10_book 19 = .ok (.aaload, 1) := by decide +kernel
theorem dX10_book_20 : decode cX10_book 20 = .ok (.iload_n 2, 1) := by decide +kernel
theorem dX10_book_21 : decode cX10_book 21 = .ok (.invokevirtual 222, 3) := by decide +kernel
theorem dX10_book_24 : decode cX10_book 24 = .ok (.goto 4, 3) := by decide +kernel
theorem dX10_book_27 : decode cX10_book 27 = .ok (.iconst (-1), 1) := by decide +kernel
theorem dX10_book_28 : decode cX10_book 28 = .ok (.ireturn, 1) := by decide +kernel
theorem dX10_free_0 : decode cX10_free 0 = .ok (.aload_n 0, 1) := by decide +kernel
theorem dX10_free_1 : decode cX10_free 1 = .ok (.iload_n 1, 1) := by decide +kernel
theorem dX10_free_2 : decode cX10_free 2 = .ok (.invokevirtual 226, 3) := by decide +kernel
theorem dX10_free_5 : decode cX10_free 5 = .ok (.ifCond .eq 10, 3) := by decide +kernel
theorem dX10_free_8 : decode cX10_free 8 = .ok (.iload_n 2, 1) := by decide +kernel
theorem dX10_free_9 : decode cX10_free 9 = .ok (.invokestatic 89, 3) := by decide +kernel
theorem dX10_free_12 : decode cX10_free 12 = .ok (.ifCond .ne 5, 3) := by decide +kernel
theorem dX10_free_15 : decode cX10_free 15 = .ok (.iconst (-1), 1) := by decide +kernel
theorem dX10_free_16 : decode cX10_free 16 = .ok (.ireturn, 1) := by decide +kernel
theorem dX10_free_17 : decode cX10_free 17 = .ok (.aload_n 0, 1) := by decide +kernel
theorem dX10_free_18 : decode cX10_free 18 = .ok (.getfield 78, 3) := by decide +kernel
theorem dX10_free_21 : decode cX10_free 21 = .ok (.istore_n 3, 1) := by decide +kernel
theorem dX10_free_22 : decode cX10_free 22 = .ok (.iload_n 1, 1) := by decide +kernel
theorem dX10_free_23 : decode cX10_free 23 = .ok (.invokestatic 229, 3) := by decide +kernel
theorem dX10_free_26 : decode cX10_free 26 = .ok (.istore 4, 2) := by decide +kernel
theorem dX10_free_28 : decode cX10_free 28 = .ok (.iload 4, 2) := by decide +kernel
theorem dX10_free_30 : decode cX10_free 30 = .ok (.iload_n 1, 1) := by decide +kernel
theorem dX10_free_31 : decode cX10_free 31 = .ok (.invokestatic 232, 3) := by decide +kernel
theorem dX10_free_34 : decode cX10_free 34 = .ok (.if_icmp .gt 33, 3) := by decide +kernel
theorem dX10_free_37 : decode cX10_free 37 = .ok (.iload_n 3, 1) := by decide +kernel
theorem dX10_free_38 : decode cX10_free 38 = .ok (.aload_n 0, 1) := by decide +kernel
theorem dX10_free_39 : decode cX10_free 39 = .ok (.getfield 25, 3) := by decide +kernel
theorem dX10_free_42 : decode cX10_free 42 = .ok (.iload 4, 2) := by decide +kernel
theorem dX10_free_44 : decode cX10_free 44 = .ok (.aaload, 1) := by decide +kernel
theorem dX10_free_45 : decode cX10_free 45 = .ok (.iload_n 2, 1) := by decide +kernel
theorem dX10_free_46 : decode cX10_free 46 = .ok (.aload_n 0, 1) := by decide +kernel
theorem dX10_free_47 : decode cX10_free 47 = .ok (.getfield 60, 3) := by decide +kernel
theorem dX10_free_50 : decode cX10_free 50 = .ok (.aload_n 0, 1) := by decide +kernel
theorem dX10_free_51 : decode cX10_free 51 = .ok (.getfield 12, 3) := by decide +kernel
theorem dX10_free_54 : decode cX10_free 54 = .ok (.invokevirtual 235, 3) := by decide +kernel
theorem dX10_free_57 : decode cX10_free 57 = .ok (.invokestatic 239, 3) := by decide +kernel
theorem dX10_free_60 : decode cX10_free 60 = .ok (.istore_n 3, 1) := by decide +kernel
theorem dX10_free_61 : decode cX10_free 61 = .ok (.iinc 4 1, 3) := by decide +kernel
theorem dX10_free_64 : decode cX10_free 64 = .ok (.goto (-36), 3) := by decide +kernel
theorem dX10_free_67 : decode cX10_free 67 = .ok (.iload_n 3, 1) := by decide +kernel
theorem dX10_free_68 : decode cX10_free 68 = .ok (.ireturn, 1) := by decide +kernel
theorem dX10_wanted_0 : decode cX10_wanted 0 = .ok (.iload_n 1, 1) := by decide +kernel
theorem dX10_wanted_1 : decode cX10_wanted 1 = .ok (.iconst 1, 1) := by decide +kernel
theorem dX10_wanted_2 : decode cX10_wanted 2 = .ok (.iconst 4, 1) := by decide +kernel
theorem dX10_wanted_3 : decode cX10_wanted 3 = .ok (.invokestatic 81, 3) := by decide +kernel
theorem dX10_wanted_6 : decode cX10_wanted 6 = .ok (.ifCond .eq 12, 3) := by decide +kernel
theorem dX10_wanted_9 : decode cX10_wanted 9 = .ok (.iload_n 2, 1) := by decide +kernel
theorem dX10_wanted_10 : decode cX10_wanted 10 = .ok (.iconst 1, 1) := by decide +kernel
theorem dX10_wanted_11 : decode cX10_wanted 11 = .ok (.iconst 4, 1) := by decide +kernel
theorem dX10_wanted_12 : decode cX10_wanted 12 = .ok (.invokestatic 81, 3) := by decide +kernel
theorem dX10_wanted_15 : decode cX10_wanted 15 = .ok (.ifCond .ne 5, 3) := by decide +kernel
theorem dX10_wanted_18 : decode cX10_wanted 18 = .ok (.iconst (-1), 1) := by decide +kernel
theorem dX10_wanted_19 : decode cX10_wanted 19 = .ok (.ireturn, 1) := by decide +kernel
theorem dX10_wanted_20 : decode cX10_wanted 20 = .ok (.aload_n 0, 1) := by decide +kernel
theorem dX10_wanted_21 : decode cX10_wanted 21 = .ok (.new 64, 3) := by decide +kernel
theorem dX10_wanted_24 : decode cX10_wanted 24 = .ok (.dup, 1) := by decide +kernel
theorem dX10_wanted_25 : decode cX10_wanted 25 = .ok (.iload_n 1, 1) := by decide +kernel
theorem dX10_wanted_26 : decode cX10_wanted 26 = .ok (.iload_n 2, 1) := by decide +kernel
theorem dX10_wanted_27 : decode cX10_wanted 27 = .ok (.invokespecial 66, 3) := by decide +kernel
theorem dX10_wanted_30 : decode cX10_wanted 30 = .ok (.putfield 67, 3) := by decide +kernel
theorem dX10_wanted_33 : decode cX10_wanted 33 = .ok (.iconst 1, 1) := by decide +kernel
theorem dX10_wanted_34 : decode cX10_wanted 34 = .ok (.ireturn, 1) := by decide +kernel
theorem dX10_want_0 : decode cX10_want 0 = .ok (.aload_n 0, 1) := by decide +kernel
theorem dX10_want_1 : decode cX10_want 1 = .ok (.getfield 67, 3) := by decide +kernel
theorem dX10_want_4 : decode cX10_want 4 = .ok (.iload_n 1, 1) := by decide +kernel
theorem dX10_want_5 : decode cX10_want 5 = .ok (.invokevirtual 244, 3) := by decide +kernel
theorem dX10_want_8 : decode cX10_want 8 = .ok (.ifCond .eq 10, 3) := by decide +kernel
theorem dX10_want_11 : decode cX10_want 11 = .ok (.iload_n 2, 1) := by decide +kernel
theorem dX10_want_12 : decode cX10_want 12 = .ok (.invokestatic 93, 3) := by decide +kernel
theorem dX10_want_15 : decode cX10_want 15 = .ok (.ifCond .ne 5, 3) := by decide +kernel
theorem dX10_want_18 : decode cX10_want 18 = .ok (.iconst (-1), 1) := by decide +kernel
theorem dX10_want_19 : decode cX10_want 19 = .ok (.ireturn, 1) := by decide +kernel
theorem dX10_want_20 : decode cX10_want 20 = .ok (.aload_n 0, 1) := by decide +kernel
theorem dX10_want_21 : decode cX10_want 21 = .ok (.getfield 67, 3) := by decide +kernel
theorem dX10_want_24 : decode cX10_want 24 = .ok (.getfield 245, 3) := by decide +kernel
theorem dX10_want_27 : decode cX10_want 27 = .ok (.iload_n 1, 1) := by decide +kernel
theorem dX10_want_28 : decode cX10_want 28 = .ok (.iload_n 2, 1) := by decide +kernel
theorem dX10_want_29 : decode cX10_want 29 = .ok (.invokestatic 100, 3) := by decide +kernel
theorem dX10_want_32 : decode cX10_want 32 = .ok (.ireturn, 1) := by decide +kernel
theorem dX10_fewest_0 : decode cX10_fewest 0 = .ok (.aload_n 0, 1) := by decide +kernel
theorem dX10_fewest_1 : decode cX10_fewest 1 = .ok (.getfield 67, 3) := by decide +kernel
theorem dX10_fewest_4 : decode cX10_fewest 4 = .ok (.invokevirtual 246, 3) := by decide +kernel
theorem dX10_fewest_7 : decode cX10_fewest 7 = .ok (.ifCond .eq 10, 3) := by decide +kernel
theorem dX10_fewest_10 : decode cX10_fewest 10 = .ok (.iload_n 1, 1) := by decide +kernel
theorem dX10_fewest_11 : decode cX10_fewest 11 = .ok (.invokestatic 247, 3) := by decide +kernel
theorem dX10_fewest_14 : decode cX10_fewest 14 = .ok (.ifCond .ne 5, 3) := by decide +kernel
theorem dX10_fewest_17 : decode cX10_fewest 17 = .ok (.iconst (-1), 1) := by decide +kernel
theorem dX10_fewest_18 : decode cX10_fewest 18 = .ok (.ireturn, 1) := by decide +kernel
theorem dX10_fewest_19 : decode cX10_fewest 19 = .ok (.aload_n 0, 1) := by decide +kernel
theorem dX10_fewest_20 : decode cX10_fewest 20 = .ok (.getfield 44, 3) := by decide +kernel
theorem dX10_fewest_23 : decode cX10_fewest 23 = .ok (.iload_n 1, 1) := by decide +kernel
theorem dX10_fewest_24 : decode cX10_fewest 24 = .ok (.aload_n 0, 1) := by decide +kernel
theorem dX10_fewest_25 : decode cX10_fewest 25 = .ok (.getfield 67, 3) := by decide +kernel
theorem dX10_fewest_28 : decode cX10_fewest 28 = .ok (.invokevirtual 250, 3) := by decide +kernel
theorem dX10_fewest_31 : decode cX10_fewest 31 = .ok (.invokevirtual 253, 3) := by decide +kernel
theorem dX10_fewest_34 : decode cX10_fewest 34 = .ok (.istore_n 2, 1) := by decide +kernel
theorem dX10_fewest_35 : decode cX10_fewest 35 = .ok (.iload_n 2, 1) := by decide +kernel
theorem dX10_fewest_36 : decode cX10_fewest 36 = .ok (.bipush (-4), 2) := by decide +kernel
theorem dX10_fewest_38 : decode cX10_fewest 38 = .ok (.if_icmp .eq 33, 3) := by decide +kernel
theorem dX10_fewest_41 : decode cX10_fewest 41 = .ok (.aload_n 0, 1) := by decide +kernel
theorem dX10_fewest_42 : decode cX10_fewest 42 = .ok (.getfield 44, 3) := by decide +kernel
theorem dX10_fewest_45 : decode cX10_fewest 45 = .ok (.iload_n 2, 1) := by decide +kernel
theorem dX10_fewest_46 : decode cX10_fewest 46 = .ok (.aload_n 0, 1) := by decide +kernel
theorem dX10_fewest_47 : decode cX10_fewest 47 = .ok (.getfield 51, 3) := by decide +kernel
theorem dX10_fewest_50 : decode cX10_fewest 50 = .ok (.getfield 256, 3) := by decide +kernel
theorem dX10_fewest_53 : decode cX10_fewest 53 = .ok (.invokevirtual 260, 3) := by decide +kernel
theorem dX10_fewest_56 : decode cX10_fewest 56 = .ok (.aload_n 0, 1) := by decide +kernel
theorem dX10_fewest_57 : decode cX10_fewest 57 = .ok (.getfield 51, 3) := by decide +kernel
theorem dX10_fewest_60 : decode cX10_fewest 60 = .ok (.aload_n 0, 1) := by decide +kernel
theorem dX10_fewest_61 : decode cX10_fewest 61 = .ok (.getfield 67, 3) := by decide +kernel
theorem dX10_fewest_64 : decode cX10_fewest 64 = .ok (.aload_n 0, 1) := by decide +kernel
theorem dX10_fewest_65 : decode cX10_fewest 65 = .ok (.getfield 12, 3) := by decide +kernel
theorem dX10_fewest_68 : decode cX10_fewest 68 = .ok (.invokevirtual 264, 3) := by decide +kernel
theorem dX10_fewest_71 : decode cX10_fewest 71 = .ok (.iload_n 2, 1) := by decide +kernel
theorem dX10_fewest_72 : decode cX10_fewest 72 = .ok (.ireturn, 1) := by decide +kernel
theorem dX10_order_0 : decode cX10_order 0 = .ok (.iload_n 1, 1) := by decide +kernel
theorem dX10_order_1 : decode cX10_order 1 = .ok (.iconst 0, 1) := by decide +kernel
theorem dX10_order_2 : decode cX10_order 2 = .ok (.aload_n 0, 1) := by decide +kernel
theorem dX10_order_3 : decode cX10_order 3 = .ok (.getfield 51, 3) := by decide +kernel
theorem dX10_order_6 : decode cX10_order 6 = .ok (.getfield 256, 3) := by decide +kernel
theorem dX10_order_9 : decode cX10_order 9 = .ok (.getfield 268, 3) := by decide +kernel
theorem dX10_order_12 : decode cX10_order 12 = .ok (.iconst 1, 1) := by decide +kernel
theorem dX10_order_13 : decode cX10_order 13 = .ok (.isub, 1) := by decide +kernel
theorem dX10_order_14 : decode cX10_order 14 = .ok (.invokestatic 81, 3) := by decide +kernel
theorem dX10_order_17 : decode cX10_order 17 = .ok (.ifCond .eq 18, 3) := by decide +kernel
theorem dX10_order_20 : decode cX10_order 20 = .ok (.aload_n 0, 1) := by decide +kernel
theorem dX10_order_21 : decode cX10_order 21 = .ok (.getfield 51, 3) := by decide +kernel
theorem dX10_order_24 : decode cX10_order 24 = .ok (.getfield 256, 3) := by decide +kernel
theorem dX10_order_27 : decode cX10_order 27 = .ok (.getfield 273, 3) := by decide +kernel
theorem dX10_order_30 : decode cX10_order 30 = .ok (.iload_n 1, 1) := by decide +kernel
theorem dX10_order_31 : decode cX10_order 31 = .ok (.iaload, 1) := by decide +kernel
theorem dX10_order_32 : decode cX10_order 32 = .ok (.goto 4, 3) := by decide +kernel
theorem dX10_order_35 : decode cX10_order 35 = .ok (.iconst (-1), 1) := by decide +kernel
theorem dX10_order_36 : decode cX10_order 36 = .ok (.ireturn, 1) := by decide +kernel
theorem dX10_place_0 : decode cX10_place 0 = .ok (.iload_n 1, 1) := by decide +kernel
theorem dX10_place_1 : decode cX10_place 1 = .ok (.iconst 0, 1) := by decide +kernel
theorem dX10_place_2 : decode cX10_place 2 = .ok (.bipush 15, 2) := by decide +kernel
theorem dX10_place_4 : decode cX10_place 4 = .ok (.invokestatic 81, 3) := by decide +kernel
theorem dX10_place_7 : decode cX10_place 7 = .ok (.ifCond .eq 15, 3) := by decide +kernel
theorem dX10_place_10 : decode cX10_place 10 = .ok (.aload_n 0, 1) := by decide +kernel
theorem dX10_place_11 : decode cX10_place 11 = .ok (.getfield 51, 3) := by decide +kernel
theorem dX10_place_14 : decode cX10_place 14 = .ok (.getfield 275, 3) := by decide +kernel
theorem dX10_place_17 : decode cX10_place 17 = .ok (.iload_n 1, 1) := by decide +kernel
theorem dX10_place_18 : decode cX10_place 18 = .ok (.iaload, 1) := by decide +kernel
theorem dX10_place_19 : decode cX10_place 19 = .ok (.goto 4, 3) := by decide +kernel
theorem dX10_place_22 : decode cX10_place 22 = .ok (.iconst (-1), 1) := by decide +kernel
theorem dX10_place_23 : decode cX10_place 23 = .ok (.ireturn, 1) := by decide +kernel
theorem dX10_why_0 : decode cX10_why 0 = .ok (.aload_n 0, 1) := by decide +kernel
theorem dX10_why_1 : decode cX10_why 1 = .ok (.getfield 67, 3) := by decide +kernel
theorem dX10_why_4 : decode cX10_why 4 = .ok (.invokevirtual 246, 3) := by decide +kernel
theorem dX10_why_7 : decode cX10_why 7 = .ok (.ifCond .eq 10, 3) := by decide +kernel
theorem dX10_why_10 : decode cX10_why 10 = .ok (.iload_n 1, 1) := by decide +kernel
theorem dX10_why_11 : decode cX10_why 11 = .ok (.invokestatic 247, 3) := by decide +kernel
theorem dX10_why_14 : decode cX10_why 14 = .ok (.ifCond .ne 5, 3) := by decide +kernel
theorem dX10_why_17 : decode cX10_why 17 = .ok (.iconst (-1), 1) := by decide +kernel
theorem dX10_why_18 : decode cX10_why 18 = .ok (.ireturn, 1) := by decide +kernel
theorem dX10_why_19 : decode cX10_why 19 = .ok (.aload_n 0, 1) := by decide +kernel
theorem dX10_why_20 : decode cX10_why 20 = .ok (.getfield 67, 3) := by decide +kernel
theorem dX10_why_23 : decode cX10_why 23 = .ok (.invokevirtual 250, 3) := by decide +kernel
theorem dX10_why_26 : decode cX10_why 26 = .ok (.istore_n 2, 1) := by decide +kernel
theorem dX10_why_27 : decode cX10_why 27 = .ok (.iload_n 2, 1) := by decide +kernel
theorem dX10_why_28 : decode cX10_why 28 = .ok (.aload_n 0, 1) := by decide +kernel
theorem dX10_why_29 : decode cX10_why 29 = .ok (.getfield 12, 3) := by decide +kernel
theorem dX10_why_32 : decode cX10_why 32 = .ok (.iload_n 1, 1) := by decide +kernel
theorem dX10_why_33 : decode cX10_why 33 = .ok (.invokevirtual 278, 3) := by decide +kernel
theorem dX10_why_36 : decode cX10_why 36 = .ok (.iconst (-1), 1) := by decide +kernel
theorem dX10_why_37 : decode cX10_why 37 = .ok (.ixor, 1) := by decide +kernel
theorem dX10_why_38 : decode cX10_why 38 = .ok (.iand, 1) := by decide +kernel
theorem dX10_why_39 : decode cX10_why 39 = .ok (.istore_n 3, 1) := by decide +kernel
theorem dX10_why_40 : decode cX10_why 40 = .ok (.iload_n 3, 1) := by decide +kernel
theorem dX10_why_41 : decode cX10_why 41 = .ok (.ifCond .eq 5, 3) := by decide +kernel
theorem dX10_why_44 : decode cX10_why 44 = .ok (.iload_n 3, 1) := by decide +kernel
theorem dX10_why_45 : decode cX10_why 45 = .ok (.ireturn, 1) := by decide +kernel
theorem dX10_why_46 : decode cX10_why 46 = .ok (.aload_n 0, 1) := by decide +kernel
theorem dX10_why_47 : decode cX10_why 47 = .ok (.getfield 44, 3) := by decide +kernel
theorem dX10_why_50 : decode cX10_why 50 = .ok (.iload_n 1, 1) := by decide +kernel
theorem dX10_why_51 : decode cX10_why 51 = .ok (.iload_n 2, 1) := by decide +kernel
theorem dX10_why_52 : decode cX10_why 52 = .ok (.invokevirtual 253, 3) := by decide +kernel
theorem dX10_why_55 : decode cX10_why 55 = .ok (.bipush (-4), 2) := by decide +kernel
theorem dX10_why_57 : decode cX10_why 57 = .ok (.if_icmp .eq 7, 3) := by decide +kernel
theorem dX10_why_60 : decode cX10_why 60 = .ok (.iconst 1, 1) := by decide +kernel
theorem dX10_why_61 : decode cX10_why 61 = .ok (.goto 4, 3) := by decide +kernel
theorem dX10_why_64 : decode cX10_why 64 = .ok (.iconst 0, 1) := by decide +kernel
theorem dX10_why_65 : decode cX10_why 65 = .ok (.istore 4, 2) := by decide +kernel
theorem dX10_why_67 : decode cX10_why 67 = .ok (.iload 4, 2) := by decide +kernel
theorem dX10_why_69 : decode cX10_why 69 = .ok (.ifCond .eq 7, 3) := by decide +kernel
theorem dX10_why_72 : decode cX10_why 72 = .ok (.iconst 0, 1) := by decide +kernel
theorem dX10_why_73 : decode cX10_why 73 = .ok (.goto 7, 3) := by decide +kernel
theorem dX10_why_76 : decode cX10_why 76 = .ok (.iload_n 2, 1) := by decide +kernel
theorem dX10_why_77 : decode cX10_why 77 = .ok (.invokestatic 281, 3) := by decide +kernel
theorem dX10_why_80 : decode cX10_why 80 = .ok (.ireturn, 1) := by decide +kernel
theorem dX10_alike_0 : decode cX10_alike 0 = .ok (.iload_n 1, 1) := by decide +kernel
theorem dX10_alike_1 : decode cX10_alike 1 = .ok (.invokestatic 284, 3) := by decide +kernel
theorem dX10_alike_4 : decode cX10_alike 4 = .ok (.ifCond .eq 21, 3) := by decide +kernel
theorem dX10_alike_7 : decode cX10_alike 7 = .ok (.iload_n 2, 1) := by decide +kernel
theorem dX10_alike_8 : decode cX10_alike 8 = .ok (.invokestatic 284, 3) := by decide +kernel
theorem dX10_alike_11 : decode cX10_alike 11 = .ok (.ifCond .eq 14, 3) := by decide +kernel
theorem dX10_alike_14 : decode cX10_alike 14 = .ok (.iload_n 3, 1) := by decide +kernel
theorem dX10_alike_15 : decode cX10_alike 15 = .ok (.iconst 0, 1) := by decide +kernel
theorem dX10_alike_16 : decode cX10_alike 16 = .ok (.ldc_w 287, 3) := by decide +kernel
theorem dX10_alike_19 : decode cX10_alike 19 = .ok (.invokestatic 81, 3) := by decide +kernel
theorem dX10_alike_22 : decode cX10_alike 22 = .ok (.ifCond .ne 5, 3) := by decide +kernel
theorem dX10_alike_25 : decode cX10_alike 25 = .ok (.iconst (-1), 1) := by decide +kernel
theorem dX10_alike_26 : decode cX10_alike 26 = .ok (.ireturn, 1) := by decide +kernel
theorem dX10_alike_27 : decode cX10_alike 27 = .ok (.new 269, 3) := by decide +kernel
theorem dX10_alike_30 : decode cX10_alike 30 = .ok (.dup, 1) := by decide +kernel
theorem dX10_alike_31 : decode cX10_alike 31 = .ok (.iload_n 1, 1) := by decide +kernel
theorem dX10_alike_32 : decode cX10_alike 32 = .ok (.invokespecial 288, 3) := by decide +kernel
theorem dX10_alike_35 : decode cX10_alike 35 = .ok (.aload_n 0, 1) := by decide +kernel
theorem dX10_alike_36 : decode cX10_alike 36 = .ok (.getfield 12, 3) := by decide +kernel
theorem dX10_alike_39 : decode cX10_alike 39 = .ok (.invokevirtual 289, 3) := by decide +kernel
theorem dX10_alike_42 : decode cX10_alike 42 = .ok (.new 269, 3) := by decide +kernel
theorem dX10_alike_45 : decode cX10_alike 45 = .ok (.dup, 1) := by decide +kernel
theorem dX10_alike_46 : decode cX10_alike 46 = .ok (.iload_n 2, 1) := by decide +kernel
theorem dX10_alike_47 : decode cX10_alike 47 = .ok (.invokespecial 288, 3) := by decide +kernel
theorem dX10_alike_50 : decode cX10_alike 50 = .ok (.aload_n 0, 1) := by decide +kernel
theorem dX10_alike_51 : decode cX10_alike 51 = .ok (.getfield 12, 3) := by decide +kernel
theorem dX10_alike_54 : decode cX10_alike 54 = .ok (.invokevirtual 289, 3) := by decide +kernel
theorem dX10_alike_57 : decode cX10_alike 57 = .ok (.iand, 1) := by decide +kernel
theorem dX10_alike_58 : decode cX10_alike 58 = .ok (.istore 4, 2) := by decide +kernel
theorem dX10_alike_60 : decode cX10_alike 60 = .ok (.iload_n 3, 1) := by decide +kernel
theorem dX10_alike_61 : decode cX10_alike 61 = .ok (.iload 4, 2) := by decide +kernel
theorem dX10_alike_63 : decode cX10_alike 63 = .ok (.iconst (-1), 1) := by decide +kernel
theorem dX10_alike_64 : decode cX10_alike 64 = .ok (.ixor, 1) := by decide +kernel
theorem dX10_alike_65 : decode cX10_alike 65 = .ok (.iand, 1) := by decide +kernel
theorem dX10_alike_66 : decode cX10_alike 66 = .ok (.ifCond .ne 7, 3) := by decide +kernel
theorem dX10_alike_69 : decode cX10_alike 69 = .ok (.iconst 1, 1) := by decide +kernel
theorem dX10_alike_70 : decode cX10_alike 70 = .ok (.goto 4, 3) := by decide +kernel
theorem dX10_alike_73 : decode cX10_alike 73 = .ok (.iconst 0, 1) := by decide +kernel
theorem dX10_alike_74 : decode cX10_alike 74 = .ok (.invokestatic 185, 3) := by decide +kernel
theorem dX10_alike_77 : decode cX10_alike 77 = .ok (.ireturn, 1) := by decide +kernel
theorem dX10_made_0 : decode cX10_made 0 = .ok (.iload_n 1, 1) := by decide +kernel
theorem dX10_made_1 : decode cX10_made 1 = .ok (.invokestatic 284, 3) := by decide +kernel
theorem dX10_made_4 : decode cX10_made 4 = .ok (.ifCond .ne 5, 3) := by decide +kernel
theorem dX10_made_7 : decode cX10_made 7 = .ok (.iconst (-1), 1) := by decide +kernel
theorem dX10_made_8 : decode cX10_made 8 = .ok (.ireturn, 1) := by decide +kernel
theorem dX10_made_9 : decode cX10_made 9 = .ok (.new 269, 3) := by decide +kernel
theorem dX10_made_12 : decode cX10_made 12 = .ok (.dup, 1) := by decide +kernel
theorem dX10_made_13 : decode cX10_made 13 = .ok (.iload_n 1, 1) := by decide +kernel
theorem dX10_made_14 : decode cX10_made 14 = .ok (.invokespecial 288, 3) := by decide +kernel
theorem dX10_made_17 : decode cX10_made 17 = .ok (.astore_n 3, 1) := by decide +kernel
theorem dX10_made_18 : decode cX10_made 18 = .ok (.iload_n 2, 1) := by decide +kernel
theorem dX10_made_19 : decode cX10_made 19 = .ok (.iconst 0, 1) := by decide +kernel
theorem dX10_made_20 : decode cX10_made 20 = .ok (.aload_n 3, 1) := by decide +kernel
theorem dX10_made_21 : decode cX10_made 21 = .ok (.getfield 268, 3) := by decide +kernel
theorem dX10_made_24 : decode cX10_made 24 = .ok (.invokestatic 81, 3) := by decide +kernel
theorem dX10_made_27 : decode cX10_made 27 = .ok (.ifCond .eq 15, 3) := by decide +kernel
theorem dX10_made_30 : decode cX10_made 30 = .ok (.aload_n 3, 1) := by decide +kernel
theorem dX10_made_31 : decode cX10_made 31 = .ok (.iload_n 2, 1) := by decide +kernel
theorem dX10_made_32 : decode cX10_made 32 = .ok (.aload_n 0, 1) := by decide +kernel
theorem dX10_made_33 : decode cX10_made 33 = .ok (.getfield 12, 3) := by decide +kernel
theorem dX10_made_36 : decode cX10_made 36 = .ok (.invokevirtual 293, 3) := by decide +kernel
theorem dX10_made_39 : decode cX10_made 39 = .ok (.goto 4, 3) := by decide +kernel
theorem dX10_made_42 : decode cX10_made 42 = .ok (.iconst (-1), 1) := by decide +kernel
theorem dX10_made_43 : decode cX10_made 43 = .ok (.ireturn, 1) := by decide +kernel
theorem dX10_begin_0 : decode cX10_begin 0 = .ok (.iload_n 1, 1) := by decide +kernel
theorem dX10_begin_1 : decode cX10_begin 1 = .ok (.iconst 0, 1) := by decide +kernel
theorem dX10_begin_2 : decode cX10_begin 2 = .ok (.bipush 20, 2) := by decide +kernel
theorem dX10_begin_4 : decode cX10_begin 4 = .ok (.invokestatic 81, 3) := by decide +kernel
theorem dX10_begin_7 : decode cX10_begin 7 = .ok (.ifCond .eq 24, 3) := by decide +kernel
theorem dX10_begin_10 : decode cX10_begin 10 = .ok (.iload_n 2, 1) := by decide +kernel
theorem dX10_begin_11 : decode cX10_begin 11 = .ok (.iconst 0, 1) := by decide +kernel
theorem dX10_begin_12 : decode cX10_begin 12 = .ok (.sipush 999, 3) := by decide +kernel
theorem dX10_begin_15 : decode cX10_begin 15 = .ok (.invokestatic 81, 3) := by decide +kernel
theorem dX10_begin_18 : decode cX10_begin 18 = .ok (.ifCond .eq 13, 3) := by decide +kernel
theorem dX10_begin_21 : decode cX10_begin 21 = .ok (.iload_n 3, 1) := by decide +kernel
theorem dX10_begin_22 : decode cX10_begin 22 = .ok (.iconst 1, 1) := by decide +kernel
theorem dX10_begin_23 : decode cX10_begin 23 = .ok (.bipush 100, 2) := by decide +kernel
theorem dX10_begin_25 : decode cX10_begin 25 = .ok (.invokestatic 81, 3) := by decide +kernel
theorem dX10_begin_28 : decode cX10_begin 28 = .ok (.ifCond .ne 5, 3) := by decide +kernel
theorem dX10_begin_31 : decode cX10_begin 31 = .ok (.iconst (-1), 1) := by decide +kernel
theorem dX10_begin_32 : decode cX10_begin 32 = .ok (.ireturn, 1) := by decide +kernel
theorem dX10_begin_33 : decode cX10_begin 33 = .ok (.iload_n 3, 1) := by decide +kernel
theorem dX10_begin_34 : decode cX10_begin 34 = .ok (.istore 4, 2) := by decide +kernel
theorem dX10_begin_36 : decode cX10_begin 36 = .ok (.sipush 1000, 3) := by decide +kernel
theorem dX10_begin_39 : decode cX10_begin 39 = .ok (.iload_n 2, 1) := by decide +kernel
theorem dX10_begin_40 : decode cX10_begin 40 = .ok (.isub, 1) := by decide +kernel
theorem dX10_begin_41 : decode cX10_begin 41 = .ok (.istore 5, 2) := by decide +kernel
theorem dX10_begin_43 : decode cX10_begin 43 = .ok (.iconst 0, 1) := by decide +kernel
theorem dX10_begin_44 : decode cX10_begin 44 = .ok (.istore 6, 2) := by decide +kernel
theorem dX10_begin_46 : decode cX10_begin 46 = .ok (.iload 6, 2) := by decide +kernel
theorem dX10_begin_48 : decode cX10_begin 48 = .ok (.iload_n 1, 1) := by decide +kernel
theorem dX10_begin_49 : decode cX10_begin 49 = .ok (.if_icmp .ge 33, 3) := by decide +kernel
theorem dX10_begin_52 : decode cX10_begin 52 = .ok (.iload 4, 2) := by decide +kernel
theorem dX10_begin_54 : decode cX10_begin 54 = .ok (.ldc_w 297, 3) := by decide +kernel
theorem dX10_begin_57 : decode cX10_begin 57 = .ok (.if_icmp .gt 25, 3) := by decide +kernel
theorem dX10_begin_60 : decode cX10_begin 60 = .ok (.iload 4, 2) := by decide +kernel
theorem dX10_begin_62 : decode cX10_begin 62 = .ok (.sipush 1000, 3) := by decide +kernel
theorem dX10_begin_65 : decode cX10_begin 65 = .ok (.imul, 1) := by decide +kernel
theorem dX10_begin_66 : decode cX10_begin 66 = .ok (.iload 5, 2) := by decide +kernel
theorem dX10_begin_68 : decode cX10_begin 68 = .ok (.iadd, 1) := by decide +kernel
theorem dX10_begin_69 : decode cX10_begin 69 = .ok (.iconst 1, 1) := by decide +kernel
theorem dX10_begin_70 : decode cX10_begin 70 = .ok (.isub, 1) := by decide +kernel
theorem dX10_begin_71 : decode cX10_begin 71 = .ok (.iload 5, 2) := by decide +kernel
theorem dX10_begin_73 : decode cX10_begin 73 = .ok (.idiv, 1) := by decide +kernel
theorem dX10_begin_74 : decode cX10_begin 74 = .ok (.istore 4, 2) := by decide +kernel
theorem dX10_begin_76 : decode cX10_begin 76 = .ok (.iinc 6 1, 3) := by decide +kernel
theorem dX10_begin_79 : decode cX10_begin 79 = .ok (.goto (-33), 3) := by decide +kernel
theorem dX10_begin_82 : decode cX10_begin 82 = .ok (.iload 4, 2) := by decide +kernel
theorem dX10_begin_84 : decode cX10_begin 84 = .ok (.ldc_w 297, 3) := by decide +kernel
theorem dX10_begin_87 : decode cX10_begin 87 = .ok (.if_icmp .gt 8, 3) := by decide +kernel
theorem dX10_begin_90 : decode cX10_begin 90 = .ok (.iload 4, 2) := by decide +kernel
theorem dX10_begin_92 : decode cX10_begin 92 = .ok (.goto 5, 3) := by decide +kernel
theorem dX10_begin_95 : decode cX10_begin 95 = .ok (.bipush (-4), 2) := by decide +kernel
theorem dX10_begin_97 : decode cX10_begin 97 = .ok (.ireturn, 1) := by decide +kernel
theorem dX10_shows_0 : decode cX10_shows 0 = .ok (.aload_n 0, 1) := by decide +kernel
theorem dX10_shows_1 : decode cX10_shows 1 = .ok (.iload_n 1, 1) := by decide +kernel
theorem dX10_shows_2 : decode cX10_shows 2 = .ok (.invokevirtual 203, 3) := by decide +kernel
theorem dX10_shows_5 : decode cX10_shows 5 = .ok (.ifCond .eq 47, 3) := by decide +kernel
theorem dX10_shows_8 : decode cX10_shows 8 = .ok (.aload_n 0, 1) := by decide +kernel
theorem dX10_shows_9 : decode cX10_shows 9 = .ok (.getfield 67, 3) := by decide +kernel
theorem dX10_shows_12 : decode cX10_shows 12 = .ok (.invokevirtual 246, 3) := by decide +kernel
theorem dX10_shows_15 : decode cX10_shows 15 = .ok (.ifCond .eq 37, 3) := by decide +kernel
theorem dX10_shows_18 : decode cX10_shows 18 = .ok (.aload_n 0, 1) := by decide +kernel
theorem dX10_shows_19 : decode cX10_shows 19 = .ok (.getfield 67, 3) := by decide +kernel
theorem dX10_shows_22 : decode cX10_shows 22 = .ok (.getfield 298, 3) := by decide +kernel
theorem dX10_shows_25 : decode cX10_shows 25 = .ok (.aload_n 0, 1) := by decide +kernel
theorem dX10_shows_26 : decode cX10_shows 26 = .ok (.getfield 60, 3) := by decide +kernel
theorem dX10_shows_29 : decode cX10_shows 29 = .ok (.getfield 125, 3) := by decide +kernel
theorem dX10_shows_32 : decode cX10_shows 32 = .ok (.if_icmp .gt 20, 3) := by decide +kernel
theorem dX10_shows_35 : decode cX10_shows 35 = .ok (.aload_n 0, 1) := by decide +kernel
theorem dX10_shows_36 : decode cX10_shows 36 = .ok (.getfield 67, 3) := by decide +kernel
theorem dX10_shows_39 : decode cX10_shows 39 = .ok (.getfield 299, 3) := by decide +kernel
theorem dX10_shows_42 : decode cX10_shows 42 = .ok (.aload_n 0, 1) := by decide +kernel
theorem dX10_shows_43 : decode cX10_shows 43 = .ok (.getfield 60, 3) := by decide +kernel
theorem dX10_shows_46 : decode cX10_shows 46 = .ok (.getfield 128, 3) := by decide +kernel
theorem dX10_shows_49 : decode cX10_shows 49 = .ok (.if_icmp .le 5, 3) := by decide +kernel
theorem dX10_shows_52 : decode cX10_shows 52 = .ok (.iconst (-1), 1) := by decide +kernel
theorem dX10_shows_53 : decode cX10_shows 53 = .ok (.ireturn, 1) := by decide +kernel
theorem dX10_shows_54 : decode cX10_shows 54 = .ok (.aload_n 0, 1) := by decide +kernel
theorem dX10_shows_55 : decode cX10_shows 55 = .ok (.getfield 67, 3) := by decide +kernel
theorem dX10_shows_58 : decode cX10_shows 58 = .ok (.aload_n 0, 1) := by decide +kernel
theorem dX10_shows_59 : decode cX10_shows 59 = .ok (.getfield 25, 3) := by decide +kernel
theorem dX10_shows_62 : decode cX10_shows 62 = .ok (.iload_n 1, 1) := by decide +kernel
theorem dX10_shows_63 : decode cX10_shows 63 = .ok (.aaload, 1) := by decide +kernel
theorem dX10_shows_64 : decode cX10_shows 64 = .ok (.invokevirtual 300, 3) := by decide +kernel
theorem dX10_shows_67 : decode cX10_shows 67 = .ok (.invokestatic 185, 3) := by decide +kernel
theorem dX10_shows_70 : decode cX10_shows 70 = .ok (.ireturn, 1) := by decide +kernel
theorem dX10_count_0 : decode cX10_count 0 = .ok (.iload_n 1, 1) := by decide +kernel
theorem dX10_count_1 : decode cX10_count 1 = .ok (.tableswitch 103 0 6 #[43, 51, 56, 61, 66, 71, 79], 43) := by decide +kernel
theorem dX10_count_44 : decode cX10_count 44 = .ok (.aload_n 0, 1) := by decide +kernel
theorem dX10_count_45 : decode cX10_count 45 = .ok (.getfield 60, 3) := by decide +kernel
theorem dX10_count_48 : decode cX10_count 48 = .ok (.getfield 150, 3) := by decide +kernel
theorem dX10_count_51 : decode cX10_count 51 = .ok (.ireturn, 1) := by decide +kernel
theorem dX10_count_52 : decode cX10_count 52 = .ok (.aload_n 0, 1) := by decide +kernel
theorem dX10_count_53 : decode cX10_count 53 = .ok (.getfield 71, 3) := by decide +kernel
theorem dX10_count_56 : decode cX10_count 56 = .ok (.ireturn, 1) := by decide +kernel
theorem dX10_count_57 : decode cX10_count 57 = .ok (.aload_n 0, 1) := by decide +kernel
theorem dX10_count_58 : decode cX10_count 58 = .ok (.invokevirtual 304, 3) := by decide +kernel
theorem dX10_count_61 : decode cX10_count 61 = .ok (.ireturn, 1) := by decide +kernel
theorem dX10_count_62 : decode cX10_count 62 = .ok (.aload_n 0, 1) := by decide +kernel
theorem dX10_count_63 : decode cX10_count 63 = .ok (.getfield 75, 3) := by decide +kernel
theorem dX10_count_66 : decode cX10_count 66 = .ok (.ireturn, 1) := by decide +kernel
theorem dX10_count_67 : decode cX10_count 67 = .ok (.aload_n 0, 1) := by decide +kernel
theorem dX10_count_68 : decode cX10_count 68 = .ok (.getfield 78, 3) := by decide +kernel
theorem dX10_count_71 : decode cX10_count 71 = .ok (.ireturn, 1) := by decide +kernel
theorem dX10_count_72 : decode cX10_count 72 = .ok (.aload_n 0, 1) := by decide +kernel
theorem dX10_count_73 : decode cX10_count 73 = .ok (.getfield 60, 3) := by decide +kernel
theorem dX10_count_76 : decode cX10_count 76 = .ok (.invokevirtual 307, 3) := by decide +kernel
theorem dX10_count_79 : decode cX10_count 79 = .ok (.ireturn, 1) := by decide +kernel
theorem dX10_count_80 : decode cX10_count 80 = .ok (.aload_n 0, 1) := by decide +kernel
theorem dX10_count_81 : decode cX10_count 81 = .ok (.getfield 60, 3) := by decide +kernel
theorem dX10_count_84 : decode cX10_count 84 = .ok (.getfield 125, 3) := by decide +kernel
theorem dX10_count_87 : decode cX10_count 87 = .ok (.aload_n 0, 1) := by decide +kernel
theorem dX10_count_88 : decode cX10_count 88 = .ok (.getfield 60, 3) := by decide +kernel
theorem dX10_count_91 : decode cX10_count 91 = .ok (.getfield 128, 3) := by decide +kernel
theorem dX10_count_94 : decode cX10_count 94 = .ok (.imul, 1) := by decide +kernel
theorem dX10_count_95 : decode cX10_count 95 = .ok (.aload_n 0, 1) := by decide +kernel
theorem dX10_count_96 : decode cX10_count 96 = .ok (.getfield 60, 3) := by decide +kernel
theorem dX10_count_99 : decode cX10_count 99 = .ok (.invokevirtual 307, 3) := by decide +kernel
theorem dX10_count_102 : decode cX10_count 102 = .ok (.isub, 1) := by decide +kernel
theorem dX10_count_103 : decode cX10_count 103 = .ok (.ireturn, 1) := by decide +kernel
theorem dX10_count_104 : decode cX10_count 104 = .ok (.iconst (-1), 1) := by decide +kernel
theorem dX10_count_105 : decode cX10_count 105 = .ok (.ireturn, 1) := by decide +kernel
theorem dX10_within_0 : decode cX10_within 0 = .ok (.iload_n 0, 1) := by decide +kernel
theorem dX10_within_1 : decode cX10_within 1 = .ok (.iload_n 1, 1) := by decide +kernel
theorem dX10_within_2 : decode cX10_within 2 = .ok (.if_icmp .lt 12, 3) := by decide +kernel
theorem dX10_within_5 : decode cX10_within 5 = .ok (.iload_n 0, 1) := by decide +kernel
theorem dX10_within_6 : decode cX10_within 6 = .ok (.iload_n 2, 1) := by decide +kernel
theorem dX10_within_7 : decode cX10_within 7 = .ok (.if_icmp .gt 7, 3) := by decide +kernel
theorem dX10_within_10 : decode cX10_within 10 = .ok (.iconst 1, 1) := by decide +kernel
theorem dX10_within_11 : decode cX10_within 11 = .ok (.goto 4, 3) := by decide +kernel
theorem dX10_within_14 : decode cX10_within 14 = .ok (.iconst 0, 1) := by decide +kernel
theorem dX10_within_15 : decode cX10_within 15 = .ok (.ireturn, 1) := by decide +kernel
theorem dX10_isInk_0 : decode cX10_isInk 0 = .ok (.iload_n 0, 1) := by decide +kernel
theorem dX10_isInk_1 : decode cX10_isInk 1 = .ok (.iconst 0, 1) := by decide +kernel
theorem dX10_isInk_2 : decode cX10_isInk 2 = .ok (.bipush 9, 2) := by decide +kernel
theorem dX10_isInk_4 : decode cX10_isInk 4 = .ok (.invokestatic 81, 3) := by decide +kernel
theorem dX10_isInk_7 : decode cX10_isInk 7 = .ok (.ireturn, 1) := by decide +kernel
theorem dX10_isColour_0 : decode cX10_isColour 0 = .ok (.iload_n 0, 1) := by decide +kernel
theorem dX10_isColour_1 : decode cX10_isColour 1 = .ok (.iconst 0, 1) := by decide +kernel
theorem dX10_isColour_2 : decode cX10_isColour 2 = .ok (.bipush 15, 2) := by decide +kernel
theorem dX10_isColour_4 : decode cX10_isColour 4 = .ok (.invokestatic 81, 3) := by decide +kernel
theorem dX10_isColour_7 : decode cX10_isColour 7 = .ok (.ireturn, 1) := by decide +kernel
theorem dX10_isInkSet_0 : decode cX10_isInkSet 0 = .ok (.iload_n 0, 1) := by decide +kernel
theorem dX10_isInkSet_1 : decode cX10_isInkSet 1 = .ok (.iconst 0, 1) := by decide +kernel
theorem dX10_isInkSet_2 : decode cX10_isInkSet 2 = .ok (.sipush 1023, 3) := by decide +kernel
theorem dX10_isInkSet_5 : decode cX10_isInkSet 5 = .ok (.invokestatic 81, 3) := by decide +kernel
theorem dX10_isInkSet_8 : decode cX10_isInkSet 8 = .ok (.ireturn, 1) := by decide +kernel
theorem dX10_has_0 : decode cX10_has 0 = .ok (.iload_n 0, 1) := by decide +kernel
theorem dX10_has_1 : decode cX10_has 1 = .ok (.iload_n 1, 1) := by decide +kernel
theorem dX10_has_2 : decode cX10_has 2 = .ok (.iushr, 1) := by decide +kernel
theorem dX10_has_3 : decode cX10_has 3 = .ok (.iconst 1, 1) := by decide +kernel
theorem dX10_has_4 : decode cX10_has 4 = .ok (.iand, 1) := by decide +kernel
theorem dX10_has_5 : decode cX10_has 5 = .ok (.iconst 1, 1) := by decide +kernel
theorem dX10_has_6 : decode cX10_has 6 = .ok (.if_icmp .ne 7, 3) := by decide +kernel
theorem dX10_has_9 : decode cX10_has 9 = .ok (.iconst 1, 1) := by decide +kernel
theorem dX10_has_10 : decode cX10_has 10 = .ok (.goto 4, 3) := by decide +kernel
theorem dX10_has_13 : decode cX10_has 13 = .ok (.iconst 0, 1) := by decide +kernel
theorem dX10_has_14 : decode cX10_has 14 = .ok (.ireturn, 1) := by decide +kernel
theorem dX10_withoutPaper_0 : decode cX10_withoutPaper 0 = .ok (.iload_n 0, 1) := by decide +kernel
theorem dX10_withoutPaper_1 : decode cX10_withoutPaper 1 = .ok (.bipush (-2), 2) := by decide +kernel
theorem dX10_withoutPaper_3 : decode cX10_withoutPaper 3 = .ok (.iand, 1) := by decide +kernel
theorem dX10_withoutPaper_4 : decode cX10_withoutPaper 4 = .ok (.ireturn, 1) := by decide +kernel
theorem dX10_answer_0 : decode cX10_answer 0 = .ok (.iload_n 0, 1) := by decide +kernel
theorem dX10_answer_1 : decode cX10_answer 1 = .ok (.ifCond .eq 7, 3) := by decide +kernel
theorem dX10_answer_4 : decode cX10_answer 4 = .ok (.iconst 1, 1) := by decide +kernel
theorem dX10_answer_5 : decode cX10_answer 5 = .ok (.goto 4, 3) := by decide +kernel
theorem dX10_answer_8 : decode cX10_answer 8 = .ok (.iconst 0, 1) := by decide +kernel
theorem dX10_answer_9 : decode cX10_answer 9 = .ok (.ireturn, 1) := by decide +kernel
theorem dX10_replace_0 : decode cX10_replace 0 = .ok (.aload_n 0, 1) := by decide +kernel
theorem dX10_replace_1 : decode cX10_replace 1 = .ok (.iload_n 1, 1) := by decide +kernel
theorem dX10_replace_2 : decode cX10_replace 2 = .ok (.iaload, 1) := by decide +kernel
theorem dX10_replace_3 : decode cX10_replace 3 = .ok (.istore_n 3, 1) := by decide +kernel
theorem dX10_replace_4 : decode cX10_replace 4 = .ok (.aload_n 0, 1) := by decide +kernel
theorem dX10_replace_5 : decode cX10_replace 5 = .ok (.iload_n 1, 1) := by decide +kernel
theorem dX10_replace_6 : decode cX10_replace 6 = .ok (.iload_n 2, 1) := by decide +kernel
theorem dX10_replace_7 : decode cX10_replace 7 = .ok (.iastore, 1) := by decide +kernel
theorem dX10_replace_8 : decode cX10_replace 8 = .ok (.iload_n 3, 1) := by decide +kernel
theorem dX10_replace_9 : decode cX10_replace 9 = .ok (.ireturn, 1) := by decide +kernel
theorem dX10_isSheet_0 : decode cX10_isSheet 0 = .ok (.iload_n 1, 1) := by decide +kernel
theorem dX10_isSheet_1 : decode cX10_isSheet 1 = .ok (.iconst 0, 1) := by decide +kernel
theorem dX10_isSheet_2 : decode cX10_isSheet 2 = .ok (.aload_n 0, 1) := by decide +kernel
theorem dX10_isSheet_3 : decode cX10_isSheet 3 = .ok (.getfield 71, 3) := by decide +kernel
theorem dX10_isSheet_6 : decode cX10_isSheet 6 = .ok (.iconst 1, 1) := by decide +kernel
theorem dX10_isSheet_7 : decode cX10_isSheet 7 = .ok (.isub, 1) := by decide +kernel
theorem dX10_isSheet_8 : decode cX10_isSheet 8 = .ok (.invokestatic 81, 3) := by decide +kernel
theorem dX10_isSheet_11 : decode cX10_isSheet 11 = .ok (.ireturn, 1) := by decide +kernel
theorem dX10_firstOf_0 : decode cX10_firstOf 0 = .ok (.iload_n 0, 1) := by decide +kernel
theorem dX10_firstOf_1 : decode cX10_firstOf 1 = .ok (.bipush 100, 2) := by decide +kernel
theorem dX10_firstOf_3 : decode cX10_firstOf 3 = .ok (.idiv, 1) := by decide +kernel
theorem dX10_firstOf_4 : decode cX10_firstOf 4 = .ok (.ireturn, 1) := by decide +kernel
theorem dX10_lastOf_0 : decode cX10_lastOf 0 = .ok (.iload_n 0, 1) := by decide +kernel
theorem dX10_lastOf_1 : decode cX10_lastOf 1 = .ok (.bipush 100, 2) := by decide +kernel
theorem dX10_lastOf_3 : decode cX10_lastOf 3 = .ok (.irem, 1) := by decide +kernel
theorem dX10_lastOf_4 : decode cX10_lastOf 4 = .ok (.ireturn, 1) := by decide +kernel
theorem dX10_areSheets_0 : decode cX10_areSheets 0 = .ok (.iload_n 1, 1) := by decide +kernel
theorem dX10_areSheets_1 : decode cX10_areSheets 1 = .ok (.ifCond .lt 29, 3) := by decide +kernel
theorem dX10_areSheets_4 : decode cX10_areSheets 4 = .ok (.iload_n 1, 1) := by decide +kernel
theorem dX10_areSheets_5 : decode cX10_areSheets 5 = .ok (.invokestatic 229, 3) := by decide +kernel
theorem dX10_areSheets_8 : decode cX10_areSheets 8 = .ok (.iload_n 1, 1) := by decide +kernel
theorem dX10_areSheets_9 : decode cX10_areSheets 9 = .ok (.invokestatic 232, 3) := by decide +kernel
theorem dX10_areSheets_12 : decode cX10_areSheets 12 = .ok (.if_icmp .gt 18, 3) := by decide +kernel
theorem dX10_areSheets_15 : decode cX10_areSheets 15 = .ok (.aload_n 0, 1) := by decide +kernel
theorem dX10_areSheets_16 : decode cX10_areSheets 16 = .ok (.iload_n 1, 1) := by decide +kernel
theorem dX10_areSheets_17 : decode cX10_areSheets 17 = .ok (.invokestatic 232, 3) := by decide +kernel
theorem dX10_areSheets_20 : decode cX10_areSheets 20 = .ok (.invokevirtual 203, 3) := by decide +kernel
theorem dX10_areSheets_23 : decode cX10_areSheets 23 = .ok (.ifCond .eq 7, 3) := by decide +kernel
theorem dX10_areSheets_26 : decode cX10_areSheets 26 = .ok (.iconst 1, 1) := by decide +kernel
theorem dX10_areSheets_27 : decode cX10_areSheets 27 = .ok (.goto 4, 3) := by decide +kernel
theorem dX10_areSheets_30 : decode cX10_areSheets 30 = .ok (.iconst 0, 1) := by decide +kernel
theorem dX10_areSheets_31 : decode cX10_areSheets 31 = .ok (.ireturn, 1) := by decide +kernel
theorem dX10_goodSheets_0 : decode cX10_goodSheets 0 = .ok (.iconst 0, 1) := by decide +kernel
theorem dX10_goodSheets_1 : decode cX10_goodSheets 1 = .ok (.istore_n 1, 1) := by decide +kernel
theorem dX10_goodSheets_2 : decode cX10_goodSheets 2 = .ok (.iconst 0, 1) := by decide +kernel
theorem dX10_goodSheets_3 : decode cX10_goodSheets 3 = .ok (.istore_n 2, 1) := by decide +kernel
theorem dX10_goodSheets_4 : decode cX10_goodSheets 4 = .ok (.iload_n 2, 1) := by decide +kernel
theorem dX10_goodSheets_5 : decode cX10_goodSheets 5 = .ok (.aload_n 0, 1) := by decide +kernel
theorem dX10_goodSheets_6 : decode cX10_goodSheets 6 = .ok (.getfield 71, 3) := by decide +kernel
theorem dX10_goodSheets_9 : decode cX10_goodSheets 9 = .ok (.if_icmp .ge 24, 3) := by decide +kernel
theorem dX10_goodSheets_12 : decode cX10_goodSheets 12 = .ok (.iload_n 1, 1) := by decide +kernel
theorem dX10_goodSheets_13 : decode cX10_goodSheets 13 = .ok (.aload_n 0, 1) := by decide +kernel
theorem dX10_goodSheets_14 : decode cX10_goodSheets 14 = .ok (.getfield 25, 3) := by decide +kernel
theorem dX10_goodSheets_17 : decode cX10_goodSheets 17 = .ok (.iload_n 2, 1) := by decide +kernel
theorem dX10_goodSheets_18 : decode cX10_goodSheets 18 = .ok (.aaload, 1) := by decide +kernel
theorem dX10_goodSheets_19 : decode cX10_goodSheets 19 = .ok (.getfield 218, 3) := by decide +kernel
theorem dX10_goodSheets_22 : decode cX10_goodSheets 22 = .ok (.invokestatic 185, 3) := by decide +kernel
theorem dX10_goodSheets_25 : decode cX10_goodSheets 25 = .ok (.iadd, 1) := by decide +kernel
theorem dX10_goodSheets_26 : decode cX10_goodSheets 26 = .ok (.istore_n 1, 1) := by decide +kernel
theorem dX10_goodSheets_27 : decode cX10_goodSheets 27 = .ok (.iinc 2 1, 3) := by decide +kernel
theorem dX10_goodSheets_30 : decode cX10_goodSheets 30 = .ok (.goto (-26), 3) := by decide +kernel
theorem dX10_goodSheets_33 : decode cX10_goodSheets 33 = .ok (.iload_n 1, 1) := by decide +kernel
theorem dX10_goodSheets_34 : decode cX10_goodSheets 34 = .ok (.ireturn, 1) := by decide +kernel
theorem dX10_pullRoll_0 : decode cX10_pullRoll 0 = .ok (.aload_n 0, 1) := by decide +kernel
theorem dX10_pullRoll_1 : decode cX10_pullRoll 1 = .ok (.getfield 60, 3) := by decide +kernel
theorem dX10_pullRoll_4 : decode cX10_pullRoll 4 = .ok (.invokevirtual 85, 3) := by decide +kernel
theorem dX10_pullRoll_7 : decode cX10_pullRoll 7 = .ok (.ifCond .eq 16, 3) := by decide +kernel
theorem dX10_pullRoll_10 : decode cX10_pullRoll 10 = .ok (.iload_n 1, 1) := by decide +kernel
theorem dX10_pullRoll_11 : decode cX10_pullRoll 11 = .ok (.iconst (-1), 1) := by decide +kernel
theorem dX10_pullRoll_12 : decode cX10_pullRoll 12 = .ok (.if_icmp .eq 13, 3) := by decide +kernel
theorem dX10_pullRoll_15 : decode cX10_pullRoll 15 = .ok (.aload_n 0, 1) := by decide +kernel
theorem dX10_pullRoll_16 : decode cX10_pullRoll 16 = .ok (.iload_n 1, 1) := by decide +kernel
theorem dX10_pullRoll_17 : decode cX10_pullRoll 17 = .ok (.invokevirtual 226, 3) := by decide +kernel
theorem dX10_pullRoll_20 : decode cX10_pullRoll 20 = .ok (.ifCond .ne 5, 3) := by decide +kernel
theorem dX10_pullRoll_23 : decode cX10_pullRoll 23 = .ok (.iconst (-1), 1) := by decide +kernel
theorem dX10_pullRoll_24 : decode cX10_pullRoll 24 = .ok (.ireturn, 1) := by decide +kernel
theorem dX10_pullRoll_25 : decode cX10_pullRoll 25 = .ok (.aload_n 0, 1) := by decide +kernel
theorem dX10_pullRoll_26 : decode cX10_pullRoll 26 = .ok (.getfield 75, 3) := by decide +kernel
theorem dX10_pullRoll_29 : decode cX10_pullRoll 29 = .ok (.sipush 200, 3) := by decide +kernel
theorem dX10_pullRoll_32 : decode cX10_pullRoll 32 = .ok (.if_icmp .ne 6, 3) := by decide +kernel
theorem dX10_pullRoll_35 : decode cX10_pullRoll 35 = .ok (.bipush (-2), 2) := by decide +kernel
theorem dX10_pullRoll_37 : decode cX10_pullRoll 37 = .ok (.ireturn, 1) := by decide +kernel
theorem dX10_pullRoll_38 : decode cX10_pullRoll 38 = .ok (.iconst 0, 1) := by decide +kernel
theorem dX10_pullRoll_39 : decode cX10_pullRoll 39 = .ok (.istore_n 3, 1) := by decide +kernel
theorem dX10_pullRoll_40 : decode cX10_pullRoll 40 = .ok (.iconst 0, 1) := by decide +kernel
theorem dX10_pullRoll_41 : decode cX10_pullRoll 41 = .ok (.istore 4, 2) := by decide +kernel
theorem dX10_pullRoll_43 : decode cX10_pullRoll 43 = .ok (.iload_n 1, 1) := by decide +kernel
theorem dX10_pullRoll_44 : decode cX10_pullRoll 44 = .ok (.iconst (-1), 1) := by decide +kernel
theorem dX10_pullRoll_45 : decode cX10_pullRoll 45 = .ok (.if_icmp .eq 25, 3) := by decide +kernel
theorem dX10_pullRoll_48 : decode cX10_pullRoll 48 = .ok (.aload_n 0, 1) := by decide +kernel
theorem dX10_pullRoll_49 : decode cX10_pullRoll 49 = .ok (.getfield 60, 3) := by decide +kernel
theorem dX10_pullRoll_52 : decode cX10_pullRoll 52 = .ok (.invokevirtual 169, 3) := by decide +kernel
theorem dX10_pullRoll_55 : decode cX10_pullRoll 55 = .ok (.istore_n 3, 1) := by decide +kernel
theorem dX10_pullRoll_56 : decode cX10_pullRoll 56 = .ok (.aload_n 0, 1) := by decide +kernel
theorem dX10_pullRoll_57 : decode cX10_pullRoll 57 = .ok (.iload_n 1, 1) := by decide +kernel
theorem dX10_pullRoll_58 : decode cX10_pullRoll 58 = .ok (.invokestatic 229, 3) := by decide +kernel
theorem dX10_pullRoll_61 : decode cX10_pullRoll 61 = .ok (.iload_n 1, 1) := by decide +kernel
theorem dX10_pullRoll_62 : decode cX10_pullRoll 62 = .ok (.invokestatic 232, 3) := by decide +kernel
theorem dX10_pullRoll_65 : decode cX10_pullRoll 65 = .ok (.invokevirtual 310, 3) := by decide +kernel
theorem dX10_pullRoll_68 : decode cX10_pullRoll 68 = .ok (.istore 4, 2) := by decide +kernel
theorem dX10_pullRoll_70 : decode cX10_pullRoll 70 = .ok (.aload_n 0, 1) := by decide +kernel
theorem dX10_pullRoll_71 : decode cX10_pullRoll 71 = .ok (.getfield 31, 3) := by decide +kernel
theorem dX10_pullRoll_74 : decode cX10_pullRoll 74 = .ok (.aload_n 0, 1) := by decide +kernel
theorem dX10_pullRoll_75 : decode cX10_pullRoll 75 = .ok (.getfield 75, 3) := by decide +kernel
theorem dX10_pullRoll_78 : decode cX10_pullRoll 78 = .ok (.new 29, 3) := by decide +kernel
theorem dX10_pullRoll_81 : decode cX10_pullRoll 81 = .ok (.dup, 1) := by decide +kernel
theorem dX10_pullRoll_82 : decode cX10_pullRoll 82 = .ok (.iload_n 2, 1) := by decide +kernel
theorem dX10_pullRoll_83 : decode cX10_pullRoll 83 = .ok (.aload_n 0, 1) := by decide +kernel
theorem dX10_pullRoll_84 : decode cX10_pullRoll 84 = .ok (.getfield 78, 3) := by decide +kernel
theorem dX10_pullRoll_87 : decode cX10_pullRoll 87 = .ok (.iload_n 1, 1) := by decide +kernel
theorem dX10_pullRoll_88 : decode cX10_pullRoll 88 = .ok (.iload_n 3, 1) := by decide +kernel
theorem dX10_pullRoll_89 : decode cX10_pullRoll 89 = .ok (.iload 4, 2) := by decide +kernel
theorem dX10_pullRoll_91 : decode cX10_pullRoll 91 = .ok (.invokespecial 313, 3) := by decide +kernel
theorem dX10_pullRoll_94 : decode cX10_pullRoll 94 = .ok (.aastore, 1) := by decide +kernel
theorem dX10_pullRoll_95 : decode cX10_pullRoll 95 = .ok (.aload_n 0, 1) := by decide +kernel
theorem dX10_pullRoll_96 : decode cX10_pullRoll 96 = .ok (.dup, 1) := by decide +kernel
theorem dX10_pullRoll_97 : decode cX10_pullRoll 97 = .ok (.getfield 75, 3) := by decide +kernel
theorem dX10_pullRoll_100 : decode cX10_pullRoll 100 = .ok (.iconst 1, 1) := by decide +kernel
theorem dX10_pullRoll_101 : decode cX10_pullRoll 101 = .ok (.iadd, 1) := by decide +kernel
theorem dX10_pullRoll_102 : decode cX10_pullRoll 102 = .ok (.putfield 75, 3) := by decide +kernel
theorem dX10_pullRoll_105 : decode cX10_pullRoll 105 = .ok (.aload_n 0, 1) := by decide +kernel
theorem dX10_pullRoll_106 : decode cX10_pullRoll 106 = .ok (.getfield 75, 3) := by decide +kernel
theorem dX10_pullRoll_109 : decode cX10_pullRoll 109 = .ok (.iconst 1, 1) := by decide +kernel
theorem dX10_pullRoll_110 : decode cX10_pullRoll 110 = .ok (.isub, 1) := by decide +kernel
theorem dX10_pullRoll_111 : decode cX10_pullRoll 111 = .ok (.ireturn, 1) := by decide +kernel
theorem dX10_pullSheets_0 : decode cX10_pullSheets 0 = .ok (.iconst 0, 1) := by decide +kernel
theorem dX10_pullSheets_1 : decode cX10_pullSheets 1 = .ok (.istore_n 3, 1) := by decide +kernel
theorem dX10_pullSheets_2 : decode cX10_pullSheets 2 = .ok (.iload_n 1, 1) := by decide +kernel
theorem dX10_pullSheets_3 : decode cX10_pullSheets 3 = .ok (.istore 4, 2) := by decide +kernel
theorem dX10_pullSheets_5 : decode cX10_pullSheets 5 = .ok (.iload 4, 2) := by decide +kernel
theorem dX10_pullSheets_7 : decode cX10_pullSheets 7 = .ok (.iload_n 2, 1) := by decide +kernel
theorem dX10_pullSheets_8 : decode cX10_pullSheets 8 = .ok (.if_icmp .gt 73, 3) := by decide +kernel
theorem dX10_pullSheets_11 : decode cX10_pullSheets 11 = .ok (.aload_n 0, 1) := by decide +kernel
theorem dX10_pullSheets_12 : decode cX10_pullSheets 12 = .ok (.getfield 25, 3) := by decide +kernel
theorem dX10_pullSheets_15 : decode cX10_pullSheets 15 = .ok (.iload 4, 2) := by decide +kernel
theorem dX10_pullSheets_17 : decode cX10_pullSheets 17 = .ok (.aaload, 1) := by decide +kernel
theorem dX10_pullSheets_18 : decode cX10_pullSheets 18 = .ok (.astore 5, 2) := by decide +kernel
theorem dX10_pullSheets_20 : decode cX10_pullSheets 20 = .ok (.aload 5, 2) := by decide +kernel
theorem dX10_pullSheets_22 : decode cX10_pullSheets 22 = .ok (.getfield 218, 3) := by decide +kernel
theorem dX10_pullSheets_25 : decode cX10_pullSheets 25 = .ok (.ifCond .ne 6, 3) := by decide +kernel
theorem dX10_pullSheets_28 : decode cX10_pullSheets 28 = .ok (.goto 47, 3) := by decide +kernel
theorem dX10_pullSheets_31 : decode cX10_pullSheets 31 = .ok (.aload_n 0, 1) := by decide +kernel
theorem dX10_pullSheets_32 : decode cX10_pullSheets 32 = .ok (.getfield 19, 3) := by decide +kernel
theorem dX10_pullSheets_35 : decode cX10_pullSheets 35 = .ok (.invokevirtual 316, 3) := by decide +kernel
theorem dX10_pullSheets_38 : decode cX10_pullSheets 38 = .ok (.ifCond .eq 12, 3) := by decide +kernel
theorem dX10_pullSheets_41 : decode cX10_pullSheets 41 = .ok (.aload 5, 2) := by decide +kernel
theorem dX10_pullSheets_43 : decode cX10_pullSheets 43 = .ok (.iconst 0, 1) := by decide +kernel
theorem dX10_pullSheets_44 : decode cX10_pullSheets 44 = .ok (.putfield 218, 3) := by decide +kernel
theorem dX10_pullSheets_47 : decode cX10_pullSheets 47 = .ok (.goto 9, 3) := by decide +kernel
theorem dX10_pullSheets_50 : decode cX10_pullSheets 50 = .ok (.aload_n 0, 1) := by decide +kernel
theorem dX10_pullSheets_51 : decode cX10_pullSheets 51 = .ok (.aload 5, 2) := by decide +kernel
theorem dX10_pullSheets_53 : decode cX10_pullSheets 53 = .ok (.invokevirtual 319, 3) := by decide +kernel
theorem dX10_pullSheets_56 : decode cX10_pullSheets 56 = .ok (.iload_n 3, 1) := by decide +kernel
theorem dX10_pullSheets_57 : decode cX10_pullSheets 57 = .ok (.aload 5, 2) := by decide +kernel
theorem dX10_pullSheets_59 : decode cX10_pullSheets 59 = .ok (.getfield 218, 3) := by decide +kernel
theorem dX10_pullSheets_62 : decode cX10_pullSheets 62 = .ok (.ifCond .ne 7, 3) := by decide +kernel
theorem dX10_pullSheets_65 : decode cX10_pullSheets 65 = .ok (.iconst 1, 1) := by decide +kernel
theorem dX10_pullSheets_66 : decode cX10_pullSheets 66 = .ok (.goto 4, 3) := by decide +kernel
theorem dX10_pullSheets_69 : decode cX10_pullSheets 69 = .ok (.iconst 0, 1) := by decide +kernel
theorem dX10_pullSheets_70 : decode cX10_pullSheets 70 = .ok (.invokestatic 185, 3) := by decide +kernel
theorem dX10_pullSheets_73 : decode cX10_pullSheets 73 = .ok (.iadd, 1) := by decide +kernel
theorem dX10_pullSheets_74 : decode cX10_pullSheets 74 = .ok (.istore_n 3, 1) := by decide +kernel
theorem dX10_pullSheets_75 : decode cX10_pullSheets 75 = .ok (.iinc 4 1, 3) := by decide +kernel
theorem dX10_pullSheets_78 : decode cX10_pullSheets 78 = .ok (.goto (-73), 3) := by decide +kernel
theorem dX10_pullSheets_81 : decode cX10_pullSheets 81 = .ok (.iload_n 3, 1) := by decide +kernel
theorem dX10_pullSheets_82 : decode cX10_pullSheets 82 = .ok (.ireturn, 1) := by decide +kernel
theorem dX10_layRoll_0 : decode cX10_layRoll 0 = .ok (.iconst 0, 1) := by decide +kernel
theorem dX10_layRoll_1 : decode cX10_layRoll 1 = .ok (.istore_n 2, 1) := by decide +kernel
theorem dX10_layRoll_2 : decode cX10_layRoll 2 = .ok (.iload_n 2, 1) := by decide +kernel
theorem dX10_layRoll_3 : decode cX10_layRoll 3 = .ok (.bipush 64, 2) := by decide +kernel
theorem dX10_layRoll_5 : decode cX10_layRoll 5 = .ok (.if_icmp .ge 52, 3) := by decide +kernel
theorem dX10_layRoll_8 : decode cX10_layRoll 8 = .ok (.aload_n 0, 1) := by decide +kernel
theorem dX10_layRoll_9 : decode cX10_layRoll 9 = .ok (.getfield 60, 3) := by decide +kernel
theorem dX10_layRoll_12 : decode cX10_layRoll 12 = .ok (.iload_n 2, 1) := by decide +kernel
theorem dX10_layRoll_13 : decode cX10_layRoll 13 = .ok (.invokevirtual 323, 3) := by decide +kernel
theorem dX10_layRoll_16 : decode cX10_layRoll 16 = .ok (.ifCond .eq 35, 3) := by decide +kernel
theorem dX10_layRoll_19 : decode cX10_layRoll 19 = .ok (.aload_n 1, 1) := by decide +kernel
theorem dX10_layRoll_20 : decode cX10_layRoll 20 = .ok (.aload_n 0, 1) := by decide +kernel
theorem dX10_layRoll_21 : decode cX10_layRoll 21 = .ok (.getfield 35, 3) := by decide +kernel
theorem dX10_layRoll_24 : decode cX10_layRoll 24 = .ok (.iload_n 2, 1) := by decide +kernel
theorem dX10_layRoll_25 : decode cX10_layRoll 25 = .ok (.bipush 8, 2) := by decide +kernel
theorem dX10_layRoll_27 : decode cX10_layRoll 27 = .ok (.irem, 1) := by decide +kernel
theorem dX10_layRoll_28 : decode cX10_layRoll 28 = .ok (.iaload, 1) := by decide +kernel
theorem dX10_layRoll_29 : decode cX10_layRoll 29 = .ok (.iload_n 2, 1) := by decide +kernel
theorem dX10_layRoll_30 : decode cX10_layRoll 30 = .ok (.aload_n 0, 1) := by decide +kernel
theorem dX10_layRoll_31 : decode cX10_layRoll 31 = .ok (.getfield 12, 3) := by decide +kernel
theorem dX10_layRoll_34 : decode cX10_layRoll 34 = .ok (.aload_n 0, 1) := by decide +kernel
theorem dX10_layRoll_35 : decode cX10_layRoll 35 = .ok (.getfield 78, 3) := by decide +kernel
theorem dX10_layRoll_38 : decode cX10_layRoll 38 = .ok (.invokevirtual 326, 3) := by decide +kernel
theorem dX10_layRoll_41 : decode cX10_layRoll 41 = .ok (.aload_n 1, 1) := by decide +kernel
theorem dX10_layRoll_42 : decode cX10_layRoll 42 = .ok (.getfield 209, 3) := by decide +kernel
theorem dX10_layRoll_45 : decode cX10_layRoll 45 = .ok (.iload_n 2, 1) := by decide +kernel
theorem dX10_layRoll_46 : decode cX10_layRoll 46 = .ok (.aload_n 0, 1) := by decide +kernel
theorem dX10_layRoll_47 : decode cX10_layRoll 47 = .ok (.getfield 75, 3) := by decide +kernel
theorem dX10_layRoll_50 : decode cX10_layRoll 50 = .ok (.iastore, 1) := by decide +kernel
theorem dX10_layRoll_51 : decode cX10_layRoll 51 = .ok (.iinc 2 1, 3) := by decide +kernel
theorem dX10_layRoll_54 : decode cX10_layRoll 54 = .ok (.goto (-52), 3) := by decide +kernel
theorem dX10_layRoll_57 : decode cX10_layRoll 57 = .ok (.return_, 1) := by decide +kernel
end
section
theorem dX11_init_0 : decode cX11_init 0 = .ok (.aload_n 0, 1) := by decide +kernel
theorem dX11_init_1 : decode cX11_init 1 = .ok (.invokespecial 1, 3) := by decide +kernel
theorem dX11_init_4 : decode cX11_init 4 = .ok (.aload_n 0, 1) := by decide +kernel
theorem dX11_init_5 : decode cX11_init 5 = .ok (.sipush 160, 3) := by decide +kernel
theorem dX11_init_8 : decode cX11_init 8 = .ok (.newarray .int, 2) := by decide +kernel
theorem dX11_init_10 : decode cX11_init 10 = .ok (.putfield 9, 3) := by decide +kernel
theorem dX11_init_13 : decode cX11_init 13 = .ok (.aload_n 0, 1) := by decide +kernel
theorem dX11_init_14 : decode cX11_init 14 = .ok (.bipush 10, 2) := by decide +kernel
theorem dX11_init_16 : decode cX11_init 16 = .ok (.newarray .int, 2) := by decide +kernel
theorem dX11_init_18 : decode cX11_init 18 = .ok (.putfield 13, 3) := by decide +kernel
theorem dX11_init_21 : decode cX11_init 21 = .ok (.aload_n 0, 1) := by decide +kernel
theorem dX11_init_22 : decode cX11_init 22 = .ok (.bipush 100, 2) := by decide +kernel
theorem dX11_init_24 : decode cX11_init 24 = .ok (.newarray .boolean, 2) := by decide +kernel
theorem dX11_init_26 : decode cX11_init 26 = .ok (.putfield 16, 3) := by decide +kernel
theorem dX11_init_29 : decode cX11_init 29 = .ok (.aload_n 0, 1) := by decide +kernel
theorem dX11_init_30 : decode cX11_init 30 = .ok (.bipush 100, 2) := by decide +kernel
theorem dX11_init_32 : decode cX11_init 32 = .ok (.newarray .int, 2) := by decide +kernel
theorem dX11_init_34 : decode cX11_init 34 = .ok (.putfield 20, 3) := by decide +kernel
theorem dX11_init_37 : decode cX11_init 37 = .ok (.aload_n 0, 1) := by decide +kernel
theorem dX11_init_38 : decode cX11_init 38 = .ok (.bipush 64, 2) := by decide +kernel
theorem dX11_init_40 : decode cX11_init 40 = .ok (.newarray .boolean, 2) := by decide +kernel
theorem dX11_init_42 : decode cX11_init 42 = .ok (.putfield 23, 3) := by decide +kernel
theorem dX11_init_45 : decode cX11_init 45 = .ok (.aload_n 0, 1) := by decide +kernel
theorem dX11_init_46 : decode cX11_init 46 = .ok (.bipush 64, 2) := by decide +kernel
theorem dX11_init_48 : decode cX11_init 48 = .ok (.newarray .int, 2) := by decide +kernel
theorem dX11_init_50 : decode cX11_init 50 = .ok (.putfield 26, 3) := by decide +kernel
theorem dX11_init_53 : decode cX11_init 53 = .ok (.aload_n 0, 1) := by decide +kernel
theorem dX11_init_54 : decode cX11_init 54 = .ok (.bipush 8, 2) := by decide +kernel
theorem dX11_init_56 : decode cX11_init 56 = .ok (.newarray .boolean, 2) := by decide +kernel
theorem dX11_init_58 : decode cX11_init 58 = .ok (.putfield 29, 3) := by decide +kernel
theorem dX11_init_61 : decode cX11_init 61 = .ok (.aload_n 0, 1) := by decide +kernel
theorem dX11_init_62 : decode cX11_init 62 = .ok (.bipush 64, 2) := by decide +kernel
theorem dX11_init_64 : decode cX11_init 64 = .ok (.newarray .int, 2) := by decide +kernel
theorem dX11_init_66 : decode cX11_init 66 = .ok (.putfield 32, 3) := by decide +kernel
theorem dX11_init_69 : decode cX11_init 69 = .ok (.aload_n 0, 1) := by decide +kernel
theorem dX11_init_70 : decode cX11_init 70 = .ok (.sipush 1280, 3) := by decide +kernel
theorem dX11_init_73 : decode cX11_init 73 = .ok (.newarray .int, 2) := by decide +kernel
theorem dX11_init_75 : decode cX11_init 75 = .ok (.putfield 35, 3) := by decide +kernel
theorem dX11_init_78 : decode cX11_init 78 = .ok (.aload_n 0, 1) := by decide +kernel
theorem dX11_init_79 : decode cX11_init 79 = .ok (.sipush 1280, 3) := by decide +kernel
theorem dX11_init_82 : decode cX11_init 82 = .ok (.newarray .int, 2) := by decide +kernel
theorem dX11_init_84 : decode cX11_init 84 = .ok (.putfield 38, 3) := by decide +kernel
theorem dX11_init_87 : decode cX11_init 87 = .ok (.aload_n 0, 1) := by decide +kernel
theorem dX11_init_88 : decode cX11_init 88 = .ok (.sipush 1280, 3) := by decide +kernel
theorem dX11_init_91 : decode cX11_init 91 = .ok (.newarray .int, 2) := by decide +kernel
theorem dX11_init_93 : decode cX11_init 93 = .ok (.putfield 41, 3) := by decide +kernel
theorem dX11_init_96 : decode cX11_init 96 = .ok (.aload_n 0, 1) := by decide +kernel
theorem dX11_init_97 : decode cX11_init 97 = .ok (.sipush 1280, 3) := by decide +kernel
theorem dX11_init_100 : decode cX11_init 100 = .ok (.newarray .int, 2) := by decide +kernel
theorem dX11_init_102 : decode cX11_init 102 = .ok (.putfield 44, 3) := by decide +kernel
theorem dX11_init_105 : decode cX11_init 105 = .ok (.aload_n 0, 1) := by decide +kernel
theorem dX11_init_106 : decode cX11_init 106 = .ok (.sipush 1280, 3) := by decide +kernel
theorem dX11_init_109 : decode cX11_init 109 = .ok (.newarray .int, 2) := by decide +kernel
theorem dX11_init_111 : decode cX11_init 111 = .ok (.putfield 47, 3) := by decide +kernel
theorem dX11_init_114 : decode cX11_init 114 = .ok (.aload_n 0, 1) := by decide +kernel
theorem dX11_init_115 : decode cX11_init 115 = .ok (.bipush 20, 2) := by decide +kernel
theorem dX11_init_117 : decode cX11_init 117 = .ok (.newarray .boolean, 2) := by decide +kernel
theorem dX11_init_119 : decode cX11_init 119 = .ok (.putfield 50, 3) := by decide +kernel
theorem dX11_init_122 : decode cX11_init 122 = .ok (.aload_n 0, 1) := by decide +kernel
theorem dX11_init_123 : decode cX11_init 123 = .ok (.sipush 200, 3) := by decide +kernel
theorem dX11_init_126 : decode cX11_init 126 = .ok (.newarray .int, 2) := by decide +kernel
theorem dX11_init_128 : decode cX11_init 128 = .ok (.putfield 53, 3) := by decide +kernel
theorem dX11_init_131 : decode cX11_init 131 = .ok (.aload_n 0, 1) := by decide +kernel
theorem dX11_init_132 : decode cX11_init 132 = .ok (.sipush 200, 3) := by decide +kernel
theorem dX11_init_135 : decode cX11_init 135 = .ok (.newarray .int, 2) := by decide +kernel
theorem dX11_init_137 : decode cX11_init 137 = .ok (.putfield 56, 3) := by decide +kernel
theorem dX11_init_140 : decode cX11_init 140 = .ok (.aload_n 0, 1) := by decide +kernel
theorem dX11_init_141 : decode cX11_init 141 = .ok (.sipush 200, 3) := by decide +kernel
theorem dX11_init_144 : decode cX11_init 144 = .ok (.newarray .int, 2) := by decide +kernel
theorem dX11_init_146 : decode cX11_init 146 = .ok (.putfield 59, 3) := by decide +kernel
theorem dX11_init_149 : decode cX11_init 149 = .ok (.aload_n 0, 1) := by decide +kernel
theorem dX11_init_150 : decode cX11_init 150 = .ok (.sipush 200, 3) := by decide +kernel
theorem dX11_init_153 : decode cX11_init 153 = .ok (.newarray .int, 2) := by decide +kernel
theorem dX11_init_155 : decode cX11_init 155 = .ok (.putfield 62, 3) := by decide +kernel
theorem dX11_init_158 : decode cX11_init 158 = .ok (.aload_n 0, 1) := by decide +kernel
theorem dX11_init_159 : decode cX11_init 159 = .ok (.sipush 200, 3) := by decide +kernel
theorem dX11_init_162 : decode cX11_init 162 = .ok (.newarray .int, 2) := by decide +kernel
theorem dX11_init_164 : decode cX11_init 164 = .ok (.putfield 65, 3) := by decide +kernel
theorem dX11_init_167 : decode cX11_init 167 = .ok (.aload_n 0, 1) := by decide +kernel
theorem dX11_init_168 : decode cX11_init 168 = .ok (.bipush 8, 2) := by decide +kernel
theorem dX11_init_170 : decode cX11_init 170 = .ok (.newarray .int, 2) := by decide +kernel
theorem dX11_init_172 : decode cX11_init 172 = .ok (.putfield 68, 3) := by decide +kernel
theorem dX11_init_175 : decode cX11_init 175 = .ok (.aload_n 0, 1) := by decide +kernel
theorem dX11_init_176 : decode cX11_init 176 = .ok (.bipush 16, 2) := by decide +kernel
theorem dX11_init_178 : decode cX11_init 178 = .ok (.newarray .int, 2) := by decide +kernel
theorem dX11_init_180 : decode cX11_init 180 = .ok (.putfield 71, 3) := by decide +kernel
theorem dX11_init_183 : decode cX11_init 183 = .ok (.aload_n 0, 1) := by decide +kernel
theorem dX11_init_184 : decode cX11_init 184 = .ok (.iconst 5, 1) := by decide +kernel
theorem dX11_init_185 : decode cX11_init 185 = .ok (.newarray .int, 2) := by decide +kernel
theorem dX11_init_187 : decode cX11_init 187 = .ok (.putfield 74, 3) := by decide +kernel
theorem dX11_init_190 : decode cX11_init 190 = .ok (.aload_n 0, 1) := by decide +kernel
theorem dX11_init_191 : decode cX11_init 191 = .ok (.iconst 5, 1) := by decide +kernel
theorem dX11_init_192 : decode cX11_init 192 = .ok (.newarray .int, 2) := by decide +kernel
theorem dX11_init_194 : decode cX11_init 194 = .ok (.putfield 77, 3) := by decide +kernel
theorem dX11_init_197 : decode cX11_init 197 = .ok (.aload_n 0, 1) := by decide +kernel
theorem dX11_init_198 : decode cX11_init 198 = .ok (.iconst (-1), 1) := by decide +kernel
theorem dX11_init_199 : decode cX11_init 199 = .ok (.putfield 80, 3) := by decide +kernel
theorem dX11_init_202 : decode cX11_init 202 = .ok (.aload_n 0, 1) := by decide +kernel
theorem dX11_init_203 : decode cX11_init 203 = .ok (.bipush 16, 2) := by decide +kernel
theorem dX11_init_205 : decode cX11_init 205 = .ok (.newarray .int, 2) := by decide +kernel
theorem dX11_init_207 : decode cX11_init 207 = .ok (.putfield 84, 3) := by decide +kernel
theorem dX11_init_210 : decode cX11_init 210 = .ok (.aload_n 0, 1) := by decide +kernel
theorem dX11_init_211 : decode cX11_init 211 = .ok (.iconst 5, 1) := by decide +kernel
theorem dX11_init_212 : decode cX11_init 212 = .ok (.newarray .int, 2) := by decide +kernel
theorem dX11_init_214 : decode cX11_init 214 = .ok (.putfield 87, 3) := by decide +kernel
theorem dX11_init_217 : decode cX11_init 217 = .ok (.iconst 0, 1) := by decide +kernel
theorem dX11_init_218 : decode cX11_init 218 = .ok (.istore_n 1, 1) := by decide +kernel
theorem dX11_init_219 : decode cX11_init 219 = .ok (.iload_n 1, 1) := by decide +kernel
theorem dX11_init_220 : decode cX11_init 220 = .ok (.bipush 10, 2) := by decide +kernel
theorem dX11_init_222 : decode cX11_init 222 = .ok (.if_icmp .ge 45, 3) := by decide +kernel
theorem dX11_init_225 : decode cX11_init 225 = .ok (.aload_n 0, 1) := by decide +kernel
theorem dX11_init_226 : decode cX11_init 226 = .ok (.getfield 13, 3) := by decide +kernel
theorem dX11_init_229 : decode cX11_init 229 = .ok (.iload_n 1, 1) := by decide +kernel
theorem dX11_init_230 : decode cX11_init 230 = .ok (.bipush 60, 2) := by decide +kernel
theorem dX11_init_232 : decode cX11_init 232 = .ok (.iastore, 1) := by decide +kernel
theorem dX11_init_233 : decode cX11_init 233 = .ok (.iconst 0, 1) := by decide +kernel
theorem dX11_init_234 : decode cX11_init 234 = .ok (.istore_n 2, 1) := by decide +kernel
theorem dX11_init_235 : decode cX11_init 235 = .ok (.iload_n 2, 1) := by decide +kernel
theorem dX11_init_236 : decode cX11_init 236 = .ok (.bipush 16, 2) := by decide +kernel
theorem dX11_init_238 : decode cX11_init 238 = .ok (.if_icmp .ge 23, 3) := by decide +kernel
theorem dX11_init_241 : decode cX11_init 241 = .ok (.aload_n 0, 1) := by decide +kernel
theorem dX11_init_242 : decode cX11_init 242 = .ok (.getfield 9, 3) := by decide +kernel
theorem dX11_init_245 : decode cX11_init 245 = .ok (.bipush 16, 2) := by decide +kernel
theorem dX11_init_247 : decode cX11_init 247 = .ok (.iload_n 1, 1) := by decide +kernel
theorem dX11_init_248 : decode cX11_init 248 = .ok (.imul, 1) := by decide +kernel
theorem dX11_init_249 : decode cX11_init 249 = .ok (.iload_n 2, 1) := by decide +kernel
theorem dX11_init_250 : decode cX11_init 250 = .ok (.iadd, 1) := by decide +kernel
theorem dX11_init_251 : decode cX11_init 251 = .ok (.iload_n 1, 1) := by decide +kernel
theorem dX11_init_252 : decode cX11_init 252 = .ok (.iconst 1, 1) := by decide +kernel
theorem dX11_init_253 : decode cX11_init 253 = .ok (.iadd, 1) := by decide +kernel
theorem dX11_init_254 : decode cX11_init 254 = .ok (.iastore, 1) := by decide +kernel
theorem dX11_init_255 : decode cX11_init 255 = .ok (.iinc 2 1, 3) := by decide +kernel
theorem dX11_init_258 : decode cX11_init 258 = .ok (.goto (-23), 3) := by decide +kernel
theorem dX11_init_261 : decode cX11_init 261 = .ok (.iinc 1 1, 3) := by decide +kernel
theorem dX11_init_264 : decode cX11_init 264 = .ok (.goto (-45), 3) := by decide +kernel
theorem dX11_init_267 : decode cX11_init 267 = .ok (.return_, 1) := by decide +kernel
theorem dX11_within_0 : decode cX11_within 0 = .ok (.iload_n 0, 1) := by decide +kernel
theorem dX11_within_1 : decode cX11_within 1 = .ok (.iload_n 1, 1) := by decide +kernel
theorem dX11_within_2 : decode cX11_within 2 = .ok (.if_icmp .lt 12, 3) := by decide +kernel
theorem dX11_within_5 : decode cX11_within 5 = .ok (.iload_n 0, 1) := by decide +kernel
theorem dX11_within_6 : decode cX11_within 6 = .ok (.iload_n 2, 1) := by decide +kernel
theorem dX11_within_7 : decode cX11_within 7 = .ok (.if_icmp .gt 7, 3) := by decide +kernel
theorem dX11_within_10 : decode cX11_within 10 = .ok (.iconst 1, 1) := by decide +kernel
theorem dX11_within_11 : decode cX11_within 11 = .ok (.goto 4, 3) := by decide +kernel
theorem dX11_within_14 : decode cX11_within 14 = .ok (.iconst 0, 1) := by decide +kernel
theorem dX11_within_15 : decode cX11_within 15 = .ok (.ireturn, 1) := by decide +kernel
theorem dX11_isInk_0 : decode cX11_isInk 0 = .ok (.iload_n 0, 1) := by decide +kernel
theorem dX11_isInk_1 : decode cX11_isInk 1 = .ok (.iconst 0, 1) := by decide +kernel
theorem dX11_isInk_2 : decode cX11_isInk 2 = .ok (.bipush 9, 2) := by decide +kernel
theorem dX11_isInk_4 : decode cX11_isInk 4 = .ok (.invokestatic 90, 3) := by decide +kernel
theorem dX11_isInk_7 : decode cX11_isInk 7 = .ok (.ireturn, 1) := by decide +kernel
theorem dX11_isColour_0 : decode cX11_isColour 0 = .ok (.iload_n 0, 1) := by decide +kernel
theorem dX11_isColour_1 : decode cX11_isColour 1 = .ok (.iconst 0, 1) := by decide +kernel
theorem dX11_isColour_2 : decode cX11_isColour 2 = .ok (.bipush 15, 2) := by decide +kernel
theorem dX11_isColour_4 : decode cX11_isColour 4 = .ok (.invokestatic 90, 3) := by decide +kernel
theorem dX11_isColour_7 : decode cX11_isColour 7 = .ok (.ireturn, 1) := by decide +kernel
theorem dX11_board_0 : decode cX11_board 0 = .ok (.iload_n 1, 1) := by decide +kernel
theorem dX11_board_1 : decode cX11_board 1 = .ok (.iconst 1, 1) := by decide +kernel
theorem dX11_board_2 : decode cX11_board 2 = .ok (.bipush 8, 2) := by decide +kernel
theorem dX11_board_4 : decode cX11_board 4 = .ok (.invokestatic 90, 3) := by decide +kernel
theorem dX11_board_7 : decode cX11_board 7 = .ok (.ifCond .eq 13, 3) := by decide +kernel
theorem dX11_board_10 : decode cX11_board 10 = .ok (.iload_n 2, 1) := by decide +kernel
theorem dX11_board_11 : decode cX11_board 11 = .ok (.iconst 1, 1) := by decide +kernel
theorem dX11_board_12 : decode cX11_board 12 = .ok (.bipush 8, 2) := by decide +kernel
theorem dX11_board_14 : decode cX11_board 14 = .ok (.invokestatic 90, 3) := by decide +kernel
theorem dX11_board_17 : decode cX11_board 17 = .ok (.ifCond .ne 5, 3) := by decide +kernel
theorem dX11_board_20 : decode cX11_board 20 = .ok (.iconst (-1), 1) := by decide +kernel
theorem dX11_board_21 : decode cX11_board 21 = .ok (.ireturn, 1) := by decide +kernel
theorem dX11_board_22 : decode cX11_board 22 = .ok (.aload_n 0, 1) := by decide +kernel
theorem dX11_board_23 : decode cX11_board 23 = .ok (.getfield 94, 3) := by decide +kernel
theorem dX11_board_26 : decode cX11_board 26 = .ok (.ifCond .le 6, 3) := by decide +kernel
theorem dX11_board_29 : decode cX11_board 29 = .ok (.bipush (-3), 2) := by decide +kernel
theorem dX11_board_31 : decode cX11_board 31 = .ok (.ireturn, 1) := by decide +kernel
theorem dX11_board_32 : decode cX11_board 32 = .ok (.aload_n 0, 1) := by decide +kernel
theorem dX11_board_33 : decode cX11_board 33 = .ok (.iload_n 1, 1) := by decide +kernel
theorem dX11_board_34 : decode cX11_board 34 = .ok (.putfield 94, 3) := by decide +kernel
theorem dX11_board_37 : decode cX11_board 37 = .ok (.aload_n 0, 1) := by decide +kernel
theorem dX11_board_38 : decode cX11_board 38 = .ok (.iload_n 2, 1) := by decide +kernel
theorem dX11_board_39 : decode cX11_board 39 = .ok (.putfield 97, 3) := by decide +kernel
theorem dX11_board_42 : decode cX11_board 42 = .ok (.aload_n 0, 1) := by decide +kernel
theorem dX11_board_43 : decode cX11_board 43 = .ok (.iconst 1, 1) := by decide +kernel
theorem dX11_board_44 : decode cX11_board 44 = .ok (.putfield 100, 3) := by decide +kernel
theorem dX11_board_47 : decode cX11_board 47 = .ok (.iconst 1, 1) := by decide +kernel
theorem dX11_board_48 : decode cX11_board 48 = .ok (.ireturn, 1) := by decide +kernel
theorem dX11_table_0 : decode cX11_table 0 = .ok (.iload_n 1, 1) := by decide +kernel
theorem dX11_table_1 : decode cX11_table 1 = .ok (.invokestatic 103, 3) := by decide +kernel
theorem dX11_table_4 : decode cX11_table 4 = .ok (.ifCond .eq 17, 3) := by decide +kernel
theorem dX11_table_7 : decode cX11_table 7 = .ok (.iload_n 2, 1) := by decide +kernel
theorem dX11_table_8 : decode cX11_table 8 = .ok (.invokestatic 107, 3) := by decide +kernel
theorem dX11_table_11 : decode cX11_table 11 = .ok (.ifCond .eq 10, 3) := by decide +kernel
theorem dX11_table_14 : decode cX11_table 14 = .ok (.iload_n 3, 1) := by decide +kernel
theorem dX11_table_15 : decode cX11_table 15 = .ok (.invokestatic 107, 3) := by decide +kernel
theorem dX11_table_18 : decode cX11_table 18 = .ok (.ifCond .ne 5, 3) := by decide +kernel
theorem dX11_table_21 : decode cX11_table 21 = .ok (.iconst (-1), 1) := by decide +kernel
theorem dX11_table_22 : decode cX11_table 22 = .ok (.ireturn, 1) := by decide +kernel
theorem dX11_table_23 : decode cX11_table 23 = .ok (.aload_n 0, 1) := by decide +kernel
theorem dX11_table_24 : decode cX11_table 24 = .ok (.getfield 9, 3) := by decide +kernel
theorem dX11_table_27 : decode cX11_table 27 = .ok (.bipush 16, 2) := by decide +kernel
theorem dX11_table_29 : decode cX11_table 29 = .ok (.iload_n 1, 1) := by decide +kernel
theorem dX11_table_30 : decode cX11_table 30 = .ok (.imul, 1) := by decide +kernel
theorem dX11_table_31 : decode cX11_table 31 = .ok (.iload_n 2, 1) := by decide +kernel
theorem dX11_table_32 : decode cX11_table 32 = .ok (.iadd, 1) := by decide +kernel
theorem dX11_table_33 : decode cX11_table 33 = .ok (.iaload, 1) := by decide +kernel
theorem dX11_table_34 : decode cX11_table 34 = .ok (.istore 4, 2) := by decide +kernel
theorem dX11_table_36 : decode cX11_table 36 = .ok (.aload_n 0, 1) := by decide +kernel
theorem dX11_table_37 : decode cX11_table 37 = .ok (.getfield 9, 3) := by decide +kernel
theorem dX11_table_40 : decode cX11_table 40 = .ok (.bipush 16, 2) := by decide +kernel
theorem dX11_table_42 : decode cX11_table 42 = .ok (.iload_n 1, 1) := by decide +kernel
theorem dX11_table_43 : decode cX11_table 43 = .ok (.imul, 1) := by decide +kernel
theorem dX11_table_44 : decode cX11_table 44 = .ok (.iload_n 2, 1) := by decide +kernel
theorem dX11_table_45 : decode cX11_table 45 = .ok (.iadd, 1) := by decide +kernel
theorem dX11_table_46 : decode cX11_table 46 = .ok (.iload_n 3, 1) := by decide +kernel
theorem dX11_table_47 : decode cX11_table 47 = .ok (.iastore, 1) := by decide +kernel
theorem dX11_table_48 : decode cX11_table 48 = .ok (.iload 4, 2) := by decide +kernel
theorem dX11_table_50 : decode cX11_table 50 = .ok (.ireturn, 1) := by decide +kernel
theorem dX11_drying_0 : decode cX11_drying 0 = .ok (.iload_n 1, 1) := by decide +kernel
theorem dX11_drying_1 : decode cX11_drying 1 = .ok (.invokestatic 103, 3) := by decide +kernel
theorem dX11_drying_4 : decode cX11_drying 4 = .ok (.ifCond .eq 14, 3) := by decide +kernel
theorem dX11_drying_7 : decode cX11_drying 7 = .ok (.iload_n 2, 1) := by decide +kernel
theorem dX11_drying_8 : decode cX11_drying 8 = .ok (.iconst 0, 1) := by decide +kernel
theorem dX11_drying_9 : decode cX11_drying 9 = .ok (.sipush 999, 3) := by decide +kernel
theorem dX11_drying_12 : decode cX11_drying 12 = .ok (.invokestatic 90, 3) := by decide +kernel
theorem dX11_drying_15 : decode cX11_drying 15 = .ok (.ifCond .ne 5, 3) := by decide +kernel
theorem dX11_drying_18 : decode cX11_drying 18 = .ok (.iconst (-1), 1) := by decide +kernel
theorem dX11_drying_19 : decode cX11_drying 19 = .ok (.ireturn, 1) := by decide +kernel
theorem dX11_drying_20 : decode cX11_drying 20 = .ok (.aload_n 0, 1) := by decide +kernel
theorem dX11_drying_21 : decode cX11_drying 21 = .ok (.getfield 13, 3) := by decide +kernel
theorem dX11_drying_24 : decode cX11_drying 24 = .ok (.iload_n 1, 1) := by decide +kernel
theorem dX11_drying_25 : decode cX11_drying 25 = .ok (.iaload, 1) := by decide +kernel
theorem dX11_drying_26 : decode cX11_drying 26 = .ok (.istore_n 3, 1) := by decide +kernel
theorem dX11_drying_27 : decode cX11_drying 27 = .ok (.aload_n 0, 1) := by decide +kernel
theorem dX11_drying_28 : decode cX11_drying 28 = .ok (.getfield 13, 3) := by decide +kernel
theorem dX11_drying_31 : decode cX11_drying 31 = .ok (.iload_n 1, 1) := by decide +kernel
theorem dX11_drying_32 : decode cX11_drying 32 = .ok (.iload_n 2, 1) := by decide +kernel
theorem dX11_drying_33 : decode cX11_drying 33 = .ok (.iastore, 1) := by decide +kernel
theorem dX11_drying_34 : decode cX11_drying 34 = .ok (.iload_n 3, 1) := by decide +kernel
theorem dX11_drying_35 : decode cX11_drying 35 = .ok (.ireturn, 1) := by decide +kernel
theorem dX11_against_0 : decode cX11_against 0 = .ok (.iload_n 1, 1) := by decide +kernel
theorem dX11_against_1 : decode cX11_against 1 = .ok (.invokestatic 103, 3) := by decide +kernel
theorem dX11_against_4 : decode cX11_against 4 = .ok (.ifCond .eq 19, 3) := by decide +kernel
theorem dX11_against_7 : decode cX11_against 7 = .ok (.iload_n 2, 1) := by decide +kernel
theorem dX11_against_8 : decode cX11_against 8 = .ok (.invokestatic 103, 3) := by decide +kernel
theorem dX11_against_11 : decode cX11_against 11 = .ok (.ifCond .eq 12, 3) := by decide +kernel
theorem dX11_against_14 : decode cX11_against 14 = .ok (.iload_n 3, 1) := by decide +kernel
theorem dX11_against_15 : decode cX11_against 15 = .ok (.iconst 0, 1) := by decide +kernel
theorem dX11_against_16 : decode cX11_against 16 = .ok (.iconst 1, 1) := by decide +kernel
theorem dX11_against_17 : decode cX11_against 17 = .ok (.invokestatic 90, 3) := by decide +kernel
theorem dX11_against_20 : decode cX11_against 20 = .ok (.ifCond .ne 5, 3) := by decide +kernel
theorem dX11_against_23 : decode cX11_against 23 = .ok (.iconst (-1), 1) := by decide +kernel
theorem dX11_against_24 : decode cX11_against 24 = .ok (.ireturn, 1) := by decide +kernel
theorem dX11_against_25 : decode cX11_against 25 = .ok (.aload_n 0, 1) := by decide +kernel
theorem dX11_against_26 : decode cX11_against 26 = .ok (.getfield 16, 3) := by decide +kernel
theorem dX11_against_29 : decode cX11_against 29 = .ok (.bipush 10, 2) := by decide +kernel
theorem dX11_against_31 : decode cX11_against 31 = .ok (.iload_n 1, 1) := by decide +kernel
theorem dX11_against_32 : decode cX11_against 32 = .ok (.imul, 1) := by decide +kernel
theorem dX11_against_33 : decode cX11_against 33 = .ok (.iload_n 2, 1) := by decide +kernel
theorem dX11_against_34 : decode cX11_against 34 = .ok (.iadd, 1) := by decide +kernel
theorem dX11_against_35 : decode cX11_against 35 = .ok (.baload, 1) := by decide +kernel
theorem dX11_against_36 : decode cX11_against 36 = .ok (.istore 4, 2) := by decide +kernel
theorem dX11_against_38 : decode cX11_against 38 = .ok (.aload_n 0, 1) := by decide +kernel
theorem dX11_against_39 : decode cX11_against 39 = .ok (.getfield 16, 3) := by decide +kernel
theorem dX11_against_42 : decode cX11_against 42 = .ok (.bipush 10, 2) := by decide +kernel
theorem dX11_against_44 : decode cX11_against 44 = .ok (.iload_n 1, 1) := by decide +kernel
theorem dX11_against_45 : decode cX11_against 45 = .ok (.imul, 1) := by decide +kernel
theorem dX11_against_46 : decode cX11_against 46 = .ok (.iload_n 2, 1) := by decide +kernel
theorem dX11_against_47 : decode cX11_against 47 = .ok (.iadd, 1) := by decide +kernel
theorem dX11_against_48 : decode cX11_against 48 = .ok (.iload_n 3, 1) := by decide +kernel
theorem dX11_against_49 : decode cX11_against 49 = .ok (.iconst 1, 1) := by decide +kernel
theorem dX11_against_50 : decode cX11_against 50 = .ok (.if_icmp .ne 7, 3) := by decide +kernel
theorem dX11_against_53 : decode cX11_against 53 = .ok (.iconst 1, 1) := by decide +kernel
theorem dX11_against_54 : decode cX11_against 54 = .ok (.goto 4, 3) := by decide +kernel
theorem dX11_against_57 : decode cX11_against 57 = .ok (.iconst 0, 1) := by decide +kernel
theorem dX11_against_58 : decode cX11_against 58 = .ok (.bastore, 1) := by decide +kernel
theorem dX11_against_59 : decode cX11_against 59 = .ok (.iload 4, 2) := by decide +kernel
theorem dX11_against_61 : decode cX11_against 61 = .ok (.ifCond .eq 7, 3) := by decide +kernel
theorem dX11_against_64 : decode cX11_against 64 = .ok (.iconst 1, 1) := by decide +kernel
theorem dX11_against_65 : decode cX11_against 65 = .ok (.goto 4, 3) := by decide +kernel
theorem dX11_against_68 : decode cX11_against 68 = .ok (.iconst 0, 1) := by decide +kernel
theorem dX11_against_69 : decode cX11_against 69 = .ok (.ireturn, 1) := by decide +kernel
theorem dX11_mixed_0 : decode cX11_mixed 0 = .ok (.iload_n 1, 1) := by decide +kernel
theorem dX11_mixed_1 : decode cX11_mixed 1 = .ok (.invokestatic 103, 3) := by decide +kernel
theorem dX11_mixed_4 : decode cX11_mixed 4 = .ok (.ifCond .eq 22, 3) := by decide +kernel
theorem dX11_mixed_7 : decode cX11_mixed 7 = .ok (.iload_n 2, 1) := by decide +kernel
theorem dX11_mixed_8 : decode cX11_mixed 8 = .ok (.invokestatic 103, 3) := by decide +kernel
theorem dX11_mixed_11 : decode cX11_mixed 11 = .ok (.ifCond .eq 15, 3) := by decide +kernel
theorem dX11_mixed_14 : decode cX11_mixed 14 = .ok (.iload_n 1, 1) := by decide +kernel
theorem dX11_mixed_15 : decode cX11_mixed 15 = .ok (.iload_n 2, 1) := by decide +kernel
theorem dX11_mixed_16 : decode cX11_mixed 16 = .ok (.if_icmp .eq 10, 3) := by decide +kernel
theorem dX11_mixed_19 : decode cX11_mixed 19 = .ok (.iload_n 3, 1) := by decide +kernel
theorem dX11_mixed_20 : decode cX11_mixed 20 = .ok (.invokestatic 103, 3) := by decide +kernel
theorem dX11_mixed_23 : decode cX11_mixed 23 = .ok (.ifCond .ne 5, 3) := by decide +kernel
theorem dX11_mixed_26 : decode cX11_mixed 26 = .ok (.iconst (-1), 1) := by decide +kernel
theorem dX11_mixed_27 : decode cX11_mixed 27 = .ok (.ireturn, 1) := by decide +kernel
theorem dX11_mixed_28 : decode cX11_mixed 28 = .ok (.aload_n 0, 1) := by decide +kernel
theorem dX11_mixed_29 : decode cX11_mixed 29 = .ok (.getfield 20, 3) := by decide +kernel
theorem dX11_mixed_32 : decode cX11_mixed 32 = .ok (.bipush 10, 2) := by decide +kernel
theorem dX11_mixed_34 : decode cX11_mixed 34 = .ok (.iload_n 1, 1) := by decide +kernel
theorem dX11_mixed_35 : decode cX11_mixed 35 = .ok (.imul, 1) := by decide +kernel
theorem dX11_mixed_36 : decode cX11_mixed 36 = .ok (.iload_n 2, 1) := by decide +kernel
theorem dX11_mixed_37 : decode cX11_mixed 37 = .ok (.iadd, 1) := by decide +kernel
theorem dX11_mixed_38 : decode cX11_mixed 38 = .ok (.iaload, 1) := by decide +kernel
theorem dX11_mixed_39 : decode cX11_mixed 39 = .ok (.istore 4, 2) := by decide +kernel
theorem dX11_mixed_41 : decode cX11_mixed 41 = .ok (.aload_n 0, 1) := by decide +kernel
theorem dX11_mixed_42 : decode cX11_mixed 42 = .ok (.getfield 20, 3) := by decide +kernel
theorem dX11_mixed_45 : decode cX11_mixed 45 = .ok (.bipush 10, 2) := by decide +kernel
theorem dX11_mixed_47 : decode cX11_mixed 47 = .ok (.iload_n 1, 1) := by decide +kernel
theorem dX11_mixed_48 : decode cX11_mixed 48 = .ok (.imul, 1) := by decide +kernel
theorem dX11_mixed_49 : decode cX11_mixed 49 = .ok (.iload_n 2, 1) := by decide +kernel
theorem dX11_mixed_50 : decode cX11_mixed 50 = .ok (.iadd, 1) := by decide +kernel
theorem dX11_mixed_51 : decode cX11_mixed 51 = .ok (.iload_n 3, 1) := by decide +kernel
theorem dX11_mixed_52 : decode cX11_mixed 52 = .ok (.iastore, 1) := by decide +kernel
theorem dX11_mixed_53 : decode cX11_mixed 53 = .ok (.aload_n 0, 1) := by decide +kernel
theorem dX11_mixed_54 : decode cX11_mixed 54 = .ok (.getfield 20, 3) := by decide +kernel
theorem dX11_mixed_57 : decode cX11_mixed 57 = .ok (.bipush 10, 2) := by decide +kernel
theorem dX11_mixed_59 : decode cX11_mixed 59 = .ok (.iload_n 2, 1) := by decide +kernel
theorem dX11_mixed_60 : decode cX11_mixed 60 = .ok (.imul, 1) := by decide +kernel
theorem dX11_mixed_61 : decode cX11_mixed 61 = .ok (.iload_n 1, 1) := by decide +kernel
theorem dX11_mixed_62 : decode cX11_mixed 62 = .ok (.iadd, 1) := by decide +kernel
theorem dX11_mixed_63 : decode cX11_mixed 63 = .ok (.iload_n 3, 1) := by decide +kernel
theorem dX11_mixed_64 : decode cX11_mixed 64 = .ok (.iastore, 1) := by decide +kernel
theorem dX11_mixed_65 : decode cX11_mixed 65 = .ok (.iload 4, 2) := by decide +kernel
theorem dX11_mixed_67 : decode cX11_mixed 67 = .ok (.ireturn, 1) := by decide +kernel
theorem dX11_lots_0 : decode cX11_lots 0 = .ok (.iload_n 1, 1) := by decide +kernel
theorem dX11_lots_1 : decode cX11_lots 1 = .ok (.iconst 0, 1) := by decide +kernel
theorem dX11_lots_2 : decode cX11_lots 2 = .ok (.iconst 1, 1) := by decide +kernel
theorem dX11_lots_3 : decode cX11_lots 3 = .ok (.invokestatic 90, 3) := by decide +kernel
theorem dX11_lots_6 : decode cX11_lots 6 = .ok (.ifCond .eq 18, 3) := by decide +kernel
theorem dX11_lots_9 : decode cX11_lots 9 = .ok (.iload_n 1, 1) := by decide +kernel
theorem dX11_lots_10 : decode cX11_lots 10 = .ok (.ifCond .ne 16, 3) := by decide +kernel
theorem dX11_lots_13 : decode cX11_lots 13 = .ok (.iload_n 2, 1) := by decide +kernel
theorem dX11_lots_14 : decode cX11_lots 14 = .ok (.iconst 0, 1) := by decide +kernel
theorem dX11_lots_15 : decode cX11_lots 15 = .ok (.sipush 999, 3) := by decide +kernel
theorem dX11_lots_18 : decode cX11_lots 18 = .ok (.invokestatic 90, 3) := by decide +kernel
theorem dX11_lots_21 : decode cX11_lots 21 = .ok (.ifCond .ne 5, 3) := by decide +kernel
theorem dX11_lots_24 : decode cX11_lots 24 = .ok (.iconst (-1), 1) := by decide +kernel
theorem dX11_lots_25 : decode cX11_lots 25 = .ok (.ireturn, 1) := by decide +kernel
theorem dX11_lots_26 : decode cX11_lots 26 = .ok (.iload_n 1, 1) := by decide +kernel
theorem dX11_lots_27 : decode cX11_lots 27 = .ok (.ifCond .ne 11, 3) := by decide +kernel
theorem dX11_lots_30 : decode cX11_lots 30 = .ok (.aload_n 0, 1) := by decide +kernel
theorem dX11_lots_31 : decode cX11_lots 31 = .ok (.iload_n 2, 1) := by decide +kernel
theorem dX11_lots_32 : decode cX11_lots 32 = .ok (.putfield 110, 3) := by decide +kernel
theorem dX11_lots_35 : decode cX11_lots 35 = .ok (.goto 8, 3) := by decide +kernel
theorem dX11_lots_38 : decode cX11_lots 38 = .ok (.aload_n 0, 1) := by decide +kernel
theorem dX11_lots_39 : decode cX11_lots 39 = .ok (.iload_n 2, 1) := by decide +kernel
theorem dX11_lots_40 : decode cX11_lots 40 = .ok (.putfield 113, 3) := by decide +kernel
theorem dX11_lots_43 : decode cX11_lots 43 = .ok (.iconst 1, 1) := by decide +kernel
theorem dX11_lots_44 : decode cX11_lots 44 = .ok (.ireturn, 1) := by decide +kernel
theorem dX11_minutes_0 : decode cX11_minutes 0 = .ok (.iload_n 1, 1) := by decide +kernel
theorem dX11_minutes_1 : decode cX11_minutes 1 = .ok (.iconst 1, 1) := by decide +kernel
theorem dX11_minutes_2 : decode cX11_minutes 2 = .ok (.sipush 1000, 3) := by decide +kernel
theorem dX11_minutes_5 : decode cX11_minutes 5 = .ok (.invokestatic 90, 3) := by decide +kernel
theorem dX11_minutes_8 : decode cX11_minutes 8 = .ok (.ifCond .eq 14, 3) := by decide +kernel
theorem dX11_minutes_11 : decode cX11_minutes 11 = .ok (.aload_n 0, 1) := by decide +kernel
theorem dX11_minutes_12 : decode cX11_minutes 12 = .ok (.getfield 116, 3) := by decide +kernel
theorem dX11_minutes_15 : decode cX11_minutes 15 = .ok (.iload_n 1, 1) := by decide +kernel
theorem dX11_minutes_16 : decode cX11_minutes 16 = .ok (.iadd, 1) := by decide +kernel
theorem dX11_minutes_17 : decode cX11_minutes 17 = .ok (.ldc 119, 2) := by decide +kernel
theorem dX11_minutes_19 : decode cX11_minutes 19 = .ok (.if_icmp .le 5, 3) := by decide +kernel
theorem dX11_minutes_22 : decode cX11_minutes 22 = .ok (.iconst (-1), 1) := by decide +kernel
theorem dX11_minutes_23 : decode cX11_minutes 23 = .ok (.ireturn, 1) := by decide +kernel
theorem dX11_minutes_24 : decode cX11_minutes 24 = .ok (.aload_n 0, 1) := by decide +kernel
theorem dX11_minutes_25 : decode cX11_minutes 25 = .ok (.dup, 1) := by decide +kernel
theorem dX11_minutes_26 : decode cX11_minutes 26 = .ok (.getfield 116, 3) := by decide +kernel
theorem dX11_minutes_29 : decode cX11_minutes 29 = .ok (.iload_n 1, 1) := by decide +kernel
theorem dX11_minutes_30 : decode cX11_minutes 30 = .ok (.iadd, 1) := by decide +kernel
theorem dX11_minutes_31 : decode cX11_minutes 31 = .ok (.putfield 116, 3) := by decide +kernel
theorem dX11_minutes_34 : decode cX11_minutes 34 = .ok (.aload_n 0, 1) := by decide +kernel
theorem dX11_minutes_35 : decode cX11_minutes 35 = .ok (.getfield 116, 3) := by decide +kernel
theorem dX11_minutes_38 : decode cX11_minutes 38 = .ok (.ireturn, 1) := by decide +kernel
theorem dX11_takeCells_0 : decode cX11_takeCells 0 = .ok (.iload_n 1, 1) := by decide +kernel
theorem dX11_takeCells_1 : decode cX11_takeCells 1 = .ok (.ifCond .lt 10, 3) := by decide +kernel
theorem dX11_takeCells_4 : decode cX11_takeCells 4 = .ok (.iload_n 1, 1) := by decide +kernel
theorem dX11_takeCells_5 : decode cX11_takeCells 5 = .ok (.sipush 4096, 3) := by decide +kernel
theorem dX11_takeCells_8 : decode cX11_takeCells 8 = .ok (.if_icmp .lt 5, 3) := by decide +kernel
theorem dX11_takeCells_11 : decode cX11_takeCells 11 = .ok (.iconst 0, 1) := by decide +kernel
theorem dX11_takeCells_12 : decode cX11_takeCells 12 = .ok (.ireturn, 1) := by decide +kernel
theorem dX11_takeCells_13 : decode cX11_takeCells 13 = .ok (.aload_n 0, 1) := by decide +kernel
theorem dX11_takeCells_14 : decode cX11_takeCells 14 = .ok (.iload_n 1, 1) := by decide +kernel
theorem dX11_takeCells_15 : decode cX11_takeCells 15 = .ok (.sipush 512, 3) := by decide +kernel
theorem dX11_takeCells_18 : decode cX11_takeCells 18 = .ok (.idiv, 1) := by decide +kernel
theorem dX11_takeCells_19 : decode cX11_takeCells 19 = .ok (.putfield 120, 3) := by decide +kernel
theorem dX11_takeCells_22 : decode cX11_takeCells 22 = .ok (.aload_n 0, 1) := by decide +kernel
theorem dX11_takeCells_23 : decode cX11_takeCells 23 = .ok (.iload_n 1, 1) := by decide +kernel
theorem dX11_takeCells_24 : decode cX11_takeCells 24 = .ok (.bipush 64, 2) := by decide +kernel
theorem dX11_takeCells_26 : decode cX11_takeCells 26 = .ok (.idiv, 1) := by decide +kernel
theorem dX11_takeCells_27 : decode cX11_takeCells 27 = .ok (.bipush 8, 2) := by decide +kernel
theorem dX11_takeCells_29 : decode cX11_takeCells 29 = .ok (.irem, 1) := by decide +kernel
theorem dX11_takeCells_30 : decode cX11_takeCells 30 = .ok (.putfield 123, 3) := by decide +kernel
theorem dX11_takeCells_33 : decode cX11_takeCells 33 = .ok (.aload_n 0, 1) := by decide +kernel
theorem dX11_takeCells_34 : decode cX11_takeCells 34 = .ok (.iload_n 1, 1) := by decide +kernel
theorem dX11_takeCells_35 : decode cX11_takeCells 35 = .ok (.bipush 8, 2) := by decide +kernel
theorem dX11_takeCells_37 : decode cX11_takeCells 37 = .ok (.idiv, 1) := by decide +kernel
theorem dX11_takeCells_38 : decode cX11_takeCells 38 = .ok (.bipush 8, 2) := by decide +kernel
theorem dX11_takeCells_40 : decode cX11_takeCells 40 = .ok (.irem, 1) := by decide +kernel
theorem dX11_takeCells_41 : decode cX11_takeCells 41 = .ok (.putfield 126, 3) := by decide +kernel
theorem dX11_takeCells_44 : decode cX11_takeCells 44 = .ok (.aload_n 0, 1) := by decide +kernel
theorem dX11_takeCells_45 : decode cX11_takeCells 45 = .ok (.iload_n 1, 1) := by decide +kernel
theorem dX11_takeCells_46 : decode cX11_takeCells 46 = .ok (.bipush 8, 2) := by decide +kernel
theorem dX11_takeCells_48 : decode cX11_takeCells 48 = .ok (.irem, 1) := by decide +kernel
theorem dX11_takeCells_49 : decode cX11_takeCells 49 = .ok (.putfield 129, 3) := by decide +kernel
theorem dX11_takeCells_52 : decode cX11_takeCells 52 = .ok (.aload_n 0, 1) := by decide +kernel
theorem dX11_takeCells_53 : decode cX11_takeCells 53 = .ok (.getfield 120, 3) := by decide +kernel
theorem dX11_takeCells_56 : decode cX11_takeCells 56 = .ok (.aload_n 0, 1) := by decide +kernel
theorem dX11_takeCells_57 : decode cX11_takeCells 57 = .ok (.getfield 123, 3) := by decide +kernel
theorem dX11_takeCells_60 : decode cX11_takeCells 60 = .ok (.if_icmp .gt 40, 3) := by decide +kernel
theorem dX11_takeCells_63 : decode cX11_takeCells 63 = .ok (.aload_n 0, 1) := by decide +kernel
theorem dX11_takeCells_64 : decode cX11_takeCells 64 = .ok (.getfield 123, 3) := by decide +kernel
theorem dX11_takeCells_67 : decode cX11_takeCells 67 = .ok (.aload_n 0, 1) := by decide +kernel
theorem dX11_takeCells_68 : decode cX11_takeCells 68 = .ok (.getfield 94, 3) := by decide +kernel
theorem dX11_takeCells_71 : decode cX11_takeCells 71 = .ok (.if_icmp .ge 29, 3) := by decide +kernel
theorem dX11_takeCells_74 : decode cX11_takeCells 74 = .ok (.aload_n 0, 1) := by decide +kernel
theorem dX11_takeCells_75 : decode cX11_takeCells 75 = .ok (.getfield 126, 3) := by decide +kernel
theorem dX11_takeCells_78 : decode cX11_takeCells 78 = .ok (.aload_n 0, 1) := by decide +kernel
theorem dX11_takeCells_79 : decode cX11_takeCells 79 = .ok (.getfield 129, 3) := by decide +kernel
theorem dX11_takeCells_82 : decode cX11_takeCells 82 = .ok (.if_icmp .gt 18, 3) := by decide +kernel
theorem dX11_takeCells_85 : decode cX11_takeCells 85 = .ok (.aload_n 0, 1) := by decide +kernel
theorem dX11_takeCells_86 : decode cX11_takeCells 86 = .ok (.getfield 129, 3) := by decide +kernel
theorem dX11_takeCells_89 : decode cX11_takeCells 89 = .ok (.aload_n 0, 1) := by decide +kernel
theorem dX11_takeCells_90 : decode cX11_takeCells 90 = .ok (.getfield 97, 3) := by decide +kernel
theorem dX11_takeCells_93 : decode cX11_takeCells 93 = .ok (.if_icmp .ge 7, 3) := by decide +kernel
theorem dX11_takeCells_96 : decode cX11_takeCells 96 = .ok (.iconst 1, 1) := by decide +kernel
theorem dX11_takeCells_97 : decode cX11_takeCells 97 = .ok (.goto 4, 3) := by decide +kernel
theorem dX11_takeCells_100 : decode cX11_takeCells 100 = .ok (.iconst 0, 1) := by decide +kernel
theorem dX11_takeCells_101 : decode cX11_takeCells 101 = .ok (.ireturn, 1) := by decide +kernel
theorem dX11_cut_0 : decode cX11_cut 0 = .ok (.aload_n 0, 1) := by decide +kernel
theorem dX11_cut_1 : decode cX11_cut 1 = .ok (.iload_n 1, 1) := by decide +kernel
theorem dX11_cut_2 : decode cX11_cut 2 = .ok (.invokevirtual 132, 3) := by decide +kernel
theorem dX11_cut_5 : decode cX11_cut 5 = .ok (.ifCond .ne 5, 3) := by decide +kernel
theorem dX11_cut_8 : decode cX11_cut 8 = .ok (.iconst (-1), 1) := by decide +kernel
theorem dX11_cut_9 : decode cX11_cut 9 = .ok (.ireturn, 1) := by decide +kernel
theorem dX11_cut_10 : decode cX11_cut 10 = .ok (.iconst 0, 1) := by decide +kernel
theorem dX11_cut_11 : decode cX11_cut 11 = .ok (.istore_n 2, 1) := by decide +kernel
theorem dX11_cut_12 : decode cX11_cut 12 = .ok (.aload_n 0, 1) := by decide +kernel
theorem dX11_cut_13 : decode cX11_cut 13 = .ok (.getfield 120, 3) := by decide +kernel
theorem dX11_cut_16 : decode cX11_cut 16 = .ok (.istore_n 3, 1) := by decide +kernel
theorem dX11_cut_17 : decode cX11_cut 17 = .ok (.iload_n 3, 1) := by decide +kernel
theorem dX11_cut_18 : decode cX11_cut 18 = .ok (.aload_n 0, 1) := by decide +kernel
theorem dX11_cut_19 : decode cX11_cut 19 = .ok (.getfield 123, 3) := by decide +kernel
theorem dX11_cut_22 : decode cX11_cut 22 = .ok (.if_icmp .gt 85, 3) := by decide +kernel
theorem dX11_cut_25 : decode cX11_cut 25 = .ok (.aload_n 0, 1) := by decide +kernel
theorem dX11_cut_26 : decode cX11_cut 26 = .ok (.getfield 126, 3) := by decide +kernel
theorem dX11_cut_29 : decode cX11_cut 29 = .ok (.istore 4, 2) := by decide +kernel
theorem dX11_cut_31 : decode cX11_cut 31 = .ok (.iload 4, 2) := by decide +kernel
theorem dX11_cut_33 : decode cX11_cut 33 = .ok (.aload_n 0, 1) := by decide +kernel
theorem dX11_cut_34 : decode cX11_cut 34 = .ok (.getfield 129, 3) := by decide +kernel
theorem dX11_cut_37 : decode cX11_cut 37 = .ok (.if_icmp .gt 64, 3) := by decide +kernel
theorem dX11_cut_40 : decode cX11_cut 40 = .ok (.bipush 8, 2) := by decide +kernel
theorem dX11_cut_42 : decode cX11_cut 42 = .ok (.iload_n 3, 1) := by decide +kernel
theorem dX11_cut_43 : decode cX11_cut 43 = .ok (.imul, 1) := by decide +kernel
theorem dX11_cut_44 : decode cX11_cut 44 = .ok (.iload 4, 2) := by decide +kernel
theorem dX11_cut_46 : decode cX11_cut 46 = .ok (.iadd, 1) := by decide +kernel
theorem dX11_cut_47 : decode cX11_cut 47 = .ok (.istore 5, 2) := by decide +kernel
theorem dX11_cut_49 : decode cX11_cut 49 = .ok (.aload_n 0, 1) := by decide +kernel
theorem dX11_cut_50 : decode cX11_cut 50 = .ok (.getfield 23, 3) := by decide +kernel
theorem dX11_cut_53 : decode cX11_cut 53 = .ok (.iload 5, 2) := by decide +kernel
theorem dX11_cut_55 : decode cX11_cut 55 = .ok (.baload, 1) := by decide +kernel
theorem dX11_cut_56 : decode cX11_cut 56 = .ok (.ifCond .ne 21, 3) := by decide +kernel
theorem dX11_cut_59 : decode cX11_cut 59 = .ok (.aload_n 0, 1) := by decide +kernel
theorem dX11_cut_60 : decode cX11_cut 60 = .ok (.getfield 29, 3) := by decide +kernel
theorem dX11_cut_63 : decode cX11_cut 63 = .ok (.aload_n 0, 1) := by decide +kernel
theorem dX11_cut_64 : decode cX11_cut 64 = .ok (.getfield 26, 3) := by decide +kernel
theorem dX11_cut_67 : decode cX11_cut 67 = .ok (.iload 5, 2) := by decide +kernel
theorem dX11_cut_69 : decode cX11_cut 69 = .ok (.iaload, 1) := by decide +kernel
theorem dX11_cut_70 : decode cX11_cut 70 = .ok (.baload, 1) := by decide +kernel
theorem dX11_cut_71 : decode cX11_cut 71 = .ok (.ifCond .eq 6, 3) := by decide +kernel
theorem dX11_cut_74 : decode cX11_cut 74 = .ok (.bipush (-3), 2) := by decide +kernel
theorem dX11_cut_76 : decode cX11_cut 76 = .ok (.ireturn, 1) := by decide +kernel
theorem dX11_cut_77 : decode cX11_cut 77 = .ok (.iload_n 2, 1) := by decide +kernel
theorem dX11_cut_78 : decode cX11_cut 78 = .ok (.aload_n 0, 1) := by decide +kernel
theorem dX11_cut_79 : decode cX11_cut 79 = .ok (.getfield 23, 3) := by decide +kernel
theorem dX11_cut_82 : decode cX11_cut 82 = .ok (.iload 5, 2) := by decide +kernel
theorem dX11_cut_84 : decode cX11_cut 84 = .ok (.baload, 1) := by decide +kernel
theorem dX11_cut_85 : decode cX11_cut 85 = .ok (.ifCond .eq 7, 3) := by decide +kernel
theorem dX11_cut_88 : decode cX11_cut 88 = .ok (.iconst 0, 1) := by decide +kernel
theorem dX11_cut_89 : decode cX11_cut 89 = .ok (.goto 4, 3) := by decide +kernel
theorem dX11_cut_92 : decode cX11_cut 92 = .ok (.iconst 1, 1) := by decide +kernel
theorem dX11_cut_93 : decode cX11_cut 93 = .ok (.iadd, 1) := by decide +kernel
theorem dX11_cut_94 : decode cX11_cut 94 = .ok (.istore_n 2, 1) := by decide +kernel
theorem dX11_cut_95 : decode cX11_cut 95 = .ok (.iinc 4 1, 3) := by decide +kernel
theorem dX11_cut_98 : decode cX11_cut 98 = .ok (.goto (-67), 3) := by decide +kernel
theorem dX11_cut_101 : decode cX11_cut 101 = .ok (.iinc 3 1, 3) := by decide +kernel
theorem dX11_cut_104 : decode cX11_cut 104 = .ok (.goto (-87), 3) := by decide +kernel
theorem dX11_cut_107 : decode cX11_cut 107 = .ok (.aload_n 0, 1) := by decide +kernel
theorem dX11_cut_108 : decode cX11_cut 108 = .ok (.getfield 120, 3) := by decide +kernel
theorem dX11_cut_111 : decode cX11_cut 111 = .ok (.istore_n 3, 1) := by decide +kernel
theorem dX11_cut_112 : decode cX11_cut 112 = .ok (.iload_n 3, 1) := by decide +kernel
theorem dX11_cut_113 : decode cX11_cut 113 = .ok (.aload_n 0, 1) := by decide +kernel
theorem dX11_cut_114 : decode cX11_cut 114 = .ok (.getfield 123, 3) := by decide +kernel
theorem dX11_cut_117 : decode cX11_cut 117 = .ok (.if_icmp .gt 43, 3) := by decide +kernel
theorem dX11_cut_120 : decode cX11_cut 120 = .ok (.aload_n 0, 1) := by decide +kernel
theorem dX11_cut_121 : decode cX11_cut 121 = .ok (.getfield 126, 3) := by decide +kernel
theorem dX11_cut_124 : decode cX11_cut 124 = .ok (.istore 4, 2) := by decide +kernel
theorem dX11_cut_126 : decode cX11_cut 126 = .ok (.iload 4, 2) := by decide +kernel
theorem dX11_cut_128 : decode cX11_cut 128 = .ok (.aload_n 0, 1) := by decide +kernel
theorem dX11_cut_129 : decode cX11_cut 129 = .ok (.getfield 129, 3) := by decide +kernel
theorem dX11_cut_132 : decode cX11_cut 132 = .ok (.if_icmp .gt 22, 3) := by decide +kernel
theorem dX11_cut_135 : decode cX11_cut 135 = .ok (.aload_n 0, 1) := by decide +kernel
theorem dX11_cut_136 : decode cX11_cut 136 = .ok (.getfield 23, 3) := by decide +kernel
theorem dX11_cut_139 : decode cX11_cut 139 = .ok (.bipush 8, 2) := by decide +kernel
theorem dX11_cut_141 : decode cX11_cut 141 = .ok (.iload_n 3, 1) := by decide +kernel
theorem dX11_cut_142 : decode cX11_cut 142 = .ok (.imul, 1) := by decide +kernel
theorem dX11_cut_143 : decode cX11_cut 143 = .ok (.iload 4, 2) := by decide +kernel
theorem dX11_cut_145 : decode cX11_cut 145 = .ok (.iadd, 1) := by decide +kernel
theorem dX11_cut_146 : decode cX11_cut 146 = .ok (.iconst 1, 1) := by decide +kernel
theorem dX11_cut_147 : decode cX11_cut 147 = .ok (.bastore, 1) := by decide +kernel
theorem dX11_cut_148 : decode cX11_cut 148 = .ok (.iinc 4 1, 3) := by decide +kernel
theorem dX11_cut_151 : decode cX11_cut 151 = .ok (.goto (-25), 3) := by decide +kernel
theorem dX11_cut_154 : decode cX11_cut 154 = .ok (.iinc 3 1, 3) := by decide +kernel
theorem dX11_cut_157 : decode cX11_cut 157 = .ok (.goto (-45), 3) := by decide +kernel
theorem dX11_cut_160 : decode cX11_cut 160 = .ok (.iload_n 2, 1) := by decide +kernel
theorem dX11_cut_161 : decode cX11_cut 161 = .ok (.ireturn, 1) := by decide +kernel
theorem dX11_isPiece_0 : decode cX11_isPiece 0 = .ok (.iload_n 1, 1) := by decide +kernel
theorem dX11_isPiece_1 : decode cX11_isPiece 1 = .ok (.ifCond .lt 15, 3) := by decide +kernel
theorem dX11_isPiece_4 : decode cX11_isPiece 4 = .ok (.iload_n 1, 1) := by decide +kernel
theorem dX11_isPiece_5 : decode cX11_isPiece 5 = .ok (.aload_n 0, 1) := by decide +kernel
theorem dX11_isPiece_6 : decode cX11_isPiece 6 = .ok (.getfield 100, 3) := by decide +kernel
theorem dX11_isPiece_9 : decode cX11_isPiece 9 = .ok (.if_icmp .ge 7, 3) := by decide +kernel
theorem dX11_isPiece_12 : decode cX11_isPiece 12 = .ok (.iconst 1, 1) := by decide +kernel
theorem dX11_isPiece_13 : decode cX11_isPiece 13 = .ok (.goto 4, 3) := by decide +kernel
theorem dX11_isPiece_16 : decode cX11_isPiece 16 = .ok (.iconst 0, 1) := by decide +kernel
theorem dX11_isPiece_17 : decode cX11_isPiece 17 = .ok (.ireturn, 1) := by decide +kernel
theorem dX11_cellsOf_0 : decode cX11_cellsOf 0 = .ok (.iconst 0, 1) := by decide +kernel
theorem dX11_cellsOf_1 : decode cX11_cellsOf 1 = .ok (.istore_n 2, 1) := by decide +kernel
theorem dX11_cellsOf_2 : decode cX11_cellsOf 2 = .ok (.iconst 0, 1) := by decide +kernel
theorem dX11_cellsOf_3 : decode cX11_cellsOf 3 = .ok (.istore_n 3, 1) := by decide +kernel
theorem dX11_cellsOf_4 : decode cX11_cellsOf 4 = .ok (.iload_n 3, 1) := by decide +kernel
theorem dX11_cellsOf_5 : decode cX11_cellsOf 5 = .ok (.aload_n 0, 1) := by decide +kernel
theorem dX11_cellsOf_6 : decode cX11_cellsOf 6 = .ok (.getfield 94, 3) := by decide +kernel
theorem dX11_cellsOf_9 : decode cX11_cellsOf 9 = .ok (.if_icmp .ge 51, 3) := by decide +kernel
theorem dX11_cellsOf_12 : decode cX11_cellsOf 12 = .ok (.iconst 0, 1) := by decide +kernel
theorem dX11_cellsOf_13 : decode cX11_cellsOf 13 = .ok (.istore 4, 2) := by decide +kernel
theorem dX11_cellsOf_15 : decode cX11_cellsOf 15 = .ok (.iload 4, 2) := by decide +kernel
theorem dX11_cellsOf_17 : decode cX11_cellsOf 17 = .ok (.aload_n 0, 1) := by decide +kernel
theorem dX11_cellsOf_18 : decode cX11_cellsOf 18 = .ok (.getfield 97, 3) := by decide +kernel
theorem dX11_cellsOf_21 : decode cX11_cellsOf 21 = .ok (.if_icmp .ge 33, 3) := by decide +kernel
theorem dX11_cellsOf_24 : decode cX11_cellsOf 24 = .ok (.iload_n 2, 1) := by decide +kernel
theorem dX11_cellsOf_25 : decode cX11_cellsOf 25 = .ok (.aload_n 0, 1) := by decide +kernel
theorem dX11_cellsOf_26 : decode cX11_cellsOf 26 = .ok (.getfield 26, 3) := by decide +kernel
theorem dX11_cellsOf_29 : decode cX11_cellsOf 29 = .ok (.bipush 8, 2) := by decide +kernel
theorem dX11_cellsOf_31 : decode cX11_cellsOf 31 = .ok (.iload_n 3, 1) := by decide +kernel
theorem dX11_cellsOf_32 : decode cX11_cellsOf 32 = .ok (.imul, 1) := by decide +kernel
theorem dX11_cellsOf_33 : decode cX11_cellsOf 33 = .ok (.iload 4, 2) := by decide +kernel
theorem dX11_cellsOf_35 : decode cX11_cellsOf 35 = .ok (.iadd, 1) := by decide +kernel
theorem dX11_cellsOf_36 : decode cX11_cellsOf 36 = .ok (.iaload, 1) := by decide +kernel
theorem dX11_cellsOf_37 : decode cX11_cellsOf 37 = .ok (.iload_n 1, 1) := by decide +kernel
theorem dX11_cellsOf_38 : decode cX11_cellsOf 38 = .ok (.if_icmp .ne 7, 3) := by decide +kernel
theorem dX11_cellsOf_41 : decode cX11_cellsOf 41 = .ok (.iconst 1, 1) := by decide +kernel
theorem dX11_cellsOf_42 : decode cX11_cellsOf 42 = .ok (.goto 4, 3) := by decide +kernel
theorem dX11_cellsOf_45 : decode cX11_cellsOf 45 = .ok (.iconst 0, 1) := by decide +kernel
theorem dX11_cellsOf_46 : decode cX11_cellsOf 46 = .ok (.iadd, 1) := by decide +kernel
theorem dX11_cellsOf_47 : decode cX11_cellsOf 47 = .ok (.istore_n 2, 1) := by decide +kernel
theorem dX11_cellsOf_48 : decode cX11_cellsOf 48 = .ok (.iinc 4 1, 3) := by decide +kernel
theorem dX11_cellsOf_51 : decode cX11_cellsOf 51 = .ok (.goto (-36), 3) := by decide +kernel
theorem dX11_cellsOf_54 : decode cX11_cellsOf 54 = .ok (.iinc 3 1, 3) := by decide +kernel
theorem dX11_cellsOf_57 : decode cX11_cellsOf 57 = .ok (.goto (-53), 3) := by decide +kernel
theorem dX11_cellsOf_60 : decode cX11_cellsOf 60 = .ok (.iload_n 2, 1) := by decide +kernel
theorem dX11_cellsOf_61 : decode cX11_cellsOf 61 = .ok (.ireturn, 1) := by decide +kernel
theorem dX11_saw_0 : decode cX11_saw 0 = .ok (.aload_n 0, 1) := by decide +kernel
theorem dX11_saw_1 : decode cX11_saw 1 = .ok (.iload_n 1, 1) := by decide +kernel
theorem dX11_saw_2 : decode cX11_saw 2 = .ok (.invokevirtual 135, 3) := by decide +kernel
theorem dX11_saw_5 : decode cX11_saw 5 = .ok (.ifCond .eq 11, 3) := by decide +kernel
theorem dX11_saw_8 : decode cX11_saw 8 = .ok (.aload_n 0, 1) := by decide +kernel
theorem dX11_saw_9 : decode cX11_saw 9 = .ok (.iload_n 2, 1) := by decide +kernel
theorem dX11_saw_10 : decode cX11_saw 10 = .ok (.invokevirtual 132, 3) := by decide +kernel
theorem dX11_saw_13 : decode cX11_saw 13 = .ok (.ifCond .ne 5, 3) := by decide +kernel
theorem dX11_saw_16 : decode cX11_saw 16 = .ok (.iconst (-1), 1) := by decide +kernel
theorem dX11_saw_17 : decode cX11_saw 17 = .ok (.ireturn, 1) := by decide +kernel
theorem dX11_saw_18 : decode cX11_saw 18 = .ok (.iconst 0, 1) := by decide +kernel
theorem dX11_saw_19 : decode cX11_saw 19 = .ok (.istore_n 3, 1) := by decide +kernel
theorem dX11_saw_20 : decode cX11_saw 20 = .ok (.aload_n 0, 1) := by decide +kernel
theorem dX11_saw_21 : decode cX11_saw 21 = .ok (.getfield 120, 3) := by decide +kernel
theorem dX11_saw_24 : decode cX11_saw 24 = .ok (.istore 4, 2) := by decide +kernel
theorem dX11_saw_26 : decode cX11_saw 26 = .ok (.iload 4, 2) := by decide +kernel
theorem dX11_saw_28 : decode cX11_saw 28 = .ok (.aload_n 0, 1) := by decide +kernel
theorem dX11_saw_29 : decode cX11_saw 29 = .ok (.getfield 123, 3) := by decide +kernel
theorem dX11_saw_32 : decode cX11_saw 32 = .ok (.if_icmp .gt 55, 3) := by decide +kernel
theorem dX11_saw_35 : decode cX11_saw 35 = .ok (.aload_n 0, 1) := by decide +kernel
theorem dX11_saw_36 : decode cX11_saw 36 = .ok (.getfield 126, 3) := by decide +kernel
theorem dX11_saw_39 : decode cX11_saw 39 = .ok (.istore 5, 2) := by decide +kernel
theorem dX11_saw_41 : decode cX11_saw 41 = .ok (.iload 5, 2) := by decide +kernel
theorem dX11_saw_43 : decode cX11_saw 43 = .ok (.aload_n 0, 1) := by decide +kernel
theorem dX11_saw_44 : decode cX11_saw 44 = .ok (.getfield 129, 3) := by decide +kernel
theorem dX11_saw_47 : decode cX11_saw 47 = .ok (.if_icmp .gt 34, 3) := by decide +kernel
theorem dX11_saw_50 : decode cX11_saw 50 = .ok (.iload_n 3, 1) := by decide +kernel
theorem dX11_saw_51 : decode cX11_saw 51 = .ok (.aload_n 0, 1) := by decide +kernel
theorem dX11_saw_52 : decode cX11_saw 52 = .ok (.getfield 26, 3) := by decide +kernel
theorem dX11_saw_55 : decode cX11_saw 55 = .ok (.bipush 8, 2) := by decide +kernel
theorem dX11_saw_57 : decode cX11_saw 57 = .ok (.iload 4, 2) := by decide +kernel
theorem dX11_saw_59 : decode cX11_saw 59 = .ok (.imul, 1) := by decide +kernel
theorem dX11_saw_60 : decode cX11_saw 60 = .ok (.iload 5, 2) := by decide +kernel
theorem dX11_saw_62 : decode cX11_saw 62 = .ok (.iadd, 1) := by decide +kernel
theorem dX11_saw_63 : decode cX11_saw 63 = .ok (.iaload, 1) := by decide +kernel
theorem dX11_saw_64 : decode cX11_saw 64 = .ok (.iload_n 1, 1) := by decide +kernel
theorem dX11_saw_65 : decode cX11_saw 65 = .ok (.if_icmp .ne 7, 3) := by decide +kernel
theorem dX11_saw_68 : decode cX11_saw 68 = .ok (.iconst 1, 1) := by decide +kernel
theorem dX11_saw_69 : decode cX11_saw 69 = .ok (.goto 4, 3) := by decide +kernel
theorem dX11_saw_72 : decode cX11_saw 72 = .ok (.iconst 0, 1) := by decide +kernel
theorem dX11_saw_73 : decode cX11_saw 73 = .ok (.iadd, 1) := by decide +kernel
theorem dX11_saw_74 : decode cX11_saw 74 = .ok (.istore_n 3, 1) := by decide +kernel
theorem dX11_saw_75 : decode cX11_saw 75 = .ok (.iinc 5 1, 3) := by decide +kernel
theorem dX11_saw_78 : decode cX11_saw 78 = .ok (.goto (-37), 3) := by decide +kernel
theorem dX11_saw_81 : decode cX11_saw 81 = .ok (.iinc 4 1, 3) := by decide +kernel
theorem dX11_saw_84 : decode cX11_saw 84 = .ok (.goto (-58), 3) := by decide +kernel
theorem dX11_saw_87 : decode cX11_saw 87 = .ok (.iload_n 3, 1) := by decide +kernel
theorem dX11_saw_88 : decode cX11_saw 88 = .ok (.ifCond .eq 12, 3) := by decide +kernel
theorem dX11_saw_91 : decode cX11_saw 91 = .ok (.iload_n 3, 1) := by decide +kernel
theorem dX11_saw_92 : decode cX11_saw 92 = .ok (.aload_n 0, 1) := by decide +kernel
theorem dX11_saw_93 : decode cX11_saw 93 = .ok (.iload_n 1, 1) := by decide +kernel
theorem dX11_saw_94 : decode cX11_saw 94 = .ok (.invokevirtual 138, 3) := by decide +kernel
theorem dX11_saw_97 : decode cX11_saw 97 = .ok (.if_icmp .ne 6, 3) := by decide +kernel
theorem dX11_saw_100 : decode cX11_saw 100 = .ok (.bipush (-4), 2) := by decide +kernel
theorem dX11_saw_102 : decode cX11_saw 102 = .ok (.ireturn, 1) := by decide +kernel
theorem dX11_saw_103 : decode cX11_saw 103 = .ok (.aload_n 0, 1) := by decide +kernel
theorem dX11_saw_104 : decode cX11_saw 104 = .ok (.getfield 100, 3) := by decide +kernel
theorem dX11_saw_107 : decode cX11_saw 107 = .ok (.bipush 8, 2) := by decide +kernel
theorem dX11_saw_109 : decode cX11_saw 109 = .ok (.if_icmp .ne 6, 3) := by decide +kernel
theorem dX11_saw_112 : decode cX11_saw 112 = .ok (.bipush (-2), 2) := by decide +kernel
theorem dX11_saw_114 : decode cX11_saw 114 = .ok (.ireturn, 1) := by decide +kernel
theorem dX11_saw_115 : decode cX11_saw 115 = .ok (.aload_n 0, 1) := by decide +kernel
theorem dX11_saw_116 : decode cX11_saw 116 = .ok (.getfield 120, 3) := by decide +kernel
theorem dX11_saw_119 : decode cX11_saw 119 = .ok (.istore 4, 2) := by decide +kernel
theorem dX11_saw_121 : decode cX11_saw 121 = .ok (.iload 4, 2) := by decide +kernel
theorem dX11_saw_123 : decode cX11_saw 123 = .ok (.aload_n 0, 1) := by decide +kernel
theorem dX11_saw_124 : decode cX11_saw 124 = .ok (.getfield 123, 3) := by decide +kernel
theorem dX11_saw_127 : decode cX11_saw 127 = .ok (.if_icmp .gt 64, 3) := by decide +kernel
theorem dX11_saw_130 : decode cX11_saw 130 = .ok (.aload_n 0, 1) := by decide +kernel
theorem dX11_saw_131 : decode cX11_saw 131 = .ok (.getfield 126, 3) := by decide +kernel
theorem dX11_saw_134 : decode cX11_saw 134 = .ok (.istore 5, 2) := by decide +kernel
theorem dX11_saw_136 : decode cX11_saw 136 = .ok (.iload 5, 2) := by decide +kernel
theorem dX11_saw_138 : decode cX11_saw 138 = .ok (.aload_n 0, 1) := by decide +kernel
theorem dX11_saw_139 : decode cX11_saw 139 = .ok (.getfield 129, 3) := by decide +kernel
theorem dX11_saw_142 : decode cX11_saw 142 = .ok (.if_icmp .gt 43, 3) := by decide +kernel
theorem dX11_saw_145 : decode cX11_saw 145 = .ok (.aload_n 0, 1) := by decide +kernel
theorem dX11_saw_146 : decode cX11_saw 146 = .ok (.getfield 26, 3) := by decide +kernel
theorem dX11_saw_149 : decode cX11_saw 149 = .ok (.bipush 8, 2) := by decide +kernel
theorem dX11_saw_151 : decode cX11_saw 151 = .ok (.iload 4, 2) := by decide +kernel
theorem dX11_saw_153 : decode cX11_saw 153 = .ok (.imul, 1) := by decide +kernel
theorem dX11_saw_154 : decode cX11_saw 154 = .ok (.iload 5, 2) := by decide +kernel
theorem dX11_saw_156 : decode cX11_saw 156 = .ok (.iadd, 1) := by decide +kernel
theorem dX11_saw_157 : decode cX11_saw 157 = .ok (.iaload, 1) := by decide +kernel
theorem dX11_saw_158 : decode cX11_saw 158 = .ok (.iload_n 1, 1) := by decide +kernel
theorem dX11_saw_159 : decode cX11_saw 159 = .ok (.if_icmp .ne 20, 3) := by decide +kernel
theorem dX11_saw_162 : decode cX11_saw 162 = .ok (.aload_n 0, 1) := by decide +kernel
theorem dX11_saw_163 : decode cX11_saw 163 = .ok (.getfield 26, 3) := by decide +kernel
theorem dX11_saw_166 : decode cX11_saw 166 = .ok (.bipush 8, 2) := by decide +kernel
theorem dX11_saw_168 : decode cX11_saw 168 = .ok (.iload 4, 2) := by decide +kernel
theorem dX11_saw_170 : decode cX11_saw 170 = .ok (.imul, 1) := by decide +kernel
theorem dX11_saw_171 : decode cX11_saw 171 = .ok (.iload 5, 2) := by decide +kernel
theorem dX11_saw_173 : decode cX11_saw 173 = .ok (.iadd, 1) := by decide +kernel
theorem dX11_saw_174 : decode cX11_saw 174 = .ok (.aload_n 0, 1) := by decide +kernel
theorem dX11_saw_175 : decode cX11_saw 175 = .ok (.getfield 100, 3) := by decide +kernel
theorem dX11_saw_178 : decode cX11_saw 178 = .ok (.iastore, 1) := by decide +kernel
theorem dX11_saw_179 : decode cX11_saw 179 = .ok (.iinc 5 1, 3) := by decide +kernel
theorem dX11_saw_182 : decode cX11_saw 182 = .ok (.goto (-46), 3) := by decide +kernel
theorem dX11_saw_185 : decode cX11_saw 185 = .ok (.iinc 4 1, 3) := by decide +kernel
theorem dX11_saw_188 : decode cX11_saw 188 = .ok (.goto (-67), 3) := by decide +kernel
theorem dX11_saw_191 : decode cX11_saw 191 = .ok (.aload_n 0, 1) := by decide +kernel
theorem dX11_saw_192 : decode cX11_saw 192 = .ok (.getfield 29, 3) := by decide +kernel
theorem dX11_saw_195 : decode cX11_saw 195 = .ok (.aload_n 0, 1) := by decide +kernel
theorem dX11_saw_196 : decode cX11_saw 196 = .ok (.getfield 100, 3) := by decide +kernel
theorem dX11_saw_199 : decode cX11_saw 199 = .ok (.aload_n 0, 1) := by decide +kernel
theorem dX11_saw_200 : decode cX11_saw 200 = .ok (.getfield 29, 3) := by decide +kernel
theorem dX11_saw_203 : decode cX11_saw 203 = .ok (.iload_n 1, 1) := by decide +kernel
theorem dX11_saw_204 : decode cX11_saw 204 = .ok (.baload, 1) := by decide +kernel
theorem dX11_saw_205 : decode cX11_saw 205 = .ok (.bastore, 1) := by decide +kernel
theorem dX11_saw_206 : decode cX11_saw 206 = .ok (.aload_n 0, 1) := by decide +kernel
theorem dX11_saw_207 : decode cX11_saw 207 = .ok (.dup, 1) := by decide +kernel
theorem dX11_saw_208 : decode cX11_saw 208 = .ok (.getfield 100, 3) := by decide +kernel
theorem dX11_saw_211 : decode cX11_saw 211 = .ok (.iconst 1, 1) := by decide +kernel
theorem dX11_saw_212 : decode cX11_saw 212 = .ok (.iadd, 1) := by decide +kernel
theorem dX11_saw_213 : decode cX11_saw 213 = .ok (.putfield 100, 3) := by decide +kernel
theorem dX11_saw_216 : decode cX11_saw 216 = .ok (.aload_n 0, 1) := by decide +kernel
theorem dX11_saw_217 : decode cX11_saw 217 = .ok (.getfield 100, 3) := by decide +kernel
theorem dX11_saw_220 : decode cX11_saw 220 = .ok (.iconst 1, 1) := by decide +kernel
theorem dX11_saw_221 : decode cX11_saw 221 = .ok (.isub, 1) := by decide +kernel
theorem dX11_saw_222 : decode cX11_saw 222 = .ok (.ireturn, 1) := by decide +kernel
theorem dX11_piece_0 : decode cX11_piece 0 = .ok (.aload_n 0, 1) := by decide +kernel
theorem dX11_piece_1 : decode cX11_piece 1 = .ok (.iload_n 1, 1) := by decide +kernel
theorem dX11_piece_2 : decode cX11_piece 2 = .ok (.invokevirtual 135, 3) := by decide +kernel
theorem dX11_piece_5 : decode cX11_piece 5 = .ok (.ifCond .eq 12, 3) := by decide +kernel
theorem dX11_piece_8 : decode cX11_piece 8 = .ok (.iload_n 2, 1) := by decide +kernel
theorem dX11_piece_9 : decode cX11_piece 9 = .ok (.iconst 0, 1) := by decide +kernel
theorem dX11_piece_10 : decode cX11_piece 10 = .ok (.iconst 1, 1) := by decide +kernel
theorem dX11_piece_11 : decode cX11_piece 11 = .ok (.invokestatic 90, 3) := by decide +kernel
theorem dX11_piece_14 : decode cX11_piece 14 = .ok (.ifCond .ne 5, 3) := by decide +kernel
theorem dX11_piece_17 : decode cX11_piece 17 = .ok (.iconst (-1), 1) := by decide +kernel
theorem dX11_piece_18 : decode cX11_piece 18 = .ok (.ireturn, 1) := by decide +kernel
theorem dX11_piece_19 : decode cX11_piece 19 = .ok (.aload_n 0, 1) := by decide +kernel
theorem dX11_piece_20 : decode cX11_piece 20 = .ok (.getfield 29, 3) := by decide +kernel
theorem dX11_piece_23 : decode cX11_piece 23 = .ok (.iload_n 1, 1) := by decide +kernel
theorem dX11_piece_24 : decode cX11_piece 24 = .ok (.baload, 1) := by decide +kernel
theorem dX11_piece_25 : decode cX11_piece 25 = .ok (.istore_n 3, 1) := by decide +kernel
theorem dX11_piece_26 : decode cX11_piece 26 = .ok (.aload_n 0, 1) := by decide +kernel
theorem dX11_piece_27 : decode cX11_piece 27 = .ok (.getfield 29, 3) := by decide +kernel
theorem dX11_piece_30 : decode cX11_piece 30 = .ok (.iload_n 1, 1) := by decide +kernel
theorem dX11_piece_31 : decode cX11_piece 31 = .ok (.iload_n 2, 1) := by decide +kernel
theorem dX11_piece_32 : decode cX11_piece 32 = .ok (.ifCond .ne 7, 3) := by decide +kernel
theorem dX11_piece_35 : decode cX11_piece 35 = .ok (.iconst 1, 1) := by decide +kernel
theorem dX11_piece_36 : decode cX11_piece 36 = .ok (.goto 4, 3) := by decide +kernel
theorem dX11_piece_39 : decode cX11_piece 39 = .ok (.iconst 0, 1) := by decide +kernel
theorem dX11_piece_40 : decode cX11_piece 40 = .ok (.bastore, 1) := by decide +kernel
theorem dX11_piece_41 : decode cX11_piece 41 = .ok (.iload_n 3, 1) := by decide +kernel
theorem dX11_piece_42 : decode cX11_piece 42 = .ok (.ifCond .eq 7, 3) := by decide +kernel
theorem dX11_piece_45 : decode cX11_piece 45 = .ok (.iconst 0, 1) := by decide +kernel
theorem dX11_piece_46 : decode cX11_piece 46 = .ok (.goto 4, 3) := by decide +kernel
theorem dX11_piece_49 : decode cX11_piece 49 = .ok (.iconst 1, 1) := by decide +kernel
theorem dX11_piece_50 : decode cX11_piece 50 = .ok (.ireturn, 1) := by decide +kernel
theorem dX11_isCell_0 : decode cX11_isCell 0 = .ok (.iload_n 1, 1) := by decide +kernel
theorem dX11_isCell_1 : decode cX11_isCell 1 = .ok (.ifCond .lt 29, 3) := by decide +kernel
theorem dX11_isCell_4 : decode cX11_isCell 4 = .ok (.iload_n 1, 1) := by decide +kernel
theorem dX11_isCell_5 : decode cX11_isCell 5 = .ok (.bipush 8, 2) := by decide +kernel
theorem dX11_isCell_7 : decode cX11_isCell 7 = .ok (.idiv, 1) := by decide +kernel
theorem dX11_isCell_8 : decode cX11_isCell 8 = .ok (.aload_n 0, 1) := by decide +kernel
theorem dX11_isCell_9 : decode cX11_isCell 9 = .ok (.getfield 94, 3) := by decide +kernel
theorem dX11_isCell_12 : decode cX11_isCell 12 = .ok (.if_icmp .ge 18, 3) := by decide +kernel
theorem dX11_isCell_15 : decode cX11_isCell 15 = .ok (.iload_n 1, 1) := by decide +kernel
theorem dX11_isCell_16 : decode cX11_isCell 16 = .ok (.bipush 8, 2) := by decide +kernel
theorem dX11_isCell_18 : decode cX11_isCell 18 = .ok (.irem, 1) := by decide +kernel
theorem dX11_isCell_19 : decode cX11_isCell 19 = .ok (.aload_n 0, 1) := by decide +kernel
theorem dX11_isCell_20 : decode cX11_isCell 20 = .ok (.getfield 97, 3) := by decide +kernel
theorem dX11_isCell_23 : decode cX11_isCell 23 = .ok (.if_icmp .ge 7, 3) := by decide +kernel
theorem dX11_isCell_26 : decode cX11_isCell 26 = .ok (.iconst 1, 1) := by decide +kernel
theorem dX11_isCell_27 : decode cX11_isCell 27 = .ok (.goto 4, 3) := by decide +kernel
theorem dX11_isCell_30 : decode cX11_isCell 30 = .ok (.iconst 0, 1) := by decide +kernel
theorem dX11_isCell_31 : decode cX11_isCell 31 = .ok (.ireturn, 1) := by decide +kernel
theorem dX11_cell_0 : decode cX11_cell 0 = .ok (.aload_n 0, 1) := by decide +kernel
theorem dX11_cell_1 : decode cX11_cell 1 = .ok (.iload_n 1, 1) := by decide +kernel
theorem dX11_cell_2 : decode cX11_cell 2 = .ok (.invokevirtual 142, 3) := by decide +kernel
theorem dX11_cell_5 : decode cX11_cell 5 = .ok (.ifCond .eq 12, 3) := by decide +kernel
theorem dX11_cell_8 : decode cX11_cell 8 = .ok (.iload_n 2, 1) := by decide +kernel
theorem dX11_cell_9 : decode cX11_cell 9 = .ok (.iconst 0, 1) := by decide +kernel
theorem dX11_cell_10 : decode cX11_cell 10 = .ok (.iconst 1, 1) := by decide +kernel
theorem dX11_cell_11 : decode cX11_cell 11 = .ok (.invokestatic 90, 3) := by decide +kernel
theorem dX11_cell_14 : decode cX11_cell 14 = .ok (.ifCond .ne 5, 3) := by decide +kernel
theorem dX11_cell_17 : decode cX11_cell 17 = .ok (.iconst (-1), 1) := by decide +kernel
theorem dX11_cell_18 : decode cX11_cell 18 = .ok (.ireturn, 1) := by decide +kernel
theorem dX11_cell_19 : decode cX11_cell 19 = .ok (.iload_n 2, 1) := by decide +kernel
theorem dX11_cell_20 : decode cX11_cell 20 = .ok (.ifCond .ne 20, 3) := by decide +kernel
theorem dX11_cell_23 : decode cX11_cell 23 = .ok (.aload_n 0, 1) := by decide +kernel
theorem dX11_cell_24 : decode cX11_cell 24 = .ok (.getfield 23, 3) := by decide +kernel
theorem dX11_cell_27 : decode cX11_cell 27 = .ok (.iload_n 1, 1) := by decide +kernel
theorem dX11_cell_28 : decode cX11_cell 28 = .ok (.baload, 1) := by decide +kernel
theorem dX11_cell_29 : decode cX11_cell 29 = .ok (.ifCond .eq 7, 3) := by decide +kernel
theorem dX11_cell_32 : decode cX11_cell 32 = .ok (.iconst 0, 1) := by decide +kernel
theorem dX11_cell_33 : decode cX11_cell 33 = .ok (.goto 13, 3) := by decide +kernel
theorem dX11_cell_36 : decode cX11_cell 36 = .ok (.iconst 1, 1) := by decide +kernel
theorem dX11_cell_37 : decode cX11_cell 37 = .ok (.goto 9, 3) := by decide +kernel
theorem dX11_cell_40 : decode cX11_cell 40 = .ok (.aload_n 0, 1) := by decide +kernel
theorem dX11_cell_41 : decode cX11_cell 41 = .ok (.getfield 26, 3) := by decide +kernel
theorem dX11_cell_44 : decode cX11_cell 44 = .ok (.iload_n 1, 1) := by decide +kernel
theorem dX11_cell_45 : decode cX11_cell 45 = .ok (.iaload, 1) := by decide +kernel
theorem dX11_cell_46 : decode cX11_cell 46 = .ok (.ireturn, 1) := by decide +kernel
theorem dX11_prints_0 : decode cX11_prints 0 = .ok (.aload_n 0, 1) := by decide +kernel
theorem dX11_prints_1 : decode cX11_prints 1 = .ok (.getfield 23, 3) := by decide +kernel
theorem dX11_prints_4 : decode cX11_prints 4 = .ok (.iload_n 1, 1) := by decide +kernel
theorem dX11_prints_5 : decode cX11_prints 5 = .ok (.baload, 1) := by decide +kernel
theorem dX11_prints_6 : decode cX11_prints 6 = .ok (.ifCond .ne 21, 3) := by decide +kernel
theorem dX11_prints_9 : decode cX11_prints 9 = .ok (.aload_n 0, 1) := by decide +kernel
theorem dX11_prints_10 : decode cX11_prints 10 = .ok (.getfield 29, 3) := by decide +kernel
theorem dX11_prints_13 : decode cX11_prints 13 = .ok (.aload_n 0, 1) := by decide +kernel
theorem dX11_prints_14 : decode cX11_prints 14 = .ok (.getfield 26, 3) := by decide +kernel
theorem dX11_prints_17 : decode cX11_prints 17 = .ok (.iload_n 1, 1) := by decide +kernel
theorem dX11_prints_18 : decode cX11_prints 18 = .ok (.iaload, 1) := by decide +kernel
theorem dX11_prints_19 : decode cX11_prints 19 = .ok (.baload, 1) := by decide +kernel
theorem dX11_prints_20 : decode cX11_prints 20 = .ok (.ifCond .ne 7, 3) := by decide +kernel
theorem dX11_prints_23 : decode cX11_prints 23 = .ok (.iconst 1, 1) := by decide +kernel
theorem dX11_prints_24 : decode cX11_prints 24 = .ok (.goto 4, 3) := by decide +kernel
theorem dX11_prints_27 : decode cX11_prints 27 = .ok (.iconst 0, 1) := by decide +kernel
theorem dX11_prints_28 : decode cX11_prints 28 = .ok (.ireturn, 1) := by decide +kernel
theorem dX11_findGroups_0 : decode cX11_findGroups 0 = .ok (.iconst 0, 1) := by decide +kernel
theorem dX11_findGroups_1 : decode cX11_findGroups 1 = .ok (.istore_n 1, 1) := by decide +kernel
theorem dX11_findGroups_2 : decode cX11_findGroups 2 = .ok (.iload_n 1, 1) := by decide +kernel
theorem dX11_findGroups_3 : decode cX11_findGroups 3 = .ok (.bipush 64, 2) := by decide +kernel
theorem dX11_findGroups_5 : decode cX11_findGroups 5 = .ok (.if_icmp .ge 36, 3) := by decide +kernel
theorem dX11_findGroups_8 : decode cX11_findGroups 8 = .ok (.aload_n 0, 1) := by decide +kernel
theorem dX11_findGroups_9 : decode cX11_findGroups 9 = .ok (.getfield 32, 3) := by decide +kernel
theorem dX11_findGroups_12 : decode cX11_findGroups 12 = .ok (.iload_n 1, 1) := by decide +kernel
theorem dX11_findGroups_13 : decode cX11_findGroups 13 = .ok (.aload_n 0, 1) := by decide +kernel
theorem dX11_findGroups_14 : decode cX11_findGroups 14 = .ok (.iload_n 1, 1) := by decide +kernel
theorem dX11_findGroups_15 : decode cX11_findGroups 15 = .ok (.invokevirtual 142, 3) := by decide +kernel
theorem dX11_findGroups_18 : decode cX11_findGroups 18 = .ok (.ifCond .eq 15, 3) := by decide +kernel
theorem dX11_findGroups_21 : decode cX11_findGroups 21 = .ok (.aload_n 0, 1) := by decide +kernel
theorem dX11_findGroups_22 : decode cX11_findGroups 22 = .ok (.iload_n 1, 1) := by decide +kernel
theorem dX11_findGroups_23 : decode cX11_findGroups 23 = .ok (.invokevirtual 145, 3) := by decide +kernel
theorem dX11_findGroups_26 : decode cX11_findGroups 26 = .ok (.ifCond .eq 7, 3) := by decide +kernel
theorem dX11_findGroups_29 : decode cX11_findGroups 29 = .ok (.iload_n 1, 1) := by decide +kernel
theorem dX11_findGroups_30 : decode cX11_findGroups 30 = .ok (.goto 4, 3) := by decide +kernel
theorem dX11_findGroups_33 : decode cX11_findGroups 33 = .ok (.iconst (-1), 1) := by decide +kernel
theorem dX11_findGroups_34 : decode cX11_findGroups 34 = .ok (.iastore, 1) := by decide +kernel
theorem dX11_findGroups_35 : decode cX11_findGroups 35 = .ok (.iinc 1 1, 3) := by decide +kernel
theorem dX11_findGroups_38 : decode cX11_findGroups 38 = .ok (.goto (-36), 3) := by decide +kernel
theorem dX11_findGroups_41 : decode cX11_findGroups 41 = .ok (.iconst 1, 1) := by decide +kernel
theorem dX11_findGroups_42 : decode cX11_findGroups 42 = .ok (.istore_n 1, 1) := by decide +kernel
theorem dX11_findGroups_43 : decode cX11_findGroups 43 = .ok (.iload_n 1, 1) := by decide +kernel
theorem dX11_findGroups_44 : decode cX11_findGroups 44 = .ok (.ifCond .eq 161, 3) := by decide +kernel
theorem dX11_findGroups_47 : decode cX11_findGroups 47 = .ok (.iconst 0, 1) := by decide +kernel
theorem dX11_findGroups_48 : decode cX11_findGroups 48 = .ok (.istore_n 1, 1) := by decide +kernel
theorem dX11_findGroups_49 : decode cX11_findGroups 49 = .ok (.iconst 0, 1) := by decide +kernel
theorem dX11_findGroups_50 : decode cX11_findGroups 50 = .ok (.istore_n 2, 1) := by decide +kernel
theorem dX11_findGroups_51 : decode cX11_findGroups 51 = .ok (.iload_n 2, 1) := by decide +kernel
theorem dX11_findGroups_52 : decode cX11_findGroups 52 = .ok (.bipush 64, 2) := by decide +kernel
theorem dX11_findGroups_54 : decode cX11_findGroups 54 = .ok (.if_icmp .ge 148, 3) := by decide +kernel
theorem dX11_findGroups_57 : decode cX11_findGroups 57 = .ok (.aload_n 0, 1) := by decide +kernel
theorem dX11_findGroups_58 : decode cX11_findGroups 58 = .ok (.getfield 32, 3) := by decide +kernel
theorem dX11_findGroups_61 : decode cX11_findGroups 61 = .ok (.iload_n 2, 1) := by decide +kernel
theorem dX11_findGroups_62 : decode cX11_findGroups 62 = .ok (.iaload, 1) := by decide +kernel
theorem dX11_findGroups_63 : decode cX11_findGroups 63 = .ok (.ifCond .lt 133, 3) := by decide +kernel
theorem dX11_findGroups_66 : decode cX11_findGroups 66 = .ok (.aload_n 0, 1) := by decide +kernel
theorem dX11_findGroups_67 : decode cX11_findGroups 67 = .ok (.iload_n 2, 1) := by decide +kernel
theorem dX11_findGroups_68 : decode cX11_findGroups 68 = .ok (.iload_n 2, 1) := by decide +kernel
theorem dX11_findGroups_69 : decode cX11_findGroups 69 = .ok (.bipush 8, 2) := by decide +kernel
theorem dX11_findGroups_71 : decode cX11_findGroups 71 = .ok (.irem, 1) := by decide +kernel
theorem dX11_findGroups_72 : decode cX11_findGroups 72 = .ok (.ifCond .le 9, 3) := by decide +kernel
theorem dX11_findGroups_75 : decode cX11_findGroups 75 = .ok (.iload_n 2, 1) := by decide +kernel
theorem dX11_findGroups_76 : decode cX11_findGroups 76 = .ok (.iconst 1, 1) := by decide +kernel
theorem dX11_findGroups_77 : decode cX11_findGroups 77 = .ok (.isub, 1) := by decide +kernel
theorem dX11_findGroups_78 : decode cX11_findGroups 78 = .ok (.goto 4, 3) := by decide +kernel
theorem dX11_findGroups_81 : decode cX11_findGroups 81 = .ok (.iconst (-1), 1) := by decide +kernel
theorem dX11_findGroups_82 : decode cX11_findGroups 82 = .ok (.invokevirtual 148, 3) := by decide +kernel
theorem dX11_findGroups_85 : decode cX11_findGroups 85 = .ok (.ifCond .ne 7, 3) := by decide +kernel
theorem dX11_findGroups_88 : decode cX11_findGroups 88 = .ok (.iload_n 1, 1) := by decide +kernel
theorem dX11_findGroups_89 : decode cX11_findGroups 89 = .ok (.ifCond .eq 7, 3) := by decide +kernel
theorem dX11_findGroups_92 : decode cX11_findGroups 92 = .ok (.iconst 1, 1) := by decide +kernel
theorem dX11_findGroups_93 : decode cX11_findGroups 93 = .ok (.goto 4, 3) := by decide +kernel
theorem dX11_findGroups_96 : decode cX11_findGroups 96 = .ok (.iconst 0, 1) := by decide +kernel
theorem dX11_findGroups_97 : decode cX11_findGroups 97 = .ok (.istore_n 1, 1) := by decide +kernel
theorem dX11_findGroups_98 : decode cX11_findGroups 98 = .ok (.aload_n 0, 1) := by decide +kernel
theorem dX11_findGroups_99 : decode cX11_findGroups 99 = .ok (.iload_n 2, 1) := by decide +kernel
theorem dX11_findGroups_100 : decode cX11_findGroups 100 = .ok (.iload_n 2, 1) := by decide +kernel
theorem dX11_findGroups_101 : decode cX11_findGroups 101 = .ok (.bipush 8, 2) := by decide +kernel
theorem dX11_findGroups_103 : decode cX11_findGroups 103 = .ok (.irem, 1) := by decide +kernel
theorem dX11_findGroups_104 : decode cX11_findGroups 104 = .ok (.bipush 7, 2) := by decide +kernel
theorem dX11_findGroups_106 : decode cX11_findGroups 106 = .ok (.if_icmp .ge 9, 3) := by decide +kernel
theorem dX11_findGroups_109 : decode cX11_findGroups 109 = .ok (.iload_n 2, 1) := by decide +kernel
theorem dX11_findGroups_110 : decode cX11_findGroups 110 = .ok (.iconst 1, 1) := by decide +kernel
theorem dX11_findGroups_111 : decode cX11_findGroups 111 = .ok (.iadd, 1) := by decide +kernel
theorem dX11_findGroups_112 : decode cX11_findGroups 112 = .ok (.goto 4, 3) := by decide +kernel
theorem dX11_findGroups_115 : decode cX11_findGroups 115 = .ok (.iconst (-1), 1) := by decide +kernel
theorem dX11_findGroups_116 : decode cX11_findGroups 116 = .ok (.invokevirtual 148, 3) := by decide +kernel
theorem dX11_findGroups_119 : decode cX11_findGroups 119 = .ok (.ifCond .ne 7, 3) := by decide +kernel
theorem dX11_findGroups_122 : decode cX11_findGroups 122 = .ok (.iload_n 1, 1) := by decide +kernel
theorem dX11_findGroups_123 : decode cX11_findGroups 123 = .ok (.ifCond .eq 7, 3) := by decide +kernel
theorem dX11_findGroups_126 : decode cX11_findGroups 126 = .ok (.iconst 1, 1) := by decide +kernel
theorem dX11_findGroups_127 : decode cX11_findGroups 127 = .ok (.goto 4, 3) := by decide +kernel
theorem dX11_findGroups_130 : decode cX11_findGroups 130 = .ok (.iconst 0, 1) := by decide +kernel
theorem dX11_findGroups_131 : decode cX11_findGroups 131 = .ok (.istore_n 1, 1) := by decide +kernel
theorem dX11_findGroups_132 : decode cX11_findGroups 132 = .ok (.aload_n 0, 1) := by decide +kernel
theorem dX11_findGroups_133 : decode cX11_findGroups 133 = .ok (.iload_n 2, 1) := by decide +kernel
theorem dX11_findGroups_134 : decode cX11_findGroups 134 = .ok (.iload_n 2, 1) := by decide +kernel
theorem dX11_findGroups_135 : decode cX11_findGroups 135 = .ok (.bipush 8, 2) := by decide +kernel
theorem dX11_findGroups_137 : decode cX11_findGroups 137 = .ok (.if_icmp .lt 10, 3) := by decide +kernel
theorem dX11_findGroups_140 : decode cX11_findGroups 140 = .ok (.iload_n 2, 1) := by decide +kernel
theorem dX11_findGroups_141 : decode cX11_findGroups 141 = .ok (.bipush 8, 2) := by decide +kernel
theorem dX11_findGroups_143 : decode cX11_findGroups 143 = .ok (.isub, 1) := by decide +kernel
theorem dX11_findGroups_144 : decode cX11_findGroups 144 = .ok (.goto 4, 3) := by decide +kernel
theorem dX11_findGroups_147 : decode cX11_findGroups 147 = .ok (.iconst (-1), 1) := by decide +kernel
theorem dX11_findGroups_148 : decode cX11_findGroups 148 = .ok (.invokevirtual 148, 3) := by decide +kernel
theorem dX11_findGroups_151 : decode cX11_findGroups 151 = .ok (.ifCond .ne 7, 3) := by decide +kernel
theorem dX11_findGroups_154 : decode cX11_findGroups 154 = .ok (.iload_n 1, 1) := by decide +kernel
theorem dX11_findGroups_155 : decode cX11_findGroups 155 = .ok (.ifCond .eq 7, 3) := by decide +kernel
theorem dX11_findGroups_158 : decode cX11_findGroups 158 = .ok (.iconst 1, 1) := by decide +kernel
theorem dX11_findGroups_159 : decode cX11_findGroups 159 = .ok (.goto 4, 3) := by decide +kernel
theorem dX11_findGroups_162 : decode cX11_findGroups 162 = .ok (.iconst 0, 1) := by decide +kernel
theorem dX11_findGroups_163 : decode cX11_findGroups 163 = .ok (.istore_n 1, 1) := by decide +kernel
theorem dX11_findGroups_164 : decode cX11_findGroups 164 = .ok (.aload_n 0, 1) := by decide +kernel
theorem dX11_findGroups_165 : decode cX11_findGroups 165 = .ok (.iload_n 2, 1) := by decide +kernel
theorem dX11_findGroups_166 : decode cX11_findGroups 166 = .ok (.iload_n 2, 1) := by decide +kernel
theorem dX11_findGroups_167 : decode cX11_findGroups 167 = .ok (.bipush 56, 2) := by decide +kernel
theorem dX11_findGroups_169 : decode cX11_findGroups 169 = .ok (.if_icmp .ge 10, 3) := by decide +kernel
theorem dX11_findGroups_172 : decode cX11_findGroups 172 = .ok (.iload_n 2, 1) := by decide +kernel
theorem dX11_findGroups_173 : decode cX11_findGroups 173 = .ok (.bipush 8, 2) := by decide +kernel
theorem dX11_findGroups_175 : decode cX11_findGroups 175 = .ok (.iadd, 1) := by decide +kernel
theorem dX11_findGroups_176 : decode cX11_findGroups 176 = .ok (.goto 4, 3) := by decide +kernel
theorem dX11_findGroups_179 : decode cX11_findGroups 179 = .ok (.iconst (-1), 1) := by decide +kernel
theorem dX11_findGroups_180 : decode cX11_findGroups 180 = .ok (.invokevirtual 148, 3) := by decide +kernel
theorem dX11_findGroups_183 : decode cX11_findGroups 183 = .ok (.ifCond .ne 7, 3) := by decide +kernel
theorem dX11_findGroups_186 : decode cX11_findGroups 186 = .ok (.iload_n 1, 1) := by decide +kernel
theorem dX11_findGroups_187 : decode cX11_findGroups 187 = .ok (.ifCond .eq 7, 3) := by decide +kernel
theorem dX11_findGroups_190 : decode cX11_findGroups 190 = .ok (.iconst 1, 1) := by decide +kernel
theorem dX11_findGroups_191 : decode cX11_findGroups 191 = .ok (.goto 4, 3) := by decide +kernel
theorem dX11_findGroups_194 : decode cX11_findGroups 194 = .ok (.iconst 0, 1) := by decide +kernel
theorem dX11_findGroups_195 : decode cX11_findGroups 195 = .ok (.istore_n 1, 1) := by decide +kernel
theorem dX11_findGroups_196 : decode cX11_findGroups 196 = .ok (.iinc 2 1, 3) := by decide +kernel
theorem dX11_findGroups_199 : decode cX11_findGroups 199 = .ok (.goto (-148), 3) := by decide +kernel
theorem dX11_findGroups_202 : decode cX11_findGroups 202 = .ok (.goto (-159), 3) := by decide +kernel
theorem dX11_findGroups_205 : decode cX11_findGroups 205 = .ok (.return_, 1) := by decide +kernel
theorem dX11_join_0 : decode cX11_join 0 = .ok (.iload_n 2, 1) := by decide +kernel
theorem dX11_join_1 : decode cX11_join 1 = .ok (.ifCond .lt 42, 3) := by decide +kernel
theorem dX11_join_4 : decode cX11_join 4 = .ok (.aload_n 0, 1) := by decide +kernel
theorem dX11_join_5 : decode cX11_join 5 = .ok (.getfield 32, 3) := by decide +kernel
theorem dX11_join_8 : decode cX11_join 8 = .ok (.iload_n 2, 1) := by decide +kernel
theorem dX11_join_9 : decode cX11_join 9 = .ok (.iaload, 1) := by decide +kernel
theorem dX11_join_10 : decode cX11_join 10 = .ok (.ifCond .lt 33, 3) := by decide +kernel
theorem dX11_join_13 : decode cX11_join 13 = .ok (.aload_n 0, 1) := by decide +kernel
theorem dX11_join_14 : decode cX11_join 14 = .ok (.getfield 26, 3) := by decide +kernel
theorem dX11_join_17 : decode cX11_join 17 = .ok (.iload_n 2, 1) := by decide +kernel
theorem dX11_join_18 : decode cX11_join 18 = .ok (.iaload, 1) := by decide +kernel
theorem dX11_join_19 : decode cX11_join 19 = .ok (.aload_n 0, 1) := by decide +kernel
theorem dX11_join_20 : decode cX11_join 20 = .ok (.getfield 26, 3) := by decide +kernel
theorem dX11_join_23 : decode cX11_join 23 = .ok (.iload_n 1, 1) := by decide +kernel
theorem dX11_join_24 : decode cX11_join 24 = .ok (.iaload, 1) := by decide +kernel
theorem dX11_join_25 : decode cX11_join 25 = .ok (.if_icmp .ne 18, 3) := by decide +kernel
theorem dX11_join_28 : decode cX11_join 28 = .ok (.aload_n 0, 1) := by decide +kernel
theorem dX11_join_29 : decode cX11_join 29 = .ok (.getfield 32, 3) := by decide +kernel
theorem dX11_join_32 : decode cX11_join 32 = .ok (.iload_n 2, 1) := by decide +kernel
theorem dX11_join_33 : decode cX11_join 33 = .ok (.iaload, 1) := by decide +kernel
theorem dX11_join_34 : decode cX11_join 34 = .ok (.aload_n 0, 1) := by decide +kernel
theorem dX11_join_35 : decode cX11_join 35 = .ok (.getfield 32, 3) := by decide +kernel
theorem dX11_join_38 : decode cX11_join 38 = .ok (.iload_n 1, 1) := by decide +kernel
theorem dX11_join_39 : decode cX11_join 39 = .ok (.iaload, 1) := by decide +kernel
theorem dX11_join_40 : decode cX11_join 40 = .ok (.if_icmp .lt 5, 3) := by decide +kernel
theorem dX11_join_43 : decode cX11_join 43 = .ok (.iconst 0, 1) := by decide +kernel
theorem dX11_join_44 : decode cX11_join 44 = .ok (.ireturn, 1) := by decide +kernel
theorem dX11_join_45 : decode cX11_join 45 = .ok (.aload_n 0, 1) := by decide +kernel
theorem dX11_join_46 : decode cX11_join 46 = .ok (.getfield 32, 3) := by decide +kernel
theorem dX11_join_49 : decode cX11_join 49 = .ok (.iload_n 1, 1) := by decide +kernel
theorem dX11_join_50 : decode cX11_join 50 = .ok (.aload_n 0, 1) := by decide +kernel
theorem dX11_join_51 : decode cX11_join 51 = .ok (.getfield 32, 3) := by decide +kernel
theorem dX11_join_54 : decode cX11_join 54 = .ok (.iload_n 2, 1) := by decide +kernel
theorem dX11_join_55 : decode cX11_join 55 = .ok (.iaload, 1) := by decide +kernel
theorem dX11_join_56 : decode cX11_join 56 = .ok (.iastore, 1) := by decide +kernel
theorem dX11_join_57 : decode cX11_join 57 = .ok (.iconst 1, 1) := by decide +kernel
theorem dX11_join_58 : decode cX11_join 58 = .ok (.ireturn, 1) := by decide +kernel
theorem dX11_islands_0 : decode cX11_islands 0 = .ok (.iload_n 1, 1) := by decide +kernel
theorem dX11_islands_1 : decode cX11_islands 1 = .ok (.iconst 0, 1) := by decide +kernel
theorem dX11_islands_2 : decode cX11_islands 2 = .ok (.iconst 2, 1) := by decide +kernel
theorem dX11_islands_3 : decode cX11_islands 3 = .ok (.invokestatic 90, 3) := by decide +kernel
theorem dX11_islands_6 : decode cX11_islands 6 = .ok (.ifCond .ne 5, 3) := by decide +kernel
theorem dX11_islands_9 : decode cX11_islands 9 = .ok (.iconst (-1), 1) := by decide +kernel
theorem dX11_islands_10 : decode cX11_islands 10 = .ok (.ireturn, 1) := by decide +kernel
theorem dX11_islands_11 : decode cX11_islands 11 = .ok (.aload_n 0, 1) := by decide +kernel
theorem dX11_islands_12 : decode cX11_islands 12 = .ok (.invokevirtual 152, 3) := by decide +kernel
theorem dX11_islands_15 : decode cX11_islands 15 = .ok (.iconst 0, 1) := by decide +kernel
theorem dX11_islands_16 : decode cX11_islands 16 = .ok (.istore_n 2, 1) := by decide +kernel
theorem dX11_islands_17 : decode cX11_islands 17 = .ok (.iconst 0, 1) := by decide +kernel
theorem dX11_islands_18 : decode cX11_islands 18 = .ok (.istore_n 3, 1) := by decide +kernel
theorem dX11_islands_19 : decode cX11_islands 19 = .ok (.iconst 0, 1) := by decide +kernel
theorem dX11_islands_20 : decode cX11_islands 20 = .ok (.istore 4, 2) := by decide +kernel
theorem dX11_islands_22 : decode cX11_islands 22 = .ok (.iconst 0, 1) := by decide +kernel
theorem dX11_islands_23 : decode cX11_islands 23 = .ok (.istore 5, 2) := by decide +kernel
theorem dX11_islands_25 : decode cX11_islands 25 = .ok (.iload 5, 2) := by decide +kernel
theorem dX11_islands_27 : decode cX11_islands 27 = .ok (.bipush 64, 2) := by decide +kernel
theorem dX11_islands_29 : decode cX11_islands 29 = .ok (.if_icmp .ge 83, 3) := by decide +kernel
theorem dX11_islands_32 : decode cX11_islands 32 = .ok (.iconst 0, 1) := by decide +kernel
theorem dX11_islands_33 : decode cX11_islands 33 = .ok (.istore 6, 2) := by decide +kernel
theorem dX11_islands_35 : decode cX11_islands 35 = .ok (.iconst 0, 1) := by decide +kernel
theorem dX11_islands_36 : decode cX11_islands 36 = .ok (.istore 7, 2) := by decide +kernel
theorem dX11_islands_38 : decode cX11_islands 38 = .ok (.iload 7, 2) := by decide +kernel
theorem dX11_islands_40 : decode cX11_islands 40 = .ok (.bipush 64, 2) := by decide +kernel
theorem dX11_islands_42 : decode cX11_islands 42 = .ok (.if_icmp .ge 31, 3) := by decide +kernel
theorem dX11_islands_45 : decode cX11_islands 45 = .ok (.iload 6, 2) := by decide +kernel
theorem dX11_islands_47 : decode cX11_islands 47 = .ok (.aload_n 0, 1) := by decide +kernel
theorem dX11_islands_48 : decode cX11_islands 48 = .ok (.getfield 32, 3) := by decide +kernel
theorem dX11_islands_51 : decode cX11_islands 51 = .ok (.iload 7, 2) := by decide +kernel
theorem dX11_islands_53 : decode cX11_islands 53 = .ok (.iaload, 1) := by decide +kernel
theorem dX11_islands_54 : decode cX11_islands 54 = .ok (.iload 5, 2) := by decide +kernel
theorem dX11_islands_56 : decode cX11_islands 56 = .ok (.if_icmp .ne 7, 3) := by decide +kernel
theorem dX11_islands_59 : decode cX11_islands 59 = .ok (.iconst 1, 1) := by decide +kernel
theorem dX11_islands_60 : decode cX11_islands 60 = .ok (.goto 4, 3) := by decide +kernel
theorem dX11_islands_63 : decode cX11_islands 63 = .ok (.iconst 0, 1) := by decide +kernel
theorem dX11_islands_64 : decode cX11_islands 64 = .ok (.iadd, 1) := by decide +kernel
theorem dX11_islands_65 : decode cX11_islands 65 = .ok (.istore 6, 2) := by decide +kernel
theorem dX11_islands_67 : decode cX11_islands 67 = .ok (.iinc 7 1, 3) := by decide +kernel
theorem dX11_islands_70 : decode cX11_islands 70 = .ok (.goto (-32), 3) := by decide +kernel
theorem dX11_islands_73 : decode cX11_islands 73 = .ok (.iload_n 2, 1) := by decide +kernel
theorem dX11_islands_74 : decode cX11_islands 74 = .ok (.iload 6, 2) := by decide +kernel
theorem dX11_islands_76 : decode cX11_islands 76 = .ok (.ifCond .le 7, 3) := by decide +kernel
theorem dX11_islands_79 : decode cX11_islands 79 = .ok (.iconst 1, 1) := by decide +kernel
theorem dX11_islands_80 : decode cX11_islands 80 = .ok (.goto 4, 3) := by decide +kernel
theorem dX11_islands_83 : decode cX11_islands 83 = .ok (.iconst 0, 1) := by decide +kernel
theorem dX11_islands_84 : decode cX11_islands 84 = .ok (.iadd, 1) := by decide +kernel
theorem dX11_islands_85 : decode cX11_islands 85 = .ok (.istore_n 2, 1) := by decide +kernel
theorem dX11_islands_86 : decode cX11_islands 86 = .ok (.iload 6, 2) := by decide +kernel
theorem dX11_islands_88 : decode cX11_islands 88 = .ok (.iload_n 3, 1) := by decide +kernel
theorem dX11_islands_89 : decode cX11_islands 89 = .ok (.if_icmp .le 8, 3) := by decide +kernel
theorem dX11_islands_92 : decode cX11_islands 92 = .ok (.iload 6, 2) := by decide +kernel
theorem dX11_islands_94 : decode cX11_islands 94 = .ok (.goto 4, 3) := by decide +kernel
theorem dX11_islands_97 : decode cX11_islands 97 = .ok (.iload_n 3, 1) := by decide +kernel
theorem dX11_islands_98 : decode cX11_islands 98 = .ok (.istore_n 3, 1) := by decide +kernel
theorem dX11_islands_99 : decode cX11_islands 99 = .ok (.iload 4, 2) := by decide +kernel
theorem dX11_islands_101 : decode cX11_islands 101 = .ok (.iload 6, 2) := by decide +kernel
theorem dX11_islands_103 : decode cX11_islands 103 = .ok (.iadd, 1) := by decide +kernel
theorem dX11_islands_104 : decode cX11_islands 104 = .ok (.istore 4, 2) := by decide +kernel
theorem dX11_islands_106 : decode cX11_islands 106 = .ok (.iinc 5 1, 3) := by decide +kernel
theorem dX11_islands_109 : decode cX11_islands 109 = .ok (.goto (-84), 3) := by decide +kernel
theorem dX11_islands_112 : decode cX11_islands 112 = .ok (.iload_n 1, 1) := by decide +kernel
theorem dX11_islands_113 : decode cX11_islands 113 = .ok (.ifCond .ne 7, 3) := by decide +kernel
theorem dX11_islands_116 : decode cX11_islands 116 = .ok (.iload_n 2, 1) := by decide +kernel
theorem dX11_islands_117 : decode cX11_islands 117 = .ok (.goto 14, 3) := by decide +kernel
theorem dX11_islands_120 : decode cX11_islands 120 = .ok (.iload_n 1, 1) := by decide +kernel
theorem dX11_islands_121 : decode cX11_islands 121 = .ok (.iconst 1, 1) := by decide +kernel
theorem dX11_islands_122 : decode cX11_islands 122 = .ok (.if_icmp .ne 7, 3) := by decide +kernel
theorem dX11_islands_125 : decode cX11_islands 125 = .ok (.iload_n 3, 1) := by decide +kernel
theorem dX11_islands_126 : decode cX11_islands 126 = .ok (.goto 5, 3) := by decide +kernel
theorem dX11_islands_129 : decode cX11_islands 129 = .ok (.iload 4, 2) := by decide +kernel
theorem dX11_islands_131 : decode cX11_islands 131 = .ok (.ireturn, 1) := by decide +kernel
theorem dX11_joined_0 : decode cX11_joined 0 = .ok (.aload_n 0, 1) := by decide +kernel
theorem dX11_joined_1 : decode cX11_joined 1 = .ok (.iload_n 1, 1) := by decide +kernel
theorem dX11_joined_2 : decode cX11_joined 2 = .ok (.invokevirtual 142, 3) := by decide +kernel
theorem dX11_joined_5 : decode cX11_joined 5 = .ok (.ifCond .eq 11, 3) := by decide +kernel
theorem dX11_joined_8 : decode cX11_joined 8 = .ok (.aload_n 0, 1) := by decide +kernel
theorem dX11_joined_9 : decode cX11_joined 9 = .ok (.iload_n 2, 1) := by decide +kernel
theorem dX11_joined_10 : decode cX11_joined 10 = .ok (.invokevirtual 142, 3) := by decide +kernel
theorem dX11_joined_13 : decode cX11_joined 13 = .ok (.ifCond .ne 5, 3) := by decide +kernel
theorem dX11_joined_16 : decode cX11_joined 16 = .ok (.iconst (-1), 1) := by decide +kernel
theorem dX11_joined_17 : decode cX11_joined 17 = .ok (.ireturn, 1) := by decide +kernel
theorem dX11_joined_18 : decode cX11_joined 18 = .ok (.aload_n 0, 1) := by decide +kernel
theorem dX11_joined_19 : decode cX11_joined 19 = .ok (.invokevirtual 152, 3) := by decide +kernel
theorem dX11_joined_22 : decode cX11_joined 22 = .ok (.aload_n 0, 1) := by decide +kernel
theorem dX11_joined_23 : decode cX11_joined 23 = .ok (.getfield 32, 3) := by decide +kernel
theorem dX11_joined_26 : decode cX11_joined 26 = .ok (.iload_n 1, 1) := by decide +kernel
theorem dX11_joined_27 : decode cX11_joined 27 = .ok (.iaload, 1) := by decide +kernel
theorem dX11_joined_28 : decode cX11_joined 28 = .ok (.ifCond .lt 22, 3) := by decide +kernel
theorem dX11_joined_31 : decode cX11_joined 31 = .ok (.aload_n 0, 1) := by decide +kernel
theorem dX11_joined_32 : decode cX11_joined 32 = .ok (.getfield 32, 3) := by decide +kernel
theorem dX11_joined_35 : decode cX11_joined 35 = .ok (.iload_n 1, 1) := by decide +kernel
theorem dX11_joined_36 : decode cX11_joined 36 = .ok (.iaload, 1) := by decide +kernel
theorem dX11_joined_37 : decode cX11_joined 37 = .ok (.aload_n 0, 1) := by decide +kernel
theorem dX11_joined_38 : decode cX11_joined 38 = .ok (.getfield 32, 3) := by decide +kernel
theorem dX11_joined_41 : decode cX11_joined 41 = .ok (.iload_n 2, 1) := by decide +kernel
theorem dX11_joined_42 : decode cX11_joined 42 = .ok (.iaload, 1) := by decide +kernel
theorem dX11_joined_43 : decode cX11_joined 43 = .ok (.if_icmp .ne 7, 3) := by decide +kernel
theorem dX11_joined_46 : decode cX11_joined 46 = .ok (.iconst 1, 1) := by decide +kernel
theorem dX11_joined_47 : decode cX11_joined 47 = .ok (.goto 4, 3) := by decide +kernel
theorem dX11_joined_50 : decode cX11_joined 50 = .ok (.iconst 0, 1) := by decide +kernel
theorem dX11_joined_51 : decode cX11_joined 51 = .ok (.ireturn, 1) := by decide +kernel
theorem dX11_sheets_0 : decode cX11_sheets 0 = .ok (.iload_n 1, 1) := by decide +kernel
theorem dX11_sheets_1 : decode cX11_sheets 1 = .ok (.iconst 1, 1) := by decide +kernel
theorem dX11_sheets_2 : decode cX11_sheets 2 = .ok (.bipush 20, 2) := by decide +kernel
theorem dX11_sheets_4 : decode cX11_sheets 4 = .ok (.invokestatic 90, 3) := by decide +kernel
theorem dX11_sheets_7 : decode cX11_sheets 7 = .ok (.ifCond .eq 10, 3) := by decide +kernel
theorem dX11_sheets_10 : decode cX11_sheets 10 = .ok (.aload_n 0, 1) := by decide +kernel
theorem dX11_sheets_11 : decode cX11_sheets 11 = .ok (.getfield 94, 3) := by decide +kernel
theorem dX11_sheets_14 : decode cX11_sheets 14 = .ok (.ifCond .ne 5, 3) := by decide +kernel
theorem dX11_sheets_17 : decode cX11_sheets 17 = .ok (.iconst (-1), 1) := by decide +kernel
theorem dX11_sheets_18 : decode cX11_sheets 18 = .ok (.ireturn, 1) := by decide +kernel
theorem dX11_sheets_19 : decode cX11_sheets 19 = .ok (.aload_n 0, 1) := by decide +kernel
theorem dX11_sheets_20 : decode cX11_sheets 20 = .ok (.getfield 155, 3) := by decide +kernel
theorem dX11_sheets_23 : decode cX11_sheets 23 = .ok (.iload_n 1, 1) := by decide +kernel
theorem dX11_sheets_24 : decode cX11_sheets 24 = .ok (.iadd, 1) := by decide +kernel
theorem dX11_sheets_25 : decode cX11_sheets 25 = .ok (.bipush 20, 2) := by decide +kernel
theorem dX11_sheets_27 : decode cX11_sheets 27 = .ok (.if_icmp .le 6, 3) := by decide +kernel
theorem dX11_sheets_30 : decode cX11_sheets 30 = .ok (.bipush (-2), 2) := by decide +kernel
theorem dX11_sheets_32 : decode cX11_sheets 32 = .ok (.ireturn, 1) := by decide +kernel
theorem dX11_sheets_33 : decode cX11_sheets 33 = .ok (.bipush 64, 2) := by decide +kernel
theorem dX11_sheets_35 : decode cX11_sheets 35 = .ok (.aload_n 0, 1) := by decide +kernel
theorem dX11_sheets_36 : decode cX11_sheets 36 = .ok (.getfield 155, 3) := by decide +kernel
theorem dX11_sheets_39 : decode cX11_sheets 39 = .ok (.imul, 1) := by decide +kernel
theorem dX11_sheets_40 : decode cX11_sheets 40 = .ok (.istore_n 2, 1) := by decide +kernel
theorem dX11_sheets_41 : decode cX11_sheets 41 = .ok (.iload_n 2, 1) := by decide +kernel
theorem dX11_sheets_42 : decode cX11_sheets 42 = .ok (.bipush 64, 2) := by decide +kernel
theorem dX11_sheets_44 : decode cX11_sheets 44 = .ok (.aload_n 0, 1) := by decide +kernel
theorem dX11_sheets_45 : decode cX11_sheets 45 = .ok (.getfield 155, 3) := by decide +kernel
theorem dX11_sheets_48 : decode cX11_sheets 48 = .ok (.iload_n 1, 1) := by decide +kernel
theorem dX11_sheets_49 : decode cX11_sheets 49 = .ok (.iadd, 1) := by decide +kernel
theorem dX11_sheets_50 : decode cX11_sheets 50 = .ok (.imul, 1) := by decide +kernel
theorem dX11_sheets_51 : decode cX11_sheets 51 = .ok (.if_icmp .ge 16, 3) := by decide +kernel
theorem dX11_sheets_54 : decode cX11_sheets 54 = .ok (.aload_n 0, 1) := by decide +kernel
theorem dX11_sheets_55 : decode cX11_sheets 55 = .ok (.getfield 38, 3) := by decide +kernel
theorem dX11_sheets_58 : decode cX11_sheets 58 = .ok (.iload_n 2, 1) := by decide +kernel
theorem dX11_sheets_59 : decode cX11_sheets 59 = .ok (.iconst (-1), 1) := by decide +kernel
theorem dX11_sheets_60 : decode cX11_sheets 60 = .ok (.iastore, 1) := by decide +kernel
theorem dX11_sheets_61 : decode cX11_sheets 61 = .ok (.iinc 2 1, 3) := by decide +kernel
theorem dX11_sheets_64 : decode cX11_sheets 64 = .ok (.goto (-23), 3) := by decide +kernel
theorem dX11_sheets_67 : decode cX11_sheets 67 = .ok (.aload_n 0, 1) := by decide +kernel
theorem dX11_sheets_68 : decode cX11_sheets 68 = .ok (.dup, 1) := by decide +kernel
theorem dX11_sheets_69 : decode cX11_sheets 69 = .ok (.getfield 155, 3) := by decide +kernel
theorem dX11_sheets_72 : decode cX11_sheets 72 = .ok (.iload_n 1, 1) := by decide +kernel
theorem dX11_sheets_73 : decode cX11_sheets 73 = .ok (.iadd, 1) := by decide +kernel
theorem dX11_sheets_74 : decode cX11_sheets 74 = .ok (.putfield 155, 3) := by decide +kernel
theorem dX11_sheets_77 : decode cX11_sheets 77 = .ok (.aload_n 0, 1) := by decide +kernel
theorem dX11_sheets_78 : decode cX11_sheets 78 = .ok (.getfield 155, 3) := by decide +kernel
theorem dX11_sheets_81 : decode cX11_sheets 81 = .ok (.ireturn, 1) := by decide +kernel
theorem dX11_areSheets_0 : decode cX11_areSheets 0 = .ok (.iload_n 1, 1) := by decide +kernel
theorem dX11_areSheets_1 : decode cX11_areSheets 1 = .ok (.ifCond .lt 29, 3) := by decide +kernel
theorem dX11_areSheets_4 : decode cX11_areSheets 4 = .ok (.iload_n 1, 1) := by decide +kernel
theorem dX11_areSheets_5 : decode cX11_areSheets 5 = .ok (.bipush 100, 2) := by decide +kernel
theorem dX11_areSheets_7 : decode cX11_areSheets 7 = .ok (.idiv, 1) := by decide +kernel
theorem dX11_areSheets_8 : decode cX11_areSheets 8 = .ok (.iload_n 1, 1) := by decide +kernel
theorem dX11_areSheets_9 : decode cX11_areSheets 9 = .ok (.bipush 100, 2) := by decide +kernel
theorem dX11_areSheets_11 : decode cX11_areSheets 11 = .ok (.irem, 1) := by decide +kernel
theorem dX11_areSheets_12 : decode cX11_areSheets 12 = .ok (.if_icmp .gt 18, 3) := by decide +kernel
theorem dX11_areSheets_15 : decode cX11_areSheets 15 = .ok (.iload_n 1, 1) := by decide +kernel
theorem dX11_areSheets_16 : decode cX11_areSheets 16 = .ok (.bipush 100, 2) := by decide +kernel
theorem dX11_areSheets_18 : decode cX11_areSheets 18 = .ok (.irem, 1) := by decide +kernel
theorem dX11_areSheets_19 : decode cX11_areSheets 19 = .ok (.aload_n 0, 1) := by decide +kernel
theorem dX11_areSheets_20 : decode cX11_areSheets 20 = .ok (.getfield 155, 3) := by decide +kernel
theorem dX11_areSheets_23 : decode cX11_areSheets 23 = .ok (.if_icmp .ge 7, 3) := by decide +kernel
theorem dX11_areSheets_26 : decode cX11_areSheets 26 = .ok (.iconst 1, 1) := by decide +kernel
theorem dX11_areSheets_27 : decode cX11_areSheets 27 = .ok (.goto 4, 3) := by decide +kernel
theorem dX11_areSheets_30 : decode cX11_areSheets 30 = .ok (.iconst 0, 1) := by decide +kernel
theorem dX11_areSheets_31 : decode cX11_areSheets 31 = .ok (.ireturn, 1) := by decide +kernel
theorem dX11_throwsOff_0 : decode cX11_throwsOff 0 = .ok (.aload_n 0, 1) := by decide +kernel
theorem dX11_throwsOff_1 : decode cX11_throwsOff 1 = .ok (.aload_n 0, 1) := by decide +kernel
theorem dX11_throwsOff_2 : decode cX11_throwsOff 2 = .ok (.getfield 113, 3) := by decide +kernel
theorem dX11_throwsOff_5 : decode cX11_throwsOff 5 = .ok (.ldc 158, 2) := by decide +kernel
theorem dX11_throwsOff_7 : decode cX11_throwsOff 7 = .ok (.imul, 1) := by decide +kernel
theorem dX11_throwsOff_8 : decode cX11_throwsOff 8 = .ok (.sipush 12345, 3) := by decide +kernel
theorem dX11_throwsOff_11 : decode cX11_throwsOff 11 = .ok (.iadd, 1) := by decide +kernel
theorem dX11_throwsOff_12 : decode cX11_throwsOff 12 = .ok (.putfield 113, 3) := by decide +kernel
theorem dX11_throwsOff_15 : decode cX11_throwsOff 15 = .ok (.aload_n 0, 1) := by decide +kernel
theorem dX11_throwsOff_16 : decode cX11_throwsOff 16 = .ok (.getfield 113, 3) := by decide +kernel
theorem dX11_throwsOff_19 : decode cX11_throwsOff 19 = .ok (.bipush 8, 2) := by decide +kernel
theorem dX11_throwsOff_21 : decode cX11_throwsOff 21 = .ok (.iushr, 1) := by decide +kernel
theorem dX11_throwsOff_22 : decode cX11_throwsOff 22 = .ok (.sipush 1000, 3) := by decide +kernel
theorem dX11_throwsOff_25 : decode cX11_throwsOff 25 = .ok (.irem, 1) := by decide +kernel
theorem dX11_throwsOff_26 : decode cX11_throwsOff 26 = .ok (.aload_n 0, 1) := by decide +kernel
theorem dX11_throwsOff_27 : decode cX11_throwsOff 27 = .ok (.getfield 110, 3) := by decide +kernel
theorem dX11_throwsOff_30 : decode cX11_throwsOff 30 = .ok (.if_icmp .ge 7, 3) := by decide +kernel
theorem dX11_throwsOff_33 : decode cX11_throwsOff 33 = .ok (.iconst 1, 1) := by decide +kernel
theorem dX11_throwsOff_34 : decode cX11_throwsOff 34 = .ok (.goto 4, 3) := by decide +kernel
theorem dX11_throwsOff_37 : decode cX11_throwsOff 37 = .ok (.iconst 0, 1) := by decide +kernel
theorem dX11_throwsOff_38 : decode cX11_throwsOff 38 = .ok (.ireturn, 1) := by decide +kernel
theorem dX11_lay_0 : decode cX11_lay 0 = .ok (.iconst 0, 1) := by decide +kernel
theorem dX11_lay_1 : decode cX11_lay 1 = .ok (.istore_n 2, 1) := by decide +kernel
theorem dX11_lay_2 : decode cX11_lay 2 = .ok (.iconst 0, 1) := by decide +kernel
theorem dX11_lay_3 : decode cX11_lay 3 = .ok (.istore_n 3, 1) := by decide +kernel
theorem dX11_lay_4 : decode cX11_lay 4 = .ok (.iload_n 3, 1) := by decide +kernel
theorem dX11_lay_5 : decode cX11_lay 5 = .ok (.aload_n 0, 1) := by decide +kernel
theorem dX11_lay_6 : decode cX11_lay 6 = .ok (.getfield 94, 3) := by decide +kernel
theorem dX11_lay_9 : decode cX11_lay 9 = .ok (.if_icmp .ge 183, 3) := by decide +kernel
theorem dX11_lay_12 : decode cX11_lay 12 = .ok (.iconst 0, 1) := by decide +kernel
theorem dX11_lay_13 : decode cX11_lay 13 = .ok (.istore 4, 2) := by decide +kernel
theorem dX11_lay_15 : decode cX11_lay 15 = .ok (.iload 4, 2) := by decide +kernel
theorem dX11_lay_17 : decode cX11_lay 17 = .ok (.aload_n 0, 1) := by decide +kernel
theorem dX11_lay_18 : decode cX11_lay 18 = .ok (.getfield 97, 3) := by decide +kernel
theorem dX11_lay_21 : decode cX11_lay 21 = .ok (.if_icmp .ge 165, 3) := by decide +kernel
theorem dX11_lay_24 : decode cX11_lay 24 = .ok (.bipush 8, 2) := by decide +kernel
theorem dX11_lay_26 : decode cX11_lay 26 = .ok (.iload_n 3, 1) := by decide +kernel
theorem dX11_lay_27 : decode cX11_lay 27 = .ok (.imul, 1) := by decide +kernel
theorem dX11_lay_28 : decode cX11_lay 28 = .ok (.iload 4, 2) := by decide +kernel
theorem dX11_lay_30 : decode cX11_lay 30 = .ok (.iadd, 1) := by decide +kernel
theorem dX11_lay_31 : decode cX11_lay 31 = .ok (.istore 5, 2) := by decide +kernel
theorem dX11_lay_33 : decode cX11_lay 33 = .ok (.bipush 64, 2) := by decide +kernel
theorem dX11_lay_35 : decode cX11_lay 35 = .ok (.iload_n 1, 1) := by decide +kernel
theorem dX11_lay_36 : decode cX11_lay 36 = .ok (.imul, 1) := by decide +kernel
theorem dX11_lay_37 : decode cX11_lay 37 = .ok (.iload 5, 2) := by decide +kernel
theorem dX11_lay_39 : decode cX11_lay 39 = .ok (.iadd, 1) := by decide +kernel
theorem dX11_lay_40 : decode cX11_lay 40 = .ok (.istore 6, 2) := by decide +kernel
theorem dX11_lay_42 : decode cX11_lay 42 = .ok (.aload_n 0, 1) := by decide +kernel
theorem dX11_lay_43 : decode cX11_lay 43 = .ok (.getfield 68, 3) := by decide +kernel
theorem dX11_lay_46 : decode cX11_lay 46 = .ok (.iload 4, 2) := by decide +kernel
theorem dX11_lay_48 : decode cX11_lay 48 = .ok (.iaload, 1) := by decide +kernel
theorem dX11_lay_49 : decode cX11_lay 49 = .ok (.istore 7, 2) := by decide +kernel
theorem dX11_lay_51 : decode cX11_lay 51 = .ok (.aload_n 0, 1) := by decide +kernel
theorem dX11_lay_52 : decode cX11_lay 52 = .ok (.iload 5, 2) := by decide +kernel
theorem dX11_lay_54 : decode cX11_lay 54 = .ok (.invokevirtual 145, 3) := by decide +kernel
theorem dX11_lay_57 : decode cX11_lay 57 = .ok (.ifCond .eq 123, 3) := by decide +kernel
theorem dX11_lay_60 : decode cX11_lay 60 = .ok (.iload_n 2, 1) := by decide +kernel
theorem dX11_lay_61 : decode cX11_lay 61 = .ok (.ifCond .ne 38, 3) := by decide +kernel
theorem dX11_lay_64 : decode cX11_lay 64 = .ok (.aload_n 0, 1) := by decide +kernel
theorem dX11_lay_65 : decode cX11_lay 65 = .ok (.getfield 47, 3) := by decide +kernel
theorem dX11_lay_68 : decode cX11_lay 68 = .ok (.iload 6, 2) := by decide +kernel
theorem dX11_lay_70 : decode cX11_lay 70 = .ok (.iaload, 1) := by decide +kernel
theorem dX11_lay_71 : decode cX11_lay 71 = .ok (.aload_n 0, 1) := by decide +kernel
theorem dX11_lay_72 : decode cX11_lay 72 = .ok (.getfield 116, 3) := by decide +kernel
theorem dX11_lay_75 : decode cX11_lay 75 = .ok (.if_icmp .le 28, 3) := by decide +kernel
theorem dX11_lay_78 : decode cX11_lay 78 = .ok (.aload_n 0, 1) := by decide +kernel
theorem dX11_lay_79 : decode cX11_lay 79 = .ok (.getfield 16, 3) := by decide +kernel
theorem dX11_lay_82 : decode cX11_lay 82 = .ok (.bipush 10, 2) := by decide +kernel
theorem dX11_lay_84 : decode cX11_lay 84 = .ok (.aload_n 0, 1) := by decide +kernel
theorem dX11_lay_85 : decode cX11_lay 85 = .ok (.getfield 44, 3) := by decide +kernel
theorem dX11_lay_88 : decode cX11_lay 88 = .ok (.iload 6, 2) := by decide +kernel
theorem dX11_lay_90 : decode cX11_lay 90 = .ok (.iaload, 1) := by decide +kernel
theorem dX11_lay_91 : decode cX11_lay 91 = .ok (.imul, 1) := by decide +kernel
theorem dX11_lay_92 : decode cX11_lay 92 = .ok (.iload 7, 2) := by decide +kernel
theorem dX11_lay_94 : decode cX11_lay 94 = .ok (.iadd, 1) := by decide +kernel
theorem dX11_lay_95 : decode cX11_lay 95 = .ok (.baload, 1) := by decide +kernel
theorem dX11_lay_96 : decode cX11_lay 96 = .ok (.ifCond .eq 7, 3) := by decide +kernel
theorem dX11_lay_99 : decode cX11_lay 99 = .ok (.iconst 1, 1) := by decide +kernel
theorem dX11_lay_100 : decode cX11_lay 100 = .ok (.goto 4, 3) := by decide +kernel
theorem dX11_lay_103 : decode cX11_lay 103 = .ok (.iconst 0, 1) := by decide +kernel
theorem dX11_lay_104 : decode cX11_lay 104 = .ok (.istore_n 2, 1) := by decide +kernel
theorem dX11_lay_105 : decode cX11_lay 105 = .ok (.aload_n 0, 1) := by decide +kernel
theorem dX11_lay_106 : decode cX11_lay 106 = .ok (.getfield 35, 3) := by decide +kernel
theorem dX11_lay_109 : decode cX11_lay 109 = .ok (.iload 6, 2) := by decide +kernel
theorem dX11_lay_111 : decode cX11_lay 111 = .ok (.aload_n 0, 1) := by decide +kernel
theorem dX11_lay_112 : decode cX11_lay 112 = .ok (.getfield 9, 3) := by decide +kernel
theorem dX11_lay_115 : decode cX11_lay 115 = .ok (.bipush 16, 2) := by decide +kernel
theorem dX11_lay_117 : decode cX11_lay 117 = .ok (.iload 7, 2) := by decide +kernel
theorem dX11_lay_119 : decode cX11_lay 119 = .ok (.imul, 1) := by decide +kernel
theorem dX11_lay_120 : decode cX11_lay 120 = .ok (.aload_n 0, 1) := by decide +kernel
theorem dX11_lay_121 : decode cX11_lay 121 = .ok (.getfield 35, 3) := by decide +kernel
theorem dX11_lay_124 : decode cX11_lay 124 = .ok (.iload 6, 2) := by decide +kernel
theorem dX11_lay_126 : decode cX11_lay 126 = .ok (.iaload, 1) := by decide +kernel
theorem dX11_lay_127 : decode cX11_lay 127 = .ok (.iadd, 1) := by decide +kernel
theorem dX11_lay_128 : decode cX11_lay 128 = .ok (.iaload, 1) := by decide +kernel
theorem dX11_lay_129 : decode cX11_lay 129 = .ok (.iastore, 1) := by decide +kernel
theorem dX11_lay_130 : decode cX11_lay 130 = .ok (.aload_n 0, 1) := by decide +kernel
theorem dX11_lay_131 : decode cX11_lay 131 = .ok (.getfield 38, 3) := by decide +kernel
theorem dX11_lay_134 : decode cX11_lay 134 = .ok (.iload 6, 2) := by decide +kernel
theorem dX11_lay_136 : decode cX11_lay 136 = .ok (.aload_n 0, 1) := by decide +kernel
theorem dX11_lay_137 : decode cX11_lay 137 = .ok (.getfield 159, 3) := by decide +kernel
theorem dX11_lay_140 : decode cX11_lay 140 = .ok (.iastore, 1) := by decide +kernel
theorem dX11_lay_141 : decode cX11_lay 141 = .ok (.aload_n 0, 1) := by decide +kernel
theorem dX11_lay_142 : decode cX11_lay 142 = .ok (.getfield 41, 3) := by decide +kernel
theorem dX11_lay_145 : decode cX11_lay 145 = .ok (.iload 6, 2) := by decide +kernel
theorem dX11_lay_147 : decode cX11_lay 147 = .ok (.dup2, 1) := by decide +kernel
theorem dX11_lay_148 : decode cX11_lay 148 = .ok (.iaload, 1) := by decide +kernel
theorem dX11_lay_149 : decode cX11_lay 149 = .ok (.iconst 1, 1) := by decide +kernel
theorem dX11_lay_150 : decode cX11_lay 150 = .ok (.iadd, 1) := by decide +kernel
theorem dX11_lay_151 : decode cX11_lay 151 = .ok (.iastore, 1) := by decide +kernel
theorem dX11_lay_152 : decode cX11_lay 152 = .ok (.aload_n 0, 1) := by decide +kernel
theorem dX11_lay_153 : decode cX11_lay 153 = .ok (.getfield 44, 3) := by decide +kernel
theorem dX11_lay_156 : decode cX11_lay 156 = .ok (.iload 6, 2) := by decide +kernel
theorem dX11_lay_158 : decode cX11_lay 158 = .ok (.iload 7, 2) := by decide +kernel
theorem dX11_lay_160 : decode cX11_lay 160 = .ok (.iastore, 1) := by decide +kernel
theorem dX11_lay_161 : decode cX11_lay 161 = .ok (.aload_n 0, 1) := by decide +kernel
theorem dX11_lay_162 : decode cX11_lay 162 = .ok (.getfield 47, 3) := by decide +kernel
theorem dX11_lay_165 : decode cX11_lay 165 = .ok (.iload 6, 2) := by decide +kernel
theorem dX11_lay_167 : decode cX11_lay 167 = .ok (.aload_n 0, 1) := by decide +kernel
theorem dX11_lay_168 : decode cX11_lay 168 = .ok (.getfield 116, 3) := by decide +kernel
end
section
theorem dX11_lay_171 : decode cX11_lay 171 = .ok (.aload_n 0, 1) := by decide +kernel
theorem dX11_lay_172 : decode cX11_lay 172 = .ok (.getfield 13, 3) := by decide +kernel
theorem dX11_lay_175 : decode cX11_lay 175 = .ok (.iload 7, 2) := by decide +kernel
theorem dX11_lay_177 : decode cX11_lay 177 = .ok (.iaload, 1) := by decide +kernel
theorem dX11_lay_178 : decode cX11_lay 178 = .ok (.iadd, 1) := by decide +kernel
theorem dX11_lay_179 : decode cX11_lay 179 = .ok (.iastore, 1) := by decide +kernel
theorem dX11_lay_180 : decode cX11_lay 180 = .ok (.iinc 4 1, 3) := by decide +kernel
theorem dX11_lay_183 : decode cX11_lay 183 = .ok (.goto (-168), 3) := by decide +kernel
theorem dX11_lay_186 : decode cX11_lay 186 = .ok (.iinc 3 1, 3) := by decide +kernel
theorem dX11_lay_189 : decode cX11_lay 189 = .ok (.goto (-185), 3) := by decide +kernel
theorem dX11_lay_192 : decode cX11_lay 192 = .ok (.iload_n 2, 1) := by decide +kernel
theorem dX11_lay_193 : decode cX11_lay 193 = .ok (.ireturn, 1) := by decide +kernel
theorem dX11_pulled_0 : decode cX11_pulled 0 = .ok (.iconst 0, 1) := by decide +kernel
theorem dX11_pulled_1 : decode cX11_pulled 1 = .ok (.istore_n 3, 1) := by decide +kernel
theorem dX11_pulled_2 : decode cX11_pulled 2 = .ok (.iconst 0, 1) := by decide +kernel
theorem dX11_pulled_3 : decode cX11_pulled 3 = .ok (.istore 4, 2) := by decide +kernel
theorem dX11_pulled_5 : decode cX11_pulled 5 = .ok (.iconst 0, 1) := by decide +kernel
theorem dX11_pulled_6 : decode cX11_pulled 6 = .ok (.istore 5, 2) := by decide +kernel
theorem dX11_pulled_8 : decode cX11_pulled 8 = .ok (.iload 5, 2) := by decide +kernel
theorem dX11_pulled_10 : decode cX11_pulled 10 = .ok (.bipush 64, 2) := by decide +kernel
theorem dX11_pulled_12 : decode cX11_pulled 12 = .ok (.if_icmp .ge 39, 3) := by decide +kernel
theorem dX11_pulled_15 : decode cX11_pulled 15 = .ok (.iload_n 1, 1) := by decide +kernel
theorem dX11_pulled_16 : decode cX11_pulled 16 = .ok (.ifCond .lt 35, 3) := by decide +kernel
theorem dX11_pulled_19 : decode cX11_pulled 19 = .ok (.iload_n 3, 1) := by decide +kernel
theorem dX11_pulled_20 : decode cX11_pulled 20 = .ok (.aload_n 0, 1) := by decide +kernel
theorem dX11_pulled_21 : decode cX11_pulled 21 = .ok (.iload 5, 2) := by decide +kernel
theorem dX11_pulled_23 : decode cX11_pulled 23 = .ok (.invokevirtual 142, 3) := by decide +kernel
theorem dX11_pulled_26 : decode cX11_pulled 26 = .ok (.ifCond .eq 16, 3) := by decide +kernel
theorem dX11_pulled_29 : decode cX11_pulled 29 = .ok (.aload_n 0, 1) := by decide +kernel
theorem dX11_pulled_30 : decode cX11_pulled 30 = .ok (.iload 5, 2) := by decide +kernel
theorem dX11_pulled_32 : decode cX11_pulled 32 = .ok (.invokevirtual 145, 3) := by decide +kernel
theorem dX11_pulled_35 : decode cX11_pulled 35 = .ok (.ifCond .eq 7, 3) := by decide +kernel
theorem dX11_pulled_38 : decode cX11_pulled 38 = .ok (.iconst 1, 1) := by decide +kernel
theorem dX11_pulled_39 : decode cX11_pulled 39 = .ok (.goto 4, 3) := by decide +kernel
theorem dX11_pulled_42 : decode cX11_pulled 42 = .ok (.iconst 0, 1) := by decide +kernel
theorem dX11_pulled_43 : decode cX11_pulled 43 = .ok (.iadd, 1) := by decide +kernel
theorem dX11_pulled_44 : decode cX11_pulled 44 = .ok (.istore_n 3, 1) := by decide +kernel
theorem dX11_pulled_45 : decode cX11_pulled 45 = .ok (.iinc 5 1, 3) := by decide +kernel
theorem dX11_pulled_48 : decode cX11_pulled 48 = .ok (.goto (-40), 3) := by decide +kernel
theorem dX11_pulled_51 : decode cX11_pulled 51 = .ok (.iload_n 1, 1) := by decide +kernel
theorem dX11_pulled_52 : decode cX11_pulled 52 = .ok (.ifCond .ge 7, 3) := by decide +kernel
theorem dX11_pulled_55 : decode cX11_pulled 55 = .ok (.iconst 1, 1) := by decide +kernel
theorem dX11_pulled_56 : decode cX11_pulled 56 = .ok (.goto 7, 3) := by decide +kernel
theorem dX11_pulled_59 : decode cX11_pulled 59 = .ok (.iload_n 1, 1) := by decide +kernel
theorem dX11_pulled_60 : decode cX11_pulled 60 = .ok (.bipush 100, 2) := by decide +kernel
theorem dX11_pulled_62 : decode cX11_pulled 62 = .ok (.idiv, 1) := by decide +kernel
theorem dX11_pulled_63 : decode cX11_pulled 63 = .ok (.istore 5, 2) := by decide +kernel
theorem dX11_pulled_65 : decode cX11_pulled 65 = .ok (.iload_n 1, 1) := by decide +kernel
theorem dX11_pulled_66 : decode cX11_pulled 66 = .ok (.ifCond .lt 80, 3) := by decide +kernel
theorem dX11_pulled_69 : decode cX11_pulled 69 = .ok (.iload 5, 2) := by decide +kernel
theorem dX11_pulled_71 : decode cX11_pulled 71 = .ok (.iload_n 1, 1) := by decide +kernel
theorem dX11_pulled_72 : decode cX11_pulled 72 = .ok (.bipush 100, 2) := by decide +kernel
theorem dX11_pulled_74 : decode cX11_pulled 74 = .ok (.irem, 1) := by decide +kernel
theorem dX11_pulled_75 : decode cX11_pulled 75 = .ok (.if_icmp .gt 71, 3) := by decide +kernel
theorem dX11_pulled_78 : decode cX11_pulled 78 = .ok (.aload_n 0, 1) := by decide +kernel
theorem dX11_pulled_79 : decode cX11_pulled 79 = .ok (.getfield 50, 3) := by decide +kernel
theorem dX11_pulled_82 : decode cX11_pulled 82 = .ok (.iload 5, 2) := by decide +kernel
theorem dX11_pulled_84 : decode cX11_pulled 84 = .ok (.baload, 1) := by decide +kernel
theorem dX11_pulled_85 : decode cX11_pulled 85 = .ok (.ifCond .ne 55, 3) := by decide +kernel
theorem dX11_pulled_88 : decode cX11_pulled 88 = .ok (.aload_n 0, 1) := by decide +kernel
theorem dX11_pulled_89 : decode cX11_pulled 89 = .ok (.invokevirtual 162, 3) := by decide +kernel
theorem dX11_pulled_92 : decode cX11_pulled 92 = .ok (.istore 6, 2) := by decide +kernel
theorem dX11_pulled_94 : decode cX11_pulled 94 = .ok (.aload_n 0, 1) := by decide +kernel
theorem dX11_pulled_95 : decode cX11_pulled 95 = .ok (.getfield 50, 3) := by decide +kernel
theorem dX11_pulled_98 : decode cX11_pulled 98 = .ok (.iload 5, 2) := by decide +kernel
theorem dX11_pulled_100 : decode cX11_pulled 100 = .ok (.iload 6, 2) := by decide +kernel
theorem dX11_pulled_102 : decode cX11_pulled 102 = .ok (.ifCond .ne 12, 3) := by decide +kernel
theorem dX11_pulled_105 : decode cX11_pulled 105 = .ok (.aload_n 0, 1) := by decide +kernel
theorem dX11_pulled_106 : decode cX11_pulled 106 = .ok (.iload 5, 2) := by decide +kernel
theorem dX11_pulled_108 : decode cX11_pulled 108 = .ok (.invokevirtual 166, 3) := by decide +kernel
theorem dX11_pulled_111 : decode cX11_pulled 111 = .ok (.ifCond .eq 7, 3) := by decide +kernel
theorem dX11_pulled_114 : decode cX11_pulled 114 = .ok (.iconst 1, 1) := by decide +kernel
theorem dX11_pulled_115 : decode cX11_pulled 115 = .ok (.goto 4, 3) := by decide +kernel
theorem dX11_pulled_118 : decode cX11_pulled 118 = .ok (.iconst 0, 1) := by decide +kernel
theorem dX11_pulled_119 : decode cX11_pulled 119 = .ok (.bastore, 1) := by decide +kernel
theorem dX11_pulled_120 : decode cX11_pulled 120 = .ok (.iload 4, 2) := by decide +kernel
theorem dX11_pulled_122 : decode cX11_pulled 122 = .ok (.aload_n 0, 1) := by decide +kernel
theorem dX11_pulled_123 : decode cX11_pulled 123 = .ok (.getfield 50, 3) := by decide +kernel
theorem dX11_pulled_126 : decode cX11_pulled 126 = .ok (.iload 5, 2) := by decide +kernel
theorem dX11_pulled_128 : decode cX11_pulled 128 = .ok (.baload, 1) := by decide +kernel
theorem dX11_pulled_129 : decode cX11_pulled 129 = .ok (.ifCond .eq 7, 3) := by decide +kernel
theorem dX11_pulled_132 : decode cX11_pulled 132 = .ok (.iconst 1, 1) := by decide +kernel
theorem dX11_pulled_133 : decode cX11_pulled 133 = .ok (.goto 4, 3) := by decide +kernel
theorem dX11_pulled_136 : decode cX11_pulled 136 = .ok (.iconst 0, 1) := by decide +kernel
theorem dX11_pulled_137 : decode cX11_pulled 137 = .ok (.iadd, 1) := by decide +kernel
theorem dX11_pulled_138 : decode cX11_pulled 138 = .ok (.istore 4, 2) := by decide +kernel
theorem dX11_pulled_140 : decode cX11_pulled 140 = .ok (.iinc 5 1, 3) := by decide +kernel
theorem dX11_pulled_143 : decode cX11_pulled 143 = .ok (.goto (-78), 3) := by decide +kernel
theorem dX11_pulled_146 : decode cX11_pulled 146 = .ok (.aload_n 0, 1) := by decide +kernel
theorem dX11_pulled_147 : decode cX11_pulled 147 = .ok (.getfield 53, 3) := by decide +kernel
theorem dX11_pulled_150 : decode cX11_pulled 150 = .ok (.aload_n 0, 1) := by decide +kernel
theorem dX11_pulled_151 : decode cX11_pulled 151 = .ok (.getfield 159, 3) := by decide +kernel
theorem dX11_pulled_154 : decode cX11_pulled 154 = .ok (.iload_n 2, 1) := by decide +kernel
theorem dX11_pulled_155 : decode cX11_pulled 155 = .ok (.iastore, 1) := by decide +kernel
theorem dX11_pulled_156 : decode cX11_pulled 156 = .ok (.aload_n 0, 1) := by decide +kernel
theorem dX11_pulled_157 : decode cX11_pulled 157 = .ok (.getfield 56, 3) := by decide +kernel
theorem dX11_pulled_160 : decode cX11_pulled 160 = .ok (.aload_n 0, 1) := by decide +kernel
theorem dX11_pulled_161 : decode cX11_pulled 161 = .ok (.getfield 159, 3) := by decide +kernel
theorem dX11_pulled_164 : decode cX11_pulled 164 = .ok (.aload_n 0, 1) := by decide +kernel
theorem dX11_pulled_165 : decode cX11_pulled 165 = .ok (.getfield 116, 3) := by decide +kernel
theorem dX11_pulled_168 : decode cX11_pulled 168 = .ok (.iastore, 1) := by decide +kernel
theorem dX11_pulled_169 : decode cX11_pulled 169 = .ok (.aload_n 0, 1) := by decide +kernel
theorem dX11_pulled_170 : decode cX11_pulled 170 = .ok (.getfield 59, 3) := by decide +kernel
theorem dX11_pulled_173 : decode cX11_pulled 173 = .ok (.aload_n 0, 1) := by decide +kernel
theorem dX11_pulled_174 : decode cX11_pulled 174 = .ok (.getfield 159, 3) := by decide +kernel
theorem dX11_pulled_177 : decode cX11_pulled 177 = .ok (.iload_n 1, 1) := by decide +kernel
theorem dX11_pulled_178 : decode cX11_pulled 178 = .ok (.iastore, 1) := by decide +kernel
theorem dX11_pulled_179 : decode cX11_pulled 179 = .ok (.aload_n 0, 1) := by decide +kernel
theorem dX11_pulled_180 : decode cX11_pulled 180 = .ok (.getfield 62, 3) := by decide +kernel
theorem dX11_pulled_183 : decode cX11_pulled 183 = .ok (.aload_n 0, 1) := by decide +kernel
theorem dX11_pulled_184 : decode cX11_pulled 184 = .ok (.getfield 159, 3) := by decide +kernel
theorem dX11_pulled_187 : decode cX11_pulled 187 = .ok (.iload_n 3, 1) := by decide +kernel
theorem dX11_pulled_188 : decode cX11_pulled 188 = .ok (.iastore, 1) := by decide +kernel
theorem dX11_pulled_189 : decode cX11_pulled 189 = .ok (.aload_n 0, 1) := by decide +kernel
theorem dX11_pulled_190 : decode cX11_pulled 190 = .ok (.getfield 65, 3) := by decide +kernel
theorem dX11_pulled_193 : decode cX11_pulled 193 = .ok (.aload_n 0, 1) := by decide +kernel
theorem dX11_pulled_194 : decode cX11_pulled 194 = .ok (.getfield 159, 3) := by decide +kernel
theorem dX11_pulled_197 : decode cX11_pulled 197 = .ok (.iload 4, 2) := by decide +kernel
theorem dX11_pulled_199 : decode cX11_pulled 199 = .ok (.iastore, 1) := by decide +kernel
theorem dX11_pulled_200 : decode cX11_pulled 200 = .ok (.aload_n 0, 1) := by decide +kernel
theorem dX11_pulled_201 : decode cX11_pulled 201 = .ok (.dup, 1) := by decide +kernel
theorem dX11_pulled_202 : decode cX11_pulled 202 = .ok (.getfield 159, 3) := by decide +kernel
theorem dX11_pulled_205 : decode cX11_pulled 205 = .ok (.iconst 1, 1) := by decide +kernel
theorem dX11_pulled_206 : decode cX11_pulled 206 = .ok (.iadd, 1) := by decide +kernel
theorem dX11_pulled_207 : decode cX11_pulled 207 = .ok (.putfield 159, 3) := by decide +kernel
theorem dX11_pulled_210 : decode cX11_pulled 210 = .ok (.aload_n 0, 1) := by decide +kernel
theorem dX11_pulled_211 : decode cX11_pulled 211 = .ok (.getfield 159, 3) := by decide +kernel
theorem dX11_pulled_214 : decode cX11_pulled 214 = .ok (.iconst 1, 1) := by decide +kernel
theorem dX11_pulled_215 : decode cX11_pulled 215 = .ok (.isub, 1) := by decide +kernel
theorem dX11_pulled_216 : decode cX11_pulled 216 = .ok (.ireturn, 1) := by decide +kernel
theorem dX11_pull_0 : decode cX11_pull 0 = .ok (.aload_n 0, 1) := by decide +kernel
theorem dX11_pull_1 : decode cX11_pull 1 = .ok (.getfield 94, 3) := by decide +kernel
theorem dX11_pull_4 : decode cX11_pull 4 = .ok (.ifCond .eq 23, 3) := by decide +kernel
theorem dX11_pull_7 : decode cX11_pull 7 = .ok (.iload_n 1, 1) := by decide +kernel
theorem dX11_pull_8 : decode cX11_pull 8 = .ok (.iconst (-1), 1) := by decide +kernel
theorem dX11_pull_9 : decode cX11_pull 9 = .ok (.if_icmp .eq 11, 3) := by decide +kernel
theorem dX11_pull_12 : decode cX11_pull 12 = .ok (.aload_n 0, 1) := by decide +kernel
theorem dX11_pull_13 : decode cX11_pull 13 = .ok (.iload_n 1, 1) := by decide +kernel
theorem dX11_pull_14 : decode cX11_pull 14 = .ok (.invokevirtual 169, 3) := by decide +kernel
theorem dX11_pull_17 : decode cX11_pull 17 = .ok (.ifCond .eq 10, 3) := by decide +kernel
theorem dX11_pull_20 : decode cX11_pull 20 = .ok (.iload_n 2, 1) := by decide +kernel
theorem dX11_pull_21 : decode cX11_pull 21 = .ok (.invokestatic 103, 3) := by decide +kernel
theorem dX11_pull_24 : decode cX11_pull 24 = .ok (.ifCond .ne 5, 3) := by decide +kernel
theorem dX11_pull_27 : decode cX11_pull 27 = .ok (.iconst (-1), 1) := by decide +kernel
theorem dX11_pull_28 : decode cX11_pull 28 = .ok (.ireturn, 1) := by decide +kernel
theorem dX11_pull_29 : decode cX11_pull 29 = .ok (.aload_n 0, 1) := by decide +kernel
theorem dX11_pull_30 : decode cX11_pull 30 = .ok (.getfield 159, 3) := by decide +kernel
theorem dX11_pull_33 : decode cX11_pull 33 = .ok (.sipush 200, 3) := by decide +kernel
theorem dX11_pull_36 : decode cX11_pull 36 = .ok (.if_icmp .ne 6, 3) := by decide +kernel
theorem dX11_pull_39 : decode cX11_pull 39 = .ok (.bipush (-2), 2) := by decide +kernel
theorem dX11_pull_41 : decode cX11_pull 41 = .ok (.ireturn, 1) := by decide +kernel
theorem dX11_pull_42 : decode cX11_pull 42 = .ok (.iconst 0, 1) := by decide +kernel
theorem dX11_pull_43 : decode cX11_pull 43 = .ok (.istore_n 3, 1) := by decide +kernel
theorem dX11_pull_44 : decode cX11_pull 44 = .ok (.iload_n 3, 1) := by decide +kernel
theorem dX11_pull_45 : decode cX11_pull 45 = .ok (.bipush 8, 2) := by decide +kernel
theorem dX11_pull_47 : decode cX11_pull 47 = .ok (.if_icmp .ge 16, 3) := by decide +kernel
theorem dX11_pull_50 : decode cX11_pull 50 = .ok (.aload_n 0, 1) := by decide +kernel
theorem dX11_pull_51 : decode cX11_pull 51 = .ok (.getfield 68, 3) := by decide +kernel
theorem dX11_pull_54 : decode cX11_pull 54 = .ok (.iload_n 3, 1) := by decide +kernel
theorem dX11_pull_55 : decode cX11_pull 55 = .ok (.iload_n 2, 1) := by decide +kernel
theorem dX11_pull_56 : decode cX11_pull 56 = .ok (.iastore, 1) := by decide +kernel
theorem dX11_pull_57 : decode cX11_pull 57 = .ok (.iinc 3 1, 3) := by decide +kernel
theorem dX11_pull_60 : decode cX11_pull 60 = .ok (.goto (-16), 3) := by decide +kernel
theorem dX11_pull_63 : decode cX11_pull 63 = .ok (.aload_n 0, 1) := by decide +kernel
theorem dX11_pull_64 : decode cX11_pull 64 = .ok (.iload_n 1, 1) := by decide +kernel
theorem dX11_pull_65 : decode cX11_pull 65 = .ok (.iload_n 2, 1) := by decide +kernel
theorem dX11_pull_66 : decode cX11_pull 66 = .ok (.invokevirtual 172, 3) := by decide +kernel
theorem dX11_pull_69 : decode cX11_pull 69 = .ok (.ireturn, 1) := by decide +kernel
theorem dX11_blend_0 : decode cX11_blend 0 = .ok (.aload_n 0, 1) := by decide +kernel
theorem dX11_blend_1 : decode cX11_blend 1 = .ok (.getfield 94, 3) := by decide +kernel
theorem dX11_blend_4 : decode cX11_blend 4 = .ok (.ifCond .eq 55, 3) := by decide +kernel
theorem dX11_blend_7 : decode cX11_blend 7 = .ok (.iload_n 1, 1) := by decide +kernel
theorem dX11_blend_8 : decode cX11_blend 8 = .ok (.iconst (-1), 1) := by decide +kernel
theorem dX11_blend_9 : decode cX11_blend 9 = .ok (.if_icmp .eq 11, 3) := by decide +kernel
theorem dX11_blend_12 : decode cX11_blend 12 = .ok (.aload_n 0, 1) := by decide +kernel
theorem dX11_blend_13 : decode cX11_blend 13 = .ok (.iload_n 1, 1) := by decide +kernel
theorem dX11_blend_14 : decode cX11_blend 14 = .ok (.invokevirtual 169, 3) := by decide +kernel
theorem dX11_blend_17 : decode cX11_blend 17 = .ok (.ifCond .eq 42, 3) := by decide +kernel
theorem dX11_blend_20 : decode cX11_blend 20 = .ok (.iload_n 2, 1) := by decide +kernel
theorem dX11_blend_21 : decode cX11_blend 21 = .ok (.ifCond .lt 38, 3) := by decide +kernel
theorem dX11_blend_24 : decode cX11_blend 24 = .ok (.iload_n 2, 1) := by decide +kernel
theorem dX11_blend_25 : decode cX11_blend 25 = .ok (.bipush 100, 2) := by decide +kernel
theorem dX11_blend_27 : decode cX11_blend 27 = .ok (.idiv, 1) := by decide +kernel
theorem dX11_blend_28 : decode cX11_blend 28 = .ok (.invokestatic 103, 3) := by decide +kernel
theorem dX11_blend_31 : decode cX11_blend 31 = .ok (.ifCond .eq 28, 3) := by decide +kernel
theorem dX11_blend_34 : decode cX11_blend 34 = .ok (.iload_n 2, 1) := by decide +kernel
theorem dX11_blend_35 : decode cX11_blend 35 = .ok (.bipush 100, 2) := by decide +kernel
theorem dX11_blend_37 : decode cX11_blend 37 = .ok (.idiv, 1) := by decide +kernel
theorem dX11_blend_38 : decode cX11_blend 38 = .ok (.iload_n 2, 1) := by decide +kernel
theorem dX11_blend_39 : decode cX11_blend 39 = .ok (.bipush 10, 2) := by decide +kernel
theorem dX11_blend_41 : decode cX11_blend 41 = .ok (.idiv, 1) := by decide +kernel
theorem dX11_blend_42 : decode cX11_blend 42 = .ok (.bipush 10, 2) := by decide +kernel
theorem dX11_blend_44 : decode cX11_blend 44 = .ok (.irem, 1) := by decide +kernel
theorem dX11_blend_45 : decode cX11_blend 45 = .ok (.if_icmp .eq 14, 3) := by decide +kernel
theorem dX11_blend_48 : decode cX11_blend 48 = .ok (.iload_n 2, 1) := by decide +kernel
theorem dX11_blend_49 : decode cX11_blend 49 = .ok (.bipush 10, 2) := by decide +kernel
theorem dX11_blend_51 : decode cX11_blend 51 = .ok (.irem, 1) := by decide +kernel
theorem dX11_blend_52 : decode cX11_blend 52 = .ok (.aload_n 0, 1) := by decide +kernel
theorem dX11_blend_53 : decode cX11_blend 53 = .ok (.getfield 97, 3) := by decide +kernel
theorem dX11_blend_56 : decode cX11_blend 56 = .ok (.if_icmp .lt 5, 3) := by decide +kernel
theorem dX11_blend_59 : decode cX11_blend 59 = .ok (.iconst (-1), 1) := by decide +kernel
theorem dX11_blend_60 : decode cX11_blend 60 = .ok (.ireturn, 1) := by decide +kernel
theorem dX11_blend_61 : decode cX11_blend 61 = .ok (.aload_n 0, 1) := by decide +kernel
theorem dX11_blend_62 : decode cX11_blend 62 = .ok (.getfield 159, 3) := by decide +kernel
theorem dX11_blend_65 : decode cX11_blend 65 = .ok (.sipush 200, 3) := by decide +kernel
theorem dX11_blend_68 : decode cX11_blend 68 = .ok (.if_icmp .ne 6, 3) := by decide +kernel
theorem dX11_blend_71 : decode cX11_blend 71 = .ok (.bipush (-2), 2) := by decide +kernel
theorem dX11_blend_73 : decode cX11_blend 73 = .ok (.ireturn, 1) := by decide +kernel
theorem dX11_blend_74 : decode cX11_blend 74 = .ok (.iload_n 2, 1) := by decide +kernel
theorem dX11_blend_75 : decode cX11_blend 75 = .ok (.bipush 100, 2) := by decide +kernel
theorem dX11_blend_77 : decode cX11_blend 77 = .ok (.idiv, 1) := by decide +kernel
theorem dX11_blend_78 : decode cX11_blend 78 = .ok (.istore_n 3, 1) := by decide +kernel
theorem dX11_blend_79 : decode cX11_blend 79 = .ok (.iload_n 2, 1) := by decide +kernel
theorem dX11_blend_80 : decode cX11_blend 80 = .ok (.bipush 10, 2) := by decide +kernel
theorem dX11_blend_82 : decode cX11_blend 82 = .ok (.idiv, 1) := by decide +kernel
theorem dX11_blend_83 : decode cX11_blend 83 = .ok (.bipush 10, 2) := by decide +kernel
theorem dX11_blend_85 : decode cX11_blend 85 = .ok (.irem, 1) := by decide +kernel
theorem dX11_blend_86 : decode cX11_blend 86 = .ok (.istore 4, 2) := by decide +kernel
theorem dX11_blend_88 : decode cX11_blend 88 = .ok (.iconst 0, 1) := by decide +kernel
theorem dX11_blend_89 : decode cX11_blend 89 = .ok (.istore 5, 2) := by decide +kernel
theorem dX11_blend_91 : decode cX11_blend 91 = .ok (.iload 5, 2) := by decide +kernel
theorem dX11_blend_93 : decode cX11_blend 93 = .ok (.bipush 8, 2) := by decide +kernel
theorem dX11_blend_95 : decode cX11_blend 95 = .ok (.if_icmp .ge 55, 3) := by decide +kernel
theorem dX11_blend_98 : decode cX11_blend 98 = .ok (.aload_n 0, 1) := by decide +kernel
theorem dX11_blend_99 : decode cX11_blend 99 = .ok (.getfield 68, 3) := by decide +kernel
theorem dX11_blend_102 : decode cX11_blend 102 = .ok (.iload 5, 2) := by decide +kernel
theorem dX11_blend_104 : decode cX11_blend 104 = .ok (.iload 5, 2) := by decide +kernel
theorem dX11_blend_106 : decode cX11_blend 106 = .ok (.iload_n 2, 1) := by decide +kernel
theorem dX11_blend_107 : decode cX11_blend 107 = .ok (.bipush 10, 2) := by decide +kernel
theorem dX11_blend_109 : decode cX11_blend 109 = .ok (.irem, 1) := by decide +kernel
theorem dX11_blend_110 : decode cX11_blend 110 = .ok (.if_icmp .ge 7, 3) := by decide +kernel
theorem dX11_blend_113 : decode cX11_blend 113 = .ok (.iload_n 3, 1) := by decide +kernel
theorem dX11_blend_114 : decode cX11_blend 114 = .ok (.goto 29, 3) := by decide +kernel
theorem dX11_blend_117 : decode cX11_blend 117 = .ok (.iload 5, 2) := by decide +kernel
theorem dX11_blend_119 : decode cX11_blend 119 = .ok (.iload_n 2, 1) := by decide +kernel
theorem dX11_blend_120 : decode cX11_blend 120 = .ok (.bipush 10, 2) := by decide +kernel
theorem dX11_blend_122 : decode cX11_blend 122 = .ok (.irem, 1) := by decide +kernel
theorem dX11_blend_123 : decode cX11_blend 123 = .ok (.if_icmp .le 8, 3) := by decide +kernel
theorem dX11_blend_126 : decode cX11_blend 126 = .ok (.iload 4, 2) := by decide +kernel
theorem dX11_blend_128 : decode cX11_blend 128 = .ok (.goto 15, 3) := by decide +kernel
theorem dX11_blend_131 : decode cX11_blend 131 = .ok (.aload_n 0, 1) := by decide +kernel
theorem dX11_blend_132 : decode cX11_blend 132 = .ok (.getfield 20, 3) := by decide +kernel
theorem dX11_blend_135 : decode cX11_blend 135 = .ok (.bipush 10, 2) := by decide +kernel
theorem dX11_blend_137 : decode cX11_blend 137 = .ok (.iload_n 3, 1) := by decide +kernel
theorem dX11_blend_138 : decode cX11_blend 138 = .ok (.imul, 1) := by decide +kernel
theorem dX11_blend_139 : decode cX11_blend 139 = .ok (.iload 4, 2) := by decide +kernel
theorem dX11_blend_141 : decode cX11_blend 141 = .ok (.iadd, 1) := by decide +kernel
theorem dX11_blend_142 : decode cX11_blend 142 = .ok (.iaload, 1) := by decide +kernel
theorem dX11_blend_143 : decode cX11_blend 143 = .ok (.iastore, 1) := by decide +kernel
theorem dX11_blend_144 : decode cX11_blend 144 = .ok (.iinc 5 1, 3) := by decide +kernel
theorem dX11_blend_147 : decode cX11_blend 147 = .ok (.goto (-56), 3) := by decide +kernel
theorem dX11_blend_150 : decode cX11_blend 150 = .ok (.aload_n 0, 1) := by decide +kernel
theorem dX11_blend_151 : decode cX11_blend 151 = .ok (.iload_n 1, 1) := by decide +kernel
theorem dX11_blend_152 : decode cX11_blend 152 = .ok (.bipush 10, 2) := by decide +kernel
theorem dX11_blend_154 : decode cX11_blend 154 = .ok (.invokevirtual 172, 3) := by decide +kernel
theorem dX11_blend_157 : decode cX11_blend 157 = .ok (.ireturn, 1) := by decide +kernel
theorem dX11_isSheet_0 : decode cX11_isSheet 0 = .ok (.iload_n 1, 1) := by decide +kernel
theorem dX11_isSheet_1 : decode cX11_isSheet 1 = .ok (.ifCond .lt 15, 3) := by decide +kernel
theorem dX11_isSheet_4 : decode cX11_isSheet 4 = .ok (.iload_n 1, 1) := by decide +kernel
theorem dX11_isSheet_5 : decode cX11_isSheet 5 = .ok (.aload_n 0, 1) := by decide +kernel
theorem dX11_isSheet_6 : decode cX11_isSheet 6 = .ok (.getfield 155, 3) := by decide +kernel
theorem dX11_isSheet_9 : decode cX11_isSheet 9 = .ok (.if_icmp .ge 7, 3) := by decide +kernel
theorem dX11_isSheet_12 : decode cX11_isSheet 12 = .ok (.iconst 1, 1) := by decide +kernel
theorem dX11_isSheet_13 : decode cX11_isSheet 13 = .ok (.goto 4, 3) := by decide +kernel
theorem dX11_isSheet_16 : decode cX11_isSheet 16 = .ok (.iconst 0, 1) := by decide +kernel
theorem dX11_isSheet_17 : decode cX11_isSheet 17 = .ok (.ireturn, 1) := by decide +kernel
theorem dX11_colour_0 : decode cX11_colour 0 = .ok (.aload_n 0, 1) := by decide +kernel
theorem dX11_colour_1 : decode cX11_colour 1 = .ok (.iload_n 1, 1) := by decide +kernel
theorem dX11_colour_2 : decode cX11_colour 2 = .ok (.invokevirtual 176, 3) := by decide +kernel
theorem dX11_colour_5 : decode cX11_colour 5 = .ok (.ifCond .eq 25, 3) := by decide +kernel
theorem dX11_colour_8 : decode cX11_colour 8 = .ok (.aload_n 0, 1) := by decide +kernel
theorem dX11_colour_9 : decode cX11_colour 9 = .ok (.iload_n 2, 1) := by decide +kernel
theorem dX11_colour_10 : decode cX11_colour 10 = .ok (.invokevirtual 142, 3) := by decide +kernel
theorem dX11_colour_13 : decode cX11_colour 13 = .ok (.ifCond .eq 17, 3) := by decide +kernel
theorem dX11_colour_16 : decode cX11_colour 16 = .ok (.aload_n 0, 1) := by decide +kernel
theorem dX11_colour_17 : decode cX11_colour 17 = .ok (.getfield 35, 3) := by decide +kernel
theorem dX11_colour_20 : decode cX11_colour 20 = .ok (.bipush 64, 2) := by decide +kernel
theorem dX11_colour_22 : decode cX11_colour 22 = .ok (.iload_n 1, 1) := by decide +kernel
theorem dX11_colour_23 : decode cX11_colour 23 = .ok (.imul, 1) := by decide +kernel
theorem dX11_colour_24 : decode cX11_colour 24 = .ok (.iload_n 2, 1) := by decide +kernel
theorem dX11_colour_25 : decode cX11_colour 25 = .ok (.iadd, 1) := by decide +kernel
theorem dX11_colour_26 : decode cX11_colour 26 = .ok (.iaload, 1) := by decide +kernel
theorem dX11_colour_27 : decode cX11_colour 27 = .ok (.goto 4, 3) := by decide +kernel
theorem dX11_colour_30 : decode cX11_colour 30 = .ok (.iconst (-1), 1) := by decide +kernel
theorem dX11_colour_31 : decode cX11_colour 31 = .ok (.ireturn, 1) := by decide +kernel
theorem dX11_led_0 : decode cX11_led 0 = .ok (.aload_n 0, 1) := by decide +kernel
theorem dX11_led_1 : decode cX11_led 1 = .ok (.iload_n 1, 1) := by decide +kernel
theorem dX11_led_2 : decode cX11_led 2 = .ok (.invokevirtual 176, 3) := by decide +kernel
theorem dX11_led_5 : decode cX11_led 5 = .ok (.ifCond .eq 20, 3) := by decide +kernel
theorem dX11_led_8 : decode cX11_led 8 = .ok (.aload_n 0, 1) := by decide +kernel
theorem dX11_led_9 : decode cX11_led 9 = .ok (.iload_n 2, 1) := by decide +kernel
theorem dX11_led_10 : decode cX11_led 10 = .ok (.invokevirtual 142, 3) := by decide +kernel
theorem dX11_led_13 : decode cX11_led 13 = .ok (.ifCond .eq 12, 3) := by decide +kernel
theorem dX11_led_16 : decode cX11_led 16 = .ok (.iload_n 3, 1) := by decide +kernel
theorem dX11_led_17 : decode cX11_led 17 = .ok (.iconst 0, 1) := by decide +kernel
theorem dX11_led_18 : decode cX11_led 18 = .ok (.iconst 2, 1) := by decide +kernel
theorem dX11_led_19 : decode cX11_led 19 = .ok (.invokestatic 90, 3) := by decide +kernel
theorem dX11_led_22 : decode cX11_led 22 = .ok (.ifCond .ne 5, 3) := by decide +kernel
theorem dX11_led_25 : decode cX11_led 25 = .ok (.iconst (-1), 1) := by decide +kernel
theorem dX11_led_26 : decode cX11_led 26 = .ok (.ireturn, 1) := by decide +kernel
theorem dX11_led_27 : decode cX11_led 27 = .ok (.bipush 64, 2) := by decide +kernel
theorem dX11_led_29 : decode cX11_led 29 = .ok (.iload_n 1, 1) := by decide +kernel
theorem dX11_led_30 : decode cX11_led 30 = .ok (.imul, 1) := by decide +kernel
theorem dX11_led_31 : decode cX11_led 31 = .ok (.iload_n 2, 1) := by decide +kernel
theorem dX11_led_32 : decode cX11_led 32 = .ok (.iadd, 1) := by decide +kernel
theorem dX11_led_33 : decode cX11_led 33 = .ok (.istore 4, 2) := by decide +kernel
theorem dX11_led_35 : decode cX11_led 35 = .ok (.iload_n 3, 1) := by decide +kernel
theorem dX11_led_36 : decode cX11_led 36 = .ok (.ifCond .ne 13, 3) := by decide +kernel
theorem dX11_led_39 : decode cX11_led 39 = .ok (.aload_n 0, 1) := by decide +kernel
theorem dX11_led_40 : decode cX11_led 40 = .ok (.getfield 38, 3) := by decide +kernel
theorem dX11_led_43 : decode cX11_led 43 = .ok (.iload 4, 2) := by decide +kernel
theorem dX11_led_45 : decode cX11_led 45 = .ok (.iaload, 1) := by decide +kernel
theorem dX11_led_46 : decode cX11_led 46 = .ok (.goto 25, 3) := by decide +kernel
theorem dX11_led_49 : decode cX11_led 49 = .ok (.iload_n 3, 1) := by decide +kernel
theorem dX11_led_50 : decode cX11_led 50 = .ok (.iconst 1, 1) := by decide +kernel
theorem dX11_led_51 : decode cX11_led 51 = .ok (.if_icmp .ne 13, 3) := by decide +kernel
theorem dX11_led_54 : decode cX11_led 54 = .ok (.aload_n 0, 1) := by decide +kernel
theorem dX11_led_55 : decode cX11_led 55 = .ok (.getfield 41, 3) := by decide +kernel
theorem dX11_led_58 : decode cX11_led 58 = .ok (.iload 4, 2) := by decide +kernel
theorem dX11_led_60 : decode cX11_led 60 = .ok (.iaload, 1) := by decide +kernel
theorem dX11_led_61 : decode cX11_led 61 = .ok (.goto 10, 3) := by decide +kernel
theorem dX11_led_64 : decode cX11_led 64 = .ok (.aload_n 0, 1) := by decide +kernel
theorem dX11_led_65 : decode cX11_led 65 = .ok (.getfield 47, 3) := by decide +kernel
theorem dX11_led_68 : decode cX11_led 68 = .ok (.iload 4, 2) := by decide +kernel
theorem dX11_led_70 : decode cX11_led 70 = .ok (.iaload, 1) := by decide +kernel
theorem dX11_led_71 : decode cX11_led 71 = .ok (.ireturn, 1) := by decide +kernel
theorem dX11_good_0 : decode cX11_good 0 = .ok (.aload_n 0, 1) := by decide +kernel
theorem dX11_good_1 : decode cX11_good 1 = .ok (.iload_n 1, 1) := by decide +kernel
theorem dX11_good_2 : decode cX11_good 2 = .ok (.invokevirtual 176, 3) := by decide +kernel
theorem dX11_good_5 : decode cX11_good 5 = .ok (.ifCond .ne 7, 3) := by decide +kernel
theorem dX11_good_8 : decode cX11_good 8 = .ok (.iconst (-1), 1) := by decide +kernel
theorem dX11_good_9 : decode cX11_good 9 = .ok (.goto 17, 3) := by decide +kernel
theorem dX11_good_12 : decode cX11_good 12 = .ok (.aload_n 0, 1) := by decide +kernel
theorem dX11_good_13 : decode cX11_good 13 = .ok (.getfield 50, 3) := by decide +kernel
theorem dX11_good_16 : decode cX11_good 16 = .ok (.iload_n 1, 1) := by decide +kernel
theorem dX11_good_17 : decode cX11_good 17 = .ok (.baload, 1) := by decide +kernel
theorem dX11_good_18 : decode cX11_good 18 = .ok (.ifCond .eq 7, 3) := by decide +kernel
theorem dX11_good_21 : decode cX11_good 21 = .ok (.iconst 0, 1) := by decide +kernel
theorem dX11_good_22 : decode cX11_good 22 = .ok (.goto 4, 3) := by decide +kernel
theorem dX11_good_25 : decode cX11_good 25 = .ok (.iconst 1, 1) := by decide +kernel
theorem dX11_good_26 : decode cX11_good 26 = .ok (.ireturn, 1) := by decide +kernel
theorem dX11_book_0 : decode cX11_book 0 = .ok (.iload_n 1, 1) := by decide +kernel
theorem dX11_book_1 : decode cX11_book 1 = .ok (.ifCond .lt 11, 3) := by decide +kernel
theorem dX11_book_4 : decode cX11_book 4 = .ok (.iload_n 1, 1) := by decide +kernel
theorem dX11_book_5 : decode cX11_book 5 = .ok (.aload_n 0, 1) := by decide +kernel
theorem dX11_book_6 : decode cX11_book 6 = .ok (.getfield 159, 3) := by decide +kernel
theorem dX11_book_9 : decode cX11_book 9 = .ok (.if_icmp .lt 5, 3) := by decide +kernel
theorem dX11_book_12 : decode cX11_book 12 = .ok (.iconst (-1), 1) := by decide +kernel
theorem dX11_book_13 : decode cX11_book 13 = .ok (.ireturn, 1) := by decide +kernel
theorem dX11_book_14 : decode cX11_book 14 = .ok (.iload_n 2, 1) := by decide +kernel
theorem dX11_book_15 : decode cX11_book 15 = .ok (.tableswitch 68 0 4 #[33, 40, 47, 54, 61], 33) := by decide +kernel
theorem dX11_book_48 : decode cX11_book 48 = .ok (.aload_n 0, 1) := by decide +kernel
theorem dX11_book_49 : decode cX11_book 49 = .ok (.getfield 53, 3) := by decide +kernel
theorem dX11_book_52 : decode cX11_book 52 = .ok (.iload_n 1, 1) := by decide +kernel
theorem dX11_book_53 : decode cX11_book 53 = .ok (.iaload, 1) := by decide +kernel
theorem dX11_book_54 : decode cX11_book 54 = .ok (.ireturn, 1) := by decide +kernel
theorem dX11_book_55 : decode cX11_book 55 = .ok (.aload_n 0, 1) := by decide +kernel
theorem dX11_book_56 : decode cX11_book 56 = .ok (.getfield 56, 3) := by decide +kernel
theorem dX11_book_59 : decode cX11_book 59 = .ok (.iload_n 1, 1) := by decide +kernel
theorem dX11_book_60 : decode cX11_book 60 = .ok (.iaload, 1) := by decide +kernel
theorem dX11_book_61 : decode cX11_book 61 = .ok (.ireturn, 1) := by decide +kernel
theorem dX11_book_62 : decode cX11_book 62 = .ok (.aload_n 0, 1) := by decide +kernel
theorem dX11_book_63 : decode cX11_book 63 = .ok (.getfield 59, 3) := by decide +kernel
theorem dX11_book_66 : decode cX11_book 66 = .ok (.iload_n 1, 1) := by decide +kernel
theorem dX11_book_67 : decode cX11_book 67 = .ok (.iaload, 1) := by decide +kernel
theorem dX11_book_68 : decode cX11_book 68 = .ok (.ireturn, 1) := by decide +kernel
theorem dX11_book_69 : decode cX11_book 69 = .ok (.aload_n 0, 1) := by decide +kernel
theorem dX11_book_70 : decode cX11_book 70 = .ok (.getfield 62, 3) := by decide +kernel
theorem dX11_book_73 : decode cX11_book 73 = .ok (.iload_n 1, 1) := by decide +kernel
theorem dX11_book_74 : decode cX11_book 74 = .ok (.iaload, 1) := by decide +kernel
theorem dX11_book_75 : decode cX11_book 75 = .ok (.ireturn, 1) := by decide +kernel
theorem dX11_book_76 : decode cX11_book 76 = .ok (.aload_n 0, 1) := by decide +kernel
theorem dX11_book_77 : decode cX11_book 77 = .ok (.getfield 65, 3) := by decide +kernel
theorem dX11_book_80 : decode cX11_book 80 = .ok (.iload_n 1, 1) := by decide +kernel
theorem dX11_book_81 : decode cX11_book 81 = .ok (.iaload, 1) := by decide +kernel
theorem dX11_book_82 : decode cX11_book 82 = .ok (.ireturn, 1) := by decide +kernel
theorem dX11_book_83 : decode cX11_book 83 = .ok (.iconst (-1), 1) := by decide +kernel
theorem dX11_book_84 : decode cX11_book 84 = .ok (.ireturn, 1) := by decide +kernel
theorem dX11_free_0 : decode cX11_free 0 = .ok (.aload_n 0, 1) := by decide +kernel
theorem dX11_free_1 : decode cX11_free 1 = .ok (.iload_n 1, 1) := by decide +kernel
theorem dX11_free_2 : decode cX11_free 2 = .ok (.invokevirtual 169, 3) := by decide +kernel
theorem dX11_free_5 : decode cX11_free 5 = .ok (.ifCond .eq 10, 3) := by decide +kernel
theorem dX11_free_8 : decode cX11_free 8 = .ok (.iload_n 2, 1) := by decide +kernel
theorem dX11_free_9 : decode cX11_free 9 = .ok (.invokestatic 103, 3) := by decide +kernel
theorem dX11_free_12 : decode cX11_free 12 = .ok (.ifCond .ne 5, 3) := by decide +kernel
theorem dX11_free_15 : decode cX11_free 15 = .ok (.iconst (-1), 1) := by decide +kernel
theorem dX11_free_16 : decode cX11_free 16 = .ok (.ireturn, 1) := by decide +kernel
theorem dX11_free_17 : decode cX11_free 17 = .ok (.aload_n 0, 1) := by decide +kernel
theorem dX11_free_18 : decode cX11_free 18 = .ok (.getfield 116, 3) := by decide +kernel
theorem dX11_free_21 : decode cX11_free 21 = .ok (.istore_n 3, 1) := by decide +kernel
theorem dX11_free_22 : decode cX11_free 22 = .ok (.iload_n 1, 1) := by decide +kernel
theorem dX11_free_23 : decode cX11_free 23 = .ok (.bipush 100, 2) := by decide +kernel
theorem dX11_free_25 : decode cX11_free 25 = .ok (.idiv, 1) := by decide +kernel
theorem dX11_free_26 : decode cX11_free 26 = .ok (.istore 4, 2) := by decide +kernel
theorem dX11_free_28 : decode cX11_free 28 = .ok (.iload 4, 2) := by decide +kernel
theorem dX11_free_30 : decode cX11_free 30 = .ok (.iload_n 1, 1) := by decide +kernel
theorem dX11_free_31 : decode cX11_free 31 = .ok (.bipush 100, 2) := by decide +kernel
theorem dX11_free_33 : decode cX11_free 33 = .ok (.irem, 1) := by decide +kernel
theorem dX11_free_34 : decode cX11_free 34 = .ok (.if_icmp .gt 112, 3) := by decide +kernel
theorem dX11_free_37 : decode cX11_free 37 = .ok (.iconst 0, 1) := by decide +kernel
theorem dX11_free_38 : decode cX11_free 38 = .ok (.istore 5, 2) := by decide +kernel
theorem dX11_free_40 : decode cX11_free 40 = .ok (.iload 5, 2) := by decide +kernel
theorem dX11_free_42 : decode cX11_free 42 = .ok (.bipush 64, 2) := by decide +kernel
theorem dX11_free_44 : decode cX11_free 44 = .ok (.if_icmp .ge 96, 3) := by decide +kernel
theorem dX11_free_47 : decode cX11_free 47 = .ok (.bipush 64, 2) := by decide +kernel
theorem dX11_free_49 : decode cX11_free 49 = .ok (.iload 4, 2) := by decide +kernel
theorem dX11_free_51 : decode cX11_free 51 = .ok (.imul, 1) := by decide +kernel
theorem dX11_free_52 : decode cX11_free 52 = .ok (.iload 5, 2) := by decide +kernel
theorem dX11_free_54 : decode cX11_free 54 = .ok (.iadd, 1) := by decide +kernel
theorem dX11_free_55 : decode cX11_free 55 = .ok (.istore 6, 2) := by decide +kernel
theorem dX11_free_57 : decode cX11_free 57 = .ok (.aload_n 0, 1) := by decide +kernel
theorem dX11_free_58 : decode cX11_free 58 = .ok (.getfield 50, 3) := by decide +kernel
theorem dX11_free_61 : decode cX11_free 61 = .ok (.iload 4, 2) := by decide +kernel
theorem dX11_free_63 : decode cX11_free 63 = .ok (.baload, 1) := by decide +kernel
theorem dX11_free_64 : decode cX11_free 64 = .ok (.ifCond .ne 70, 3) := by decide +kernel
theorem dX11_free_67 : decode cX11_free 67 = .ok (.aload_n 0, 1) := by decide +kernel
theorem dX11_free_68 : decode cX11_free 68 = .ok (.iload 5, 2) := by decide +kernel
theorem dX11_free_70 : decode cX11_free 70 = .ok (.invokevirtual 142, 3) := by decide +kernel
theorem dX11_free_73 : decode cX11_free 73 = .ok (.ifCond .eq 61, 3) := by decide +kernel
theorem dX11_free_76 : decode cX11_free 76 = .ok (.aload_n 0, 1) := by decide +kernel
theorem dX11_free_77 : decode cX11_free 77 = .ok (.iload 5, 2) := by decide +kernel
theorem dX11_free_79 : decode cX11_free 79 = .ok (.invokevirtual 145, 3) := by decide +kernel
theorem dX11_free_82 : decode cX11_free 82 = .ok (.ifCond .eq 52, 3) := by decide +kernel
theorem dX11_free_85 : decode cX11_free 85 = .ok (.aload_n 0, 1) := by decide +kernel
theorem dX11_free_86 : decode cX11_free 86 = .ok (.getfield 41, 3) := by decide +kernel
theorem dX11_free_89 : decode cX11_free 89 = .ok (.iload 6, 2) := by decide +kernel
theorem dX11_free_91 : decode cX11_free 91 = .ok (.iaload, 1) := by decide +kernel
theorem dX11_free_92 : decode cX11_free 92 = .ok (.ifCond .le 42, 3) := by decide +kernel
theorem dX11_free_95 : decode cX11_free 95 = .ok (.aload_n 0, 1) := by decide +kernel
theorem dX11_free_96 : decode cX11_free 96 = .ok (.getfield 16, 3) := by decide +kernel
theorem dX11_free_99 : decode cX11_free 99 = .ok (.bipush 10, 2) := by decide +kernel
theorem dX11_free_101 : decode cX11_free 101 = .ok (.aload_n 0, 1) := by decide +kernel
theorem dX11_free_102 : decode cX11_free 102 = .ok (.getfield 44, 3) := by decide +kernel
theorem dX11_free_105 : decode cX11_free 105 = .ok (.iload 6, 2) := by decide +kernel
theorem dX11_free_107 : decode cX11_free 107 = .ok (.iaload, 1) := by decide +kernel
theorem dX11_free_108 : decode cX11_free 108 = .ok (.imul, 1) := by decide +kernel
theorem dX11_free_109 : decode cX11_free 109 = .ok (.iload_n 2, 1) := by decide +kernel
theorem dX11_free_110 : decode cX11_free 110 = .ok (.iadd, 1) := by decide +kernel
theorem dX11_free_111 : decode cX11_free 111 = .ok (.baload, 1) := by decide +kernel
theorem dX11_free_112 : decode cX11_free 112 = .ok (.ifCond .eq 22, 3) := by decide +kernel
theorem dX11_free_115 : decode cX11_free 115 = .ok (.aload_n 0, 1) := by decide +kernel
theorem dX11_free_116 : decode cX11_free 116 = .ok (.getfield 47, 3) := by decide +kernel
theorem dX11_free_119 : decode cX11_free 119 = .ok (.iload 6, 2) := by decide +kernel
theorem dX11_free_121 : decode cX11_free 121 = .ok (.iaload, 1) := by decide +kernel
theorem dX11_free_122 : decode cX11_free 122 = .ok (.iload_n 3, 1) := by decide +kernel
theorem dX11_free_123 : decode cX11_free 123 = .ok (.if_icmp .le 11, 3) := by decide +kernel
theorem dX11_free_126 : decode cX11_free 126 = .ok (.aload_n 0, 1) := by decide +kernel
theorem dX11_free_127 : decode cX11_free 127 = .ok (.getfield 47, 3) := by decide +kernel
theorem dX11_free_130 : decode cX11_free 130 = .ok (.iload 6, 2) := by decide +kernel
theorem dX11_free_132 : decode cX11_free 132 = .ok (.iaload, 1) := by decide +kernel
theorem dX11_free_133 : decode cX11_free 133 = .ok (.istore_n 3, 1) := by decide +kernel
theorem dX11_free_134 : decode cX11_free 134 = .ok (.iinc 5 1, 3) := by decide +kernel
theorem dX11_free_137 : decode cX11_free 137 = .ok (.goto (-97), 3) := by decide +kernel
theorem dX11_free_140 : decode cX11_free 140 = .ok (.iinc 4 1, 3) := by decide +kernel
theorem dX11_free_143 : decode cX11_free 143 = .ok (.goto (-115), 3) := by decide +kernel
theorem dX11_free_146 : decode cX11_free 146 = .ok (.iload_n 3, 1) := by decide +kernel
theorem dX11_free_147 : decode cX11_free 147 = .ok (.ireturn, 1) := by decide +kernel
theorem dX11_wanted_0 : decode cX11_wanted 0 = .ok (.iload_n 1, 1) := by decide +kernel
theorem dX11_wanted_1 : decode cX11_wanted 1 = .ok (.iconst 1, 1) := by decide +kernel
theorem dX11_wanted_2 : decode cX11_wanted 2 = .ok (.iconst 4, 1) := by decide +kernel
theorem dX11_wanted_3 : decode cX11_wanted 3 = .ok (.invokestatic 90, 3) := by decide +kernel
theorem dX11_wanted_6 : decode cX11_wanted 6 = .ok (.ifCond .eq 12, 3) := by decide +kernel
theorem dX11_wanted_9 : decode cX11_wanted 9 = .ok (.iload_n 2, 1) := by decide +kernel
theorem dX11_wanted_10 : decode cX11_wanted 10 = .ok (.iconst 1, 1) := by decide +kernel
theorem dX11_wanted_11 : decode cX11_wanted 11 = .ok (.iconst 4, 1) := by decide +kernel
theorem dX11_wanted_12 : decode cX11_wanted 12 = .ok (.invokestatic 90, 3) := by decide +kernel
theorem dX11_wanted_15 : decode cX11_wanted 15 = .ok (.ifCond .ne 5, 3) := by decide +kernel
theorem dX11_wanted_18 : decode cX11_wanted 18 = .ok (.iconst (-1), 1) := by decide +kernel
theorem dX11_wanted_19 : decode cX11_wanted 19 = .ok (.ireturn, 1) := by decide +kernel
theorem dX11_wanted_20 : decode cX11_wanted 20 = .ok (.aload_n 0, 1) := by decide +kernel
theorem dX11_wanted_21 : decode cX11_wanted 21 = .ok (.iload_n 1, 1) := by decide +kernel
theorem dX11_wanted_22 : decode cX11_wanted 22 = .ok (.putfield 179, 3) := by decide +kernel
theorem dX11_wanted_25 : decode cX11_wanted 25 = .ok (.aload_n 0, 1) := by decide +kernel
theorem dX11_wanted_26 : decode cX11_wanted 26 = .ok (.iload_n 2, 1) := by decide +kernel
theorem dX11_wanted_27 : decode cX11_wanted 27 = .ok (.putfield 182, 3) := by decide +kernel
theorem dX11_wanted_30 : decode cX11_wanted 30 = .ok (.iconst 0, 1) := by decide +kernel
theorem dX11_wanted_31 : decode cX11_wanted 31 = .ok (.istore_n 3, 1) := by decide +kernel
theorem dX11_wanted_32 : decode cX11_wanted 32 = .ok (.iload_n 3, 1) := by decide +kernel
theorem dX11_wanted_33 : decode cX11_wanted 33 = .ok (.bipush 16, 2) := by decide +kernel
theorem dX11_wanted_35 : decode cX11_wanted 35 = .ok (.if_icmp .ge 16, 3) := by decide +kernel
theorem dX11_wanted_38 : decode cX11_wanted 38 = .ok (.aload_n 0, 1) := by decide +kernel
theorem dX11_wanted_39 : decode cX11_wanted 39 = .ok (.getfield 71, 3) := by decide +kernel
theorem dX11_wanted_42 : decode cX11_wanted 42 = .ok (.iload_n 3, 1) := by decide +kernel
theorem dX11_wanted_43 : decode cX11_wanted 43 = .ok (.iconst 0, 1) := by decide +kernel
theorem dX11_wanted_44 : decode cX11_wanted 44 = .ok (.iastore, 1) := by decide +kernel
theorem dX11_wanted_45 : decode cX11_wanted 45 = .ok (.iinc 3 1, 3) := by decide +kernel
theorem dX11_wanted_48 : decode cX11_wanted 48 = .ok (.goto (-16), 3) := by decide +kernel
theorem dX11_wanted_51 : decode cX11_wanted 51 = .ok (.iconst 1, 1) := by decide +kernel
theorem dX11_wanted_52 : decode cX11_wanted 52 = .ok (.ireturn, 1) := by decide +kernel
theorem dX11_isWanted_0 : decode cX11_isWanted 0 = .ok (.iload_n 1, 1) := by decide +kernel
theorem dX11_isWanted_1 : decode cX11_isWanted 1 = .ok (.ifCond .lt 27, 3) := by decide +kernel
theorem dX11_isWanted_4 : decode cX11_isWanted 4 = .ok (.iload_n 1, 1) := by decide +kernel
theorem dX11_isWanted_5 : decode cX11_isWanted 5 = .ok (.iconst 4, 1) := by decide +kernel
theorem dX11_isWanted_6 : decode cX11_isWanted 6 = .ok (.idiv, 1) := by decide +kernel
theorem dX11_isWanted_7 : decode cX11_isWanted 7 = .ok (.aload_n 0, 1) := by decide +kernel
theorem dX11_isWanted_8 : decode cX11_isWanted 8 = .ok (.getfield 179, 3) := by decide +kernel
theorem dX11_isWanted_11 : decode cX11_isWanted 11 = .ok (.if_icmp .ge 17, 3) := by decide +kernel
theorem dX11_isWanted_14 : decode cX11_isWanted 14 = .ok (.iload_n 1, 1) := by decide +kernel
theorem dX11_isWanted_15 : decode cX11_isWanted 15 = .ok (.iconst 4, 1) := by decide +kernel
theorem dX11_isWanted_16 : decode cX11_isWanted 16 = .ok (.irem, 1) := by decide +kernel
theorem dX11_isWanted_17 : decode cX11_isWanted 17 = .ok (.aload_n 0, 1) := by decide +kernel
theorem dX11_isWanted_18 : decode cX11_isWanted 18 = .ok (.getfield 182, 3) := by decide +kernel
theorem dX11_isWanted_21 : decode cX11_isWanted 21 = .ok (.if_icmp .ge 7, 3) := by decide +kernel
theorem dX11_isWanted_24 : decode cX11_isWanted 24 = .ok (.iconst 1, 1) := by decide +kernel
theorem dX11_isWanted_25 : decode cX11_isWanted 25 = .ok (.goto 4, 3) := by decide +kernel
theorem dX11_isWanted_28 : decode cX11_isWanted 28 = .ok (.iconst 0, 1) := by decide +kernel
theorem dX11_isWanted_29 : decode cX11_isWanted 29 = .ok (.ireturn, 1) := by decide +kernel
theorem dX11_want_0 : decode cX11_want 0 = .ok (.aload_n 0, 1) := by decide +kernel
theorem dX11_want_1 : decode cX11_want 1 = .ok (.iload_n 1, 1) := by decide +kernel
theorem dX11_want_2 : decode cX11_want 2 = .ok (.invokevirtual 185, 3) := by decide +kernel
theorem dX11_want_5 : decode cX11_want 5 = .ok (.ifCond .eq 10, 3) := by decide +kernel
theorem dX11_want_8 : decode cX11_want 8 = .ok (.iload_n 2, 1) := by decide +kernel
theorem dX11_want_9 : decode cX11_want 9 = .ok (.invokestatic 107, 3) := by decide +kernel
theorem dX11_want_12 : decode cX11_want 12 = .ok (.ifCond .ne 5, 3) := by decide +kernel
theorem dX11_want_15 : decode cX11_want 15 = .ok (.iconst (-1), 1) := by decide +kernel
theorem dX11_want_16 : decode cX11_want 16 = .ok (.ireturn, 1) := by decide +kernel
theorem dX11_want_17 : decode cX11_want 17 = .ok (.aload_n 0, 1) := by decide +kernel
theorem dX11_want_18 : decode cX11_want 18 = .ok (.getfield 71, 3) := by decide +kernel
theorem dX11_want_21 : decode cX11_want 21 = .ok (.iload_n 1, 1) := by decide +kernel
theorem dX11_want_22 : decode cX11_want 22 = .ok (.iaload, 1) := by decide +kernel
theorem dX11_want_23 : decode cX11_want 23 = .ok (.istore_n 3, 1) := by decide +kernel
theorem dX11_want_24 : decode cX11_want 24 = .ok (.aload_n 0, 1) := by decide +kernel
theorem dX11_want_25 : decode cX11_want 25 = .ok (.getfield 71, 3) := by decide +kernel
theorem dX11_want_28 : decode cX11_want 28 = .ok (.iload_n 1, 1) := by decide +kernel
theorem dX11_want_29 : decode cX11_want 29 = .ok (.iload_n 2, 1) := by decide +kernel
theorem dX11_want_30 : decode cX11_want 30 = .ok (.iastore, 1) := by decide +kernel
theorem dX11_want_31 : decode cX11_want 31 = .ok (.iload_n 3, 1) := by decide +kernel
theorem dX11_want_32 : decode cX11_want 32 = .ok (.ireturn, 1) := by decide +kernel
theorem dX11_wantedColours_0 : decode cX11_wantedColours 0 = .ok (.iconst 0, 1) := by decide +kernel
theorem dX11_wantedColours_1 : decode cX11_wantedColours 1 = .ok (.istore_n 1, 1) := by decide +kernel
theorem dX11_wantedColours_2 : decode cX11_wantedColours 2 = .ok (.iconst 0, 1) := by decide +kernel
theorem dX11_wantedColours_3 : decode cX11_wantedColours 3 = .ok (.istore_n 2, 1) := by decide +kernel
theorem dX11_wantedColours_4 : decode cX11_wantedColours 4 = .ok (.iload_n 2, 1) := by decide +kernel
theorem dX11_wantedColours_5 : decode cX11_wantedColours 5 = .ok (.bipush 16, 2) := by decide +kernel
theorem dX11_wantedColours_7 : decode cX11_wantedColours 7 = .ok (.if_icmp .ge 32, 3) := by decide +kernel
theorem dX11_wantedColours_10 : decode cX11_wantedColours 10 = .ok (.iload_n 1, 1) := by decide +kernel
theorem dX11_wantedColours_11 : decode cX11_wantedColours 11 = .ok (.aload_n 0, 1) := by decide +kernel
theorem dX11_wantedColours_12 : decode cX11_wantedColours 12 = .ok (.iload_n 2, 1) := by decide +kernel
theorem dX11_wantedColours_13 : decode cX11_wantedColours 13 = .ok (.invokevirtual 185, 3) := by decide +kernel
theorem dX11_wantedColours_16 : decode cX11_wantedColours 16 = .ok (.ifCond .eq 14, 3) := by decide +kernel
theorem dX11_wantedColours_19 : decode cX11_wantedColours 19 = .ok (.iconst 1, 1) := by decide +kernel
theorem dX11_wantedColours_20 : decode cX11_wantedColours 20 = .ok (.aload_n 0, 1) := by decide +kernel
theorem dX11_wantedColours_21 : decode cX11_wantedColours 21 = .ok (.getfield 71, 3) := by decide +kernel
theorem dX11_wantedColours_24 : decode cX11_wantedColours 24 = .ok (.iload_n 2, 1) := by decide +kernel
theorem dX11_wantedColours_25 : decode cX11_wantedColours 25 = .ok (.iaload, 1) := by decide +kernel
theorem dX11_wantedColours_26 : decode cX11_wantedColours 26 = .ok (.ishl, 1) := by decide +kernel
theorem dX11_wantedColours_27 : decode cX11_wantedColours 27 = .ok (.goto 4, 3) := by decide +kernel
theorem dX11_wantedColours_30 : decode cX11_wantedColours 30 = .ok (.iconst 0, 1) := by decide +kernel
theorem dX11_wantedColours_31 : decode cX11_wantedColours 31 = .ok (.ior, 1) := by decide +kernel
theorem dX11_wantedColours_32 : decode cX11_wantedColours 32 = .ok (.istore_n 1, 1) := by decide +kernel
theorem dX11_wantedColours_33 : decode cX11_wantedColours 33 = .ok (.iinc 2 1, 3) := by decide +kernel
theorem dX11_wantedColours_36 : decode cX11_wantedColours 36 = .ok (.goto (-32), 3) := by decide +kernel
theorem dX11_wantedColours_39 : decode cX11_wantedColours 39 = .ok (.iload_n 1, 1) := by decide +kernel
theorem dX11_wantedColours_40 : decode cX11_wantedColours 40 = .ok (.ireturn, 1) := by decide +kernel
theorem dX11_makes_0 : decode cX11_makes 0 = .ok (.iload_n 1, 1) := by decide +kernel
theorem dX11_makes_1 : decode cX11_makes 1 = .ok (.iload_n 2, 1) := by decide +kernel
theorem dX11_makes_2 : decode cX11_makes 2 = .ok (.if_icmp .ne 14, 3) := by decide +kernel
theorem dX11_makes_5 : decode cX11_makes 5 = .ok (.iload 5, 2) := by decide +kernel
theorem dX11_makes_7 : decode cX11_makes 7 = .ok (.ifCond .ne 7, 3) := by decide +kernel
theorem dX11_makes_10 : decode cX11_makes 10 = .ok (.iconst 1, 1) := by decide +kernel
theorem dX11_makes_11 : decode cX11_makes 11 = .ok (.goto 4, 3) := by decide +kernel
theorem dX11_makes_14 : decode cX11_makes 14 = .ok (.iconst 0, 1) := by decide +kernel
theorem dX11_makes_15 : decode cX11_makes 15 = .ok (.ireturn, 1) := by decide +kernel
theorem dX11_makes_16 : decode cX11_makes 16 = .ok (.iconst 0, 1) := by decide +kernel
theorem dX11_makes_17 : decode cX11_makes 17 = .ok (.istore 6, 2) := by decide +kernel
theorem dX11_makes_19 : decode cX11_makes 19 = .ok (.iload 6, 2) := by decide +kernel
theorem dX11_makes_21 : decode cX11_makes 21 = .ok (.bipush 10, 2) := by decide +kernel
theorem dX11_makes_23 : decode cX11_makes 23 = .ok (.if_icmp .ge 67, 3) := by decide +kernel
theorem dX11_makes_26 : decode cX11_makes 26 = .ok (.iload_n 3, 1) := by decide +kernel
theorem dX11_makes_27 : decode cX11_makes 27 = .ok (.iload 6, 2) := by decide +kernel
theorem dX11_makes_29 : decode cX11_makes 29 = .ok (.ishr, 1) := by decide +kernel
theorem dX11_makes_30 : decode cX11_makes 30 = .ok (.iconst 1, 1) := by decide +kernel
theorem dX11_makes_31 : decode cX11_makes 31 = .ok (.iand, 1) := by decide +kernel
theorem dX11_makes_32 : decode cX11_makes 32 = .ok (.iconst 1, 1) := by decide +kernel
theorem dX11_makes_33 : decode cX11_makes 33 = .ok (.if_icmp .ne 51, 3) := by decide +kernel
theorem dX11_makes_36 : decode cX11_makes 36 = .ok (.aload_n 0, 1) := by decide +kernel
theorem dX11_makes_37 : decode cX11_makes 37 = .ok (.getfield 74, 3) := by decide +kernel
theorem dX11_makes_40 : decode cX11_makes 40 = .ok (.iload_n 1, 1) := by decide +kernel
theorem dX11_makes_41 : decode cX11_makes 41 = .ok (.iload 6, 2) := by decide +kernel
theorem dX11_makes_43 : decode cX11_makes 43 = .ok (.iastore, 1) := by decide +kernel
theorem dX11_makes_44 : decode cX11_makes 44 = .ok (.aload_n 0, 1) := by decide +kernel
theorem dX11_makes_45 : decode cX11_makes 45 = .ok (.getfield 9, 3) := by decide +kernel
theorem dX11_makes_48 : decode cX11_makes 48 = .ok (.bipush 16, 2) := by decide +kernel
theorem dX11_makes_50 : decode cX11_makes 50 = .ok (.iload 6, 2) := by decide +kernel
theorem dX11_makes_52 : decode cX11_makes 52 = .ok (.imul, 1) := by decide +kernel
theorem dX11_makes_53 : decode cX11_makes 53 = .ok (.iload 4, 2) := by decide +kernel
theorem dX11_makes_55 : decode cX11_makes 55 = .ok (.iadd, 1) := by decide +kernel
theorem dX11_makes_56 : decode cX11_makes 56 = .ok (.iaload, 1) := by decide +kernel
theorem dX11_makes_57 : decode cX11_makes 57 = .ok (.istore 7, 2) := by decide +kernel
theorem dX11_makes_59 : decode cX11_makes 59 = .ok (.aload_n 0, 1) := by decide +kernel
theorem dX11_makes_60 : decode cX11_makes 60 = .ok (.iload_n 1, 1) := by decide +kernel
theorem dX11_makes_61 : decode cX11_makes 61 = .ok (.iconst 1, 1) := by decide +kernel
theorem dX11_makes_62 : decode cX11_makes 62 = .ok (.iadd, 1) := by decide +kernel
theorem dX11_makes_63 : decode cX11_makes 63 = .ok (.iload_n 2, 1) := by decide +kernel
theorem dX11_makes_64 : decode cX11_makes 64 = .ok (.iload_n 3, 1) := by decide +kernel
theorem dX11_makes_65 : decode cX11_makes 65 = .ok (.iload 7, 2) := by decide +kernel
theorem dX11_makes_67 : decode cX11_makes 67 = .ok (.iload 5, 2) := by decide +kernel
theorem dX11_makes_69 : decode cX11_makes 69 = .ok (.iconst 1, 1) := by decide +kernel
theorem dX11_makes_70 : decode cX11_makes 70 = .ok (.iload 7, 2) := by decide +kernel
theorem dX11_makes_72 : decode cX11_makes 72 = .ok (.ishl, 1) := by decide +kernel
theorem dX11_makes_73 : decode cX11_makes 73 = .ok (.iconst (-1), 1) := by decide +kernel
theorem dX11_makes_74 : decode cX11_makes 74 = .ok (.ixor, 1) := by decide +kernel
theorem dX11_makes_75 : decode cX11_makes 75 = .ok (.iand, 1) := by decide +kernel
theorem dX11_makes_76 : decode cX11_makes 76 = .ok (.invokevirtual 188, 3) := by decide +kernel
theorem dX11_makes_79 : decode cX11_makes 79 = .ok (.ifCond .eq 5, 3) := by decide +kernel
theorem dX11_makes_82 : decode cX11_makes 82 = .ok (.iconst 1, 1) := by decide +kernel
theorem dX11_makes_83 : decode cX11_makes 83 = .ok (.ireturn, 1) := by decide +kernel
theorem dX11_makes_84 : decode cX11_makes 84 = .ok (.iinc 6 1, 3) := by decide +kernel
theorem dX11_makes_87 : decode cX11_makes 87 = .ok (.goto (-68), 3) := by decide +kernel
theorem dX11_makes_90 : decode cX11_makes 90 = .ok (.iconst 0, 1) := by decide +kernel
theorem dX11_makes_91 : decode cX11_makes 91 = .ok (.ireturn, 1) := by decide +kernel
theorem dX11_least_0 : decode cX11_least 0 = .ok (.aload_n 0, 1) := by decide +kernel
theorem dX11_least_1 : decode cX11_least 1 = .ok (.invokevirtual 192, 3) := by decide +kernel
theorem dX11_least_4 : decode cX11_least 4 = .ok (.bipush (-2), 2) := by decide +kernel
theorem dX11_least_6 : decode cX11_least 6 = .ok (.iand, 1) := by decide +kernel
theorem dX11_least_7 : decode cX11_least 7 = .ok (.istore_n 2, 1) := by decide +kernel
theorem dX11_least_8 : decode cX11_least 8 = .ok (.iconst 0, 1) := by decide +kernel
theorem dX11_least_9 : decode cX11_least 9 = .ok (.istore_n 3, 1) := by decide +kernel
theorem dX11_least_10 : decode cX11_least 10 = .ok (.iload_n 3, 1) := by decide +kernel
theorem dX11_least_11 : decode cX11_least 11 = .ok (.iconst 5, 1) := by decide +kernel
theorem dX11_least_12 : decode cX11_least 12 = .ok (.if_icmp .gt 23, 3) := by decide +kernel
theorem dX11_least_15 : decode cX11_least 15 = .ok (.aload_n 0, 1) := by decide +kernel
theorem dX11_least_16 : decode cX11_least 16 = .ok (.iconst 0, 1) := by decide +kernel
theorem dX11_least_17 : decode cX11_least 17 = .ok (.iload_n 3, 1) := by decide +kernel
theorem dX11_least_18 : decode cX11_least 18 = .ok (.iload_n 1, 1) := by decide +kernel
theorem dX11_least_19 : decode cX11_least 19 = .ok (.iconst 0, 1) := by decide +kernel
theorem dX11_least_20 : decode cX11_least 20 = .ok (.iload_n 2, 1) := by decide +kernel
theorem dX11_least_21 : decode cX11_least 21 = .ok (.invokevirtual 188, 3) := by decide +kernel
theorem dX11_least_24 : decode cX11_least 24 = .ok (.ifCond .eq 5, 3) := by decide +kernel
theorem dX11_least_27 : decode cX11_least 27 = .ok (.iload_n 3, 1) := by decide +kernel
theorem dX11_least_28 : decode cX11_least 28 = .ok (.ireturn, 1) := by decide +kernel
theorem dX11_least_29 : decode cX11_least 29 = .ok (.iinc 3 1, 3) := by decide +kernel
theorem dX11_least_32 : decode cX11_least 32 = .ok (.goto (-22), 3) := by decide +kernel
theorem dX11_least_35 : decode cX11_least 35 = .ok (.bipush (-4), 2) := by decide +kernel
theorem dX11_least_37 : decode cX11_least 37 = .ok (.ireturn, 1) := by decide +kernel
theorem dX11_fewest_0 : decode cX11_fewest 0 = .ok (.aload_n 0, 1) := by decide +kernel
theorem dX11_fewest_1 : decode cX11_fewest 1 = .ok (.getfield 179, 3) := by decide +kernel
theorem dX11_fewest_4 : decode cX11_fewest 4 = .ok (.ifCond .eq 14, 3) := by decide +kernel
theorem dX11_fewest_7 : decode cX11_fewest 7 = .ok (.iload_n 1, 1) := by decide +kernel
theorem dX11_fewest_8 : decode cX11_fewest 8 = .ok (.iconst 0, 1) := by decide +kernel
theorem dX11_fewest_9 : decode cX11_fewest 9 = .ok (.sipush 1023, 3) := by decide +kernel
theorem dX11_fewest_12 : decode cX11_fewest 12 = .ok (.invokestatic 90, 3) := by decide +kernel
theorem dX11_fewest_15 : decode cX11_fewest 15 = .ok (.ifCond .ne 5, 3) := by decide +kernel
theorem dX11_fewest_18 : decode cX11_fewest 18 = .ok (.iconst (-1), 1) := by decide +kernel
theorem dX11_fewest_19 : decode cX11_fewest 19 = .ok (.ireturn, 1) := by decide +kernel
theorem dX11_fewest_20 : decode cX11_fewest 20 = .ok (.aload_n 0, 1) := by decide +kernel
theorem dX11_fewest_21 : decode cX11_fewest 21 = .ok (.iload_n 1, 1) := by decide +kernel
theorem dX11_fewest_22 : decode cX11_fewest 22 = .ok (.invokevirtual 196, 3) := by decide +kernel
theorem dX11_fewest_25 : decode cX11_fewest 25 = .ok (.istore_n 2, 1) := by decide +kernel
theorem dX11_fewest_26 : decode cX11_fewest 26 = .ok (.iload_n 2, 1) := by decide +kernel
theorem dX11_fewest_27 : decode cX11_fewest 27 = .ok (.ifCond .ge 6, 3) := by decide +kernel
theorem dX11_fewest_30 : decode cX11_fewest 30 = .ok (.bipush (-4), 2) := by decide +kernel
theorem dX11_fewest_32 : decode cX11_fewest 32 = .ok (.ireturn, 1) := by decide +kernel
theorem dX11_fewest_33 : decode cX11_fewest 33 = .ok (.aload_n 0, 1) := by decide +kernel
theorem dX11_fewest_34 : decode cX11_fewest 34 = .ok (.iload_n 2, 1) := by decide +kernel
theorem dX11_fewest_35 : decode cX11_fewest 35 = .ok (.putfield 80, 3) := by decide +kernel
theorem dX11_fewest_38 : decode cX11_fewest 38 = .ok (.iconst 0, 1) := by decide +kernel
theorem dX11_fewest_39 : decode cX11_fewest 39 = .ok (.istore_n 3, 1) := by decide +kernel
theorem dX11_fewest_40 : decode cX11_fewest 40 = .ok (.iload_n 3, 1) := by decide +kernel
theorem dX11_fewest_41 : decode cX11_fewest 41 = .ok (.iload_n 2, 1) := by decide +kernel
theorem dX11_fewest_42 : decode cX11_fewest 42 = .ok (.if_icmp .ge 21, 3) := by decide +kernel
theorem dX11_fewest_45 : decode cX11_fewest 45 = .ok (.aload_n 0, 1) := by decide +kernel
theorem dX11_fewest_46 : decode cX11_fewest 46 = .ok (.getfield 77, 3) := by decide +kernel
theorem dX11_fewest_49 : decode cX11_fewest 49 = .ok (.iload_n 3, 1) := by decide +kernel
theorem dX11_fewest_50 : decode cX11_fewest 50 = .ok (.aload_n 0, 1) := by decide +kernel
theorem dX11_fewest_51 : decode cX11_fewest 51 = .ok (.getfield 74, 3) := by decide +kernel
theorem dX11_fewest_54 : decode cX11_fewest 54 = .ok (.iload_n 3, 1) := by decide +kernel
theorem dX11_fewest_55 : decode cX11_fewest 55 = .ok (.iaload, 1) := by decide +kernel
theorem dX11_fewest_56 : decode cX11_fewest 56 = .ok (.iastore, 1) := by decide +kernel
theorem dX11_fewest_57 : decode cX11_fewest 57 = .ok (.iinc 3 1, 3) := by decide +kernel
theorem dX11_fewest_60 : decode cX11_fewest 60 = .ok (.goto (-20), 3) := by decide +kernel
theorem dX11_fewest_63 : decode cX11_fewest 63 = .ok (.iconst 0, 1) := by decide +kernel
theorem dX11_fewest_64 : decode cX11_fewest 64 = .ok (.istore_n 3, 1) := by decide +kernel
theorem dX11_fewest_65 : decode cX11_fewest 65 = .ok (.iload_n 3, 1) := by decide +kernel
theorem dX11_fewest_66 : decode cX11_fewest 66 = .ok (.bipush 16, 2) := by decide +kernel
theorem dX11_fewest_68 : decode cX11_fewest 68 = .ok (.if_icmp .ge 105, 3) := by decide +kernel
theorem dX11_fewest_71 : decode cX11_fewest 71 = .ok (.aload_n 0, 1) := by decide +kernel
theorem dX11_fewest_72 : decode cX11_fewest 72 = .ok (.getfield 84, 3) := by decide +kernel
theorem dX11_fewest_75 : decode cX11_fewest 75 = .ok (.iload_n 3, 1) := by decide +kernel
theorem dX11_fewest_76 : decode cX11_fewest 76 = .ok (.iconst (-1), 1) := by decide +kernel
theorem dX11_fewest_77 : decode cX11_fewest 77 = .ok (.iastore, 1) := by decide +kernel
theorem dX11_fewest_78 : decode cX11_fewest 78 = .ok (.iconst 0, 1) := by decide +kernel
theorem dX11_fewest_79 : decode cX11_fewest 79 = .ok (.istore 4, 2) := by decide +kernel
theorem dX11_fewest_81 : decode cX11_fewest 81 = .ok (.iconst 0, 1) := by decide +kernel
theorem dX11_fewest_82 : decode cX11_fewest 82 = .ok (.istore 5, 2) := by decide +kernel
theorem dX11_fewest_84 : decode cX11_fewest 84 = .ok (.iload 5, 2) := by decide +kernel
theorem dX11_fewest_86 : decode cX11_fewest 86 = .ok (.iload_n 2, 1) := by decide +kernel
theorem dX11_fewest_87 : decode cX11_fewest 87 = .ok (.if_icmp .gt 80, 3) := by decide +kernel
theorem dX11_fewest_90 : decode cX11_fewest 90 = .ok (.aload_n 0, 1) := by decide +kernel
theorem dX11_fewest_91 : decode cX11_fewest 91 = .ok (.iload_n 3, 1) := by decide +kernel
theorem dX11_fewest_92 : decode cX11_fewest 92 = .ok (.invokevirtual 185, 3) := by decide +kernel
theorem dX11_fewest_95 : decode cX11_fewest 95 = .ok (.ifCond .eq 72, 3) := by decide +kernel
theorem dX11_fewest_98 : decode cX11_fewest 98 = .ok (.aload_n 0, 1) := by decide +kernel
theorem dX11_fewest_99 : decode cX11_fewest 99 = .ok (.getfield 84, 3) := by decide +kernel
theorem dX11_fewest_102 : decode cX11_fewest 102 = .ok (.iload_n 3, 1) := by decide +kernel
theorem dX11_fewest_103 : decode cX11_fewest 103 = .ok (.iaload, 1) := by decide +kernel
theorem dX11_fewest_104 : decode cX11_fewest 104 = .ok (.ifCond .ge 63, 3) := by decide +kernel
theorem dX11_fewest_107 : decode cX11_fewest 107 = .ok (.aload_n 0, 1) := by decide +kernel
theorem dX11_fewest_108 : decode cX11_fewest 108 = .ok (.getfield 84, 3) := by decide +kernel
theorem dX11_fewest_111 : decode cX11_fewest 111 = .ok (.iload_n 3, 1) := by decide +kernel
theorem dX11_fewest_112 : decode cX11_fewest 112 = .ok (.iload 4, 2) := by decide +kernel
theorem dX11_fewest_114 : decode cX11_fewest 114 = .ok (.aload_n 0, 1) := by decide +kernel
theorem dX11_fewest_115 : decode cX11_fewest 115 = .ok (.getfield 71, 3) := by decide +kernel
theorem dX11_fewest_118 : decode cX11_fewest 118 = .ok (.iload_n 3, 1) := by decide +kernel
theorem dX11_fewest_119 : decode cX11_fewest 119 = .ok (.iaload, 1) := by decide +kernel
theorem dX11_fewest_120 : decode cX11_fewest 120 = .ok (.if_icmp .ne 8, 3) := by decide +kernel
theorem dX11_fewest_123 : decode cX11_fewest 123 = .ok (.iload 5, 2) := by decide +kernel
theorem dX11_fewest_125 : decode cX11_fewest 125 = .ok (.goto 4, 3) := by decide +kernel
theorem dX11_fewest_128 : decode cX11_fewest 128 = .ok (.iconst (-1), 1) := by decide +kernel
theorem dX11_fewest_129 : decode cX11_fewest 129 = .ok (.iastore, 1) := by decide +kernel
theorem dX11_fewest_130 : decode cX11_fewest 130 = .ok (.iload 5, 2) := by decide +kernel
theorem dX11_fewest_132 : decode cX11_fewest 132 = .ok (.iload_n 2, 1) := by decide +kernel
theorem dX11_fewest_133 : decode cX11_fewest 133 = .ok (.if_icmp .ge 24, 3) := by decide +kernel
theorem dX11_fewest_136 : decode cX11_fewest 136 = .ok (.aload_n 0, 1) := by decide +kernel
theorem dX11_fewest_137 : decode cX11_fewest 137 = .ok (.getfield 9, 3) := by decide +kernel
theorem dX11_fewest_140 : decode cX11_fewest 140 = .ok (.bipush 16, 2) := by decide +kernel
theorem dX11_fewest_142 : decode cX11_fewest 142 = .ok (.aload_n 0, 1) := by decide +kernel
theorem dX11_fewest_143 : decode cX11_fewest 143 = .ok (.getfield 77, 3) := by decide +kernel
theorem dX11_fewest_146 : decode cX11_fewest 146 = .ok (.iload 5, 2) := by decide +kernel
theorem dX11_fewest_148 : decode cX11_fewest 148 = .ok (.iaload, 1) := by decide +kernel
theorem dX11_fewest_149 : decode cX11_fewest 149 = .ok (.imul, 1) := by decide +kernel
theorem dX11_fewest_150 : decode cX11_fewest 150 = .ok (.iload 4, 2) := by decide +kernel
theorem dX11_fewest_152 : decode cX11_fewest 152 = .ok (.iadd, 1) := by decide +kernel
theorem dX11_fewest_153 : decode cX11_fewest 153 = .ok (.iaload, 1) := by decide +kernel
theorem dX11_fewest_154 : decode cX11_fewest 154 = .ok (.goto 5, 3) := by decide +kernel
theorem dX11_fewest_157 : decode cX11_fewest 157 = .ok (.iload 4, 2) := by decide +kernel
theorem dX11_fewest_159 : decode cX11_fewest 159 = .ok (.istore 4, 2) := by decide +kernel
theorem dX11_fewest_161 : decode cX11_fewest 161 = .ok (.iinc 5 1, 3) := by decide +kernel
theorem dX11_fewest_164 : decode cX11_fewest 164 = .ok (.goto (-80), 3) := by decide +kernel
theorem dX11_fewest_167 : decode cX11_fewest 167 = .ok (.iinc 3 1, 3) := by decide +kernel
theorem dX11_fewest_170 : decode cX11_fewest 170 = .ok (.goto (-105), 3) := by decide +kernel
theorem dX11_fewest_173 : decode cX11_fewest 173 = .ok (.iload_n 2, 1) := by decide +kernel
theorem dX11_fewest_174 : decode cX11_fewest 174 = .ok (.ireturn, 1) := by decide +kernel
theorem dX11_order_0 : decode cX11_order 0 = .ok (.iload_n 1, 1) := by decide +kernel
theorem dX11_order_1 : decode cX11_order 1 = .ok (.ifCond .lt 20, 3) := by decide +kernel
theorem dX11_order_4 : decode cX11_order 4 = .ok (.iload_n 1, 1) := by decide +kernel
theorem dX11_order_5 : decode cX11_order 5 = .ok (.aload_n 0, 1) := by decide +kernel
theorem dX11_order_6 : decode cX11_order 6 = .ok (.getfield 80, 3) := by decide +kernel
theorem dX11_order_9 : decode cX11_order 9 = .ok (.if_icmp .ge 12, 3) := by decide +kernel
theorem dX11_order_12 : decode cX11_order 12 = .ok (.aload_n 0, 1) := by decide +kernel
theorem dX11_order_13 : decode cX11_order 13 = .ok (.getfield 77, 3) := by decide +kernel
theorem dX11_order_16 : decode cX11_order 16 = .ok (.iload_n 1, 1) := by decide +kernel
theorem dX11_order_17 : decode cX11_order 17 = .ok (.iaload, 1) := by decide +kernel
theorem dX11_order_18 : decode cX11_order 18 = .ok (.goto 4, 3) := by decide +kernel
theorem dX11_order_21 : decode cX11_order 21 = .ok (.iconst (-1), 1) := by decide +kernel
theorem dX11_order_22 : decode cX11_order 22 = .ok (.ireturn, 1) := by decide +kernel
theorem dX11_place_0 : decode cX11_place 0 = .ok (.iload_n 1, 1) := by decide +kernel
theorem dX11_place_1 : decode cX11_place 1 = .ok (.ifCond .lt 25, 3) := by decide +kernel
theorem dX11_place_4 : decode cX11_place 4 = .ok (.iload_n 1, 1) := by decide +kernel
theorem dX11_place_5 : decode cX11_place 5 = .ok (.bipush 16, 2) := by decide +kernel
theorem dX11_place_7 : decode cX11_place 7 = .ok (.if_icmp .ge 19, 3) := by decide +kernel
theorem dX11_place_10 : decode cX11_place 10 = .ok (.aload_n 0, 1) := by decide +kernel
theorem dX11_place_11 : decode cX11_place 11 = .ok (.getfield 80, 3) := by decide +kernel
theorem dX11_place_14 : decode cX11_place 14 = .ok (.ifCond .lt 12, 3) := by decide +kernel
theorem dX11_place_17 : decode cX11_place 17 = .ok (.aload_n 0, 1) := by decide +kernel
theorem dX11_place_18 : decode cX11_place 18 = .ok (.getfield 84, 3) := by decide +kernel
theorem dX11_place_21 : decode cX11_place 21 = .ok (.iload_n 1, 1) := by decide +kernel
theorem dX11_place_22 : decode cX11_place 22 = .ok (.iaload, 1) := by decide +kernel
theorem dX11_place_23 : decode cX11_place 23 = .ok (.goto 4, 3) := by decide +kernel
theorem dX11_place_26 : decode cX11_place 26 = .ok (.iconst (-1), 1) := by decide +kernel
theorem dX11_place_27 : decode cX11_place 27 = .ok (.ireturn, 1) := by decide +kernel
theorem dX11_why_0 : decode cX11_why 0 = .ok (.aload_n 0, 1) := by decide +kernel
theorem dX11_why_1 : decode cX11_why 1 = .ok (.getfield 179, 3) := by decide +kernel
theorem dX11_why_4 : decode cX11_why 4 = .ok (.ifCond .eq 14, 3) := by decide +kernel
theorem dX11_why_7 : decode cX11_why 7 = .ok (.iload_n 1, 1) := by decide +kernel
theorem dX11_why_8 : decode cX11_why 8 = .ok (.iconst 0, 1) := by decide +kernel
theorem dX11_why_9 : decode cX11_why 9 = .ok (.sipush 1023, 3) := by decide +kernel
theorem dX11_why_12 : decode cX11_why 12 = .ok (.invokestatic 90, 3) := by decide +kernel
theorem dX11_why_15 : decode cX11_why 15 = .ok (.ifCond .ne 5, 3) := by decide +kernel
theorem dX11_why_18 : decode cX11_why 18 = .ok (.iconst (-1), 1) := by decide +kernel
theorem dX11_why_19 : decode cX11_why 19 = .ok (.ireturn, 1) := by decide +kernel
theorem dX11_why_20 : decode cX11_why 20 = .ok (.aload_n 0, 1) := by decide +kernel
theorem dX11_why_21 : decode cX11_why 21 = .ok (.iload_n 1, 1) := by decide +kernel
theorem dX11_why_22 : decode cX11_why 22 = .ok (.invokevirtual 196, 3) := by decide +kernel
theorem dX11_why_25 : decode cX11_why 25 = .ok (.ifCond .lt 5, 3) := by decide +kernel
theorem dX11_why_28 : decode cX11_why 28 = .ok (.iconst 0, 1) := by decide +kernel
theorem dX11_why_29 : decode cX11_why 29 = .ok (.ireturn, 1) := by decide +kernel
theorem dX11_why_30 : decode cX11_why 30 = .ok (.iconst 1, 1) := by decide +kernel
theorem dX11_why_31 : decode cX11_why 31 = .ok (.istore_n 2, 1) := by decide +kernel
theorem dX11_why_32 : decode cX11_why 32 = .ok (.iconst 1, 1) := by decide +kernel
theorem dX11_why_33 : decode cX11_why 33 = .ok (.istore_n 3, 1) := by decide +kernel
theorem dX11_why_34 : decode cX11_why 34 = .ok (.iconst 0, 1) := by decide +kernel
theorem dX11_why_35 : decode cX11_why 35 = .ok (.istore 4, 2) := by decide +kernel
theorem dX11_why_37 : decode cX11_why 37 = .ok (.iload 4, 2) := by decide +kernel
theorem dX11_why_39 : decode cX11_why 39 = .ok (.iconst 5, 1) := by decide +kernel
theorem dX11_why_40 : decode cX11_why 40 = .ok (.if_icmp .ge 95, 3) := by decide +kernel
theorem dX11_why_43 : decode cX11_why 43 = .ok (.iconst 0, 1) := by decide +kernel
theorem dX11_why_44 : decode cX11_why 44 = .ok (.istore 5, 2) := by decide +kernel
theorem dX11_why_46 : decode cX11_why 46 = .ok (.iconst 0, 1) := by decide +kernel
theorem dX11_why_47 : decode cX11_why 47 = .ok (.istore 6, 2) := by decide +kernel
theorem dX11_why_49 : decode cX11_why 49 = .ok (.iload 6, 2) := by decide +kernel
theorem dX11_why_51 : decode cX11_why 51 = .ok (.bipush 16, 2) := by decide +kernel
theorem dX11_why_53 : decode cX11_why 53 = .ok (.if_icmp .ge 69, 3) := by decide +kernel
theorem dX11_why_56 : decode cX11_why 56 = .ok (.iconst 0, 1) := by decide +kernel
theorem dX11_why_57 : decode cX11_why 57 = .ok (.istore 7, 2) := by decide +kernel
theorem dX11_why_59 : decode cX11_why 59 = .ok (.iload 7, 2) := by decide +kernel
theorem dX11_why_61 : decode cX11_why 61 = .ok (.bipush 10, 2) := by decide +kernel
theorem dX11_why_63 : decode cX11_why 63 = .ok (.if_icmp .ge 53, 3) := by decide +kernel
theorem dX11_why_66 : decode cX11_why 66 = .ok (.iload_n 3, 1) := by decide +kernel
theorem dX11_why_67 : decode cX11_why 67 = .ok (.iload 6, 2) := by decide +kernel
theorem dX11_why_69 : decode cX11_why 69 = .ok (.ishr, 1) := by decide +kernel
theorem dX11_why_70 : decode cX11_why 70 = .ok (.iconst 1, 1) := by decide +kernel
theorem dX11_why_71 : decode cX11_why 71 = .ok (.iand, 1) := by decide +kernel
theorem dX11_why_72 : decode cX11_why 72 = .ok (.iconst 1, 1) := by decide +kernel
theorem dX11_why_73 : decode cX11_why 73 = .ok (.if_icmp .ne 43, 3) := by decide +kernel
theorem dX11_why_76 : decode cX11_why 76 = .ok (.iload 5, 2) := by decide +kernel
theorem dX11_why_78 : decode cX11_why 78 = .ok (.iload_n 1, 1) := by decide +kernel
theorem dX11_why_79 : decode cX11_why 79 = .ok (.iload 7, 2) := by decide +kernel
theorem dX11_why_81 : decode cX11_why 81 = .ok (.ishr, 1) := by decide +kernel
theorem dX11_why_82 : decode cX11_why 82 = .ok (.iconst 1, 1) := by decide +kernel
theorem dX11_why_83 : decode cX11_why 83 = .ok (.iand, 1) := by decide +kernel
theorem dX11_why_84 : decode cX11_why 84 = .ok (.iconst 1, 1) := by decide +kernel
theorem dX11_why_85 : decode cX11_why 85 = .ok (.if_icmp .ne 21, 3) := by decide +kernel
theorem dX11_why_88 : decode cX11_why 88 = .ok (.iconst 1, 1) := by decide +kernel
theorem dX11_why_89 : decode cX11_why 89 = .ok (.aload_n 0, 1) := by decide +kernel
theorem dX11_why_90 : decode cX11_why 90 = .ok (.getfield 9, 3) := by decide +kernel
theorem dX11_why_93 : decode cX11_why 93 = .ok (.bipush 16, 2) := by decide +kernel
theorem dX11_why_95 : decode cX11_why 95 = .ok (.iload 7, 2) := by decide +kernel
theorem dX11_why_97 : decode cX11_why 97 = .ok (.imul, 1) := by decide +kernel
theorem dX11_why_98 : decode cX11_why 98 = .ok (.iload 6, 2) := by decide +kernel
theorem dX11_why_100 : decode cX11_why 100 = .ok (.iadd, 1) := by decide +kernel
theorem dX11_why_101 : decode cX11_why 101 = .ok (.iaload, 1) := by decide +kernel
theorem dX11_why_102 : decode cX11_why 102 = .ok (.ishl, 1) := by decide +kernel
theorem dX11_why_103 : decode cX11_why 103 = .ok (.goto 4, 3) := by decide +kernel
theorem dX11_why_106 : decode cX11_why 106 = .ok (.iconst 0, 1) := by decide +kernel
theorem dX11_why_107 : decode cX11_why 107 = .ok (.ior, 1) := by decide +kernel
theorem dX11_why_108 : decode cX11_why 108 = .ok (.istore 5, 2) := by decide +kernel
theorem dX11_why_110 : decode cX11_why 110 = .ok (.iinc 7 1, 3) := by decide +kernel
theorem dX11_why_113 : decode cX11_why 113 = .ok (.goto (-54), 3) := by decide +kernel
theorem dX11_why_116 : decode cX11_why 116 = .ok (.iinc 6 1, 3) := by decide +kernel
theorem dX11_why_119 : decode cX11_why 119 = .ok (.goto (-70), 3) := by decide +kernel
theorem dX11_why_122 : decode cX11_why 122 = .ok (.iload 5, 2) := by decide +kernel
theorem dX11_why_124 : decode cX11_why 124 = .ok (.istore_n 3, 1) := by decide +kernel
theorem dX11_why_125 : decode cX11_why 125 = .ok (.iload_n 2, 1) := by decide +kernel
theorem dX11_why_126 : decode cX11_why 126 = .ok (.iload_n 3, 1) := by decide +kernel
theorem dX11_why_127 : decode cX11_why 127 = .ok (.ior, 1) := by decide +kernel
theorem dX11_why_128 : decode cX11_why 128 = .ok (.istore_n 2, 1) := by decide +kernel
theorem dX11_why_129 : decode cX11_why 129 = .ok (.iinc 4 1, 3) := by decide +kernel
theorem dX11_why_132 : decode cX11_why 132 = .ok (.goto (-95), 3) := by decide +kernel
theorem dX11_why_135 : decode cX11_why 135 = .ok (.aload_n 0, 1) := by decide +kernel
theorem dX11_why_136 : decode cX11_why 136 = .ok (.invokevirtual 192, 3) := by decide +kernel
theorem dX11_why_139 : decode cX11_why 139 = .ok (.iload_n 2, 1) := by decide +kernel
theorem dX11_why_140 : decode cX11_why 140 = .ok (.iconst (-1), 1) := by decide +kernel
theorem dX11_why_141 : decode cX11_why 141 = .ok (.ixor, 1) := by decide +kernel
theorem dX11_why_142 : decode cX11_why 142 = .ok (.iand, 1) := by decide +kernel
theorem dX11_why_143 : decode cX11_why 143 = .ok (.istore 4, 2) := by decide +kernel
theorem dX11_why_145 : decode cX11_why 145 = .ok (.iload 4, 2) := by decide +kernel
theorem dX11_why_147 : decode cX11_why 147 = .ok (.ifCond .eq 8, 3) := by decide +kernel
theorem dX11_why_150 : decode cX11_why 150 = .ok (.iload 4, 2) := by decide +kernel
theorem dX11_why_152 : decode cX11_why 152 = .ok (.goto 10, 3) := by decide +kernel
theorem dX11_why_155 : decode cX11_why 155 = .ok (.aload_n 0, 1) := by decide +kernel
theorem dX11_why_156 : decode cX11_why 156 = .ok (.invokevirtual 192, 3) := by decide +kernel
theorem dX11_why_159 : decode cX11_why 159 = .ok (.bipush (-2), 2) := by decide +kernel
theorem dX11_why_161 : decode cX11_why 161 = .ok (.iand, 1) := by decide +kernel
theorem dX11_why_162 : decode cX11_why 162 = .ok (.ireturn, 1) := by decide +kernel
theorem dX11_takeRow_0 : decode cX11_takeRow 0 = .ok (.aload_n 0, 1) := by decide +kernel
theorem dX11_takeRow_1 : decode cX11_takeRow 1 = .ok (.iconst 0, 1) := by decide +kernel
theorem dX11_takeRow_2 : decode cX11_takeRow 2 = .ok (.putfield 199, 3) := by decide +kernel
theorem dX11_takeRow_5 : decode cX11_takeRow 5 = .ok (.iload_n 1, 1) := by decide +kernel
theorem dX11_takeRow_6 : decode cX11_takeRow 6 = .ok (.ifCond .lt 9, 3) := by decide +kernel
theorem dX11_takeRow_9 : decode cX11_takeRow 9 = .ok (.iload_n 1, 1) := by decide +kernel
theorem dX11_takeRow_10 : decode cX11_takeRow 10 = .ok (.ldc 202, 2) := by decide +kernel
theorem dX11_takeRow_12 : decode cX11_takeRow 12 = .ok (.if_icmp .lt 5, 3) := by decide +kernel
theorem dX11_takeRow_15 : decode cX11_takeRow 15 = .ok (.iconst 0, 1) := by decide +kernel
theorem dX11_takeRow_16 : decode cX11_takeRow 16 = .ok (.ireturn, 1) := by decide +kernel
theorem dX11_takeRow_17 : decode cX11_takeRow 17 = .ok (.iload_n 1, 1) := by decide +kernel
theorem dX11_takeRow_18 : decode cX11_takeRow 18 = .ok (.istore_n 2, 1) := by decide +kernel
theorem dX11_takeRow_19 : decode cX11_takeRow 19 = .ok (.iload_n 2, 1) := by decide +kernel
theorem dX11_takeRow_20 : decode cX11_takeRow 20 = .ok (.ifCond .le 47, 3) := by decide +kernel
theorem dX11_takeRow_23 : decode cX11_takeRow 23 = .ok (.aload_n 0, 1) := by decide +kernel
theorem dX11_takeRow_24 : decode cX11_takeRow 24 = .ok (.dup, 1) := by decide +kernel
theorem dX11_takeRow_25 : decode cX11_takeRow 25 = .ok (.getfield 199, 3) := by decide +kernel
theorem dX11_takeRow_28 : decode cX11_takeRow 28 = .ok (.iconst 1, 1) := by decide +kernel
theorem dX11_takeRow_29 : decode cX11_takeRow 29 = .ok (.iadd, 1) := by decide +kernel
theorem dX11_takeRow_30 : decode cX11_takeRow 30 = .ok (.putfield 199, 3) := by decide +kernel
theorem dX11_takeRow_33 : decode cX11_takeRow 33 = .ok (.iload_n 2, 1) := by decide +kernel
theorem dX11_takeRow_34 : decode cX11_takeRow 34 = .ok (.bipush 11, 2) := by decide +kernel
theorem dX11_takeRow_36 : decode cX11_takeRow 36 = .ok (.irem, 1) := by decide +kernel
theorem dX11_takeRow_37 : decode cX11_takeRow 37 = .ok (.ifCond .ne 5, 3) := by decide +kernel
theorem dX11_takeRow_40 : decode cX11_takeRow 40 = .ok (.iconst 0, 1) := by decide +kernel
theorem dX11_takeRow_41 : decode cX11_takeRow 41 = .ok (.ireturn, 1) := by decide +kernel
theorem dX11_takeRow_42 : decode cX11_takeRow 42 = .ok (.aload_n 0, 1) := by decide +kernel
theorem dX11_takeRow_43 : decode cX11_takeRow 43 = .ok (.getfield 87, 3) := by decide +kernel
theorem dX11_takeRow_46 : decode cX11_takeRow 46 = .ok (.iconst 5, 1) := by decide +kernel
theorem dX11_takeRow_47 : decode cX11_takeRow 47 = .ok (.aload_n 0, 1) := by decide +kernel
theorem dX11_takeRow_48 : decode cX11_takeRow 48 = .ok (.getfield 199, 3) := by decide +kernel
theorem dX11_takeRow_51 : decode cX11_takeRow 51 = .ok (.isub, 1) := by decide +kernel
theorem dX11_takeRow_52 : decode cX11_takeRow 52 = .ok (.iload_n 2, 1) := by decide +kernel
theorem dX11_takeRow_53 : decode cX11_takeRow 53 = .ok (.bipush 11, 2) := by decide +kernel
theorem dX11_takeRow_55 : decode cX11_takeRow 55 = .ok (.irem, 1) := by decide +kernel
theorem dX11_takeRow_56 : decode cX11_takeRow 56 = .ok (.iconst 1, 1) := by decide +kernel
theorem dX11_takeRow_57 : decode cX11_takeRow 57 = .ok (.isub, 1) := by decide +kernel
theorem dX11_takeRow_58 : decode cX11_takeRow 58 = .ok (.iastore, 1) := by decide +kernel
theorem dX11_takeRow_59 : decode cX11_takeRow 59 = .ok (.iload_n 2, 1) := by decide +kernel
theorem dX11_takeRow_60 : decode cX11_takeRow 60 = .ok (.bipush 11, 2) := by decide +kernel
theorem dX11_takeRow_62 : decode cX11_takeRow 62 = .ok (.idiv, 1) := by decide +kernel
theorem dX11_takeRow_63 : decode cX11_takeRow 63 = .ok (.istore_n 2, 1) := by decide +kernel
theorem dX11_takeRow_64 : decode cX11_takeRow 64 = .ok (.goto (-45), 3) := by decide +kernel
theorem dX11_takeRow_67 : decode cX11_takeRow 67 = .ok (.iconst 1, 1) := by decide +kernel
theorem dX11_takeRow_68 : decode cX11_takeRow 68 = .ok (.ireturn, 1) := by decide +kernel
theorem dX11_madeBy_0 : decode cX11_madeBy 0 = .ok (.iconst 0, 1) := by decide +kernel
theorem dX11_madeBy_1 : decode cX11_madeBy 1 = .ok (.istore_n 2, 1) := by decide +kernel
theorem dX11_madeBy_2 : decode cX11_madeBy 2 = .ok (.iconst 0, 1) := by decide +kernel
theorem dX11_madeBy_3 : decode cX11_madeBy 3 = .ok (.istore_n 3, 1) := by decide +kernel
theorem dX11_madeBy_4 : decode cX11_madeBy 4 = .ok (.iload_n 3, 1) := by decide +kernel
theorem dX11_madeBy_5 : decode cX11_madeBy 5 = .ok (.iload_n 1, 1) := by decide +kernel
theorem dX11_madeBy_6 : decode cX11_madeBy 6 = .ok (.if_icmp .ge 33, 3) := by decide +kernel
theorem dX11_madeBy_9 : decode cX11_madeBy 9 = .ok (.aload_n 0, 1) := by decide +kernel
theorem dX11_madeBy_10 : decode cX11_madeBy 10 = .ok (.getfield 9, 3) := by decide +kernel
theorem dX11_madeBy_13 : decode cX11_madeBy 13 = .ok (.bipush 16, 2) := by decide +kernel
theorem dX11_madeBy_15 : decode cX11_madeBy 15 = .ok (.aload_n 0, 1) := by decide +kernel
theorem dX11_madeBy_16 : decode cX11_madeBy 16 = .ok (.getfield 87, 3) := by decide +kernel
theorem dX11_madeBy_19 : decode cX11_madeBy 19 = .ok (.iconst 5, 1) := by decide +kernel
theorem dX11_madeBy_20 : decode cX11_madeBy 20 = .ok (.aload_n 0, 1) := by decide +kernel
theorem dX11_madeBy_21 : decode cX11_madeBy 21 = .ok (.getfield 199, 3) := by decide +kernel
theorem dX11_madeBy_24 : decode cX11_madeBy 24 = .ok (.isub, 1) := by decide +kernel
theorem dX11_madeBy_25 : decode cX11_madeBy 25 = .ok (.iload_n 3, 1) := by decide +kernel
theorem dX11_madeBy_26 : decode cX11_madeBy 26 = .ok (.iadd, 1) := by decide +kernel
theorem dX11_madeBy_27 : decode cX11_madeBy 27 = .ok (.iaload, 1) := by decide +kernel
theorem dX11_madeBy_28 : decode cX11_madeBy 28 = .ok (.imul, 1) := by decide +kernel
theorem dX11_madeBy_29 : decode cX11_madeBy 29 = .ok (.iload_n 2, 1) := by decide +kernel
theorem dX11_madeBy_30 : decode cX11_madeBy 30 = .ok (.iadd, 1) := by decide +kernel
theorem dX11_madeBy_31 : decode cX11_madeBy 31 = .ok (.iaload, 1) := by decide +kernel
theorem dX11_madeBy_32 : decode cX11_madeBy 32 = .ok (.istore_n 2, 1) := by decide +kernel
theorem dX11_madeBy_33 : decode cX11_madeBy 33 = .ok (.iinc 3 1, 3) := by decide +kernel
theorem dX11_madeBy_36 : decode cX11_madeBy 36 = .ok (.goto (-32), 3) := by decide +kernel
theorem dX11_madeBy_39 : decode cX11_madeBy 39 = .ok (.iload_n 2, 1) := by decide +kernel
theorem dX11_madeBy_40 : decode cX11_madeBy 40 = .ok (.ireturn, 1) := by decide +kernel
theorem dX11_coloursMade_0 : decode cX11_coloursMade 0 = .ok (.iconst 0, 1) := by decide +kernel
theorem dX11_coloursMade_1 : decode cX11_coloursMade 1 = .ok (.istore_n 1, 1) := by decide +kernel
theorem dX11_coloursMade_2 : decode cX11_coloursMade 2 = .ok (.iconst 0, 1) := by decide +kernel
theorem dX11_coloursMade_3 : decode cX11_coloursMade 3 = .ok (.istore_n 2, 1) := by decide +kernel
theorem dX11_coloursMade_4 : decode cX11_coloursMade 4 = .ok (.iload_n 2, 1) := by decide +kernel
theorem dX11_coloursMade_5 : decode cX11_coloursMade 5 = .ok (.aload_n 0, 1) := by decide +kernel
theorem dX11_coloursMade_6 : decode cX11_coloursMade 6 = .ok (.getfield 199, 3) := by decide +kernel
theorem dX11_coloursMade_9 : decode cX11_coloursMade 9 = .ok (.if_icmp .gt 19, 3) := by decide +kernel
theorem dX11_coloursMade_12 : decode cX11_coloursMade 12 = .ok (.iload_n 1, 1) := by decide +kernel
theorem dX11_coloursMade_13 : decode cX11_coloursMade 13 = .ok (.iconst 1, 1) := by decide +kernel
theorem dX11_coloursMade_14 : decode cX11_coloursMade 14 = .ok (.aload_n 0, 1) := by decide +kernel
theorem dX11_coloursMade_15 : decode cX11_coloursMade 15 = .ok (.iload_n 2, 1) := by decide +kernel
theorem dX11_coloursMade_16 : decode cX11_coloursMade 16 = .ok (.invokevirtual 203, 3) := by decide +kernel
theorem dX11_coloursMade_19 : decode cX11_coloursMade 19 = .ok (.ishl, 1) := by decide +kernel
theorem dX11_coloursMade_20 : decode cX11_coloursMade 20 = .ok (.ior, 1) := by decide +kernel
theorem dX11_coloursMade_21 : decode cX11_coloursMade 21 = .ok (.istore_n 1, 1) := by decide +kernel
theorem dX11_coloursMade_22 : decode cX11_coloursMade 22 = .ok (.iinc 2 1, 3) := by decide +kernel
theorem dX11_coloursMade_25 : decode cX11_coloursMade 25 = .ok (.goto (-21), 3) := by decide +kernel
theorem dX11_coloursMade_28 : decode cX11_coloursMade 28 = .ok (.iload_n 1, 1) := by decide +kernel
theorem dX11_coloursMade_29 : decode cX11_coloursMade 29 = .ok (.ireturn, 1) := by decide +kernel
theorem dX11_alike_0 : decode cX11_alike 0 = .ok (.iload_n 3, 1) := by decide +kernel
theorem dX11_alike_1 : decode cX11_alike 1 = .ok (.iconst 0, 1) := by decide +kernel
theorem dX11_alike_2 : decode cX11_alike 2 = .ok (.ldc 206, 2) := by decide +kernel
theorem dX11_alike_4 : decode cX11_alike 4 = .ok (.invokestatic 90, 3) := by decide +kernel
theorem dX11_alike_7 : decode cX11_alike 7 = .ok (.ifCond .eq 11, 3) := by decide +kernel
theorem dX11_alike_10 : decode cX11_alike 10 = .ok (.aload_n 0, 1) := by decide +kernel
theorem dX11_alike_11 : decode cX11_alike 11 = .ok (.iload_n 1, 1) := by decide +kernel
theorem dX11_alike_12 : decode cX11_alike 12 = .ok (.invokevirtual 207, 3) := by decide +kernel
theorem dX11_alike_15 : decode cX11_alike 15 = .ok (.ifCond .ne 5, 3) := by decide +kernel
theorem dX11_alike_18 : decode cX11_alike 18 = .ok (.iconst (-1), 1) := by decide +kernel
theorem dX11_alike_19 : decode cX11_alike 19 = .ok (.ireturn, 1) := by decide +kernel
theorem dX11_alike_20 : decode cX11_alike 20 = .ok (.aload_n 0, 1) := by decide +kernel
theorem dX11_alike_21 : decode cX11_alike 21 = .ok (.invokevirtual 210, 3) := by decide +kernel
theorem dX11_alike_24 : decode cX11_alike 24 = .ok (.istore 4, 2) := by decide +kernel
theorem dX11_alike_26 : decode cX11_alike 26 = .ok (.aload_n 0, 1) := by decide +kernel
theorem dX11_alike_27 : decode cX11_alike 27 = .ok (.iload_n 2, 1) := by decide +kernel
theorem dX11_alike_28 : decode cX11_alike 28 = .ok (.invokevirtual 207, 3) := by decide +kernel
theorem dX11_alike_31 : decode cX11_alike 31 = .ok (.ifCond .ne 5, 3) := by decide +kernel
theorem dX11_alike_34 : decode cX11_alike 34 = .ok (.iconst (-1), 1) := by decide +kernel
theorem dX11_alike_35 : decode cX11_alike 35 = .ok (.ireturn, 1) := by decide +kernel
theorem dX11_alike_36 : decode cX11_alike 36 = .ok (.iload_n 3, 1) := by decide +kernel
theorem dX11_alike_37 : decode cX11_alike 37 = .ok (.iload 4, 2) := by decide +kernel
theorem dX11_alike_39 : decode cX11_alike 39 = .ok (.aload_n 0, 1) := by decide +kernel
theorem dX11_alike_40 : decode cX11_alike 40 = .ok (.invokevirtual 210, 3) := by decide +kernel
theorem dX11_alike_43 : decode cX11_alike 43 = .ok (.iand, 1) := by decide +kernel
theorem dX11_alike_44 : decode cX11_alike 44 = .ok (.iconst (-1), 1) := by decide +kernel
theorem dX11_alike_45 : decode cX11_alike 45 = .ok (.ixor, 1) := by decide +kernel
theorem dX11_alike_46 : decode cX11_alike 46 = .ok (.iand, 1) := by decide +kernel
theorem dX11_alike_47 : decode cX11_alike 47 = .ok (.ifCond .ne 7, 3) := by decide +kernel
theorem dX11_alike_50 : decode cX11_alike 50 = .ok (.iconst 1, 1) := by decide +kernel
theorem dX11_alike_51 : decode cX11_alike 51 = .ok (.goto 4, 3) := by decide +kernel
theorem dX11_alike_54 : decode cX11_alike 54 = .ok (.iconst 0, 1) := by decide +kernel
theorem dX11_alike_55 : decode cX11_alike 55 = .ok (.ireturn, 1) := by decide +kernel
theorem dX11_made_0 : decode cX11_made 0 = .ok (.aload_n 0, 1) := by decide +kernel
theorem dX11_made_1 : decode cX11_made 1 = .ok (.iload_n 1, 1) := by decide +kernel
theorem dX11_made_2 : decode cX11_made 2 = .ok (.invokevirtual 207, 3) := by decide +kernel
theorem dX11_made_5 : decode cX11_made 5 = .ok (.ifCond .eq 23, 3) := by decide +kernel
theorem dX11_made_8 : decode cX11_made 8 = .ok (.iload_n 2, 1) := by decide +kernel
theorem dX11_made_9 : decode cX11_made 9 = .ok (.iconst 0, 1) := by decide +kernel
theorem dX11_made_10 : decode cX11_made 10 = .ok (.aload_n 0, 1) := by decide +kernel
theorem dX11_made_11 : decode cX11_made 11 = .ok (.getfield 199, 3) := by decide +kernel
theorem dX11_made_14 : decode cX11_made 14 = .ok (.invokestatic 90, 3) := by decide +kernel
theorem dX11_made_17 : decode cX11_made 17 = .ok (.ifCond .eq 11, 3) := by decide +kernel
theorem dX11_made_20 : decode cX11_made 20 = .ok (.aload_n 0, 1) := by decide +kernel
theorem dX11_made_21 : decode cX11_made 21 = .ok (.iload_n 2, 1) := by decide +kernel
theorem dX11_made_22 : decode cX11_made 22 = .ok (.invokevirtual 203, 3) := by decide +kernel
theorem dX11_made_25 : decode cX11_made 25 = .ok (.goto 4, 3) := by decide +kernel
theorem dX11_made_28 : decode cX11_made 28 = .ok (.iconst (-1), 1) := by decide +kernel
theorem dX11_made_29 : decode cX11_made 29 = .ok (.ireturn, 1) := by decide +kernel
theorem dX11_goodOf_0 : decode cX11_goodOf 0 = .ok (.iload_n 0, 1) := by decide +kernel
theorem dX11_goodOf_1 : decode cX11_goodOf 1 = .ok (.istore_n 3, 1) := by decide +kernel
theorem dX11_goodOf_2 : decode cX11_goodOf 2 = .ok (.iconst 0, 1) := by decide +kernel
theorem dX11_goodOf_3 : decode cX11_goodOf 3 = .ok (.istore 4, 2) := by decide +kernel
theorem dX11_goodOf_5 : decode cX11_goodOf 5 = .ok (.iload 4, 2) := by decide +kernel
theorem dX11_goodOf_7 : decode cX11_goodOf 7 = .ok (.iload_n 1, 1) := by decide +kernel
theorem dX11_goodOf_8 : decode cX11_goodOf 8 = .ok (.if_icmp .ge 21, 3) := by decide +kernel
theorem dX11_goodOf_11 : decode cX11_goodOf 11 = .ok (.iload_n 3, 1) := by decide +kernel
theorem dX11_goodOf_12 : decode cX11_goodOf 12 = .ok (.sipush 1000, 3) := by decide +kernel
theorem dX11_goodOf_15 : decode cX11_goodOf 15 = .ok (.iload_n 2, 1) := by decide +kernel
theorem dX11_goodOf_16 : decode cX11_goodOf 16 = .ok (.isub, 1) := by decide +kernel
theorem dX11_goodOf_17 : decode cX11_goodOf 17 = .ok (.imul, 1) := by decide +kernel
theorem dX11_goodOf_18 : decode cX11_goodOf 18 = .ok (.sipush 1000, 3) := by decide +kernel
theorem dX11_goodOf_21 : decode cX11_goodOf 21 = .ok (.idiv, 1) := by decide +kernel
theorem dX11_goodOf_22 : decode cX11_goodOf 22 = .ok (.istore_n 3, 1) := by decide +kernel
theorem dX11_goodOf_23 : decode cX11_goodOf 23 = .ok (.iinc 4 1, 3) := by decide +kernel
theorem dX11_goodOf_26 : decode cX11_goodOf 26 = .ok (.goto (-21), 3) := by decide +kernel
theorem dX11_goodOf_29 : decode cX11_goodOf 29 = .ok (.iload_n 3, 1) := by decide +kernel
theorem dX11_goodOf_30 : decode cX11_goodOf 30 = .ok (.ireturn, 1) := by decide +kernel
theorem dX11_begin_0 : decode cX11_begin 0 = .ok (.iload_n 1, 1) := by decide +kernel
theorem dX11_begin_1 : decode cX11_begin 1 = .ok (.iconst 0, 1) := by decide +kernel
theorem dX11_begin_2 : decode cX11_begin 2 = .ok (.bipush 20, 2) := by decide +kernel
theorem dX11_begin_4 : decode cX11_begin 4 = .ok (.invokestatic 90, 3) := by decide +kernel
theorem dX11_begin_7 : decode cX11_begin 7 = .ok (.ifCond .eq 24, 3) := by decide +kernel
theorem dX11_begin_10 : decode cX11_begin 10 = .ok (.iload_n 2, 1) := by decide +kernel
theorem dX11_begin_11 : decode cX11_begin 11 = .ok (.iconst 0, 1) := by decide +kernel
theorem dX11_begin_12 : decode cX11_begin 12 = .ok (.sipush 999, 3) := by decide +kernel
theorem dX11_begin_15 : decode cX11_begin 15 = .ok (.invokestatic 90, 3) := by decide +kernel
theorem dX11_begin_18 : decode cX11_begin 18 = .ok (.ifCond .eq 13, 3) := by decide +kernel
theorem dX11_begin_21 : decode cX11_begin 21 = .ok (.iload_n 3, 1) := by decide +kernel
theorem dX11_begin_22 : decode cX11_begin 22 = .ok (.iconst 1, 1) := by decide +kernel
theorem dX11_begin_23 : decode cX11_begin 23 = .ok (.bipush 100, 2) := by decide +kernel
theorem dX11_begin_25 : decode cX11_begin 25 = .ok (.invokestatic 90, 3) := by decide +kernel
theorem dX11_begin_28 : decode cX11_begin 28 = .ok (.ifCond .ne 5, 3) := by decide +kernel
theorem dX11_begin_31 : decode cX11_begin 31 = .ok (.iconst (-1), 1) := by decide +kernel
theorem dX11_begin_32 : decode cX11_begin 32 = .ok (.ireturn, 1) := by decide +kernel
theorem dX11_begin_33 : decode cX11_begin 33 = .ok (.iconst 1, 1) := by decide +kernel
theorem dX11_begin_34 : decode cX11_begin 34 = .ok (.istore 4, 2) := by decide +kernel
theorem dX11_begin_36 : decode cX11_begin 36 = .ok (.ldc 213, 2) := by decide +kernel
theorem dX11_begin_38 : decode cX11_begin 38 = .ok (.istore 5, 2) := by decide +kernel
theorem dX11_begin_40 : decode cX11_begin 40 = .ok (.iload 4, 2) := by decide +kernel
theorem dX11_begin_42 : decode cX11_begin 42 = .ok (.iload 5, 2) := by decide +kernel
theorem dX11_begin_44 : decode cX11_begin 44 = .ok (.if_icmp .ge 39, 3) := by decide +kernel
theorem dX11_begin_47 : decode cX11_begin 47 = .ok (.iload 4, 2) := by decide +kernel
theorem dX11_begin_49 : decode cX11_begin 49 = .ok (.iload 5, 2) := by decide +kernel
theorem dX11_begin_51 : decode cX11_begin 51 = .ok (.iadd, 1) := by decide +kernel
theorem dX11_begin_52 : decode cX11_begin 52 = .ok (.iconst 2, 1) := by decide +kernel
theorem dX11_begin_53 : decode cX11_begin 53 = .ok (.idiv, 1) := by decide +kernel
theorem dX11_begin_54 : decode cX11_begin 54 = .ok (.istore 6, 2) := by decide +kernel
theorem dX11_begin_56 : decode cX11_begin 56 = .ok (.iload 6, 2) := by decide +kernel
theorem dX11_begin_58 : decode cX11_begin 58 = .ok (.iload_n 1, 1) := by decide +kernel
theorem dX11_begin_59 : decode cX11_begin 59 = .ok (.iload_n 2, 1) := by decide +kernel
theorem dX11_begin_60 : decode cX11_begin 60 = .ok (.invokestatic 214, 3) := by decide +kernel
theorem dX11_begin_63 : decode cX11_begin 63 = .ok (.iload_n 3, 1) := by decide +kernel
theorem dX11_begin_64 : decode cX11_begin 64 = .ok (.if_icmp .lt 10, 3) := by decide +kernel
theorem dX11_begin_67 : decode cX11_begin 67 = .ok (.iload 6, 2) := by decide +kernel
theorem dX11_begin_69 : decode cX11_begin 69 = .ok (.istore 5, 2) := by decide +kernel
theorem dX11_begin_71 : decode cX11_begin 71 = .ok (.goto 9, 3) := by decide +kernel
theorem dX11_begin_74 : decode cX11_begin 74 = .ok (.iload 6, 2) := by decide +kernel
theorem dX11_begin_76 : decode cX11_begin 76 = .ok (.iconst 1, 1) := by decide +kernel
theorem dX11_begin_77 : decode cX11_begin 77 = .ok (.iadd, 1) := by decide +kernel
theorem dX11_begin_78 : decode cX11_begin 78 = .ok (.istore 4, 2) := by decide +kernel
theorem dX11_begin_80 : decode cX11_begin 80 = .ok (.goto (-40), 3) := by decide +kernel
theorem dX11_begin_83 : decode cX11_begin 83 = .ok (.iload 4, 2) := by decide +kernel
theorem dX11_begin_85 : decode cX11_begin 85 = .ok (.ldc 218, 2) := by decide +kernel
theorem dX11_begin_87 : decode cX11_begin 87 = .ok (.if_icmp .le 8, 3) := by decide +kernel
theorem dX11_begin_90 : decode cX11_begin 90 = .ok (.bipush (-4), 2) := by decide +kernel
theorem dX11_begin_92 : decode cX11_begin 92 = .ok (.goto 5, 3) := by decide +kernel
theorem dX11_begin_95 : decode cX11_begin 95 = .ok (.iload 4, 2) := by decide +kernel
theorem dX11_begin_97 : decode cX11_begin 97 = .ok (.ireturn, 1) := by decide +kernel
theorem dX11_shows_0 : decode cX11_shows 0 = .ok (.aload_n 0, 1) := by decide +kernel
theorem dX11_shows_1 : decode cX11_shows 1 = .ok (.iload_n 1, 1) := by decide +kernel
theorem dX11_shows_2 : decode cX11_shows 2 = .ok (.invokevirtual 176, 3) := by decide +kernel
theorem dX11_shows_5 : decode cX11_shows 5 = .ok (.ifCond .eq 32, 3) := by decide +kernel
theorem dX11_shows_8 : decode cX11_shows 8 = .ok (.aload_n 0, 1) := by decide +kernel
theorem dX11_shows_9 : decode cX11_shows 9 = .ok (.getfield 179, 3) := by decide +kernel
theorem dX11_shows_12 : decode cX11_shows 12 = .ok (.ifCond .eq 25, 3) := by decide +kernel
theorem dX11_shows_15 : decode cX11_shows 15 = .ok (.aload_n 0, 1) := by decide +kernel
theorem dX11_shows_16 : decode cX11_shows 16 = .ok (.getfield 179, 3) := by decide +kernel
theorem dX11_shows_19 : decode cX11_shows 19 = .ok (.aload_n 0, 1) := by decide +kernel
theorem dX11_shows_20 : decode cX11_shows 20 = .ok (.getfield 94, 3) := by decide +kernel
theorem dX11_shows_23 : decode cX11_shows 23 = .ok (.if_icmp .gt 14, 3) := by decide +kernel
theorem dX11_shows_26 : decode cX11_shows 26 = .ok (.aload_n 0, 1) := by decide +kernel
theorem dX11_shows_27 : decode cX11_shows 27 = .ok (.getfield 182, 3) := by decide +kernel
theorem dX11_shows_30 : decode cX11_shows 30 = .ok (.aload_n 0, 1) := by decide +kernel
theorem dX11_shows_31 : decode cX11_shows 31 = .ok (.getfield 97, 3) := by decide +kernel
theorem dX11_shows_34 : decode cX11_shows 34 = .ok (.if_icmp .le 5, 3) := by decide +kernel
theorem dX11_shows_37 : decode cX11_shows 37 = .ok (.iconst (-1), 1) := by decide +kernel
theorem dX11_shows_38 : decode cX11_shows 38 = .ok (.ireturn, 1) := by decide +kernel
theorem dX11_shows_39 : decode cX11_shows 39 = .ok (.iconst 0, 1) := by decide +kernel
theorem dX11_shows_40 : decode cX11_shows 40 = .ok (.istore_n 2, 1) := by decide +kernel
theorem dX11_shows_41 : decode cX11_shows 41 = .ok (.iload_n 2, 1) := by decide +kernel
theorem dX11_shows_42 : decode cX11_shows 42 = .ok (.aload_n 0, 1) := by decide +kernel
theorem dX11_shows_43 : decode cX11_shows 43 = .ok (.getfield 94, 3) := by decide +kernel
theorem dX11_shows_46 : decode cX11_shows 46 = .ok (.if_icmp .ge 80, 3) := by decide +kernel
theorem dX11_shows_49 : decode cX11_shows 49 = .ok (.iconst 0, 1) := by decide +kernel
theorem dX11_shows_50 : decode cX11_shows 50 = .ok (.istore_n 3, 1) := by decide +kernel
theorem dX11_shows_51 : decode cX11_shows 51 = .ok (.iload_n 3, 1) := by decide +kernel
theorem dX11_shows_52 : decode cX11_shows 52 = .ok (.aload_n 0, 1) := by decide +kernel
theorem dX11_shows_53 : decode cX11_shows 53 = .ok (.getfield 97, 3) := by decide +kernel
theorem dX11_shows_56 : decode cX11_shows 56 = .ok (.if_icmp .ge 64, 3) := by decide +kernel
theorem dX11_shows_59 : decode cX11_shows 59 = .ok (.iload_n 2, 1) := by decide +kernel
theorem dX11_shows_60 : decode cX11_shows 60 = .ok (.aload_n 0, 1) := by decide +kernel
theorem dX11_shows_61 : decode cX11_shows 61 = .ok (.getfield 179, 3) := by decide +kernel
theorem dX11_shows_64 : decode cX11_shows 64 = .ok (.if_icmp .ge 24, 3) := by decide +kernel
theorem dX11_shows_67 : decode cX11_shows 67 = .ok (.iload_n 3, 1) := by decide +kernel
theorem dX11_shows_68 : decode cX11_shows 68 = .ok (.aload_n 0, 1) := by decide +kernel
theorem dX11_shows_69 : decode cX11_shows 69 = .ok (.getfield 182, 3) := by decide +kernel
theorem dX11_shows_72 : decode cX11_shows 72 = .ok (.if_icmp .ge 16, 3) := by decide +kernel
theorem dX11_shows_75 : decode cX11_shows 75 = .ok (.aload_n 0, 1) := by decide +kernel
theorem dX11_shows_76 : decode cX11_shows 76 = .ok (.getfield 71, 3) := by decide +kernel
theorem dX11_shows_79 : decode cX11_shows 79 = .ok (.iconst 4, 1) := by decide +kernel
theorem dX11_shows_80 : decode cX11_shows 80 = .ok (.iload_n 2, 1) := by decide +kernel
theorem dX11_shows_81 : decode cX11_shows 81 = .ok (.imul, 1) := by decide +kernel
theorem dX11_shows_82 : decode cX11_shows 82 = .ok (.iload_n 3, 1) := by decide +kernel
theorem dX11_shows_83 : decode cX11_shows 83 = .ok (.iadd, 1) := by decide +kernel
theorem dX11_shows_84 : decode cX11_shows 84 = .ok (.iaload, 1) := by decide +kernel
theorem dX11_shows_85 : decode cX11_shows 85 = .ok (.goto 4, 3) := by decide +kernel
theorem dX11_shows_88 : decode cX11_shows 88 = .ok (.iconst 0, 1) := by decide +kernel
theorem dX11_shows_89 : decode cX11_shows 89 = .ok (.istore 4, 2) := by decide +kernel
theorem dX11_shows_91 : decode cX11_shows 91 = .ok (.aload_n 0, 1) := by decide +kernel
theorem dX11_shows_92 : decode cX11_shows 92 = .ok (.getfield 35, 3) := by decide +kernel
theorem dX11_shows_95 : decode cX11_shows 95 = .ok (.bipush 64, 2) := by decide +kernel
theorem dX11_shows_97 : decode cX11_shows 97 = .ok (.iload_n 1, 1) := by decide +kernel
theorem dX11_shows_98 : decode cX11_shows 98 = .ok (.imul, 1) := by decide +kernel
theorem dX11_shows_99 : decode cX11_shows 99 = .ok (.bipush 8, 2) := by decide +kernel
theorem dX11_shows_101 : decode cX11_shows 101 = .ok (.iload_n 2, 1) := by decide +kernel
theorem dX11_shows_102 : decode cX11_shows 102 = .ok (.imul, 1) := by decide +kernel
theorem dX11_shows_103 : decode cX11_shows 103 = .ok (.iadd, 1) := by decide +kernel
theorem dX11_shows_104 : decode cX11_shows 104 = .ok (.iload_n 3, 1) := by decide +kernel
theorem dX11_shows_105 : decode cX11_shows 105 = .ok (.iadd, 1) := by decide +kernel
theorem dX11_shows_106 : decode cX11_shows 106 = .ok (.iaload, 1) := by decide +kernel
theorem dX11_shows_107 : decode cX11_shows 107 = .ok (.iload 4, 2) := by decide +kernel
theorem dX11_shows_109 : decode cX11_shows 109 = .ok (.if_icmp .eq 5, 3) := by decide +kernel
theorem dX11_shows_112 : decode cX11_shows 112 = .ok (.iconst 0, 1) := by decide +kernel
theorem dX11_shows_113 : decode cX11_shows 113 = .ok (.ireturn, 1) := by decide +kernel
theorem dX11_shows_114 : decode cX11_shows 114 = .ok (.iinc 3 1, 3) := by decide +kernel
theorem dX11_shows_117 : decode cX11_shows 117 = .ok (.goto (-66), 3) := by decide +kernel
theorem dX11_shows_120 : decode cX11_shows 120 = .ok (.iinc 2 1, 3) := by decide +kernel
theorem dX11_shows_123 : decode cX11_shows 123 = .ok (.goto (-82), 3) := by decide +kernel
theorem dX11_shows_126 : decode cX11_shows 126 = .ok (.iconst 1, 1) := by decide +kernel
theorem dX11_shows_127 : decode cX11_shows 127 = .ok (.ireturn, 1) := by decide +kernel
theorem dX11_count_0 : decode cX11_count 0 = .ok (.iconst 0, 1) := by decide +kernel
theorem dX11_count_1 : decode cX11_count 1 = .ok (.istore_n 2, 1) := by decide +kernel
theorem dX11_count_2 : decode cX11_count 2 = .ok (.iconst 0, 1) := by decide +kernel
theorem dX11_count_3 : decode cX11_count 3 = .ok (.istore_n 3, 1) := by decide +kernel
theorem dX11_count_4 : decode cX11_count 4 = .ok (.iload_n 3, 1) := by decide +kernel
theorem dX11_count_5 : decode cX11_count 5 = .ok (.aload_n 0, 1) := by decide +kernel
theorem dX11_count_6 : decode cX11_count 6 = .ok (.getfield 155, 3) := by decide +kernel
theorem dX11_count_9 : decode cX11_count 9 = .ok (.if_icmp .ge 26, 3) := by decide +kernel
theorem dX11_count_12 : decode cX11_count 12 = .ok (.iload_n 2, 1) := by decide +kernel
theorem dX11_count_13 : decode cX11_count 13 = .ok (.aload_n 0, 1) := by decide +kernel
theorem dX11_count_14 : decode cX11_count 14 = .ok (.getfield 50, 3) := by decide +kernel
theorem dX11_count_17 : decode cX11_count 17 = .ok (.iload_n 3, 1) := by decide +kernel
theorem dX11_count_18 : decode cX11_count 18 = .ok (.baload, 1) := by decide +kernel
theorem dX11_count_19 : decode cX11_count 19 = .ok (.ifCond .eq 7, 3) := by decide +kernel
theorem dX11_count_22 : decode cX11_count 22 = .ok (.iconst 0, 1) := by decide +kernel
theorem dX11_count_23 : decode cX11_count 23 = .ok (.goto 4, 3) := by decide +kernel
theorem dX11_count_26 : decode cX11_count 26 = .ok (.iconst 1, 1) := by decide +kernel
theorem dX11_count_27 : decode cX11_count 27 = .ok (.iadd, 1) := by decide +kernel
theorem dX11_count_28 : decode cX11_count 28 = .ok (.istore_n 2, 1) := by decide +kernel
theorem dX11_count_29 : decode cX11_count 29 = .ok (.iinc 3 1, 3) := by decide +kernel
theorem dX11_count_32 : decode cX11_count 32 = .ok (.goto (-28), 3) := by decide +kernel
theorem dX11_count_35 : decode cX11_count 35 = .ok (.iconst 0, 1) := by decide +kernel
theorem dX11_count_36 : decode cX11_count 36 = .ok (.istore_n 3, 1) := by decide +kernel
theorem dX11_count_37 : decode cX11_count 37 = .ok (.iconst 0, 1) := by decide +kernel
theorem dX11_count_38 : decode cX11_count 38 = .ok (.istore 4, 2) := by decide +kernel
theorem dX11_count_40 : decode cX11_count 40 = .ok (.iload 4, 2) := by decide +kernel
theorem dX11_count_42 : decode cX11_count 42 = .ok (.bipush 64, 2) := by decide +kernel
theorem dX11_count_44 : decode cX11_count 44 = .ok (.if_icmp .ge 36, 3) := by decide +kernel
theorem dX11_count_47 : decode cX11_count 47 = .ok (.iload_n 3, 1) := by decide +kernel
theorem dX11_count_48 : decode cX11_count 48 = .ok (.aload_n 0, 1) := by decide +kernel
theorem dX11_count_49 : decode cX11_count 49 = .ok (.iload 4, 2) := by decide +kernel
theorem dX11_count_51 : decode cX11_count 51 = .ok (.invokevirtual 142, 3) := by decide +kernel
theorem dX11_count_54 : decode cX11_count 54 = .ok (.ifCond .eq 17, 3) := by decide +kernel
theorem dX11_count_57 : decode cX11_count 57 = .ok (.aload_n 0, 1) := by decide +kernel
theorem dX11_count_58 : decode cX11_count 58 = .ok (.getfield 23, 3) := by decide +kernel
theorem dX11_count_61 : decode cX11_count 61 = .ok (.iload 4, 2) := by decide +kernel
theorem dX11_count_63 : decode cX11_count 63 = .ok (.baload, 1) := by decide +kernel
theorem dX11_count_64 : decode cX11_count 64 = .ok (.ifCond .ne 7, 3) := by decide +kernel
theorem dX11_count_67 : decode cX11_count 67 = .ok (.iconst 1, 1) := by decide +kernel
theorem dX11_count_68 : decode cX11_count 68 = .ok (.goto 4, 3) := by decide +kernel
theorem dX11_count_71 : decode cX11_count 71 = .ok (.iconst 0, 1) := by decide +kernel
theorem dX11_count_72 : decode cX11_count 72 = .ok (.iadd, 1) := by decide +kernel
theorem dX11_count_73 : decode cX11_count 73 = .ok (.istore_n 3, 1) := by decide +kernel
theorem dX11_count_74 : decode cX11_count 74 = .ok (.iinc 4 1, 3) := by decide +kernel
theorem dX11_count_77 : decode cX11_count 77 = .ok (.goto (-37), 3) := by decide +kernel
theorem dX11_count_80 : decode cX11_count 80 = .ok (.iload_n 1, 1) := by decide +kernel
theorem dX11_count_81 : decode cX11_count 81 = .ok (.tableswitch 79 0 6 #[43, 48, 53, 55, 60, 65, 67], 43) := by decide +kernel
theorem dX11_count_124 : decode cX11_count 124 = .ok (.aload_n 0, 1) := by decide +kernel
theorem dX11_count_125 : decode cX11_count 125 = .ok (.getfield 100, 3) := by decide +kernel
theorem dX11_count_128 : decode cX11_count 128 = .ok (.ireturn, 1) := by decide +kernel
theorem dX11_count_129 : decode cX11_count 129 = .ok (.aload_n 0, 1) := by decide +kernel
theorem dX11_count_130 : decode cX11_count 130 = .ok (.getfield 155, 3) := by decide +kernel
theorem dX11_count_133 : decode cX11_count 133 = .ok (.ireturn, 1) := by decide +kernel
theorem dX11_count_134 : decode cX11_count 134 = .ok (.iload_n 2, 1) := by decide +kernel
theorem dX11_count_135 : decode cX11_count 135 = .ok (.ireturn, 1) := by decide +kernel
theorem dX11_count_136 : decode cX11_count 136 = .ok (.aload_n 0, 1) := by decide +kernel
theorem dX11_count_137 : decode cX11_count 137 = .ok (.getfield 159, 3) := by decide +kernel
theorem dX11_count_140 : decode cX11_count 140 = .ok (.ireturn, 1) := by decide +kernel
theorem dX11_count_141 : decode cX11_count 141 = .ok (.aload_n 0, 1) := by decide +kernel
theorem dX11_count_142 : decode cX11_count 142 = .ok (.getfield 116, 3) := by decide +kernel
theorem dX11_count_145 : decode cX11_count 145 = .ok (.ireturn, 1) := by decide +kernel
theorem dX11_count_146 : decode cX11_count 146 = .ok (.iload_n 3, 1) := by decide +kernel
theorem dX11_count_147 : decode cX11_count 147 = .ok (.ireturn, 1) := by decide +kernel
theorem dX11_count_148 : decode cX11_count 148 = .ok (.aload_n 0, 1) := by decide +kernel
theorem dX11_count_149 : decode cX11_count 149 = .ok (.getfield 94, 3) := by decide +kernel
theorem dX11_count_152 : decode cX11_count 152 = .ok (.aload_n 0, 1) := by decide +kernel
theorem dX11_count_153 : decode cX11_count 153 = .ok (.getfield 97, 3) := by decide +kernel
theorem dX11_count_156 : decode cX11_count 156 = .ok (.imul, 1) := by decide +kernel
theorem dX11_count_157 : decode cX11_count 157 = .ok (.iload_n 3, 1) := by decide +kernel
theorem dX11_count_158 : decode cX11_count 158 = .ok (.isub, 1) := by decide +kernel
theorem dX11_count_159 : decode cX11_count 159 = .ok (.ireturn, 1) := by decide +kernel
theorem dX11_count_160 : decode cX11_count 160 = .ok (.iconst (-1), 1) := by decide +kernel
theorem dX11_count_161 : decode cX11_count 161 = .ok (.ireturn, 1) := by decide +kernel
end
section
theorem dL_law_0 : decode cL_law 0 = .ok (.new 7, 3) := by decide +kernel
theorem dL_law_3 : decode cL_law 3 = .ok (.dup, 1) := by decide +kernel
theorem dL_law_4 : decode cL_law 4 = .ok (.invokespecial 9, 3) := by decide +kernel
theorem dL_law_7 : decode cL_law 7 = .ok (.astore_n 1, 1) := by decide +kernel
theorem dL_law_8 : decode cL_law 8 = .ok (.new 10, 3) := by decide +kernel
theorem dL_law_11 : decode cL_law 11 = .ok (.dup, 1) := by decide +kernel
theorem dL_law_12 : decode cL_law 12 = .ok (.invokespecial 12, 3) := by decide +kernel
theorem dL_law_15 : decode cL_law 15 = .ok (.astore_n 2, 1) := by decide +kernel
theorem dL_law_16 : decode cL_law 16 = .ok (.iconst 0, 1) := by decide +kernel
theorem dL_law_17 : decode cL_law 17 = .ok (.istore_n 3, 1) := by decide +kernel
theorem dL_law_18 : decode cL_law 18 = .ok (.iload_n 3, 1) := by decide +kernel
theorem dL_law_19 : decode cL_law 19 = .ok (.aload_n 0, 1) := by decide +kernel
theorem dL_law_20 : decode cL_law 20 = .ok (.arraylength, 1) := by decide +kernel
theorem dL_law_21 : decode cL_law 21 = .ok (.iconst 4, 1) := by decide +kernel
theorem dL_law_22 : decode cL_law 22 = .ok (.isub, 1) := by decide +kernel
theorem dL_law_23 : decode cL_law 23 = .ok (.if_icmp .gt 1165, 3) := by decide +kernel
theorem dL_law_26 : decode cL_law 26 = .ok (.aload_n 0, 1) := by decide +kernel
theorem dL_law_27 : decode cL_law 27 = .ok (.iload_n 3, 1) := by decide +kernel
theorem dL_law_28 : decode cL_law 28 = .ok (.iaload, 1) := by decide +kernel
theorem dL_law_29 : decode cL_law 29 = .ok (.bipush 31, 2) := by decide +kernel
theorem dL_law_31 : decode cL_law 31 = .ok (.iand, 1) := by decide +kernel
theorem dL_law_32 : decode cL_law 32 = .ok (.tableswitch 1150 0 31 #[144, 177, 220, 253, 296, 339, 372, 395, 418, 451, 484, 517, 540, 573, 596, 629, 662, 695, 738, 761, 794, 827, 860, 893, 916, 939, 962, 985, 1028, 1061, 1104, 1127], 144) := by decide +kernel
theorem dL_law_176 : decode cL_law 176 = .ok (.aload_n 1, 1) := by decide +kernel
theorem dL_law_177 : decode cL_law 177 = .ok (.aload_n 0, 1) := by decide +kernel
theorem dL_law_178 : decode cL_law 178 = .ok (.iload_n 3, 1) := by decide +kernel
theorem dL_law_179 : decode cL_law 179 = .ok (.iconst 1, 1) := by decide +kernel
theorem dL_law_180 : decode cL_law 180 = .ok (.iadd, 1) := by decide +kernel
theorem dL_law_181 : decode cL_law 181 = .ok (.iaload, 1) := by decide +kernel
theorem dL_law_182 : decode cL_law 182 = .ok (.aload_n 0, 1) := by decide +kernel
theorem dL_law_183 : decode cL_law 183 = .ok (.iload_n 3, 1) := by decide +kernel
theorem dL_law_184 : decode cL_law 184 = .ok (.iconst 2, 1) := by decide +kernel
theorem dL_law_185 : decode cL_law 185 = .ok (.iadd, 1) := by decide +kernel
theorem dL_law_186 : decode cL_law 186 = .ok (.iaload, 1) := by decide +kernel
theorem dL_law_187 : decode cL_law 187 = .ok (.invokevirtual 13, 3) := by decide +kernel
theorem dL_law_190 : decode cL_law 190 = .ok (.aload_n 2, 1) := by decide +kernel
theorem dL_law_191 : decode cL_law 191 = .ok (.aload_n 0, 1) := by decide +kernel
theorem dL_law_192 : decode cL_law 192 = .ok (.iload_n 3, 1) := by decide +kernel
theorem dL_law_193 : decode cL_law 193 = .ok (.iconst 1, 1) := by decide +kernel
theorem dL_law_194 : decode cL_law 194 = .ok (.iadd, 1) := by decide +kernel
theorem dL_law_195 : decode cL_law 195 = .ok (.iaload, 1) := by decide +kernel
theorem dL_law_196 : decode cL_law 196 = .ok (.aload_n 0, 1) := by decide +kernel
theorem dL_law_197 : decode cL_law 197 = .ok (.iload_n 3, 1) := by decide +kernel
theorem dL_law_198 : decode cL_law 198 = .ok (.iconst 2, 1) := by decide +kernel
theorem dL_law_199 : decode cL_law 199 = .ok (.iadd, 1) := by decide +kernel
theorem dL_law_200 : decode cL_law 200 = .ok (.iaload, 1) := by decide +kernel
theorem dL_law_201 : decode cL_law 201 = .ok (.invokevirtual 17, 3) := by decide +kernel
theorem dL_law_204 : decode cL_law 204 = .ok (.if_icmp .eq 978, 3) := by decide +kernel
theorem dL_law_207 : decode cL_law 207 = .ok (.iconst 0, 1) := by decide +kernel
theorem dL_law_208 : decode cL_law 208 = .ok (.ireturn, 1) := by decide +kernel
theorem dL_law_209 : decode cL_law 209 = .ok (.aload_n 1, 1) := by decide +kernel
theorem dL_law_210 : decode cL_law 210 = .ok (.aload_n 0, 1) := by decide +kernel
theorem dL_law_211 : decode cL_law 211 = .ok (.iload_n 3, 1) := by decide +kernel
theorem dL_law_212 : decode cL_law 212 = .ok (.iconst 1, 1) := by decide +kernel
theorem dL_law_213 : decode cL_law 213 = .ok (.iadd, 1) := by decide +kernel
theorem dL_law_214 : decode cL_law 214 = .ok (.iaload, 1) := by decide +kernel
theorem dL_law_215 : decode cL_law 215 = .ok (.aload_n 0, 1) := by decide +kernel
theorem dL_law_216 : decode cL_law 216 = .ok (.iload_n 3, 1) := by decide +kernel
theorem dL_law_217 : decode cL_law 217 = .ok (.iconst 2, 1) := by decide +kernel
theorem dL_law_218 : decode cL_law 218 = .ok (.iadd, 1) := by decide +kernel
theorem dL_law_219 : decode cL_law 219 = .ok (.iaload, 1) := by decide +kernel
theorem dL_law_220 : decode cL_law 220 = .ok (.aload_n 0, 1) := by decide +kernel
theorem dL_law_221 : decode cL_law 221 = .ok (.iload_n 3, 1) := by decide +kernel
theorem dL_law_222 : decode cL_law 222 = .ok (.iconst 3, 1) := by decide +kernel
theorem dL_law_223 : decode cL_law 223 = .ok (.iadd, 1) := by decide +kernel
theorem dL_law_224 : decode cL_law 224 = .ok (.iaload, 1) := by decide +kernel
theorem dL_law_225 : decode cL_law 225 = .ok (.invokevirtual 18, 3) := by decide +kernel
theorem dL_law_228 : decode cL_law 228 = .ok (.aload_n 2, 1) := by decide +kernel
theorem dL_law_229 : decode cL_law 229 = .ok (.aload_n 0, 1) := by decide +kernel
theorem dL_law_230 : decode cL_law 230 = .ok (.iload_n 3, 1) := by decide +kernel
theorem dL_law_231 : decode cL_law 231 = .ok (.iconst 1, 1) := by decide +kernel
theorem dL_law_232 : decode cL_law 232 = .ok (.iadd, 1) := by decide +kernel
theorem dL_law_233 : decode cL_law 233 = .ok (.iaload, 1) := by decide +kernel
theorem dL_law_234 : decode cL_law 234 = .ok (.aload_n 0, 1) := by decide +kernel
theorem dL_law_235 : decode cL_law 235 = .ok (.iload_n 3, 1) := by decide +kernel
theorem dL_law_236 : decode cL_law 236 = .ok (.iconst 2, 1) := by decide +kernel
theorem dL_law_237 : decode cL_law 237 = .ok (.iadd, 1) := by decide +kernel
theorem dL_law_238 : decode cL_law 238 = .ok (.iaload, 1) := by decide +kernel
theorem dL_law_239 : decode cL_law 239 = .ok (.aload_n 0, 1) := by decide +kernel
theorem dL_law_240 : decode cL_law 240 = .ok (.iload_n 3, 1) := by decide +kernel
theorem dL_law_241 : decode cL_law 241 = .ok (.iconst 3, 1) := by decide +kernel
theorem dL_law_242 : decode cL_law 242 = .ok (.iadd, 1) := by decide +kernel
theorem dL_law_243 : decode cL_law 243 = .ok (.iaload, 1) := by decide +kernel
theorem dL_law_244 : decode cL_law 244 = .ok (.invokevirtual 22, 3) := by decide +kernel
theorem dL_law_247 : decode cL_law 247 = .ok (.if_icmp .eq 935, 3) := by decide +kernel
theorem dL_law_250 : decode cL_law 250 = .ok (.iconst 0, 1) := by decide +kernel
theorem dL_law_251 : decode cL_law 251 = .ok (.ireturn, 1) := by decide +kernel
theorem dL_law_252 : decode cL_law 252 = .ok (.aload_n 1, 1) := by decide +kernel
theorem dL_law_253 : decode cL_law 253 = .ok (.aload_n 0, 1) := by decide +kernel
theorem dL_law_254 : decode cL_law 254 = .ok (.iload_n 3, 1) := by decide +kernel
theorem dL_law_255 : decode cL_law 255 = .ok (.iconst 1, 1) := by decide +kernel
theorem dL_law_256 : decode cL_law 256 = .ok (.iadd, 1) := by decide +kernel
theorem dL_law_257 : decode cL_law 257 = .ok (.iaload, 1) := by decide +kernel
theorem dL_law_258 : decode cL_law 258 = .ok (.aload_n 0, 1) := by decide +kernel
theorem dL_law_259 : decode cL_law 259 = .ok (.iload_n 3, 1) := by decide +kernel
theorem dL_law_260 : decode cL_law 260 = .ok (.iconst 2, 1) := by decide +kernel
theorem dL_law_261 : decode cL_law 261 = .ok (.iadd, 1) := by decide +kernel
theorem dL_law_262 : decode cL_law 262 = .ok (.iaload, 1) := by decide +kernel
theorem dL_law_263 : decode cL_law 263 = .ok (.invokevirtual 23, 3) := by decide +kernel
theorem dL_law_266 : decode cL_law 266 = .ok (.aload_n 2, 1) := by decide +kernel
theorem dL_law_267 : decode cL_law 267 = .ok (.aload_n 0, 1) := by decide +kernel
theorem dL_law_268 : decode cL_law 268 = .ok (.iload_n 3, 1) := by decide +kernel
theorem dL_law_269 : decode cL_law 269 = .ok (.iconst 1, 1) := by decide +kernel
theorem dL_law_270 : decode cL_law 270 = .ok (.iadd, 1) := by decide +kernel
theorem dL_law_271 : decode cL_law 271 = .ok (.iaload, 1) := by decide +kernel
theorem dL_law_272 : decode cL_law 272 = .ok (.aload_n 0, 1) := by decide +kernel
theorem dL_law_273 : decode cL_law 273 = .ok (.iload_n 3, 1) := by decide +kernel
theorem dL_law_274 : decode cL_law 274 = .ok (.iconst 2, 1) := by decide +kernel
theorem dL_law_275 : decode cL_law 275 = .ok (.iadd, 1) := by decide +kernel
theorem dL_law_276 : decode cL_law 276 = .ok (.iaload, 1) := by decide +kernel
theorem dL_law_277 : decode cL_law 277 = .ok (.invokevirtual 26, 3) := by decide +kernel
theorem dL_law_280 : decode cL_law 280 = .ok (.if_icmp .eq 902, 3) := by decide +kernel
theorem dL_law_283 : decode cL_law 283 = .ok (.iconst 0, 1) := by decide +kernel
theorem dL_law_284 : decode cL_law 284 = .ok (.ireturn, 1) := by decide +kernel
theorem dL_law_285 : decode cL_law 285 = .ok (.aload_n 1, 1) := by decide +kernel
theorem dL_law_286 : decode cL_law 286 = .ok (.aload_n 0, 1) := by decide +kernel
theorem dL_law_287 : decode cL_law 287 = .ok (.iload_n 3, 1) := by decide +kernel
theorem dL_law_288 : decode cL_law 288 = .ok (.iconst 1, 1) := by decide +kernel
theorem dL_law_289 : decode cL_law 289 = .ok (.iadd, 1) := by decide +kernel
theorem dL_law_290 : decode cL_law 290 = .ok (.iaload, 1) := by decide +kernel
theorem dL_law_291 : decode cL_law 291 = .ok (.aload_n 0, 1) := by decide +kernel
theorem dL_law_292 : decode cL_law 292 = .ok (.iload_n 3, 1) := by decide +kernel
theorem dL_law_293 : decode cL_law 293 = .ok (.iconst 2, 1) := by decide +kernel
theorem dL_law_294 : decode cL_law 294 = .ok (.iadd, 1) := by decide +kernel
theorem dL_law_295 : decode cL_law 295 = .ok (.iaload, 1) := by decide +kernel
theorem dL_law_296 : decode cL_law 296 = .ok (.aload_n 0, 1) := by decide +kernel
theorem dL_law_297 : decode cL_law 297 = .ok (.iload_n 3, 1) := by decide +kernel
theorem dL_law_298 : decode cL_law 298 = .ok (.iconst 3, 1) := by decide +kernel
theorem dL_law_299 : decode cL_law 299 = .ok (.iadd, 1) := by decide +kernel
theorem dL_law_300 : decode cL_law 300 = .ok (.iaload, 1) := by decide +kernel
theorem dL_law_301 : decode cL_law 301 = .ok (.invokevirtual 27, 3) := by decide +kernel
theorem dL_law_304 : decode cL_law 304 = .ok (.aload_n 2, 1) := by decide +kernel
theorem dL_law_305 : decode cL_law 305 = .ok (.aload_n 0, 1) := by decide +kernel
theorem dL_law_306 : decode cL_law 306 = .ok (.iload_n 3, 1) := by decide +kernel
theorem dL_law_307 : decode cL_law 307 = .ok (.iconst 1, 1) := by decide +kernel
theorem dL_law_308 : decode cL_law 308 = .ok (.iadd, 1) := by decide +kernel
theorem dL_law_309 : decode cL_law 309 = .ok (.iaload, 1) := by decide +kernel
theorem dL_law_310 : decode cL_law 310 = .ok (.aload_n 0, 1) := by decide +kernel
theorem dL_law_311 : decode cL_law 311 = .ok (.iload_n 3, 1) := by decide +kernel
theorem dL_law_312 : decode cL_law 312 = .ok (.iconst 2, 1) := by decide +kernel
theorem dL_law_313 : decode cL_law 313 = .ok (.iadd, 1) := by decide +kernel
theorem dL_law_314 : decode cL_law 314 = .ok (.iaload, 1) := by decide +kernel
theorem dL_law_315 : decode cL_law 315 = .ok (.aload_n 0, 1) := by decide +kernel
theorem dL_law_316 : decode cL_law 316 = .ok (.iload_n 3, 1) := by decide +kernel
theorem dL_law_317 : decode cL_law 317 = .ok (.iconst 3, 1) := by decide +kernel
theorem dL_law_318 : decode cL_law 318 = .ok (.iadd, 1) := by decide +kernel
theorem dL_law_319 : decode cL_law 319 = .ok (.iaload, 1) := by decide +kernel
theorem dL_law_320 : decode cL_law 320 = .ok (.invokevirtual 30, 3) := by decide +kernel
theorem dL_law_323 : decode cL_law 323 = .ok (.if_icmp .eq 859, 3) := by decide +kernel
theorem dL_law_326 : decode cL_law 326 = .ok (.iconst 0, 1) := by decide +kernel
theorem dL_law_327 : decode cL_law 327 = .ok (.ireturn, 1) := by decide +kernel
theorem dL_law_328 : decode cL_law 328 = .ok (.aload_n 1, 1) := by decide +kernel
theorem dL_law_329 : decode cL_law 329 = .ok (.aload_n 0, 1) := by decide +kernel
theorem dL_law_330 : decode cL_law 330 = .ok (.iload_n 3, 1) := by decide +kernel
theorem dL_law_331 : decode cL_law 331 = .ok (.iconst 1, 1) := by decide +kernel
theorem dL_law_332 : decode cL_law 332 = .ok (.iadd, 1) := by decide +kernel
theorem dL_law_333 : decode cL_law 333 = .ok (.iaload, 1) := by decide +kernel
theorem dL_law_334 : decode cL_law 334 = .ok (.aload_n 0, 1) := by decide +kernel
theorem dL_law_335 : decode cL_law 335 = .ok (.iload_n 3, 1) := by decide +kernel
theorem dL_law_336 : decode cL_law 336 = .ok (.iconst 2, 1) := by decide +kernel
theorem dL_law_337 : decode cL_law 337 = .ok (.iadd, 1) := by decide +kernel
theorem dL_law_338 : decode cL_law 338 = .ok (.iaload, 1) := by decide +kernel
theorem dL_law_339 : decode cL_law 339 = .ok (.aload_n 0, 1) := by decide +kernel
theorem dL_law_340 : decode cL_law 340 = .ok (.iload_n 3, 1) := by decide +kernel
theorem dL_law_341 : decode cL_law 341 = .ok (.iconst 3, 1) := by decide +kernel
theorem dL_law_342 : decode cL_law 342 = .ok (.iadd, 1) := by decide +kernel
theorem dL_law_343 : decode cL_law 343 = .ok (.iaload, 1) := by decide +kernel
theorem dL_law_344 : decode cL_law 344 = .ok (.invokevirtual 31, 3) := by decide +kernel
theorem dL_law_347 : decode cL_law 347 = .ok (.aload_n 2, 1) := by decide +kernel
theorem dL_law_348 : decode cL_law 348 = .ok (.aload_n 0, 1) := by decide +kernel
theorem dL_law_349 : decode cL_law 349 = .ok (.iload_n 3, 1) := by decide +kernel
theorem dL_law_350 : decode cL_law 350 = .ok (.iconst 1, 1) := by decide +kernel
theorem dL_law_351 : decode cL_law 351 = .ok (.iadd, 1) := by decide +kernel
theorem dL_law_352 : decode cL_law 352 = .ok (.iaload, 1) := by decide +kernel
theorem dL_law_353 : decode cL_law 353 = .ok (.aload_n 0, 1) := by decide +kernel
theorem dL_law_354 : decode cL_law 354 = .ok (.iload_n 3, 1) := by decide +kernel
theorem dL_law_355 : decode cL_law 355 = .ok (.iconst 2, 1) := by decide +kernel
theorem dL_law_356 : decode cL_law 356 = .ok (.iadd, 1) := by decide +kernel
theorem dL_law_357 : decode cL_law 357 = .ok (.iaload, 1) := by decide +kernel
theorem dL_law_358 : decode cL_law 358 = .ok (.aload_n 0, 1) := by decide +kernel
theorem dL_law_359 : decode cL_law 359 = .ok (.iload_n 3, 1) := by decide +kernel
theorem dL_law_360 : decode cL_law 360 = .ok (.iconst 3, 1) := by decide +kernel
theorem dL_law_361 : decode cL_law 361 = .ok (.iadd, 1) := by decide +kernel
theorem dL_law_362 : decode cL_law 362 = .ok (.iaload, 1) := by decide +kernel
theorem dL_law_363 : decode cL_law 363 = .ok (.invokevirtual 34, 3) := by decide +kernel
theorem dL_law_366 : decode cL_law 366 = .ok (.if_icmp .eq 816, 3) := by decide +kernel
theorem dL_law_369 : decode cL_law 369 = .ok (.iconst 0, 1) := by decide +kernel
theorem dL_law_370 : decode cL_law 370 = .ok (.ireturn, 1) := by decide +kernel
theorem dL_law_371 : decode cL_law 371 = .ok (.aload_n 1, 1) := by decide +kernel
theorem dL_law_372 : decode cL_law 372 = .ok (.aload_n 0, 1) := by decide +kernel
theorem dL_law_373 : decode cL_law 373 = .ok (.iload_n 3, 1) := by decide +kernel
theorem dL_law_374 : decode cL_law 374 = .ok (.iconst 1, 1) := by decide +kernel
theorem dL_law_375 : decode cL_law 375 = .ok (.iadd, 1) := by decide +kernel
theorem dL_law_376 : decode cL_law 376 = .ok (.iaload, 1) := by decide +kernel
theorem dL_law_377 : decode cL_law 377 = .ok (.aload_n 0, 1) := by decide +kernel
theorem dL_law_378 : decode cL_law 378 = .ok (.iload_n 3, 1) := by decide +kernel
theorem dL_law_379 : decode cL_law 379 = .ok (.iconst 2, 1) := by decide +kernel
theorem dL_law_380 : decode cL_law 380 = .ok (.iadd, 1) := by decide +kernel
theorem dL_law_381 : decode cL_law 381 = .ok (.iaload, 1) := by decide +kernel
theorem dL_law_382 : decode cL_law 382 = .ok (.invokevirtual 35, 3) := by decide +kernel
theorem dL_law_385 : decode cL_law 385 = .ok (.aload_n 2, 1) := by decide +kernel
theorem dL_law_386 : decode cL_law 386 = .ok (.aload_n 0, 1) := by decide +kernel
theorem dL_law_387 : decode cL_law 387 = .ok (.iload_n 3, 1) := by decide +kernel
theorem dL_law_388 : decode cL_law 388 = .ok (.iconst 1, 1) := by decide +kernel
theorem dL_law_389 : decode cL_law 389 = .ok (.iadd, 1) := by decide +kernel
theorem dL_law_390 : decode cL_law 390 = .ok (.iaload, 1) := by decide +kernel
theorem dL_law_391 : decode cL_law 391 = .ok (.aload_n 0, 1) := by decide +kernel
theorem dL_law_392 : decode cL_law 392 = .ok (.iload_n 3, 1) := by decide +kernel
theorem dL_law_393 : decode cL_law 393 = .ok (.iconst 2, 1) := by decide +kernel
theorem dL_law_394 : decode cL_law 394 = .ok (.iadd, 1) := by decide +kernel
theorem dL_law_395 : decode cL_law 395 = .ok (.iaload, 1) := by decide +kernel
theorem dL_law_396 : decode cL_law 396 = .ok (.invokevirtual 38, 3) := by decide +kernel
theorem dL_law_399 : decode cL_law 399 = .ok (.if_icmp .eq 783, 3) := by decide +kernel
theorem dL_law_402 : decode cL_law 402 = .ok (.iconst 0, 1) := by decide +kernel
theorem dL_law_403 : decode cL_law 403 = .ok (.ireturn, 1) := by decide +kernel
theorem dL_law_404 : decode cL_law 404 = .ok (.aload_n 1, 1) := by decide +kernel
theorem dL_law_405 : decode cL_law 405 = .ok (.aload_n 0, 1) := by decide +kernel
theorem dL_law_406 : decode cL_law 406 = .ok (.iload_n 3, 1) := by decide +kernel
theorem dL_law_407 : decode cL_law 407 = .ok (.iconst 1, 1) := by decide +kernel
theorem dL_law_408 : decode cL_law 408 = .ok (.iadd, 1) := by decide +kernel
theorem dL_law_409 : decode cL_law 409 = .ok (.iaload, 1) := by decide +kernel
theorem dL_law_410 : decode cL_law 410 = .ok (.invokevirtual 39, 3) := by decide +kernel
theorem dL_law_413 : decode cL_law 413 = .ok (.aload_n 2, 1) := by decide +kernel
theorem dL_law_414 : decode cL_law 414 = .ok (.aload_n 0, 1) := by decide +kernel
theorem dL_law_415 : decode cL_law 415 = .ok (.iload_n 3, 1) := by decide +kernel
theorem dL_law_416 : decode cL_law 416 = .ok (.iconst 1, 1) := by decide +kernel
theorem dL_law_417 : decode cL_law 417 = .ok (.iadd, 1) := by decide +kernel
theorem dL_law_418 : decode cL_law 418 = .ok (.iaload, 1) := by decide +kernel
theorem dL_law_419 : decode cL_law 419 = .ok (.invokevirtual 43, 3) := by decide +kernel
theorem dL_law_422 : decode cL_law 422 = .ok (.if_icmp .eq 760, 3) := by decide +kernel
theorem dL_law_425 : decode cL_law 425 = .ok (.iconst 0, 1) := by decide +kernel
theorem dL_law_426 : decode cL_law 426 = .ok (.ireturn, 1) := by decide +kernel
theorem dL_law_427 : decode cL_law 427 = .ok (.aload_n 1, 1) := by decide +kernel
theorem dL_law_428 : decode cL_law 428 = .ok (.aload_n 0, 1) := by decide +kernel
theorem dL_law_429 : decode cL_law 429 = .ok (.iload_n 3, 1) := by decide +kernel
theorem dL_law_430 : decode cL_law 430 = .ok (.iconst 1, 1) := by decide +kernel
theorem dL_law_431 : decode cL_law 431 = .ok (.iadd, 1) := by decide +kernel
theorem dL_law_432 : decode cL_law 432 = .ok (.iaload, 1) := by decide +kernel
theorem dL_law_433 : decode cL_law 433 = .ok (.invokevirtual 44, 3) := by decide +kernel
theorem dL_law_436 : decode cL_law 436 = .ok (.aload_n 2, 1) := by decide +kernel
theorem dL_law_437 : decode cL_law 437 = .ok (.aload_n 0, 1) := by decide +kernel
theorem dL_law_438 : decode cL_law 438 = .ok (.iload_n 3, 1) := by decide +kernel
theorem dL_law_439 : decode cL_law 439 = .ok (.iconst 1, 1) := by decide +kernel
theorem dL_law_440 : decode cL_law 440 = .ok (.iadd, 1) := by decide +kernel
theorem dL_law_441 : decode cL_law 441 = .ok (.iaload, 1) := by decide +kernel
theorem dL_law_442 : decode cL_law 442 = .ok (.invokevirtual 47, 3) := by decide +kernel
theorem dL_law_445 : decode cL_law 445 = .ok (.if_icmp .eq 737, 3) := by decide +kernel
theorem dL_law_448 : decode cL_law 448 = .ok (.iconst 0, 1) := by decide +kernel
theorem dL_law_449 : decode cL_law 449 = .ok (.ireturn, 1) := by decide +kernel
theorem dL_law_450 : decode cL_law 450 = .ok (.aload_n 1, 1) := by decide +kernel
theorem dL_law_451 : decode cL_law 451 = .ok (.aload_n 0, 1) := by decide +kernel
theorem dL_law_452 : decode cL_law 452 = .ok (.iload_n 3, 1) := by decide +kernel
theorem dL_law_453 : decode cL_law 453 = .ok (.iconst 1, 1) := by decide +kernel
theorem dL_law_454 : decode cL_law 454 = .ok (.iadd, 1) := by decide +kernel
theorem dL_law_455 : decode cL_law 455 = .ok (.iaload, 1) := by decide +kernel
theorem dL_law_456 : decode cL_law 456 = .ok (.aload_n 0, 1) := by decide +kernel
theorem dL_law_457 : decode cL_law 457 = .ok (.iload_n 3, 1) := by decide +kernel
theorem dL_law_458 : decode cL_law 458 = .ok (.iconst 2, 1) := by decide +kernel
theorem dL_law_459 : decode cL_law 459 = .ok (.iadd, 1) := by decide +kernel
theorem dL_law_460 : decode cL_law 460 = .ok (.iaload, 1) := by decide +kernel
theorem dL_law_461 : decode cL_law 461 = .ok (.invokevirtual 48, 3) := by decide +kernel
theorem dL_law_464 : decode cL_law 464 = .ok (.aload_n 2, 1) := by decide +kernel
theorem dL_law_465 : decode cL_law 465 = .ok (.aload_n 0, 1) := by decide +kernel
theorem dL_law_466 : decode cL_law 466 = .ok (.iload_n 3, 1) := by decide +kernel
theorem dL_law_467 : decode cL_law 467 = .ok (.iconst 1, 1) := by decide +kernel
theorem dL_law_468 : decode cL_law 468 = .ok (.iadd, 1) := by decide +kernel
theorem dL_law_469 : decode cL_law 469 = .ok (.iaload, 1) := by decide +kernel
theorem dL_law_470 : decode cL_law 470 = .ok (.aload_n 0, 1) := by decide +kernel
theorem dL_law_471 : decode cL_law 471 = .ok (.iload_n 3, 1) := by decide +kernel
theorem dL_law_472 : decode cL_law 472 = .ok (.iconst 2, 1) := by decide +kernel
theorem dL_law_473 : decode cL_law 473 = .ok (.iadd, 1) := by decide +kernel
theorem dL_law_474 : decode cL_law 474 = .ok (.iaload, 1) := by decide +kernel
theorem dL_law_475 : decode cL_law 475 = .ok (.invokevirtual 51, 3) := by decide +kernel
theorem dL_law_478 : decode cL_law 478 = .ok (.if_icmp .eq 704, 3) := by decide +kernel
theorem dL_law_481 : decode cL_law 481 = .ok (.iconst 0, 1) := by decide +kernel
theorem dL_law_482 : decode cL_law 482 = .ok (.ireturn, 1) := by decide +kernel
theorem dL_law_483 : decode cL_law 483 = .ok (.aload_n 1, 1) := by decide +kernel
theorem dL_law_484 : decode cL_law 484 = .ok (.aload_n 0, 1) := by decide +kernel
theorem dL_law_485 : decode cL_law 485 = .ok (.iload_n 3, 1) := by decide +kernel
theorem dL_law_486 : decode cL_law 486 = .ok (.iconst 1, 1) := by decide +kernel
theorem dL_law_487 : decode cL_law 487 = .ok (.iadd, 1) := by decide +kernel
theorem dL_law_488 : decode cL_law 488 = .ok (.iaload, 1) := by decide +kernel
theorem dL_law_489 : decode cL_law 489 = .ok (.aload_n 0, 1) := by decide +kernel
theorem dL_law_490 : decode cL_law 490 = .ok (.iload_n 3, 1) := by decide +kernel
theorem dL_law_491 : decode cL_law 491 = .ok (.iconst 2, 1) := by decide +kernel
theorem dL_law_492 : decode cL_law 492 = .ok (.iadd, 1) := by decide +kernel
theorem dL_law_493 : decode cL_law 493 = .ok (.iaload, 1) := by decide +kernel
theorem dL_law_494 : decode cL_law 494 = .ok (.invokevirtual 52, 3) := by decide +kernel
theorem dL_law_497 : decode cL_law 497 = .ok (.aload_n 2, 1) := by decide +kernel
theorem dL_law_498 : decode cL_law 498 = .ok (.aload_n 0, 1) := by decide +kernel
theorem dL_law_499 : decode cL_law 499 = .ok (.iload_n 3, 1) := by decide +kernel
theorem dL_law_500 : decode cL_law 500 = .ok (.iconst 1, 1) := by decide +kernel
theorem dL_law_501 : decode cL_law 501 = .ok (.iadd, 1) := by decide +kernel
theorem dL_law_502 : decode cL_law 502 = .ok (.iaload, 1) := by decide +kernel
theorem dL_law_503 : decode cL_law 503 = .ok (.aload_n 0, 1) := by decide +kernel
theorem dL_law_504 : decode cL_law 504 = .ok (.iload_n 3, 1) := by decide +kernel
theorem dL_law_505 : decode cL_law 505 = .ok (.iconst 2, 1) := by decide +kernel
theorem dL_law_506 : decode cL_law 506 = .ok (.iadd, 1) := by decide +kernel
theorem dL_law_507 : decode cL_law 507 = .ok (.iaload, 1) := by decide +kernel
theorem dL_law_508 : decode cL_law 508 = .ok (.invokevirtual 55, 3) := by decide +kernel
theorem dL_law_511 : decode cL_law 511 = .ok (.if_icmp .eq 671, 3) := by decide +kernel
theorem dL_law_514 : decode cL_law 514 = .ok (.iconst 0, 1) := by decide +kernel
theorem dL_law_515 : decode cL_law 515 = .ok (.ireturn, 1) := by decide +kernel
theorem dL_law_516 : decode cL_law 516 = .ok (.aload_n 1, 1) := by decide +kernel
theorem dL_law_517 : decode cL_law 517 = .ok (.aload_n 0, 1) := by decide +kernel
theorem dL_law_518 : decode cL_law 518 = .ok (.iload_n 3, 1) := by decide +kernel
theorem dL_law_519 : decode cL_law 519 = .ok (.iconst 1, 1) := by decide +kernel
theorem dL_law_520 : decode cL_law 520 = .ok (.iadd, 1) := by decide +kernel
theorem dL_law_521 : decode cL_law 521 = .ok (.iaload, 1) := by decide +kernel
theorem dL_law_522 : decode cL_law 522 = .ok (.aload_n 0, 1) := by decide +kernel
theorem dL_law_523 : decode cL_law 523 = .ok (.iload_n 3, 1) := by decide +kernel
theorem dL_law_524 : decode cL_law 524 = .ok (.iconst 2, 1) := by decide +kernel
theorem dL_law_525 : decode cL_law 525 = .ok (.iadd, 1) := by decide +kernel
theorem dL_law_526 : decode cL_law 526 = .ok (.iaload, 1) := by decide +kernel
theorem dL_law_527 : decode cL_law 527 = .ok (.invokevirtual 56, 3) := by decide +kernel
theorem dL_law_530 : decode cL_law 530 = .ok (.aload_n 2, 1) := by decide +kernel
theorem dL_law_531 : decode cL_law 531 = .ok (.aload_n 0, 1) := by decide +kernel
theorem dL_law_532 : decode cL_law 532 = .ok (.iload_n 3, 1) := by decide +kernel
theorem dL_law_533 : decode cL_law 533 = .ok (.iconst 1, 1) := by decide +kernel
theorem dL_law_534 : decode cL_law 534 = .ok (.iadd, 1) := by decide +kernel
theorem dL_law_535 : decode cL_law 535 = .ok (.iaload, 1) := by decide +kernel
theorem dL_law_536 : decode cL_law 536 = .ok (.aload_n 0, 1) := by decide +kernel
theorem dL_law_537 : decode cL_law 537 = .ok (.iload_n 3, 1) := by decide +kernel
theorem dL_law_538 : decode cL_law 538 = .ok (.iconst 2, 1) := by decide +kernel
theorem dL_law_539 : decode cL_law 539 = .ok (.iadd, 1) := by decide +kernel
theorem dL_law_540 : decode cL_law 540 = .ok (.iaload, 1) := by decide +kernel
theorem dL_law_541 : decode cL_law 541 = .ok (.invokevirtual 59, 3) := by decide +kernel
theorem dL_law_544 : decode cL_law 544 = .ok (.if_icmp .eq 638, 3) := by decide +kernel
theorem dL_law_547 : decode cL_law 547 = .ok (.iconst 0, 1) := by decide +kernel
theorem dL_law_548 : decode cL_law 548 = .ok (.ireturn, 1) := by decide +kernel
theorem dL_law_549 : decode cL_law 549 = .ok (.aload_n 1, 1) := by decide +kernel
theorem dL_law_550 : decode cL_law 550 = .ok (.aload_n 0, 1) := by decide +kernel
theorem dL_law_551 : decode cL_law 551 = .ok (.iload_n 3, 1) := by decide +kernel
theorem dL_law_552 : decode cL_law 552 = .ok (.iconst 1, 1) := by decide +kernel
theorem dL_law_553 : decode cL_law 553 = .ok (.iadd, 1) := by decide +kernel
theorem dL_law_554 : decode cL_law 554 = .ok (.iaload, 1) := by decide +kernel
theorem dL_law_555 : decode cL_law 555 = .ok (.invokevirtual 60, 3) := by decide +kernel
theorem dL_law_558 : decode cL_law 558 = .ok (.aload_n 2, 1) := by decide +kernel
theorem dL_law_559 : decode cL_law 559 = .ok (.aload_n 0, 1) := by decide +kernel
theorem dL_law_560 : decode cL_law 560 = .ok (.iload_n 3, 1) := by decide +kernel
theorem dL_law_561 : decode cL_law 561 = .ok (.iconst 1, 1) := by decide +kernel
theorem dL_law_562 : decode cL_law 562 = .ok (.iadd, 1) := by decide +kernel
theorem dL_law_563 : decode cL_law 563 = .ok (.iaload, 1) := by decide +kernel
theorem dL_law_564 : decode cL_law 564 = .ok (.invokevirtual 63, 3) := by decide +kernel
theorem dL_law_567 : decode cL_law 567 = .ok (.if_icmp .eq 615, 3) := by decide +kernel
theorem dL_law_570 : decode cL_law 570 = .ok (.iconst 0, 1) := by decide +kernel
theorem dL_law_571 : decode cL_law 571 = .ok (.ireturn, 1) := by decide +kernel
theorem dL_law_572 : decode cL_law 572 = .ok (.aload_n 1, 1) := by decide +kernel
theorem dL_law_573 : decode cL_law 573 = .ok (.aload_n 0, 1) := by decide +kernel
theorem dL_law_574 : decode cL_law 574 = .ok (.iload_n 3, 1) := by decide +kernel
theorem dL_law_575 : decode cL_law 575 = .ok (.iconst 1, 1) := by decide +kernel
theorem dL_law_576 : decode cL_law 576 = .ok (.iadd, 1) := by decide +kernel
theorem dL_law_577 : decode cL_law 577 = .ok (.iaload, 1) := by decide +kernel
theorem dL_law_578 : decode cL_law 578 = .ok (.aload_n 0, 1) := by decide +kernel
theorem dL_law_579 : decode cL_law 579 = .ok (.iload_n 3, 1) := by decide +kernel
theorem dL_law_580 : decode cL_law 580 = .ok (.iconst 2, 1) := by decide +kernel
theorem dL_law_581 : decode cL_law 581 = .ok (.iadd, 1) := by decide +kernel
theorem dL_law_582 : decode cL_law 582 = .ok (.iaload, 1) := by decide +kernel
theorem dL_law_583 : decode cL_law 583 = .ok (.invokevirtual 64, 3) := by decide +kernel
theorem dL_law_586 : decode cL_law 586 = .ok (.aload_n 2, 1) := by decide +kernel
theorem dL_law_587 : decode cL_law 587 = .ok (.aload_n 0, 1) := by decide +kernel
theorem dL_law_588 : decode cL_law 588 = .ok (.iload_n 3, 1) := by decide +kernel
theorem dL_law_589 : decode cL_law 589 = .ok (.iconst 1, 1) := by decide +kernel
theorem dL_law_590 : decode cL_law 590 = .ok (.iadd, 1) := by decide +kernel
theorem dL_law_591 : decode cL_law 591 = .ok (.iaload, 1) := by decide +kernel
theorem dL_law_592 : decode cL_law 592 = .ok (.aload_n 0, 1) := by decide +kernel
theorem dL_law_593 : decode cL_law 593 = .ok (.iload_n 3, 1) := by decide +kernel
theorem dL_law_594 : decode cL_law 594 = .ok (.iconst 2, 1) := by decide +kernel
theorem dL_law_595 : decode cL_law 595 = .ok (.iadd, 1) := by decide +kernel
theorem dL_law_596 : decode cL_law 596 = .ok (.iaload, 1) := by decide +kernel
theorem dL_law_597 : decode cL_law 597 = .ok (.invokevirtual 67, 3) := by decide +kernel
theorem dL_law_600 : decode cL_law 600 = .ok (.if_icmp .eq 582, 3) := by decide +kernel
theorem dL_law_603 : decode cL_law 603 = .ok (.iconst 0, 1) := by decide +kernel
theorem dL_law_604 : decode cL_law 604 = .ok (.ireturn, 1) := by decide +kernel
theorem dL_law_605 : decode cL_law 605 = .ok (.aload_n 1, 1) := by decide +kernel
theorem dL_law_606 : decode cL_law 606 = .ok (.aload_n 0, 1) := by decide +kernel
theorem dL_law_607 : decode cL_law 607 = .ok (.iload_n 3, 1) := by decide +kernel
theorem dL_law_608 : decode cL_law 608 = .ok (.iconst 1, 1) := by decide +kernel
theorem dL_law_609 : decode cL_law 609 = .ok (.iadd, 1) := by decide +kernel
theorem dL_law_610 : decode cL_law 610 = .ok (.iaload, 1) := by decide +kernel
theorem dL_law_611 : decode cL_law 611 = .ok (.invokevirtual 68, 3) := by decide +kernel
theorem dL_law_614 : decode cL_law 614 = .ok (.aload_n 2, 1) := by decide +kernel
theorem dL_law_615 : decode cL_law 615 = .ok (.aload_n 0, 1) := by decide +kernel
theorem dL_law_616 : decode cL_law 616 = .ok (.iload_n 3, 1) := by decide +kernel
theorem dL_law_617 : decode cL_law 617 = .ok (.iconst 1, 1) := by decide +kernel
theorem dL_law_618 : decode cL_law 618 = .ok (.iadd, 1) := by decide +kernel
theorem dL_law_619 : decode cL_law 619 = .ok (.iaload, 1) := by decide +kernel
theorem dL_law_620 : decode cL_law 620 = .ok (.invokevirtual 71, 3) := by decide +kernel
theorem dL_law_623 : decode cL_law 623 = .ok (.if_icmp .eq 559, 3) := by decide +kernel
theorem dL_law_626 : decode cL_law 626 = .ok (.iconst 0, 1) := by decide +kernel
theorem dL_law_627 : decode cL_law 627 = .ok (.ireturn, 1) := by decide +kernel
theorem dL_law_628 : decode cL_law 628 = .ok (.aload_n 1, 1) := by decide +kernel
theorem dL_law_629 : decode cL_law 629 = .ok (.aload_n 0, 1) := by decide +kernel
theorem dL_law_630 : decode cL_law 630 = .ok (.iload_n 3, 1) := by decide +kernel
theorem dL_law_631 : decode cL_law 631 = .ok (.iconst 1, 1) := by decide +kernel
theorem dL_law_632 : decode cL_law 632 = .ok (.iadd, 1) := by decide +kernel
theorem dL_law_633 : decode cL_law 633 = .ok (.iaload, 1) := by decide +kernel
theorem dL_law_634 : decode cL_law 634 = .ok (.aload_n 0, 1) := by decide +kernel
theorem dL_law_635 : decode cL_law 635 = .ok (.iload_n 3, 1) := by decide +kernel
theorem dL_law_636 : decode cL_law 636 = .ok (.iconst 2, 1) := by decide +kernel
theorem dL_law_637 : decode cL_law 637 = .ok (.iadd, 1) := by decide +kernel
theorem dL_law_638 : decode cL_law 638 = .ok (.iaload, 1) := by decide +kernel
theorem dL_law_639 : decode cL_law 639 = .ok (.invokevirtual 72, 3) := by decide +kernel
theorem dL_law_642 : decode cL_law 642 = .ok (.aload_n 2, 1) := by decide +kernel
theorem dL_law_643 : decode cL_law 643 = .ok (.aload_n 0, 1) := by decide +kernel
theorem dL_law_644 : decode cL_law 644 = .ok (.iload_n 3, 1) := by decide +kernel
theorem dL_law_645 : decode cL_law 645 = .ok (.iconst 1, 1) := by decide +kernel
theorem dL_law_646 : decode cL_law 646 = .ok (.iadd, 1) := by decide +kernel
theorem dL_law_647 : decode cL_law 647 = .ok (.iaload, 1) := by decide +kernel
theorem dL_law_648 : decode cL_law 648 = .ok (.aload_n 0, 1) := by decide +kernel
theorem dL_law_649 : decode cL_law 649 = .ok (.iload_n 3, 1) := by decide +kernel
theorem dL_law_650 : decode cL_law 650 = .ok (.iconst 2, 1) := by decide +kernel
theorem dL_law_651 : decode cL_law 651 = .ok (.iadd, 1) := by decide +kernel
theorem dL_law_652 : decode cL_law 652 = .ok (.iaload, 1) := by decide +kernel
theorem dL_law_653 : decode cL_law 653 = .ok (.invokevirtual 75, 3) := by decide +kernel
theorem dL_law_656 : decode cL_law 656 = .ok (.if_icmp .eq 526, 3) := by decide +kernel
theorem dL_law_659 : decode cL_law 659 = .ok (.iconst 0, 1) := by decide +kernel
theorem dL_law_660 : decode cL_law 660 = .ok (.ireturn, 1) := by decide +kernel
theorem dL_law_661 : decode cL_law 661 = .ok (.aload_n 1, 1) := by decide +kernel
theorem dL_law_662 : decode cL_law 662 = .ok (.aload_n 0, 1) := by decide +kernel
theorem dL_law_663 : decode cL_law 663 = .ok (.iload_n 3, 1) := by decide +kernel
theorem dL_law_664 : decode cL_law 664 = .ok (.iconst 1, 1) := by decide +kernel
theorem dL_law_665 : decode cL_law 665 = .ok (.iadd, 1) := by decide +kernel
theorem dL_law_666 : decode cL_law 666 = .ok (.iaload, 1) := by decide +kernel
theorem dL_law_667 : decode cL_law 667 = .ok (.aload_n 0, 1) := by decide +kernel
theorem dL_law_668 : decode cL_law 668 = .ok (.iload_n 3, 1) := by decide +kernel
theorem dL_law_669 : decode cL_law 669 = .ok (.iconst 2, 1) := by decide +kernel
theorem dL_law_670 : decode cL_law 670 = .ok (.iadd, 1) := by decide +kernel
theorem dL_law_671 : decode cL_law 671 = .ok (.iaload, 1) := by decide +kernel
theorem dL_law_672 : decode cL_law 672 = .ok (.invokevirtual 76, 3) := by decide +kernel
theorem dL_law_675 : decode cL_law 675 = .ok (.aload_n 2, 1) := by decide +kernel
theorem dL_law_676 : decode cL_law 676 = .ok (.aload_n 0, 1) := by decide +kernel
theorem dL_law_677 : decode cL_law 677 = .ok (.iload_n 3, 1) := by decide +kernel
theorem dL_law_678 : decode cL_law 678 = .ok (.iconst 1, 1) := by decide +kernel
theorem dL_law_679 : decode cL_law 679 = .ok (.iadd, 1) := by decide +kernel
theorem dL_law_680 : decode cL_law 680 = .ok (.iaload, 1) := by decide +kernel
theorem dL_law_681 : decode cL_law 681 = .ok (.aload_n 0, 1) := by decide +kernel
theorem dL_law_682 : decode cL_law 682 = .ok (.iload_n 3, 1) := by decide +kernel
theorem dL_law_683 : decode cL_law 683 = .ok (.iconst 2, 1) := by decide +kernel
theorem dL_law_684 : decode cL_law 684 = .ok (.iadd, 1) := by decide +kernel
theorem dL_law_685 : decode cL_law 685 = .ok (.iaload, 1) := by decide +kernel
theorem dL_law_686 : decode cL_law 686 = .ok (.invokevirtual 79, 3) := by decide +kernel
theorem dL_law_689 : decode cL_law 689 = .ok (.if_icmp .eq 493, 3) := by decide +kernel
theorem dL_law_692 : decode cL_law 692 = .ok (.iconst 0, 1) := by decide +kernel
theorem dL_law_693 : decode cL_law 693 = .ok (.ireturn, 1) := by decide +kernel
theorem dL_law_694 : decode cL_law 694 = .ok (.aload_n 1, 1) := by decide +kernel
theorem dL_law_695 : decode cL_law 695 = .ok (.aload_n 0, 1) := by decide +kernel
theorem dL_law_696 : decode cL_law 696 = .ok (.iload_n 3, 1) := by decide +kernel
theorem dL_law_697 : decode cL_law 697 = .ok (.iconst 1, 1) := by decide +kernel
theorem dL_law_698 : decode cL_law 698 = .ok (.iadd, 1) := by decide +kernel
theorem dL_law_699 : decode cL_law 699 = .ok (.iaload, 1) := by decide +kernel
theorem dL_law_700 : decode cL_law 700 = .ok (.aload_n 0, 1) := by decide +kernel
theorem dL_law_701 : decode cL_law 701 = .ok (.iload_n 3, 1) := by decide +kernel
theorem dL_law_702 : decode cL_law 702 = .ok (.iconst 2, 1) := by decide +kernel
theorem dL_law_703 : decode cL_law 703 = .ok (.iadd, 1) := by decide +kernel
theorem dL_law_704 : decode cL_law 704 = .ok (.iaload, 1) := by decide +kernel
theorem dL_law_705 : decode cL_law 705 = .ok (.invokevirtual 80, 3) := by decide +kernel
theorem dL_law_708 : decode cL_law 708 = .ok (.aload_n 2, 1) := by decide +kernel
theorem dL_law_709 : decode cL_law 709 = .ok (.aload_n 0, 1) := by decide +kernel
theorem dL_law_710 : decode cL_law 710 = .ok (.iload_n 3, 1) := by decide +kernel
theorem dL_law_711 : decode cL_law 711 = .ok (.iconst 1, 1) := by decide +kernel
theorem dL_law_712 : decode cL_law 712 = .ok (.iadd, 1) := by decide +kernel
theorem dL_law_713 : decode cL_law 713 = .ok (.iaload, 1) := by decide +kernel
theorem dL_law_714 : decode cL_law 714 = .ok (.aload_n 0, 1) := by decide +kernel
theorem dL_law_715 : decode cL_law 715 = .ok (.iload_n 3, 1) := by decide +kernel
theorem dL_law_716 : decode cL_law 716 = .ok (.iconst 2, 1) := by decide +kernel
theorem dL_law_717 : decode cL_law 717 = .ok (.iadd, 1) := by decide +kernel
theorem dL_law_718 : decode cL_law 718 = .ok (.iaload, 1) := by decide +kernel
theorem dL_law_719 : decode cL_law 719 = .ok (.invokevirtual 83, 3) := by decide +kernel
theorem dL_law_722 : decode cL_law 722 = .ok (.if_icmp .eq 460, 3) := by decide +kernel
theorem dL_law_725 : decode cL_law 725 = .ok (.iconst 0, 1) := by decide +kernel
theorem dL_law_726 : decode cL_law 726 = .ok (.ireturn, 1) := by decide +kernel
theorem dL_law_727 : decode cL_law 727 = .ok (.aload_n 1, 1) := by decide +kernel
theorem dL_law_728 : decode cL_law 728 = .ok (.aload_n 0, 1) := by decide +kernel
theorem dL_law_729 : decode cL_law 729 = .ok (.iload_n 3, 1) := by decide +kernel
theorem dL_law_730 : decode cL_law 730 = .ok (.iconst 1, 1) := by decide +kernel
theorem dL_law_731 : decode cL_law 731 = .ok (.iadd, 1) := by decide +kernel
theorem dL_law_732 : decode cL_law 732 = .ok (.iaload, 1) := by decide +kernel
theorem dL_law_733 : decode cL_law 733 = .ok (.aload_n 0, 1) := by decide +kernel
theorem dL_law_734 : decode cL_law 734 = .ok (.iload_n 3, 1) := by decide +kernel
theorem dL_law_735 : decode cL_law 735 = .ok (.iconst 2, 1) := by decide +kernel
theorem dL_law_736 : decode cL_law 736 = .ok (.iadd, 1) := by decide +kernel
theorem dL_law_737 : decode cL_law 737 = .ok (.iaload, 1) := by decide +kernel
theorem dL_law_738 : decode cL_law 738 = .ok (.aload_n 0, 1) := by decide +kernel
theorem dL_law_739 : decode cL_law 739 = .ok (.iload_n 3, 1) := by decide +kernel
theorem dL_law_740 : decode cL_law 740 = .ok (.iconst 3, 1) := by decide +kernel
theorem dL_law_741 : decode cL_law 741 = .ok (.iadd, 1) := by decide +kernel
theorem dL_law_742 : decode cL_law 742 = .ok (.iaload, 1) := by decide +kernel
theorem dL_law_743 : decode cL_law 743 = .ok (.invokevirtual 84, 3) := by decide +kernel
theorem dL_law_746 : decode cL_law 746 = .ok (.aload_n 2, 1) := by decide +kernel
theorem dL_law_747 : decode cL_law 747 = .ok (.aload_n 0, 1) := by decide +kernel
theorem dL_law_748 : decode cL_law 748 = .ok (.iload_n 3, 1) := by decide +kernel
theorem dL_law_749 : decode cL_law 749 = .ok (.iconst 1, 1) := by decide +kernel
theorem dL_law_750 : decode cL_law 750 = .ok (.iadd, 1) := by decide +kernel
theorem dL_law_751 : decode cL_law 751 = .ok (.iaload, 1) := by decide +kernel
theorem dL_law_752 : decode cL_law 752 = .ok (.aload_n 0, 1) := by decide +kernel
theorem dL_law_753 : decode cL_law 753 = .ok (.iload_n 3, 1) := by decide +kernel
theorem dL_law_754 : decode cL_law 754 = .ok (.iconst 2, 1) := by decide +kernel
theorem dL_law_755 : decode cL_law 755 = .ok (.iadd, 1) := by decide +kernel
theorem dL_law_756 : decode cL_law 756 = .ok (.iaload, 1) := by decide +kernel
theorem dL_law_757 : decode cL_law 757 = .ok (.aload_n 0, 1) := by decide +kernel
theorem dL_law_758 : decode cL_law 758 = .ok (.iload_n 3, 1) := by decide +kernel
theorem dL_law_759 : decode cL_law 759 = .ok (.iconst 3, 1) := by decide +kernel
theorem dL_law_760 : decode cL_law 760 = .ok (.iadd, 1) := by decide +kernel
theorem dL_law_761 : decode cL_law 761 = .ok (.iaload, 1) := by decide +kernel
theorem dL_law_762 : decode cL_law 762 = .ok (.invokevirtual 87, 3) := by decide +kernel
theorem dL_law_765 : decode cL_law 765 = .ok (.if_icmp .eq 417, 3) := by decide +kernel
theorem dL_law_768 : decode cL_law 768 = .ok (.iconst 0, 1) := by decide +kernel
theorem dL_law_769 : decode cL_law 769 = .ok (.ireturn, 1) := by decide +kernel
theorem dL_law_770 : decode cL_law 770 = .ok (.aload_n 1, 1) := by decide +kernel
theorem dL_law_771 : decode cL_law 771 = .ok (.aload_n 0, 1) := by decide +kernel
theorem dL_law_772 : decode cL_law 772 = .ok (.iload_n 3, 1) := by decide +kernel
theorem dL_law_773 : decode cL_law 773 = .ok (.iconst 1, 1) := by decide +kernel
theorem dL_law_774 : decode cL_law 774 = .ok (.iadd, 1) := by decide +kernel
theorem dL_law_775 : decode cL_law 775 = .ok (.iaload, 1) := by decide +kernel
theorem dL_law_776 : decode cL_law 776 = .ok (.invokevirtual 88, 3) := by decide +kernel
theorem dL_law_779 : decode cL_law 779 = .ok (.aload_n 2, 1) := by decide +kernel
theorem dL_law_780 : decode cL_law 780 = .ok (.aload_n 0, 1) := by decide +kernel
theorem dL_law_781 : decode cL_law 781 = .ok (.iload_n 3, 1) := by decide +kernel
theorem dL_law_782 : decode cL_law 782 = .ok (.iconst 1, 1) := by decide +kernel
theorem dL_law_783 : decode cL_law 783 = .ok (.iadd, 1) := by decide +kernel
theorem dL_law_784 : decode cL_law 784 = .ok (.iaload, 1) := by decide +kernel
theorem dL_law_785 : decode cL_law 785 = .ok (.invokevirtual 91, 3) := by decide +kernel
theorem dL_law_788 : decode cL_law 788 = .ok (.if_icmp .eq 394, 3) := by decide +kernel
theorem dL_law_791 : decode cL_law 791 = .ok (.iconst 0, 1) := by decide +kernel
theorem dL_law_792 : decode cL_law 792 = .ok (.ireturn, 1) := by decide +kernel
theorem dL_law_793 : decode cL_law 793 = .ok (.aload_n 1, 1) := by decide +kernel
theorem dL_law_794 : decode cL_law 794 = .ok (.aload_n 0, 1) := by decide +kernel
theorem dL_law_795 : decode cL_law 795 = .ok (.iload_n 3, 1) := by decide +kernel
theorem dL_law_796 : decode cL_law 796 = .ok (.iconst 1, 1) := by decide +kernel
theorem dL_law_797 : decode cL_law 797 = .ok (.iadd, 1) := by decide +kernel
theorem dL_law_798 : decode cL_law 798 = .ok (.iaload, 1) := by decide +kernel
theorem dL_law_799 : decode cL_law 799 = .ok (.aload_n 0, 1) := by decide +kernel
theorem dL_law_800 : decode cL_law 800 = .ok (.iload_n 3, 1) := by decide +kernel
theorem dL_law_801 : decode cL_law 801 = .ok (.iconst 2, 1) := by decide +kernel
theorem dL_law_802 : decode cL_law 802 = .ok (.iadd, 1) := by decide +kernel
theorem dL_law_803 : decode cL_law 803 = .ok (.iaload, 1) := by decide +kernel
theorem dL_law_804 : decode cL_law 804 = .ok (.invokevirtual 92, 3) := by decide +kernel
theorem dL_law_807 : decode cL_law 807 = .ok (.aload_n 2, 1) := by decide +kernel
theorem dL_law_808 : decode cL_law 808 = .ok (.aload_n 0, 1) := by decide +kernel
theorem dL_law_809 : decode cL_law 809 = .ok (.iload_n 3, 1) := by decide +kernel
theorem dL_law_810 : decode cL_law 810 = .ok (.iconst 1, 1) := by decide +kernel
theorem dL_law_811 : decode cL_law 811 = .ok (.iadd, 1) := by decide +kernel
theorem dL_law_812 : decode cL_law 812 = .ok (.iaload, 1) := by decide +kernel
theorem dL_law_813 : decode cL_law 813 = .ok (.aload_n 0, 1) := by decide +kernel
theorem dL_law_814 : decode cL_law 814 = .ok (.iload_n 3, 1) := by decide +kernel
theorem dL_law_815 : decode cL_law 815 = .ok (.iconst 2, 1) := by decide +kernel
theorem dL_law_816 : decode cL_law 816 = .ok (.iadd, 1) := by decide +kernel
theorem dL_law_817 : decode cL_law 817 = .ok (.iaload, 1) := by decide +kernel
theorem dL_law_818 : decode cL_law 818 = .ok (.invokevirtual 95, 3) := by decide +kernel
theorem dL_law_821 : decode cL_law 821 = .ok (.if_icmp .eq 361, 3) := by decide +kernel
theorem dL_law_824 : decode cL_law 824 = .ok (.iconst 0, 1) := by decide +kernel
theorem dL_law_825 : decode cL_law 825 = .ok (.ireturn, 1) := by decide +kernel
theorem dL_law_826 : decode cL_law 826 = .ok (.aload_n 1, 1) := by decide +kernel
theorem dL_law_827 : decode cL_law 827 = .ok (.aload_n 0, 1) := by decide +kernel
theorem dL_law_828 : decode cL_law 828 = .ok (.iload_n 3, 1) := by decide +kernel
theorem dL_law_829 : decode cL_law 829 = .ok (.iconst 1, 1) := by decide +kernel
theorem dL_law_830 : decode cL_law 830 = .ok (.iadd, 1) := by decide +kernel
theorem dL_law_831 : decode cL_law 831 = .ok (.iaload, 1) := by decide +kernel
theorem dL_law_832 : decode cL_law 832 = .ok (.aload_n 0, 1) := by decide +kernel
theorem dL_law_833 : decode cL_law 833 = .ok (.iload_n 3, 1) := by decide +kernel
theorem dL_law_834 : decode cL_law 834 = .ok (.iconst 2, 1) := by decide +kernel
theorem dL_law_835 : decode cL_law 835 = .ok (.iadd, 1) := by decide +kernel
theorem dL_law_836 : decode cL_law 836 = .ok (.iaload, 1) := by decide +kernel
theorem dL_law_837 : decode cL_law 837 = .ok (.invokevirtual 96, 3) := by decide +kernel
theorem dL_law_840 : decode cL_law 840 = .ok (.aload_n 2, 1) := by decide +kernel
theorem dL_law_841 : decode cL_law 841 = .ok (.aload_n 0, 1) := by decide +kernel
theorem dL_law_842 : decode cL_law 842 = .ok (.iload_n 3, 1) := by decide +kernel
theorem dL_law_843 : decode cL_law 843 = .ok (.iconst 1, 1) := by decide +kernel
theorem dL_law_844 : decode cL_law 844 = .ok (.iadd, 1) := by decide +kernel
theorem dL_law_845 : decode cL_law 845 = .ok (.iaload, 1) := by decide +kernel
theorem dL_law_846 : decode cL_law 846 = .ok (.aload_n 0, 1) := by decide +kernel
theorem dL_law_847 : decode cL_law 847 = .ok (.iload_n 3, 1) := by decide +kernel
theorem dL_law_848 : decode cL_law 848 = .ok (.iconst 2, 1) := by decide +kernel
theorem dL_law_849 : decode cL_law 849 = .ok (.iadd, 1) := by decide +kernel
theorem dL_law_850 : decode cL_law 850 = .ok (.iaload, 1) := by decide +kernel
theorem dL_law_851 : decode cL_law 851 = .ok (.invokevirtual 99, 3) := by decide +kernel
theorem dL_law_854 : decode cL_law 854 = .ok (.if_icmp .eq 328, 3) := by decide +kernel
theorem dL_law_857 : decode cL_law 857 = .ok (.iconst 0, 1) := by decide +kernel
theorem dL_law_858 : decode cL_law 858 = .ok (.ireturn, 1) := by decide +kernel
theorem dL_law_859 : decode cL_law 859 = .ok (.aload_n 1, 1) := by decide +kernel
theorem dL_law_860 : decode cL_law 860 = .ok (.aload_n 0, 1) := by decide +kernel
theorem dL_law_861 : decode cL_law 861 = .ok (.iload_n 3, 1) := by decide +kernel
theorem dL_law_862 : decode cL_law 862 = .ok (.iconst 1, 1) := by decide +kernel
theorem dL_law_863 : decode cL_law 863 = .ok (.iadd, 1) := by decide +kernel
theorem dL_law_864 : decode cL_law 864 = .ok (.iaload, 1) := by decide +kernel
theorem dL_law_865 : decode cL_law 865 = .ok (.aload_n 0, 1) := by decide +kernel
theorem dL_law_866 : decode cL_law 866 = .ok (.iload_n 3, 1) := by decide +kernel
theorem dL_law_867 : decode cL_law 867 = .ok (.iconst 2, 1) := by decide +kernel
theorem dL_law_868 : decode cL_law 868 = .ok (.iadd, 1) := by decide +kernel
theorem dL_law_869 : decode cL_law 869 = .ok (.iaload, 1) := by decide +kernel
theorem dL_law_870 : decode cL_law 870 = .ok (.invokevirtual 100, 3) := by decide +kernel
theorem dL_law_873 : decode cL_law 873 = .ok (.aload_n 2, 1) := by decide +kernel
theorem dL_law_874 : decode cL_law 874 = .ok (.aload_n 0, 1) := by decide +kernel
theorem dL_law_875 : decode cL_law 875 = .ok (.iload_n 3, 1) := by decide +kernel
theorem dL_law_876 : decode cL_law 876 = .ok (.iconst 1, 1) := by decide +kernel
theorem dL_law_877 : decode cL_law 877 = .ok (.iadd, 1) := by decide +kernel
theorem dL_law_878 : decode cL_law 878 = .ok (.iaload, 1) := by decide +kernel
theorem dL_law_879 : decode cL_law 879 = .ok (.aload_n 0, 1) := by decide +kernel
theorem dL_law_880 : decode cL_law 880 = .ok (.iload_n 3, 1) := by decide +kernel
theorem dL_law_881 : decode cL_law 881 = .ok (.iconst 2, 1) := by decide +kernel
theorem dL_law_882 : decode cL_law 882 = .ok (.iadd, 1) := by decide +kernel
theorem dL_law_883 : decode cL_law 883 = .ok (.iaload, 1) := by decide +kernel
theorem dL_law_884 : decode cL_law 884 = .ok (.invokevirtual 103, 3) := by decide +kernel
theorem dL_law_887 : decode cL_law 887 = .ok (.if_icmp .eq 295, 3) := by decide +kernel
theorem dL_law_890 : decode cL_law 890 = .ok (.iconst 0, 1) := by decide +kernel
theorem dL_law_891 : decode cL_law 891 = .ok (.ireturn, 1) := by decide +kernel
theorem dL_law_892 : decode cL_law 892 = .ok (.aload_n 1, 1) := by decide +kernel
theorem dL_law_893 : decode cL_law 893 = .ok (.aload_n 0, 1) := by decide +kernel
theorem dL_law_894 : decode cL_law 894 = .ok (.iload_n 3, 1) := by decide +kernel
theorem dL_law_895 : decode cL_law 895 = .ok (.iconst 1, 1) := by decide +kernel
theorem dL_law_896 : decode cL_law 896 = .ok (.iadd, 1) := by decide +kernel
theorem dL_law_897 : decode cL_law 897 = .ok (.iaload, 1) := by decide +kernel
theorem dL_law_898 : decode cL_law 898 = .ok (.aload_n 0, 1) := by decide +kernel
theorem dL_law_899 : decode cL_law 899 = .ok (.iload_n 3, 1) := by decide +kernel
theorem dL_law_900 : decode cL_law 900 = .ok (.iconst 2, 1) := by decide +kernel
theorem dL_law_901 : decode cL_law 901 = .ok (.iadd, 1) := by decide +kernel
theorem dL_law_902 : decode cL_law 902 = .ok (.iaload, 1) := by decide +kernel
theorem dL_law_903 : decode cL_law 903 = .ok (.invokevirtual 104, 3) := by decide +kernel
theorem dL_law_906 : decode cL_law 906 = .ok (.aload_n 2, 1) := by decide +kernel
theorem dL_law_907 : decode cL_law 907 = .ok (.aload_n 0, 1) := by decide +kernel
theorem dL_law_908 : decode cL_law 908 = .ok (.iload_n 3, 1) := by decide +kernel
theorem dL_law_909 : decode cL_law 909 = .ok (.iconst 1, 1) := by decide +kernel
theorem dL_law_910 : decode cL_law 910 = .ok (.iadd, 1) := by decide +kernel
theorem dL_law_911 : decode cL_law 911 = .ok (.iaload, 1) := by decide +kernel
theorem dL_law_912 : decode cL_law 912 = .ok (.aload_n 0, 1) := by decide +kernel
theorem dL_law_913 : decode cL_law 913 = .ok (.iload_n 3, 1) := by decide +kernel
theorem dL_law_914 : decode cL_law 914 = .ok (.iconst 2, 1) := by decide +kernel
theorem dL_law_915 : decode cL_law 915 = .ok (.iadd, 1) := by decide +kernel
theorem dL_law_916 : decode cL_law 916 = .ok (.iaload, 1) := by decide +kernel
theorem dL_law_917 : decode cL_law 917 = .ok (.invokevirtual 107, 3) := by decide +kernel
theorem dL_law_920 : decode cL_law 920 = .ok (.if_icmp .eq 262, 3) := by decide +kernel
theorem dL_law_923 : decode cL_law 923 = .ok (.iconst 0, 1) := by decide +kernel
theorem dL_law_924 : decode cL_law 924 = .ok (.ireturn, 1) := by decide +kernel
theorem dL_law_925 : decode cL_law 925 = .ok (.aload_n 1, 1) := by decide +kernel
theorem dL_law_926 : decode cL_law 926 = .ok (.aload_n 0, 1) := by decide +kernel
theorem dL_law_927 : decode cL_law 927 = .ok (.iload_n 3, 1) := by decide +kernel
theorem dL_law_928 : decode cL_law 928 = .ok (.iconst 1, 1) := by decide +kernel
theorem dL_law_929 : decode cL_law 929 = .ok (.iadd, 1) := by decide +kernel
theorem dL_law_930 : decode cL_law 930 = .ok (.iaload, 1) := by decide +kernel
theorem dL_law_931 : decode cL_law 931 = .ok (.invokevirtual 108, 3) := by decide +kernel
theorem dL_law_934 : decode cL_law 934 = .ok (.aload_n 2, 1) := by decide +kernel
theorem dL_law_935 : decode cL_law 935 = .ok (.aload_n 0, 1) := by decide +kernel
theorem dL_law_936 : decode cL_law 936 = .ok (.iload_n 3, 1) := by decide +kernel
theorem dL_law_937 : decode cL_law 937 = .ok (.iconst 1, 1) := by decide +kernel
theorem dL_law_938 : decode cL_law 938 = .ok (.iadd, 1) := by decide +kernel
theorem dL_law_939 : decode cL_law 939 = .ok (.iaload, 1) := by decide +kernel
theorem dL_law_940 : decode cL_law 940 = .ok (.invokevirtual 111, 3) := by decide +kernel
theorem dL_law_943 : decode cL_law 943 = .ok (.if_icmp .eq 239, 3) := by decide +kernel
theorem dL_law_946 : decode cL_law 946 = .ok (.iconst 0, 1) := by decide +kernel
theorem dL_law_947 : decode cL_law 947 = .ok (.ireturn, 1) := by decide +kernel
theorem dL_law_948 : decode cL_law 948 = .ok (.aload_n 1, 1) := by decide +kernel
theorem dL_law_949 : decode cL_law 949 = .ok (.aload_n 0, 1) := by decide +kernel
theorem dL_law_950 : decode cL_law 950 = .ok (.iload_n 3, 1) := by decide +kernel
theorem dL_law_951 : decode cL_law 951 = .ok (.iconst 1, 1) := by decide +kernel
theorem dL_law_952 : decode cL_law 952 = .ok (.iadd, 1) := by decide +kernel
theorem dL_law_953 : decode cL_law 953 = .ok (.iaload, 1) := by decide +kernel
theorem dL_law_954 : decode cL_law 954 = .ok (.invokevirtual 112, 3) := by decide +kernel
theorem dL_law_957 : decode cL_law 957 = .ok (.aload_n 2, 1) := by decide +kernel
theorem dL_law_958 : decode cL_law 958 = .ok (.aload_n 0, 1) := by decide +kernel
theorem dL_law_959 : decode cL_law 959 = .ok (.iload_n 3, 1) := by decide +kernel
theorem dL_law_960 : decode cL_law 960 = .ok (.iconst 1, 1) := by decide +kernel
theorem dL_law_961 : decode cL_law 961 = .ok (.iadd, 1) := by decide +kernel
theorem dL_law_962 : decode cL_law 962 = .ok (.iaload, 1) := by decide +kernel
theorem dL_law_963 : decode cL_law 963 = .ok (.invokevirtual 115, 3) := by decide +kernel
theorem dL_law_966 : decode cL_law 966 = .ok (.if_icmp .eq 216, 3) := by decide +kernel
theorem dL_law_969 : decode cL_law 969 = .ok (.iconst 0, 1) := by decide +kernel
theorem dL_law_970 : decode cL_law 970 = .ok (.ireturn, 1) := by decide +kernel
theorem dL_law_971 : decode cL_law 971 = .ok (.aload_n 1, 1) := by decide +kernel
theorem dL_law_972 : decode cL_law 972 = .ok (.aload_n 0, 1) := by decide +kernel
theorem dL_law_973 : decode cL_law 973 = .ok (.iload_n 3, 1) := by decide +kernel
theorem dL_law_974 : decode cL_law 974 = .ok (.iconst 1, 1) := by decide +kernel
theorem dL_law_975 : decode cL_law 975 = .ok (.iadd, 1) := by decide +kernel
theorem dL_law_976 : decode cL_law 976 = .ok (.iaload, 1) := by decide +kernel
theorem dL_law_977 : decode cL_law 977 = .ok (.invokevirtual 116, 3) := by decide +kernel
theorem dL_law_980 : decode cL_law 980 = .ok (.aload_n 2, 1) := by decide +kernel
theorem dL_law_981 : decode cL_law 981 = .ok (.aload_n 0, 1) := by decide +kernel
theorem dL_law_982 : decode cL_law 982 = .ok (.iload_n 3, 1) := by decide +kernel
theorem dL_law_983 : decode cL_law 983 = .ok (.iconst 1, 1) := by decide +kernel
theorem dL_law_984 : decode cL_law 984 = .ok (.iadd, 1) := by decide +kernel
theorem dL_law_985 : decode cL_law 985 = .ok (.iaload, 1) := by decide +kernel
theorem dL_law_986 : decode cL_law 986 = .ok (.invokevirtual 119, 3) := by decide +kernel
theorem dL_law_989 : decode cL_law 989 = .ok (.if_icmp .eq 193, 3) := by decide +kernel
theorem dL_law_992 : decode cL_law 992 = .ok (.iconst 0, 1) := by decide +kernel
theorem dL_law_993 : decode cL_law 993 = .ok (.ireturn, 1) := by decide +kernel
theorem dL_law_994 : decode cL_law 994 = .ok (.aload_n 1, 1) := by decide +kernel
theorem dL_law_995 : decode cL_law 995 = .ok (.aload_n 0, 1) := by decide +kernel
theorem dL_law_996 : decode cL_law 996 = .ok (.iload_n 3, 1) := by decide +kernel
theorem dL_law_997 : decode cL_law 997 = .ok (.iconst 1, 1) := by decide +kernel
theorem dL_law_998 : decode cL_law 998 = .ok (.iadd, 1) := by decide +kernel
theorem dL_law_999 : decode cL_law 999 = .ok (.iaload, 1) := by decide +kernel
theorem dL_law_1000 : decode cL_law 1000 = .ok (.invokevirtual 120, 3) := by decide +kernel
theorem dL_law_1003 : decode cL_law 1003 = .ok (.aload_n 2, 1) := by decide +kernel
theorem dL_law_1004 : decode cL_law 1004 = .ok (.aload_n 0, 1) := by decide +kernel
theorem dL_law_1005 : decode cL_law 1005 = .ok (.iload_n 3, 1) := by decide +kernel
theorem dL_law_1006 : decode cL_law 1006 = .ok (.iconst 1, 1) := by decide +kernel
theorem dL_law_1007 : decode cL_law 1007 = .ok (.iadd, 1) := by decide +kernel
theorem dL_law_1008 : decode cL_law 1008 = .ok (.iaload, 1) := by decide +kernel
theorem dL_law_1009 : decode cL_law 1009 = .ok (.invokevirtual 123, 3) := by decide +kernel
theorem dL_law_1012 : decode cL_law 1012 = .ok (.if_icmp .eq 170, 3) := by decide +kernel
theorem dL_law_1015 : decode cL_law 1015 = .ok (.iconst 0, 1) := by decide +kernel
theorem dL_law_1016 : decode cL_law 1016 = .ok (.ireturn, 1) := by decide +kernel
theorem dL_law_1017 : decode cL_law 1017 = .ok (.aload_n 1, 1) := by decide +kernel
theorem dL_law_1018 : decode cL_law 1018 = .ok (.aload_n 0, 1) := by decide +kernel
theorem dL_law_1019 : decode cL_law 1019 = .ok (.iload_n 3, 1) := by decide +kernel
theorem dL_law_1020 : decode cL_law 1020 = .ok (.iconst 1, 1) := by decide +kernel
theorem dL_law_1021 : decode cL_law 1021 = .ok (.iadd, 1) := by decide +kernel
theorem dL_law_1022 : decode cL_law 1022 = .ok (.iaload, 1) := by decide +kernel
theorem dL_law_1023 : decode cL_law 1023 = .ok (.aload_n 0, 1) := by decide +kernel
theorem dL_law_1024 : decode cL_law 1024 = .ok (.iload_n 3, 1) := by decide +kernel
theorem dL_law_1025 : decode cL_law 1025 = .ok (.iconst 2, 1) := by decide +kernel
theorem dL_law_1026 : decode cL_law 1026 = .ok (.iadd, 1) := by decide +kernel
theorem dL_law_1027 : decode cL_law 1027 = .ok (.iaload, 1) := by decide +kernel
theorem dL_law_1028 : decode cL_law 1028 = .ok (.aload_n 0, 1) := by decide +kernel
theorem dL_law_1029 : decode cL_law 1029 = .ok (.iload_n 3, 1) := by decide +kernel
theorem dL_law_1030 : decode cL_law 1030 = .ok (.iconst 3, 1) := by decide +kernel
theorem dL_law_1031 : decode cL_law 1031 = .ok (.iadd, 1) := by decide +kernel
theorem dL_law_1032 : decode cL_law 1032 = .ok (.iaload, 1) := by decide +kernel
theorem dL_law_1033 : decode cL_law 1033 = .ok (.invokevirtual 124, 3) := by decide +kernel
theorem dL_law_1036 : decode cL_law 1036 = .ok (.aload_n 2, 1) := by decide +kernel
theorem dL_law_1037 : decode cL_law 1037 = .ok (.aload_n 0, 1) := by decide +kernel
theorem dL_law_1038 : decode cL_law 1038 = .ok (.iload_n 3, 1) := by decide +kernel
theorem dL_law_1039 : decode cL_law 1039 = .ok (.iconst 1, 1) := by decide +kernel
theorem dL_law_1040 : decode cL_law 1040 = .ok (.iadd, 1) := by decide +kernel
theorem dL_law_1041 : decode cL_law 1041 = .ok (.iaload, 1) := by decide +kernel
theorem dL_law_1042 : decode cL_law 1042 = .ok (.aload_n 0, 1) := by decide +kernel
theorem dL_law_1043 : decode cL_law 1043 = .ok (.iload_n 3, 1) := by decide +kernel
theorem dL_law_1044 : decode cL_law 1044 = .ok (.iconst 2, 1) := by decide +kernel
theorem dL_law_1045 : decode cL_law 1045 = .ok (.iadd, 1) := by decide +kernel
theorem dL_law_1046 : decode cL_law 1046 = .ok (.iaload, 1) := by decide +kernel
theorem dL_law_1047 : decode cL_law 1047 = .ok (.aload_n 0, 1) := by decide +kernel
theorem dL_law_1048 : decode cL_law 1048 = .ok (.iload_n 3, 1) := by decide +kernel
theorem dL_law_1049 : decode cL_law 1049 = .ok (.iconst 3, 1) := by decide +kernel
theorem dL_law_1050 : decode cL_law 1050 = .ok (.iadd, 1) := by decide +kernel
theorem dL_law_1051 : decode cL_law 1051 = .ok (.iaload, 1) := by decide +kernel
theorem dL_law_1052 : decode cL_law 1052 = .ok (.invokevirtual 127, 3) := by decide +kernel
theorem dL_law_1055 : decode cL_law 1055 = .ok (.if_icmp .eq 127, 3) := by decide +kernel
theorem dL_law_1058 : decode cL_law 1058 = .ok (.iconst 0, 1) := by decide +kernel
theorem dL_law_1059 : decode cL_law 1059 = .ok (.ireturn, 1) := by decide +kernel
theorem dL_law_1060 : decode cL_law 1060 = .ok (.aload_n 1, 1) := by decide +kernel
theorem dL_law_1061 : decode cL_law 1061 = .ok (.aload_n 0, 1) := by decide +kernel
theorem dL_law_1062 : decode cL_law 1062 = .ok (.iload_n 3, 1) := by decide +kernel
theorem dL_law_1063 : decode cL_law 1063 = .ok (.iconst 1, 1) := by decide +kernel
theorem dL_law_1064 : decode cL_law 1064 = .ok (.iadd, 1) := by decide +kernel
theorem dL_law_1065 : decode cL_law 1065 = .ok (.iaload, 1) := by decide +kernel
theorem dL_law_1066 : decode cL_law 1066 = .ok (.aload_n 0, 1) := by decide +kernel
theorem dL_law_1067 : decode cL_law 1067 = .ok (.iload_n 3, 1) := by decide +kernel
theorem dL_law_1068 : decode cL_law 1068 = .ok (.iconst 2, 1) := by decide +kernel
theorem dL_law_1069 : decode cL_law 1069 = .ok (.iadd, 1) := by decide +kernel
theorem dL_law_1070 : decode cL_law 1070 = .ok (.iaload, 1) := by decide +kernel
theorem dL_law_1071 : decode cL_law 1071 = .ok (.invokevirtual 128, 3) := by decide +kernel
theorem dL_law_1074 : decode cL_law 1074 = .ok (.aload_n 2, 1) := by decide +kernel
theorem dL_law_1075 : decode cL_law 1075 = .ok (.aload_n 0, 1) := by decide +kernel
theorem dL_law_1076 : decode cL_law 1076 = .ok (.iload_n 3, 1) := by decide +kernel
theorem dL_law_1077 : decode cL_law 1077 = .ok (.iconst 1, 1) := by decide +kernel
theorem dL_law_1078 : decode cL_law 1078 = .ok (.iadd, 1) := by decide +kernel
theorem dL_law_1079 : decode cL_law 1079 = .ok (.iaload, 1) := by decide +kernel
theorem dL_law_1080 : decode cL_law 1080 = .ok (.aload_n 0, 1) := by decide +kernel
theorem dL_law_1081 : decode cL_law 1081 = .ok (.iload_n 3, 1) := by decide +kernel
theorem dL_law_1082 : decode cL_law 1082 = .ok (.iconst 2, 1) := by decide +kernel
theorem dL_law_1083 : decode cL_law 1083 = .ok (.iadd, 1) := by decide +kernel
theorem dL_law_1084 : decode cL_law 1084 = .ok (.iaload, 1) := by decide +kernel
theorem dL_law_1085 : decode cL_law 1085 = .ok (.invokevirtual 131, 3) := by decide +kernel
theorem dL_law_1088 : decode cL_law 1088 = .ok (.if_icmp .eq 94, 3) := by decide +kernel
theorem dL_law_1091 : decode cL_law 1091 = .ok (.iconst 0, 1) := by decide +kernel
theorem dL_law_1092 : decode cL_law 1092 = .ok (.ireturn, 1) := by decide +kernel
theorem dL_law_1093 : decode cL_law 1093 = .ok (.aload_n 1, 1) := by decide +kernel
theorem dL_law_1094 : decode cL_law 1094 = .ok (.aload_n 0, 1) := by decide +kernel
theorem dL_law_1095 : decode cL_law 1095 = .ok (.iload_n 3, 1) := by decide +kernel
theorem dL_law_1096 : decode cL_law 1096 = .ok (.iconst 1, 1) := by decide +kernel
theorem dL_law_1097 : decode cL_law 1097 = .ok (.iadd, 1) := by decide +kernel
theorem dL_law_1098 : decode cL_law 1098 = .ok (.iaload, 1) := by decide +kernel
theorem dL_law_1099 : decode cL_law 1099 = .ok (.aload_n 0, 1) := by decide +kernel
theorem dL_law_1100 : decode cL_law 1100 = .ok (.iload_n 3, 1) := by decide +kernel
theorem dL_law_1101 : decode cL_law 1101 = .ok (.iconst 2, 1) := by decide +kernel
theorem dL_law_1102 : decode cL_law 1102 = .ok (.iadd, 1) := by decide +kernel
theorem dL_law_1103 : decode cL_law 1103 = .ok (.iaload, 1) := by decide +kernel
theorem dL_law_1104 : decode cL_law 1104 = .ok (.aload_n 0, 1) := by decide +kernel
theorem dL_law_1105 : decode cL_law 1105 = .ok (.iload_n 3, 1) := by decide +kernel
theorem dL_law_1106 : decode cL_law 1106 = .ok (.iconst 3, 1) := by decide +kernel
theorem dL_law_1107 : decode cL_law 1107 = .ok (.iadd, 1) := by decide +kernel
theorem dL_law_1108 : decode cL_law 1108 = .ok (.iaload, 1) := by decide +kernel
theorem dL_law_1109 : decode cL_law 1109 = .ok (.invokevirtual 132, 3) := by decide +kernel
theorem dL_law_1112 : decode cL_law 1112 = .ok (.aload_n 2, 1) := by decide +kernel
theorem dL_law_1113 : decode cL_law 1113 = .ok (.aload_n 0, 1) := by decide +kernel
theorem dL_law_1114 : decode cL_law 1114 = .ok (.iload_n 3, 1) := by decide +kernel
theorem dL_law_1115 : decode cL_law 1115 = .ok (.iconst 1, 1) := by decide +kernel
theorem dL_law_1116 : decode cL_law 1116 = .ok (.iadd, 1) := by decide +kernel
theorem dL_law_1117 : decode cL_law 1117 = .ok (.iaload, 1) := by decide +kernel
theorem dL_law_1118 : decode cL_law 1118 = .ok (.aload_n 0, 1) := by decide +kernel
theorem dL_law_1119 : decode cL_law 1119 = .ok (.iload_n 3, 1) := by decide +kernel
theorem dL_law_1120 : decode cL_law 1120 = .ok (.iconst 2, 1) := by decide +kernel
theorem dL_law_1121 : decode cL_law 1121 = .ok (.iadd, 1) := by decide +kernel
theorem dL_law_1122 : decode cL_law 1122 = .ok (.iaload, 1) := by decide +kernel
theorem dL_law_1123 : decode cL_law 1123 = .ok (.aload_n 0, 1) := by decide +kernel
theorem dL_law_1124 : decode cL_law 1124 = .ok (.iload_n 3, 1) := by decide +kernel
theorem dL_law_1125 : decode cL_law 1125 = .ok (.iconst 3, 1) := by decide +kernel
theorem dL_law_1126 : decode cL_law 1126 = .ok (.iadd, 1) := by decide +kernel
theorem dL_law_1127 : decode cL_law 1127 = .ok (.iaload, 1) := by decide +kernel
theorem dL_law_1128 : decode cL_law 1128 = .ok (.invokevirtual 135, 3) := by decide +kernel
theorem dL_law_1131 : decode cL_law 1131 = .ok (.if_icmp .eq 51, 3) := by decide +kernel
theorem dL_law_1134 : decode cL_law 1134 = .ok (.iconst 0, 1) := by decide +kernel
theorem dL_law_1135 : decode cL_law 1135 = .ok (.ireturn, 1) := by decide +kernel
theorem dL_law_1136 : decode cL_law 1136 = .ok (.aload_n 1, 1) := by decide +kernel
theorem dL_law_1137 : decode cL_law 1137 = .ok (.aload_n 0, 1) := by decide +kernel
theorem dL_law_1138 : decode cL_law 1138 = .ok (.iload_n 3, 1) := by decide +kernel
theorem dL_law_1139 : decode cL_law 1139 = .ok (.iconst 1, 1) := by decide +kernel
theorem dL_law_1140 : decode cL_law 1140 = .ok (.iadd, 1) := by decide +kernel
theorem dL_law_1141 : decode cL_law 1141 = .ok (.iaload, 1) := by decide +kernel
theorem dL_law_1142 : decode cL_law 1142 = .ok (.invokevirtual 136, 3) := by decide +kernel
theorem dL_law_1145 : decode cL_law 1145 = .ok (.aload_n 2, 1) := by decide +kernel
theorem dL_law_1146 : decode cL_law 1146 = .ok (.aload_n 0, 1) := by decide +kernel
theorem dL_law_1147 : decode cL_law 1147 = .ok (.iload_n 3, 1) := by decide +kernel
theorem dL_law_1148 : decode cL_law 1148 = .ok (.iconst 1, 1) := by decide +kernel
theorem dL_law_1149 : decode cL_law 1149 = .ok (.iadd, 1) := by decide +kernel
theorem dL_law_1150 : decode cL_law 1150 = .ok (.iaload, 1) := by decide +kernel
theorem dL_law_1151 : decode cL_law 1151 = .ok (.invokevirtual 139, 3) := by decide +kernel
theorem dL_law_1154 : decode cL_law 1154 = .ok (.if_icmp .eq 28, 3) := by decide +kernel
theorem dL_law_1157 : decode cL_law 1157 = .ok (.iconst 0, 1) := by decide +kernel
theorem dL_law_1158 : decode cL_law 1158 = .ok (.ireturn, 1) := by decide +kernel
theorem dL_law_1159 : decode cL_law 1159 = .ok (.aload_n 1, 1) := by decide +kernel
theorem dL_law_1160 : decode cL_law 1160 = .ok (.aload_n 0, 1) := by decide +kernel
theorem dL_law_1161 : decode cL_law 1161 = .ok (.iload_n 3, 1) := by decide +kernel
theorem dL_law_1162 : decode cL_law 1162 = .ok (.iconst 1, 1) := by decide +kernel
theorem dL_law_1163 : decode cL_law 1163 = .ok (.iadd, 1) := by decide +kernel
theorem dL_law_1164 : decode cL_law 1164 = .ok (.iaload, 1) := by decide +kernel
theorem dL_law_1165 : decode cL_law 1165 = .ok (.invokevirtual 140, 3) := by decide +kernel
theorem dL_law_1168 : decode cL_law 1168 = .ok (.aload_n 2, 1) := by decide +kernel
theorem dL_law_1169 : decode cL_law 1169 = .ok (.aload_n 0, 1) := by decide +kernel
theorem dL_law_1170 : decode cL_law 1170 = .ok (.iload_n 3, 1) := by decide +kernel
theorem dL_law_1171 : decode cL_law 1171 = .ok (.iconst 1, 1) := by decide +kernel
theorem dL_law_1172 : decode cL_law 1172 = .ok (.iadd, 1) := by decide +kernel
theorem dL_law_1173 : decode cL_law 1173 = .ok (.iaload, 1) := by decide +kernel
theorem dL_law_1174 : decode cL_law 1174 = .ok (.invokevirtual 143, 3) := by decide +kernel
theorem dL_law_1177 : decode cL_law 1177 = .ok (.if_icmp .eq 5, 3) := by decide +kernel
theorem dL_law_1180 : decode cL_law 1180 = .ok (.iconst 0, 1) := by decide +kernel
theorem dL_law_1181 : decode cL_law 1181 = .ok (.ireturn, 1) := by decide +kernel
theorem dL_law_1182 : decode cL_law 1182 = .ok (.iinc 3 4, 3) := by decide +kernel
theorem dL_law_1185 : decode cL_law 1185 = .ok (.goto (-1167), 3) := by decide +kernel
theorem dL_law_1188 : decode cL_law 1188 = .ok (.iconst 1, 1) := by decide +kernel
theorem dL_law_1189 : decode cL_law 1189 = .ok (.ireturn, 1) := by decide +kernel
end
section
def cb_gw : List Cond := lw_tbl.filter goodWord
theorem cb_mem {w : Cond} (i : Nat) (h : lw_tbl[i]? = some w) (hg : goodWord w = true) : w ∈ cb_gw := List.mem_filter.mpr ⟨List.mem_of_getElem? h, hg⟩
theorem cb_good {w : Cond} (h : w ∈ cb_gw) : (w.onTables && w.keeps) = true ∨ ∃ ty, w = .arrayClass ty := good_of_word (List.mem_filter.mp h).2
theorem cb_gin {w : Cond} (h : w ∈ cb_gw) : GoodIn cb_gw (w :: cb_gw) := by
  intro v hv
  rcases List.mem_cons.mp hv with rfl | hv
  · exact ⟨h, cb_good h⟩
  · exact ⟨hv, cb_good hv⟩
def cb_isN : Cond → Bool
  | .fieldLinkNest _ _ _ _ _ _ => true
  | .methodLinkNest _ _ _ _ => true
  | _ => false
def cb_nw : List Cond := lw_tbl.filter cb_isN
theorem cb_nmem {w : Cond} (i : Nat) (h : lw_tbl[i]? = some w) (hg : cb_isN w = true) : w ∈ cb_nw := List.mem_filter.mpr ⟨List.mem_of_getElem? h, hg⟩
def cb_Nw (U : State) : Prop := ∀ w ∈ cb_nw, va_Nw w U
theorem cb_Nw.warm {s U : State} (hW : s.WarmedH U.vm) (h : cb_Nw s) : cb_Nw U := by
  intro w hw
  have h1 := h w hw
  have h2 := (List.mem_filter.mp hw).2
  cases w <;> first | (exact va_Nw.warmF hW h1) | (exact va_Nw.warmM hW h1) | (exact absurd h2 (by simp [cb_isN]))
def cb_AOA (U : State) : Prop := (Cond.arrayOver (.array .int)).before #[] U = true
abbrev cb_V : Type := Int32 ⊕ Option Nat
abbrev cb_W : Type := (Nat → Bool) × (Nat → Nat → Int32) × (Nat → Nat → Option Nat)
abbrev cb_G : Type := (Nat → ClassId) × (Nat → Nat → Nat) × (Nat → ClassId) × (Nat → Nat) × Nat × (Nat → Int32)
def cb_vv (ad : Nat → Nat) (v : cb_V) : Value := match v with
  | .inl x => .int x
  | .inr r => va_rf (r.map ad)
def cb_cl : List vw_C := [(RX0, TX0, 4), (RX1, TX1, 10), (RX2, TX2, 5), (RX3, TX3, 2), (RX4, TX4, 4), (RX5, TX5, 2), (RX6, TX6, 3), (RX7, TX7, 2), (RX8, TX8, 4), (RX9, TX9, 6), (RX10, TX10, 12), (RX11, TX11, 41)]
def cb_nf (ci : Nat) : Nat := ([4, 10, 5, 2, 4, 2, 3, 2, 4, 6, 12, 41] : List Nat).getD ci 0
def cb_tt (ci : Nat) : Nat → FieldType := match ci with
  | 0 => tyX0
  | 1 => tyX1
  | 2 => tyX2
  | 3 => tyX3
  | 4 => tyX4
  | 5 => tyX5
  | 6 => tyX6
  | 7 => tyX7
  | 8 => tyX8
  | 9 => tyX9
  | 10 => tyX10
  | _ => tyX11
def cb_ir (ci k : Nat) : Bool := match cb_tt ci k with
  | .int => false
  | .boolean => false
  | _ => true
def cb_sh (r : Nat) : Nat × Nat :=
  if r < 46 then ([(0, 10), (0, 4), (0, 5), (3, 20), (4, 200), (1, 8), (0, 8), (0, 7), (5, 10), (1, 10), (5, 10), (5, 10), (1, 16), (5, 6), (0, 3), (1, 5), (1, 16), (9, 0), (9, 0), (9, 0), (0, 1), (1, 64), (1, 64), (1, 8), (1, 64), (1, 64), (0, 6), (1, 16), (9, 0), (9, 0), (0, 1), (1, 64), (1, 64), (1, 8), (1, 64), (1, 64), (0, 6), (1, 16), (9, 0), (9, 0), (0, 0), (9, 0), (0, 3), (1, 5), (0, 3), (1, 5)] : List (Nat × Nat)).getD r (9, 0)
  else if r < 100 then (9, 0)
  else if r < 110 then (1, 16)
  else if r < 130 then (1, 10)
  else if r < 136 then (1, 16)
  else if r < 200 then (9, 0)
  else if r < 320 then (if (r - 200) % 6 = 0 then (0, 9) else (1, 64))
  else if r < 400 then (9, 0)
  else if r < 600 then (0, 2)
  else if r < 1000 then (9, 0)
  else ([(0, 11), (9, 0), (9, 0), (1, 160), (1, 10), (2, 100), (1, 100), (9, 0), (9, 0), (9, 0), (2, 64), (1, 64), (2, 8), (9, 0), (1, 64), (1, 1280), (1, 1280), (1, 1280), (1, 1280), (1, 1280), (2, 20), (9, 0), (1, 200), (1, 200), (1, 200), (1, 200), (1, 200), (9, 0), (1, 8), (9, 0), (9, 0), (1, 16), (1, 5), (1, 5), (9, 0), (1, 16), (1, 5), (9, 0), (9, 0), (9, 0), (9, 0), (9, 0)] : List (Nat × Nat)).getD (r - 1000) (9, 0)
def cb_fv (w : cb_W) (ci r k : Nat) : cb_V := if cb_ir ci k = true then .inr (w.2.2 r k) else .inl (w.2.1 r k)
def cb_fs (ad : Nat → Nat) (w : cb_W) (ci r : Nat) : List Value := (List.range (cb_nf ci)).map (fun k => cb_vv ad (cb_fv w ci r k))
def cb_en (g : cb_G) (ad : Nat → Nat) (w : cb_W) (r : Nat) : va_E :=
  if (cb_sh r).1 = 0 then .inr ((cb_sh r).2, cb_fs ad w (cb_sh r).2 r)
  else if (cb_sh r).1 ≤ 2 then .inl (g.2.2.1 (cb_sh r).1, (cb_sh r).2, .inl (w.2.1 r))
  else .inl (g.2.2.1 (cb_sh r).1, (cb_sh r).2, .inr (.inr (.inr (.inr (fun j => (w.2.2 r j).map ad)))))
def cb_ls (g : cb_G) (ad : Nat → Nat) (w : cb_W) (L : List Nat) : va_W := L.map (fun r => (ad r, cb_en g ad w r))
def cb_A (z : Nat) : Nat → Prop := fun q => z ≤ q
def cb_Wo (g : cb_G) (z : Nat) (ad : Nat → Nat) (w : cb_W) (H : Heap) : Prop :=
  ∃ L : List Nat, (∀ r, r ∈ L ↔ w.1 r = true) ∧ va_P (g.1, g.2.1) cb_cl (cb_ls g ad w L) H ∧ va_D (cb_A z) (cb_ls g ad w L) ∧ (∀ r, w.1 r = true → ∀ k q, w.2.2 r k = some q → w.1 q = true) ∧ (∀ j, j < 4 → ad (900 + j) = g.2.2.2.1 j ∧ w.1 (900 + j) = false)
def cb_ty (g : cb_G) : List (ClassId × FieldType) := [(g.2.2.1 1, .int), (g.2.2.1 2, .boolean), (g.2.2.1 3, .object "CutBoard$Sheet"), (g.2.2.1 4, .object "CutBoard$Entry"), (g.2.2.1 5, .array .int)]
def cb_ro (g : cb_G) (j : Nat) : Nat × (Nat → Int32) := match j with
  | 0 => (5, fun k => ([0xAAAAAAAA, 0xCCCCCCCC, 0xF0F0F0F0, 0xFF00FF00, 0xFFFF0000] : List Int32).getD k 0)
  | 1 => (4, fun k => ([-1, 1, 0, 0] : List Int32).getD k 0)
  | 2 => (4, fun k => ([0, 0, -1, 1] : List Int32).getD k 0)
  | _ => (g.2.2.2.2.1, g.2.2.2.2.2)
def cb_Ev (g : cb_G) (z : Nat) (U : State) : Prop :=
  va_K (g.1, g.2.1) cb_cl (cb_ty g) U ∧ z ≤ U.heap.size ∧ cb_Nw U ∧ va_AO "CutBoard$Sheet" U ∧ va_AO "CutBoard$Entry" U ∧ cb_AOA U ∧
  va_Z "CutBoard$RowSearch" "HOLDING" "[I" (.ref (g.2.2.2.1 0)) (cb_A z) U U.heap ∧ va_Z "CutBoard$Board" "ROW_STEPS" "[I" (.ref (g.2.2.2.1 1)) (cb_A z) U U.heap ∧ va_Z "CutBoard$Board" "COLUMN_STEPS" "[I" (.ref (g.2.2.2.1 2)) (cb_A z) U U.heap ∧
  (∀ j, j < 4 → va_T .int (g.2.2.2.1 j) (cb_ro g j).1 (fun k => .int ((cb_ro g j).2 k)) (cb_A z) U U.heap)
def cb_lh (ad : Nat → Nat) (ls : Array Slot) (n : Nat) (lv : List (Option cb_V)) : Prop := ls.size = n ∧ lv_wf ls ∧ ∀ (i : Nat) (v : cb_V), lv[i]? = some (some v) → ls[i]? = some (Slot.val (cb_vv ad v))
abbrev cb_K : Type := (Program × Launch × Env × Room × State) × (MethodId × Array Value × List Frame × Method × Code) × (cb_G × Nat) × ((Nat → Nat) × (Nat → Bool) × (State → Prop))
def cb_X (κ : cb_K) (w : cb_W) (ca sl pc : Nat) (lv : List (Option cb_V)) (st : List cb_V) : Prop :=
  ∀ (ad : Nat → Nat) (H : Heap) (locs : List Loc) (ls : Array Slot), cb_Wo κ.2.2.1.1 κ.2.2.1.2 ad w H → (∀ q, κ.2.2.2.2.1 q = true → ad q = κ.2.2.2.1 q) → va_S (cb_A κ.2.2.1.2) κ.1.2.2.2.2.heap H locs → cb_lh ad ls κ.2.1.2.2.2.2.maxLocals lv →
    W κ.1.1 κ.1.2.1 κ.1.2.2.1 κ.1.2.2.2.1 κ.1.2.2.2.2 κ.2.1.1 κ.2.1.2.1 κ.2.1.2.2.1 κ.2.1.2.2.2.1 κ.2.1.2.2.2.2 H locs ca sl κ.2.2.2.2.2 (F0 κ.2.1.1 pc ls (st.map (cb_vv ad)))
def cb_Ok (κ : cb_K) (cc : ByteArray) (nL : Nat) (own : String) (R : Room) : Prop :=
  κ.1.1.tables.exec = Jvm.exec ∧ κ.2.1.2.2.2.2.code = cc ∧ κ.2.1.2.2.2.2.maxLocals = nL ∧ κ.1.2.2.2.2.vm.findClass own = some κ.2.1.1.cls ∧ (∀ w ∈ cb_gw, w.before κ.2.1.2.1 κ.1.2.2.2.2 = true) ∧ cb_Ev κ.2.2.1.1 κ.2.2.1.2 κ.1.2.2.2.2 ∧ κ.1.2.2.2.1 = R ∧ κ.2.1.2.2.2.1.locks = false
def cb_Qt (g : cb_G) (z : Nat) (ad0 : Nat → Nat) (keep : Nat → Bool) (post : Option Int32 → cb_W → Prop) : Array Value → State → Outcome → State → Prop := fun _ st o t =>
  (∃ (r : Option Int32) (w : cb_W) (ad : Nat → Nat), o = .returned (r.map Value.int) ∧ post r w ∧ (∀ q, keep q = true → ad q = ad0 q) ∧ cb_Wo g z ad w t.heap) ∧ va_F (cb_A z) st t
def cb_Pc (g : cb_G) (z : Nat) (ad : Nat → Nat) (As : List cb_V) (w : cb_W) : Array Value → State → Prop := fun v U => v = (As.map (cb_vv ad)).toArray ∧ cb_Wo g z ad w U.heap ∧ cb_Ev g z U
def cb_Rt (κ : cb_K) (keep : Nat → Bool) (post : Option Int32 → cb_W → Prop) (mc ms : Nat) (ret : Option FieldType) : Prop :=
  κ.2.2.2.2.2 = MQ κ.2.1.2.2.1 (cb_Qt κ.2.2.1.1 κ.2.2.1.2 κ.2.2.2.1 κ.2.2.2.2.1 post) κ.2.1.2.1 κ.1.2.2.2.2 mc ms (cb_A κ.2.2.1.2) ∧ κ.2.1.2.2.2.1.sig.returnType = ret ∧ κ.2.2.2.2.1 = keep
def cb_rm (fr mc ms lo : Nat) : Room := { frames := fr, cells := mc, slots := ms, locals := lo }
def cb_Con (y : MethodName) (cc : ByteArray) (maxL : Nat) (ret : Option FieldType) (fr lo mc ms : Nat) (keep : Nat → Bool) (As : List cb_V) (w : cb_W) (post : Option Int32 → cb_W → Prop) : Prop :=
  ∀ (g : cb_G) (z : Nat) (l : Launch) (ad : Nat → Nat), Met l y (.code y cc maxL ret :: cb_gw) (cb_rm fr mc ms lo) (cb_Pc g z ad As w) (cb_Qt g z ad keep post) mc ms (cb_A z)
theorem cb_cat (ad : Nat → Nat) (v : cb_V) : (cb_vv ad v).category = 1 := by
  rcases v with x | r
  · rfl
  · cases r <;> rfl
theorem cb_slen (ad : Nat → Nat) : ∀ As : List cb_V, (lg_sl (As.map (cb_vv ad))).length = As.length
  | [] => rfl
  | a :: As => by
    have h := cb_slen ad As
    simp only [lg_sl] at h
    simp only [lg_sl, List.map_cons, List.flatMap_cons, cb_cat, List.length_append, List.length_cons, h]
    simp; omega
theorem cb_args (ad : Nat → Nat) : ∀ (As : List cb_V) (j i : Nat) (v : cb_V), As[i]? = some v → (j + i, cb_vv ad v) ∈ lv_args j (As.map (cb_vv ad))
  | [], j, i, v, h => by simp at h
  | a :: As, j, 0, v, h => by
    simp at h
    subst h
    simp [lv_args]
  | a :: As, j, i + 1, v, h => by
    simp at h
    have h2 := cb_args ad As (j + 1) i v h
    simp only [List.map_cons, lv_args, cb_cat]
    rw [show j + (i + 1) = j + 1 + i by omega]
    exact List.mem_cons_of_mem _ h2
def cb_l0 (As : List cb_V) (n : Nat) : List (Option cb_V) := As.map some ++ List.replicate (n - As.length) none
theorem cb_entry (ad : Nat → Nat) (As : List cb_V) {n : Nat} (h : As.length ≤ n) : cb_lh ad ((lg_sl (As.map (cb_vv ad)) ++ List.replicate (n - (lg_sl (As.map (cb_vv ad))).length) Slot.unset).toArray) n (cb_l0 As n) := by
  obtain ⟨h1, h2, h3⟩ := lv_entry (As.map (cb_vv ad)) (n := n) (by rw [cb_slen]; exact h)
  refine ⟨h1, h2, fun i v hv => ?_⟩
  have hi : As[i]? = some v := by
    unfold cb_l0 at hv
    by_cases hl : i < As.length
    · rw [List.getElem?_append_left (by simpa using hl), List.getElem?_map] at hv
      cases ha : As[i]? with
      | none => rw [ha] at hv; cases hv
      | some a => rw [ha] at hv; simp at hv; rw [hv]
    · rw [List.getElem?_append_right (by simpa using hl)] at hv
      have := List.eq_of_mem_replicate (List.mem_of_getElem? hv)
      cases this
  have := h3 _ (cb_args ad As 0 i v hi)
  simpa using this
theorem cb_con {y : MethodName} {cc : ByteArray} {maxL : Nat} {ret : Option FieldType} {fr lo mc ms : Nat} {keep : Nat → Bool} {As : List cb_V} {w : cb_W} {post : Option Int32 → cb_W → Prop} (hy : plainName y.cls = true) (hn : As.length ≤ maxL)
    (body : ∀ κ : cb_K, cb_Ok κ cc maxL y.cls (cb_rm fr mc ms lo) → cb_Rt κ keep post mc ms ret → κ.2.1.2.2.2.1.name = y.name → cb_X κ w 0 0 0 (cb_l0 As maxL) []) : cb_Con y cc maxL ret fr lo mc ms keep As w post := by
  intro g z l ad
  refine Met.ofW (cc := cc) (maxL := maxL) (ret := ret) hy rfl ?_
  intro p e s m args below meth c s₁ B hml hv
  obtain ⟨rfl, hW, hE⟩ := hv
  have hts := atoms_spec (ws := .code y cc maxL ret :: cb_gw) B.pre
  have h := body ((p, l, e, (headSpec (.code y cc maxL ret :: cb_gw) (cb_rm fr mc ms lo)).room, s), (m, (As.map (cb_vv ad)).toArray, below, meth, c), (g, z), (ad, keep, MQ below (cb_Qt g z ad keep post) (As.map (cb_vv ad)).toArray s mc ms (cb_A z)))
    ⟨B.exec, B.bytes, hml, findClass_of_methodNamed B.named, fun w hw => hts w (List.mem_cons_of_mem _ hw), hE, rfl, B.notSynchronized⟩ ⟨rfl, B.returns, rfl⟩ (name_of_methodNamed B.named B.method).1
    ad s.heap [] ((lg_sl (As.map (cb_vv ad)) ++ List.replicate (maxL - (lg_sl (As.map (cb_vv ad))).length) Slot.unset).toArray) hW (fun _ _ => rfl) va_S.rf (by rw [hml]; exact cb_entry ad As hn)
  rw [lg_entry_eq]
  exact h
theorem cb_iret {κ : cb_K} {cc : ByteArray} {nL : Nat} {own : String} {R : Room} {keep : Nat → Bool} {post : Option Int32 → cb_W → Prop} {mc ms : Nat} {ty : FieldType} {w : cb_W} {ca sl pc : Nat} {lv : List (Option cb_V)} {v : Int32} (O : cb_Ok κ cc nL own R) (Rt : cb_Rt κ keep post mc ms (some ty)) (hn : narrow ty (.int v) = .int v) (h1 : ca ≤ mc) (h2 : sl ≤ ms) (hd : decode cc pc = .ok (.ireturn, 1)) (hp : post (some v) w) : cb_X κ w ca sl pc lv [.inl v] := by
  intro ad H locs ls hW hk hS hl
  obtain ⟨hx, hb, hml, hown, hts, hE, hR, hlk⟩ := O
  rw [Rt.1]
  refine W.widen h1 h2 ?_
  exact W.zret (v := v) hx hb Rt.2.1 hn (fun t ht hw => ⟨⟨some v, w, ad, rfl, hp, hk, by rw [ht]; exact hW⟩, hS.F ht⟩) hS.2.2 hd hlk
theorem cb_vret {κ : cb_K} {cc : ByteArray} {nL : Nat} {own : String} {R : Room} {keep : Nat → Bool} {post : Option Int32 → cb_W → Prop} {mc ms : Nat} {w : cb_W} {ca sl pc : Nat} {lv : List (Option cb_V)} (O : cb_Ok κ cc nL own R) (Rt : cb_Rt κ keep post mc ms none) (h1 : ca ≤ mc) (h2 : sl ≤ ms) (hd : decode cc pc = .ok (.return_, 1)) (hp : post none w) : cb_X κ w ca sl pc lv [] := by
  intro ad H locs ls hW hk hS hl
  obtain ⟨hx, hb, hml, hown, hts, hE, hR, hlk⟩ := O
  rw [Rt.1]
  refine W.widen h1 h2 ?_
  exact W.vret hx hb Rt.2.1 (fun t ht hw => ⟨⟨none, w, ad, rfl, hp, hk, by rw [ht]; exact hW⟩, hS.F ht⟩) hS.2.2 hd hlk
end
section
section CBR
variable {κ : cb_K} {cc : ByteArray} {nL : Nat} {own : String} {R : Room} {w : cb_W} {ca sl pc : Nat} {lv : List (Option cb_V)} {st : List cb_V}
theorem cb_iconst (O : cb_Ok κ cc nL own R) {n : Int} {v : Int32} (hd : decode cc pc = .ok (.iconst n, 1)) (hv : Int32.ofInt n = v) (k : cb_X κ w ca sl (pc + 1) lv (.inl v :: st)) : cb_X κ w ca sl pc lv (st) := fun ad H locs ls hW hk hS hl => lv_iconst O.1 O.2.1 hd hv (k ad H locs ls hW hk hS hl)
theorem cb_bipush (O : cb_Ok κ cc nL own R) {n : Int} {v : Int32} (hd : decode cc pc = .ok (.bipush n, 2)) (hv : (Int8.ofInt n).toInt32 = v) (k : cb_X κ w ca sl (pc + 2) lv (.inl v :: st)) : cb_X κ w ca sl pc lv (st) := fun ad H locs ls hW hk hS hl => lv_bipush O.1 O.2.1 hd hv (k ad H locs ls hW hk hS hl)
theorem cb_sipush (O : cb_Ok κ cc nL own R) {n : Int} {v : Int32} (hd : decode cc pc = .ok (.sipush n, 3)) (hv : (Int16.ofInt n).toInt32 = v) (k : cb_X κ w ca sl (pc + 3) lv (.inl v :: st)) : cb_X κ w ca sl pc lv (st) := fun ad H locs ls hW hk hS hl => lv_sipush O.1 O.2.1 hd hv (k ad H locs ls hW hk hS hl)
theorem cb_ldc (O : cb_Ok κ cc nL own R) {i : Nat} {v : Int32} (hd : decode cc pc = .ok (.ldc i, 2)) (hw : Cond.constant own i v ∈ cb_gw) (k : cb_X κ w ca sl (pc + 2) lv (.inl v :: st)) : cb_X κ w ca sl pc lv (st) := fun ad H locs ls hW hk hS hl => lv_ldc O.1 O.2.1 O.2.2.2.1 (O.2.2.2.2.1 _ hw) hd (k ad H locs ls hW hk hS hl)
theorem cb_ldcw (O : cb_Ok κ cc nL own R) {i : Nat} {v : Int32} (hd : decode cc pc = .ok (.ldc_w i, 3)) (hw : Cond.constant own i v ∈ cb_gw) (k : cb_X κ w ca sl (pc + 3) lv (.inl v :: st)) : cb_X κ w ca sl pc lv (st) := fun ad H locs ls hW hk hS hl => lv_ldcw O.1 O.2.1 O.2.2.2.1 (O.2.2.2.2.1 _ hw) hd (k ad H locs ls hW hk hS hl)
theorem cb_iload_n (O : cb_Ok κ cc nL own R) {i : Fin 4} {x : Int32} (hd : decode cc pc = .ok (.iload_n i, 1)) (h : lv[(i : Nat)]? = some (some (.inl x))) (k : cb_X κ w ca sl (pc + 1) lv (.inl x :: st)) : cb_X κ w ca sl pc lv (st) := fun ad H locs ls hW hk hS hl => lv_iload_n O.1 O.2.1 hd rfl (hl.2.2 _ _ h) (k ad H locs ls hW hk hS hl)
theorem cb_iload (O : cb_Ok κ cc nL own R) {i : Nat} {x : Int32} (hd : decode cc pc = .ok (.iload i, 2)) (h : lv[i]? = some (some (.inl x))) (k : cb_X κ w ca sl (pc + 2) lv (.inl x :: st)) : cb_X κ w ca sl pc lv (st) := fun ad H locs ls hW hk hS hl => lv_iload O.1 O.2.1 hd (hl.2.2 _ _ h) (k ad H locs ls hW hk hS hl)
theorem cb_aload_n (O : cb_Ok κ cc nL own R) {i : Fin 4} {x : Nat} (hd : decode cc pc = .ok (.aload_n i, 1)) (h : lv[(i : Nat)]? = some (some (.inr (some x)))) (k : cb_X κ w ca sl (pc + 1) lv (.inr (some x) :: st)) : cb_X κ w ca sl pc lv (st) := fun ad H locs ls hW hk hS hl => lv_aload_n O.1 O.2.1 hd rfl (hl.2.2 _ _ h) (k ad H locs ls hW hk hS hl)
theorem cb_aload (O : cb_Ok κ cc nL own R) {i : Nat} {x : Nat} (hd : decode cc pc = .ok (.aload i, 2)) (h : lv[i]? = some (some (.inr (some x)))) (k : cb_X κ w ca sl (pc + 2) lv (.inr (some x) :: st)) : cb_X κ w ca sl pc lv (st) := fun ad H locs ls hW hk hS hl => lv_aload O.1 O.2.1 hd (hl.2.2 _ _ h) (k ad H locs ls hW hk hS hl)
theorem cb_iadd (O : cb_Ok κ cc nL own R) {x y : Int32} (hd : decode cc pc = .ok (.iadd, 1)) (k : cb_X κ w ca sl (pc + 1) lv (.inl (x + y) :: st)) : cb_X κ w ca sl pc lv (.inl y :: .inl x :: st) := fun ad H locs ls hW hk hS hl => lv_iadd O.1 O.2.1 hd (k ad H locs ls hW hk hS hl)
theorem cb_isub (O : cb_Ok κ cc nL own R) {x y : Int32} (hd : decode cc pc = .ok (.isub, 1)) (k : cb_X κ w ca sl (pc + 1) lv (.inl (x - y) :: st)) : cb_X κ w ca sl pc lv (.inl y :: .inl x :: st) := fun ad H locs ls hW hk hS hl => lv_isub O.1 O.2.1 hd (k ad H locs ls hW hk hS hl)
theorem cb_imul (O : cb_Ok κ cc nL own R) {x y : Int32} (hd : decode cc pc = .ok (.imul, 1)) (k : cb_X κ w ca sl (pc + 1) lv (.inl (x * y) :: st)) : cb_X κ w ca sl pc lv (.inl y :: .inl x :: st) := fun ad H locs ls hW hk hS hl => lv_imul O.1 O.2.1 hd (k ad H locs ls hW hk hS hl)
theorem cb_iand (O : cb_Ok κ cc nL own R) {x y : Int32} (hd : decode cc pc = .ok (.iand, 1)) (k : cb_X κ w ca sl (pc + 1) lv (.inl (x &&& y) :: st)) : cb_X κ w ca sl pc lv (.inl y :: .inl x :: st) := fun ad H locs ls hW hk hS hl => lv_iand O.1 O.2.1 hd (k ad H locs ls hW hk hS hl)
theorem cb_ior (O : cb_Ok κ cc nL own R) {x y : Int32} (hd : decode cc pc = .ok (.ior, 1)) (k : cb_X κ w ca sl (pc + 1) lv (.inl (x ||| y) :: st)) : cb_X κ w ca sl pc lv (.inl y :: .inl x :: st) := fun ad H locs ls hW hk hS hl => lv_ior O.1 O.2.1 hd (k ad H locs ls hW hk hS hl)
theorem cb_ixor (O : cb_Ok κ cc nL own R) {x y : Int32} (hd : decode cc pc = .ok (.ixor, 1)) (k : cb_X κ w ca sl (pc + 1) lv (.inl (x ^^^ y) :: st)) : cb_X κ w ca sl pc lv (.inl y :: .inl x :: st) := fun ad H locs ls hW hk hS hl => lv_ixor O.1 O.2.1 hd (k ad H locs ls hW hk hS hl)
theorem cb_ishl (O : cb_Ok κ cc nL own R) {x y : Int32} (hd : decode cc pc = .ok (.ishl, 1)) (k : cb_X κ w ca sl (pc + 1) lv (.inl (x <<< (y &&& 31)) :: st)) : cb_X κ w ca sl pc lv (.inl y :: .inl x :: st) := fun ad H locs ls hW hk hS hl => lv_ishl O.1 O.2.1 hd (k ad H locs ls hW hk hS hl)
theorem cb_ishr (O : cb_Ok κ cc nL own R) {x y : Int32} (hd : decode cc pc = .ok (.ishr, 1)) (k : cb_X κ w ca sl (pc + 1) lv (.inl (x >>> (y &&& 31)) :: st)) : cb_X κ w ca sl pc lv (.inl y :: .inl x :: st) := fun ad H locs ls hW hk hS hl => lv_ishr O.1 O.2.1 hd (k ad H locs ls hW hk hS hl)
theorem cb_iushr (O : cb_Ok κ cc nL own R) {x y : Int32} (hd : decode cc pc = .ok (.iushr, 1)) (k : cb_X κ w ca sl (pc + 1) lv (.inl ((x.toUInt32 >>> (y.toUInt32 &&& Int32.toUInt32 31)).toInt32) :: st)) : cb_X κ w ca sl pc lv (.inl y :: .inl x :: st) := fun ad H locs ls hW hk hS hl => lv_iushr O.1 O.2.1 hd rfl (k ad H locs ls hW hk hS hl)
theorem cb_idiv (O : cb_Ok κ cc nL own R) {x y : Int32} (hd : decode cc pc = .ok (.idiv, 1)) (hn : ¬ y = 0) (k : cb_X κ w ca sl (pc + 1) lv (.inl (x / y) :: st)) : cb_X κ w ca sl pc lv (.inl y :: .inl x :: st) := fun ad H locs ls hW hk hS hl => lv_idiv O.1 O.2.1 hd hn (k ad H locs ls hW hk hS hl)
theorem cb_irem (O : cb_Ok κ cc nL own R) {x y : Int32} (hd : decode cc pc = .ok (.irem, 1)) (hn : ¬ y = 0) (k : cb_X κ w ca sl (pc + 1) lv (.inl (x - x / y * y) :: st)) : cb_X κ w ca sl pc lv (.inl y :: .inl x :: st) := fun ad H locs ls hW hk hS hl => lv_irem O.1 O.2.1 hd hn (k ad H locs ls hW hk hS hl)
theorem cb_dup (O : cb_Ok κ cc nL own R) {v : cb_V} (hd : decode cc pc = .ok (.dup, 1)) (k : cb_X κ w ca sl (pc + 1) lv (v :: v :: st)) : cb_X κ w ca sl pc lv (v :: st) := fun ad H locs ls hW hk hS hl => lv_dup O.1 O.2.1 hd (cb_cat ad v) (k ad H locs ls hW hk hS hl)
theorem cb_dup2 (O : cb_Ok κ cc nL own R) {v u : cb_V} (hd : decode cc pc = .ok (.dup2, 1)) (k : cb_X κ w ca sl (pc + 1) lv (v :: u :: v :: u :: st)) : cb_X κ w ca sl pc lv (v :: u :: st) := fun ad H locs ls hW hk hS hl => lv_dup2_11 O.1 O.2.1 hd (cb_cat ad v) (cb_cat ad u) (k ad H locs ls hW hk hS hl)
theorem cb_goto (O : cb_Ok κ cc nL own R) {off : Int} (tgt : Nat) (hd : decode cc pc = .ok (.goto off, 3)) (ht : (pc : Int) + off = (tgt : Int)) (k : cb_X κ w ca sl tgt lv st) : cb_X κ w ca sl pc lv st := fun ad H locs ls hW hk hS hl => lv_goto O.1 O.2.1 hd ht (k ad H locs ls hW hk hS hl)
theorem cb_if_eq (O : cb_Ok κ cc nL own R) {x : Int32} {off : Int} (tgt : Nat) (hd : decode cc pc = .ok (.ifCond .eq off, 3)) (ht : (pc : Int) + off = (tgt : Int)) (kt : x = 0 → cb_X κ w ca sl tgt lv st) (kf : ¬ x = 0 → cb_X κ w ca sl (pc + 3) lv st) : cb_X κ w ca sl pc lv (.inl x :: st) := fun ad H locs ls hW hk hS hl => lv_if_eq O.1 O.2.1 hd ht (fun c => kt c ad H locs ls hW hk hS hl) (fun c => kf c ad H locs ls hW hk hS hl)
theorem cb_if_ne (O : cb_Ok κ cc nL own R) {x : Int32} {off : Int} (tgt : Nat) (hd : decode cc pc = .ok (.ifCond .ne off, 3)) (ht : (pc : Int) + off = (tgt : Int)) (kt : ¬ x = 0 → cb_X κ w ca sl tgt lv st) (kf : x = 0 → cb_X κ w ca sl (pc + 3) lv st) : cb_X κ w ca sl pc lv (.inl x :: st) := fun ad H locs ls hW hk hS hl => lv_if_ne O.1 O.2.1 hd ht (fun c => kt c ad H locs ls hW hk hS hl) (fun c => kf c ad H locs ls hW hk hS hl)
theorem cb_if_lt (O : cb_Ok κ cc nL own R) {x : Int32} {off : Int} (tgt : Nat) (hd : decode cc pc = .ok (.ifCond .lt off, 3)) (ht : (pc : Int) + off = (tgt : Int)) (kt : x < 0 → cb_X κ w ca sl tgt lv st) (kf : ¬ x < 0 → cb_X κ w ca sl (pc + 3) lv st) : cb_X κ w ca sl pc lv (.inl x :: st) := fun ad H locs ls hW hk hS hl => lv_if_lt O.1 O.2.1 hd ht (fun c => kt c ad H locs ls hW hk hS hl) (fun c => kf c ad H locs ls hW hk hS hl)
theorem cb_if_ge (O : cb_Ok κ cc nL own R) {x : Int32} {off : Int} (tgt : Nat) (hd : decode cc pc = .ok (.ifCond .ge off, 3)) (ht : (pc : Int) + off = (tgt : Int)) (kt : 0 ≤ x → cb_X κ w ca sl tgt lv st) (kf : ¬ 0 ≤ x → cb_X κ w ca sl (pc + 3) lv st) : cb_X κ w ca sl pc lv (.inl x :: st) := fun ad H locs ls hW hk hS hl => lv_if_ge O.1 O.2.1 hd ht (fun c => kt c ad H locs ls hW hk hS hl) (fun c => kf c ad H locs ls hW hk hS hl)
theorem cb_if_gt (O : cb_Ok κ cc nL own R) {x : Int32} {off : Int} (tgt : Nat) (hd : decode cc pc = .ok (.ifCond .gt off, 3)) (ht : (pc : Int) + off = (tgt : Int)) (kt : 0 < x → cb_X κ w ca sl tgt lv st) (kf : ¬ 0 < x → cb_X κ w ca sl (pc + 3) lv st) : cb_X κ w ca sl pc lv (.inl x :: st) := fun ad H locs ls hW hk hS hl => lv_if_gt O.1 O.2.1 hd ht (fun c => kt c ad H locs ls hW hk hS hl) (fun c => kf c ad H locs ls hW hk hS hl)
theorem cb_if_le (O : cb_Ok κ cc nL own R) {x : Int32} {off : Int} (tgt : Nat) (hd : decode cc pc = .ok (.ifCond .le off, 3)) (ht : (pc : Int) + off = (tgt : Int)) (kt : x ≤ 0 → cb_X κ w ca sl tgt lv st) (kf : ¬ x ≤ 0 → cb_X κ w ca sl (pc + 3) lv st) : cb_X κ w ca sl pc lv (.inl x :: st) := fun ad H locs ls hW hk hS hl => lv_if_le O.1 O.2.1 hd ht (fun c => kt c ad H locs ls hW hk hS hl) (fun c => kf c ad H locs ls hW hk hS hl)
theorem cb_icmp_eq (O : cb_Ok κ cc nL own R) {x y : Int32} {off : Int} (tgt : Nat) (hd : decode cc pc = .ok (.if_icmp .eq off, 3)) (ht : (pc : Int) + off = (tgt : Int)) (kt : x = y → cb_X κ w ca sl tgt lv st) (kf : ¬ x = y → cb_X κ w ca sl (pc + 3) lv st) : cb_X κ w ca sl pc lv (.inl y :: .inl x :: st) := fun ad H locs ls hW hk hS hl => lv_icmp_eq O.1 O.2.1 hd ht (fun c => kt c ad H locs ls hW hk hS hl) (fun c => kf c ad H locs ls hW hk hS hl)
theorem cb_icmp_ne (O : cb_Ok κ cc nL own R) {x y : Int32} {off : Int} (tgt : Nat) (hd : decode cc pc = .ok (.if_icmp .ne off, 3)) (ht : (pc : Int) + off = (tgt : Int)) (kt : ¬ x = y → cb_X κ w ca sl tgt lv st) (kf : x = y → cb_X κ w ca sl (pc + 3) lv st) : cb_X κ w ca sl pc lv (.inl y :: .inl x :: st) := fun ad H locs ls hW hk hS hl => lv_icmp_ne O.1 O.2.1 hd ht (fun c => kt c ad H locs ls hW hk hS hl) (fun c => kf c ad H locs ls hW hk hS hl)
theorem cb_icmp_lt (O : cb_Ok κ cc nL own R) {x y : Int32} {off : Int} (tgt : Nat) (hd : decode cc pc = .ok (.if_icmp .lt off, 3)) (ht : (pc : Int) + off = (tgt : Int)) (kt : x < y → cb_X κ w ca sl tgt lv st) (kf : ¬ x < y → cb_X κ w ca sl (pc + 3) lv st) : cb_X κ w ca sl pc lv (.inl y :: .inl x :: st) := fun ad H locs ls hW hk hS hl => lv_icmp_lt O.1 O.2.1 hd ht (fun c => kt c ad H locs ls hW hk hS hl) (fun c => kf c ad H locs ls hW hk hS hl)
theorem cb_icmp_ge (O : cb_Ok κ cc nL own R) {x y : Int32} {off : Int} (tgt : Nat) (hd : decode cc pc = .ok (.if_icmp .ge off, 3)) (ht : (pc : Int) + off = (tgt : Int)) (kt : y ≤ x → cb_X κ w ca sl tgt lv st) (kf : ¬ y ≤ x → cb_X κ w ca sl (pc + 3) lv st) : cb_X κ w ca sl pc lv (.inl y :: .inl x :: st) := fun ad H locs ls hW hk hS hl => lv_icmp_ge O.1 O.2.1 hd ht (fun c => kt c ad H locs ls hW hk hS hl) (fun c => kf c ad H locs ls hW hk hS hl)
theorem cb_icmp_gt (O : cb_Ok κ cc nL own R) {x y : Int32} {off : Int} (tgt : Nat) (hd : decode cc pc = .ok (.if_icmp .gt off, 3)) (ht : (pc : Int) + off = (tgt : Int)) (kt : y < x → cb_X κ w ca sl tgt lv st) (kf : ¬ y < x → cb_X κ w ca sl (pc + 3) lv st) : cb_X κ w ca sl pc lv (.inl y :: .inl x :: st) := fun ad H locs ls hW hk hS hl => lv_icmp_gt O.1 O.2.1 hd ht (fun c => kt c ad H locs ls hW hk hS hl) (fun c => kf c ad H locs ls hW hk hS hl)
theorem cb_icmp_le (O : cb_Ok κ cc nL own R) {x y : Int32} {off : Int} (tgt : Nat) (hd : decode cc pc = .ok (.if_icmp .le off, 3)) (ht : (pc : Int) + off = (tgt : Int)) (kt : x ≤ y → cb_X κ w ca sl tgt lv st) (kf : ¬ x ≤ y → cb_X κ w ca sl (pc + 3) lv st) : cb_X κ w ca sl pc lv (.inl y :: .inl x :: st) := fun ad H locs ls hW hk hS hl => lv_icmp_le O.1 O.2.1 hd ht (fun c => kt c ad H locs ls hW hk hS hl) (fun c => kf c ad H locs ls hW hk hS hl)
theorem cb_tabOut (O : cb_Ok κ cc nL own R) {dflt lo hi : Int} {offs : Array Int} {len : Nat} {x : Int32} (tgt : Nat) (hd : decode cc pc = .ok (.tableswitch dflt lo hi offs, len)) (h : x.toInt < lo ∨ hi < x.toInt) (ht : (pc : Int) + dflt = (tgt : Int)) (k : cb_X κ w ca sl tgt lv st) : cb_X κ w ca sl pc lv (.inl x :: st) := fun ad H locs ls hW hk hS hl => lv_tableOut O.1 O.2.1 hd h ht (k ad H locs ls hW hk hS hl)
theorem cb_tabIn (O : cb_Ok κ cc nL own R) {dflt lo hi : Int} {offs : Array Int} {len : Nat} {x : Int32} {off : Int} (tgt : Nat) (hd : decode cc pc = .ok (.tableswitch dflt lo hi offs, len)) (h1 : ¬ x.toInt < lo) (h2 : ¬ hi < x.toInt) (ho : offs[(x.toInt - lo).toNat]? = some off) (ht : (pc : Int) + off = (tgt : Int)) (k : cb_X κ w ca sl tgt lv st) : cb_X κ w ca sl pc lv (.inl x :: st) := fun ad H locs ls hW hk hS hl => lv_tableIn O.1 O.2.1 hd h1 h2 ho ht (k ad H locs ls hW hk hS hl)
theorem cb_lookup (O : cb_Ok κ cc nL own R) {dflt : Int} {ps : Array (Int × Int)} {len : Nat} {x : Int32} {off : Int} (tgt : Nat) (hd : decode cc pc = .ok (.lookupswitch dflt ps, len)) (hp : (ps.toList.zip (ps.toList.drop 1)).all (fun (a, next) => a.1 < next.1) = true) (ho : Op.lookupswitch.offset ps.toList dflt x.toInt = off) (ht : (pc : Int) + off = (tgt : Int)) (k : cb_X κ w ca sl tgt lv st) : cb_X κ w ca sl pc lv (.inl x :: st) := fun ad H locs ls hW hk hS hl => lv_lookup O.1 O.2.1 hd hp ho ht (k ad H locs ls hW hk hS hl)
def cb_ll (ad : Nat → Nat) (lv : List (Option cb_V)) : List (Nat × Value) := (List.range lv.length).filterMap (fun i => (lv[i]?).bind (fun v => v.map (fun x => (i, cb_vv ad x))))
theorem cb_llm {ad : Nat → Nat} {lv : List (Option cb_V)} {q : Nat × Value} : q ∈ cb_ll ad lv ↔ ∃ v, lv[q.1]? = some (some v) ∧ q.2 = cb_vv ad v := by
  unfold cb_ll
  rw [List.mem_filterMap]
  constructor
  · rintro ⟨i, hi, h⟩
    cases hv : lv[i]? with
    | none => rw [hv] at h; cases h
    | some v =>
      rw [hv] at h
      cases v with
      | none => cases h
      | some x =>
        have h2 : (i, cb_vv ad x) = q := Option.some.inj h
        subst h2
        exact ⟨x, hv, rfl⟩
  · rintro ⟨v, h1, h2⟩
    refine ⟨q.1, List.mem_range.mpr (List.getElem?_eq_some_iff.mp h1).1, ?_⟩
    rw [h1]
    simp [← h2]
theorem cb_lhas {ad : Nat → Nat} {ls : Array Slot} {n : Nat} {lv : List (Option cb_V)} (h : cb_lh ad ls n lv) : lv_has ls n (cb_ll ad lv) := by
  refine ⟨h.1, h.2.1, fun q hq => ?_⟩
  obtain ⟨v, h1, h2⟩ := cb_llm.mp hq
  rw [h2]
  exact h.2.2 _ _ h1
theorem cb_lset {ad : Nat → Nat} {ls : Array Slot} {n i : Nat} {v : cb_V} {lv : List (Option cb_V)} (h : lv_has ls n ((i, cb_vv ad v) :: (cb_ll ad lv).filter (fun q => !(q.1 == i) && !(q.1 + 1 == i && q.2.category == 2)))) : cb_lh ad ls n (lv.set i (some v)) := by
  refine ⟨h.1, h.2.1, fun j x hj => ?_⟩
  by_cases e : j = i
  · subst e
    by_cases hl : j < lv.length
    · rw [List.getElem?_set_self hl] at hj
      cases hj
      exact h.2.2 _ List.mem_cons_self
    · rw [List.getElem?_eq_none (by rw [List.length_set]; omega)] at hj
      cases hj
  · rw [List.getElem?_set_ne (Ne.symm e)] at hj
    refine h.2.2 (j, cb_vv ad x) (List.mem_cons_of_mem _ (List.mem_filter.mpr ⟨cb_llm.mpr ⟨x, hj, rfl⟩, ?_⟩))
    simp [e, cb_cat]
theorem cb_istore_n (O : cb_Ok κ cc nL own R) {i : Fin 4} {x : Int32} (hd : decode cc pc = .ok (.istore_n i, 1)) (hn : (i : Nat) < nL) (k : cb_X κ w ca sl (pc + 1) (lv.set i (some (.inl x))) st) : cb_X κ w ca sl pc lv (.inl x :: st) := fun ad H locs ls hW hk hS hl => lv_istore_n O.1 O.2.1 hd rfl (cb_lhas hl) (by rw [O.2.2.1]; exact hn) rfl (fun ls' h' => k ad H locs ls' hW hk hS (cb_lset (v := .inl x) h'))
theorem cb_istore (O : cb_Ok κ cc nL own R) {i : Nat} {x : Int32} (hd : decode cc pc = .ok (.istore i, 2)) (hn : (i : Nat) < nL) (k : cb_X κ w ca sl (pc + 2) (lv.set i (some (.inl x))) st) : cb_X κ w ca sl pc lv (.inl x :: st) := fun ad H locs ls hW hk hS hl => lv_istore O.1 O.2.1 hd (cb_lhas hl) (by rw [O.2.2.1]; exact hn) rfl (fun ls' h' => k ad H locs ls' hW hk hS (cb_lset (v := .inl x) h'))
theorem cb_astore_n (O : cb_Ok κ cc nL own R) {i : Fin 4} {x : Nat} (hd : decode cc pc = .ok (.astore_n i, 1)) (hn : (i : Nat) < nL) (k : cb_X κ w ca sl (pc + 1) (lv.set i (some (.inr (some x)))) st) : cb_X κ w ca sl pc lv (.inr (some x) :: st) := fun ad H locs ls hW hk hS hl => lv_astore_n O.1 O.2.1 hd rfl (cb_lhas hl) (by rw [O.2.2.1]; exact hn) rfl (fun ls' h' => k ad H locs ls' hW hk hS (cb_lset (v := .inr (some x)) h'))
theorem cb_astore (O : cb_Ok κ cc nL own R) {i : Nat} {x : Nat} (hd : decode cc pc = .ok (.astore i, 2)) (hn : (i : Nat) < nL) (k : cb_X κ w ca sl (pc + 2) (lv.set i (some (.inr (some x)))) st) : cb_X κ w ca sl pc lv (.inr (some x) :: st) := fun ad H locs ls hW hk hS hl => lv_astore O.1 O.2.1 hd (cb_lhas hl) (by rw [O.2.2.1]; exact hn) rfl (fun ls' h' => k ad H locs ls' hW hk hS (cb_lset (v := .inr (some x)) h'))
theorem cb_iinc (O : cb_Ok κ cc nL own R) {i : Nat} {n : Int} {x : Int32} (v : Int32) (hd : decode cc pc = .ok (.iinc i n, 3)) (h : lv[i]? = some (some (.inl x))) (hn : i < nL) (hv : x + Int32.ofInt n = v) (k : cb_X κ w ca sl (pc + 3) (lv.set i (some (.inl v))) st) : cb_X κ w ca sl pc lv st := by
  intro ad H locs ls hW hk hS hl
  obtain ⟨j, hj⟩ := List.getElem?_of_mem (cb_llm (q := (i, .int x)).mpr ⟨.inl x, h, rfl⟩ : (i, Value.int x) ∈ cb_ll ad lv)
  exact lv_iinc O.1 O.2.1 hd (cb_lhas hl) hj hv (by rw [O.2.2.1]; exact hn) rfl (fun ls' h' => k ad H locs ls' hW hk hS (cb_lset (v := .inl v) h'))
theorem cb_eqX {pc' : Nat} {lv' : List (Option cb_V)} {st' : List cb_V} {w' : cb_W} (h1 : w = w') (h2 : pc = pc') (h3 : lv = lv') (h4 : st = st') (k : cb_X κ w' ca sl pc' lv' st') : cb_X κ w ca sl pc lv st := by
  subst h1; subst h2; subst h3; subst h4; exact k
theorem cb_top {x : Int32} (k : ∀ y : Int32, y = x → cb_X κ w ca sl pc lv (.inl y :: st)) : cb_X κ w ca sl pc lv (.inl x :: st) := k x rfl
theorem cb_topv {x : Int32} (y : Int32) (h : x = y) (k : cb_X κ w ca sl pc lv (.inl y :: st)) : cb_X κ w ca sl pc lv (.inl x :: st) := by rw [h]; exact k
end CBR
end
section
def cb_C (ci : Nat) : String := ([RX0, RX1, RX2, RX3, RX4, RX5, RX6, RX7, RX8, RX9, RX10, RX11] : List String).getD ci ""
def cb_T (ci : Nat) : u_T := match ci with
  | 0 => TX0
  | 1 => TX1
  | 2 => TX2
  | 3 => TX3
  | 4 => TX4
  | 5 => TX5
  | 6 => TX6
  | 7 => TX7
  | 8 => TX8
  | 9 => TX9
  | 10 => TX10
  | _ => TX11
theorem cb_clat {ci : Nat} (h : ci < 12) : cb_cl[ci]? = some (cb_C ci, cb_T ci, cb_nf ci) := by
  rcases (show ci = 0 ∨ ci = 1 ∨ ci = 2 ∨ ci = 3 ∨ ci = 4 ∨ ci = 5 ∨ ci = 6 ∨ ci = 7 ∨ ci = 8 ∨ ci = 9 ∨ ci = 10 ∨ ci = 11 by omega) with rfl | rfl | rfl | rfl | rfl | rfl | rfl | rfl | rfl | rfl | rfl | rfl <;> rfl
def cb_CT (ci : Nat) : Prop := ci < 12 ∧ (∀ w ∈ u_ws (cb_C ci) (cb_T ci) (cb_nf ci), w ∈ cb_gw) ∧ (∀ k, k < cb_nf ci → parseFieldDescriptor (cb_T ci k).2.2.1 = some (cb_tt ci k)) ∧ (∀ a, a < cb_nf ci → ∀ b, b < cb_nf ci → a ≠ b → (cb_T ci a).2.1 ≠ (cb_T ci b).2.1)
def cb_FL (own : String) (idx ci k : Nat) : Prop := k < cb_nf ci ∧ cb_CT ci ∧ (Cond.fieldLink own idx (cb_T ci k).1 (cb_T ci k).2.1 (cb_T ci k).2.2.1 ∈ cb_gw ∨ ∃ host, Cond.fieldLinkNest own idx (cb_T ci k).1 (cb_T ci k).2.1 (cb_T ci k).2.2.1 host ∈ cb_nw)
def cb_FO (own : String) (idx ci k : Nat) : Prop := k < cb_nf ci ∧ cb_CT ci ∧ Cond.fieldLink own idx (cb_T ci k).1 (cb_T ci k).2.1 (cb_T ci k).2.2.1 ∈ cb_gw ∧ (cb_T ci k).1 = own
def cb_u2 {α : Type} (M : Nat → Nat → α) (r k : Nat) (x : α) : Nat → Nat → α := fun a b => if a = r then (if b = k then x else M a b) else M a b
def cb_um (w : cb_W) (r k : Nat) (x : Int32) : cb_W := (w.1, cb_u2 w.2.1 r k x, w.2.2)
def cb_ur (w : cb_W) (r k : Nat) (q : Option Nat) : cb_W := (w.1, w.2.1, cb_u2 w.2.2 r k q)
theorem cb_enc {g : cb_G} {ad ad' : Nat → Nat} {w w' : cb_W} {q : Nat} (h1 : w.2.1 q = w'.2.1 q) (h2 : ∀ k, (w.2.2 q k).map ad = (w'.2.2 q k).map ad') : cb_en g ad w q = cb_en g ad' w' q := by
  have h3 : ∀ ci, cb_fs ad w ci q = cb_fs ad' w' ci q := fun ci => by
    unfold cb_fs
    apply List.map_congr_left
    intro k _
    unfold cb_fv
    by_cases hi : cb_ir ci k = true
    · rw [if_pos hi, if_pos hi]
      show va_rf ((w.2.2 q k).map ad) = va_rf ((w'.2.2 q k).map ad')
      rw [h2 k]
    · rw [if_neg hi, if_neg hi]
      show Value.int (w.2.1 q k) = Value.int (w'.2.1 q k)
      rw [h1]
  unfold cb_en
  rw [h1, h3, funext (fun j => h2 j)]
theorem cb_set {g : cb_G} {A : Nat → Prop} {ad : Nat → Nat} {w w' : cb_W} {L : List Nat} {i r : Nat} {e : va_E} (hD : va_D A (cb_ls g ad w L)) (hi : L[i]? = some r) (he : cb_en g ad w' r = e) (ho : ∀ q, q ≠ r → cb_en g ad w q = cb_en g ad w' q) : (cb_ls g ad w L).set i (ad r, e) = cb_ls g ad w' L := by
  have hl : i < (cb_ls g ad w L).length := by rw [cb_ls, List.length_map]; exact (List.getElem?_eq_some_iff.mp hi).1
  have hg : (cb_ls g ad w L)[i]? = some (ad r, cb_en g ad w r) := by simp only [cb_ls, List.getElem?_map, hi, Option.map_some]
  apply List.ext_getElem?
  intro j
  by_cases hj : j = i
  · subst hj
    rw [List.getElem?_set_self hl]
    simp only [cb_ls, List.getElem?_map, hi, Option.map_some, he]
  · rw [List.getElem?_set_ne (Ne.symm hj)]
    simp only [cb_ls, List.getElem?_map]
    cases hb : L[j]? with
    | none => rfl
    | some q =>
      have hq : q ≠ r := by
        intro e1
        subst e1
        have hg2 : (cb_ls g ad w L)[j]? = some (ad q, cb_en g ad w q) := by simp only [cb_ls, List.getElem?_map, hb, Option.map_some]
        exact hj (hD.1 j i _ _ hg2 hg rfl)
      simp only [Option.map_some, ho q hq]
theorem cb_pos {g : cb_G} {ad : Nat → Nat} {w : cb_W} {L : List Nat} {r : Nat} (hL : ∀ r, r ∈ L ↔ w.1 r = true) (hr : w.1 r = true) : ∃ i : Nat, L[i]? = some r ∧ (cb_ls g ad w L)[i]? = some (ad r, cb_en g ad w r) := by
  obtain ⟨i, hi⟩ := List.getElem?_of_mem ((hL r).mpr hr)
  exact ⟨i, hi, by simp only [cb_ls, List.getElem?_map, hi, Option.map_some]⟩
theorem cb_en0 {g : cb_G} {ad : Nat → Nat} {w : cb_W} {r ci : Nat} (hs : cb_sh r = (0, ci)) : cb_en g ad w r = .inr (ci, cb_fs ad w ci r) := by
  unfold cb_en
  rw [hs]
  rfl
theorem cb_en1 {g : cb_G} {ad : Nat → Nat} {w : cb_W} {r n : Nat} (hs : cb_sh r = (1, n)) : cb_en g ad w r = .inl (g.2.2.1 1, n, .inl (w.2.1 r)) := by
  unfold cb_en
  rw [hs]
  rfl
theorem cb_en2 {g : cb_G} {ad : Nat → Nat} {w : cb_W} {r n : Nat} (hs : cb_sh r = (2, n)) : cb_en g ad w r = .inl (g.2.2.1 2, n, .inl (w.2.1 r)) := by
  unfold cb_en
  rw [hs]
  rfl
theorem cb_enR {g : cb_G} {ad : Nat → Nat} {w : cb_W} {r n kd : Nat} (hs : cb_sh r = (kd, n)) (hk : 3 ≤ kd) : cb_en g ad w r = .inl (g.2.2.1 kd, n, .inr (.inr (.inr (.inr (fun j => (w.2.2 r j).map ad))))) := by
  unfold cb_en
  rw [hs]
  rw [if_neg (by show ¬ kd = 0; omega), if_neg (by show ¬ kd ≤ 2; omega)]
theorem cb_fsat {ad : Nat → Nat} {w : cb_W} {ci r k : Nat} (hk : k < cb_nf ci) : (cb_fs ad w ci r)[k]? = some (cb_vv ad (cb_fv w ci r k)) := by
  unfold cb_fs
  rw [List.getElem?_map, List.getElem?_range hk]
  rfl
theorem cb_fslen {ad : Nat → Nat} {w : cb_W} {ci r : Nat} : (cb_fs ad w ci r).length = cb_nf ci := by
  unfold cb_fs
  rw [List.length_map, List.length_range]
theorem cb_fsset {ad : Nat → Nat} {w w' : cb_W} {ci r k : Nat} {v : Value} (hk : k < cb_nf ci) (h1 : cb_vv ad (cb_fv w' ci r k) = v) (h2 : ∀ j, j ≠ k → cb_vv ad (cb_fv w' ci r j) = cb_vv ad (cb_fv w ci r j)) : cb_fs ad w' ci r = (cb_fs ad w ci r).set k v := by
  apply List.ext_getElem?
  intro j
  by_cases hj : j = k
  · subst hj
    rw [List.getElem?_set_self (by rw [cb_fslen]; exact hk), cb_fsat hk, h1]
  · rw [List.getElem?_set_ne (Ne.symm hj)]
    by_cases hl : j < cb_nf ci
    · rw [cb_fsat hl, cb_fsat hl, h2 j hj]
    · rw [List.getElem?_eq_none (by rw [cb_fslen]; omega), List.getElem?_eq_none (by rw [cb_fslen]; omega)]
theorem cb_u2s {α : Type} {M : Nat → Nat → α} {r k : Nat} {x : α} : cb_u2 M r k x r k = x := by simp [cb_u2]
theorem cb_u2n {α : Type} {M : Nat → Nat → α} {r k q j : Nat} {x : α} (h : q ≠ r ∨ j ≠ k) : cb_u2 M r k x q j = M q j := by
  unfold cb_u2
  rcases h with h | h
  · rw [if_neg h]
  · by_cases hq : q = r
    · rw [if_pos hq, if_neg h]
    · rw [if_neg hq]
theorem cb_u2r {α : Type} {M : Nat → Nat → α} {r k q : Nat} {x : α} (h : q ≠ r) : cb_u2 M r k x q = M q := funext fun _ => cb_u2n (Or.inl h)
section CBM
variable {κ : cb_K} {cc : ByteArray} {nL : Nat} {own : String} {R : Room} {w : cb_W} {ca sl pc : Nat} {lv : List (Option cb_V)} {st : List cb_V}
theorem cb_get (O : cb_Ok κ cc nL own R) {idx ci k r : Nat} (hf : cb_FL own idx ci k) (hr : w.1 r = true) (hs : cb_sh r = (0, ci)) (hd : decode cc pc = .ok (.getfield idx, 3)) (kk : cb_X κ w ca sl (pc + 3) lv (cb_fv w ci r k :: st)) : cb_X κ w ca sl pc lv (.inr (some r) :: st) := by
  intro ad H locs ls hW hk hS hl
  have hW0 := hW
  obtain ⟨L, hL, hP, hD, hq, hro⟩ := hW
  obtain ⟨i, hi, he⟩ := cb_pos (g := κ.2.2.1.1) (ad := ad) hL hr
  rw [cb_en0 hs] at he
  obtain ⟨hkn, ⟨hci, hws, hty, hnm⟩, hlk⟩ := hf
  obtain ⟨hx, hb, hml, hown, hts, hE, -⟩ := O
  rcases hlk with hlk | ⟨host, hlk⟩
  · exact va_get hx hb hts hws hown hE.1 hP i he (cb_clat hci) k hkn (hts _ hlk) (fun _ h => h) (cb_fsat hkn) hd (kk ad H locs ls hW0 hk hS hl)
  · exact va_getN hx hb hts hws hown hE.1 hP i he (cb_clat hci) k hkn (va_Nw.use rfl (hE.2.2.1 _ hlk)) (fun _ h => h) (cb_fsat hkn) hd (kk ad H locs ls hW0 hk hS hl)
theorem cb_getI (O : cb_Ok κ cc nL own R) {idx ci k r : Nat} (hf : cb_FL own idx ci k) (hi : cb_ir ci k = false) (hs : cb_sh r = (0, ci)) (hd : decode cc pc = .ok (.getfield idx, 3)) (hr : w.1 r = true) (kk : cb_X κ w ca sl (pc + 3) lv (.inl (w.2.1 r k) :: st)) : cb_X κ w ca sl pc lv (.inr (some r) :: st) := by
  refine cb_get O hf hr hs hd ?_
  rw [cb_fv, if_neg (by rw [hi]; decide)]
  exact kk
theorem cb_getR (O : cb_Ok κ cc nL own R) {idx ci k r q : Nat} (hf : cb_FL own idx ci k) (hi : cb_ir ci k = true) (hs : cb_sh r = (0, ci)) (hd : decode cc pc = .ok (.getfield idx, 3)) (hr : w.1 r = true) (hq : w.2.2 r k = some q) (kk : cb_X κ w ca sl (pc + 3) lv (.inr (some q) :: st)) : cb_X κ w ca sl pc lv (.inr (some r) :: st) := by
  refine cb_get O hf hr hs hd ?_
  rw [cb_fv, if_pos hi, hq]
  exact kk
theorem cb_putC (O : cb_Ok κ cc nL own R) {idx ci k r : Nat} {w' : cb_W} {v : cb_V} (hf : cb_FL own idx ci k) (hfin : (cb_T ci k).2.2.2 = false ∨ ((cb_T ci k).2.2.2 = true ∧ κ.2.1.2.2.2.1.name = "<init>" ∧ (cb_T ci k).1 = own ∧ Cond.fieldLink own idx (cb_T ci k).1 (cb_T ci k).2.1 (cb_T ci k).2.2.1 ∈ cb_gw)) (hr : w.1 r = true) (hs : cb_sh r = (0, ci)) (hd : decode cc pc = .ok (.putfield idx, 3))
    (hn : ∀ ad, narrow (cb_tt ci k) (cb_vv ad v) = cb_vv ad v) (hft : ∀ ad, fits (cb_tt ci k) (cb_vv ad v) = true)
    (hv : ∀ ad, cb_vv ad (cb_fv w' ci r k) = cb_vv ad v) (hv2 : ∀ ad j, j ≠ k → cb_vv ad (cb_fv w' ci r j) = cb_vv ad (cb_fv w ci r j)) (ho : ∀ q, q ≠ r → w.2.1 q = w'.2.1 q ∧ w.2.2 q = w'.2.2 q) (hlive : w.1 = w'.1) (hrr : ∀ j q, w'.2.2 r j = some q → w.1 q = true ∨ w.2.2 r j = some q)
    (kk : cb_X κ w' ca sl (pc + 3) lv st) : cb_X κ w ca sl pc lv (v :: .inr (some r) :: st) := by
  intro ad H locs ls hW hk hS hl
  obtain ⟨L, hL, hP, hD, hq, hro⟩ := hW
  obtain ⟨i, hi, he⟩ := cb_pos (g := κ.2.2.1.1) (ad := ad) hL hr
  rw [cb_en0 hs] at he
  obtain ⟨hkn, ⟨hci, hws, hty, hnm⟩, hlk⟩ := hf
  obtain ⟨hx, hb, hml, hown, hts, hE, -⟩ := O
  have hset : (cb_ls κ.2.2.1.1 ad w L).set i (ad r, .inr (ci, (cb_fs ad w ci r).set k (cb_vv ad v))) = cb_ls κ.2.2.1.1 ad w' L :=
    cb_set hD hi (by rw [cb_en0 hs, cb_fsset hkn (hv ad) (hv2 ad)]) (fun q hq' => cb_enc (ho q hq').1 (fun k' => by rw [(ho q hq').2]))
  have fin : ∀ (H1 : Heap) (locs1 : List Loc), va_P (κ.2.2.1.1.1, κ.2.2.1.1.2.1) cb_cl ((cb_ls κ.2.2.1.1 ad w L).set i (ad r, .inr (ci, (cb_fs ad w ci r).set k (cb_vv ad v)))) H1 → va_D (cb_A κ.2.2.1.2) ((cb_ls κ.2.2.1.1 ad w L).set i (ad r, .inr (ci, (cb_fs ad w ci r).set k (cb_vv ad v)))) → va_S (cb_A κ.2.2.1.2) κ.1.2.2.2.2.heap H1 locs1 → W κ.1.1 κ.1.2.1 κ.1.2.2.1 κ.1.2.2.2.1 κ.1.2.2.2.2 κ.2.1.1 κ.2.1.2.1 κ.2.1.2.2.1 κ.2.1.2.2.2.1 κ.2.1.2.2.2.2 H1 locs1 ca sl κ.2.2.2.2.2 (F0 κ.2.1.1 (pc + 3) ls (st.map (cb_vv ad))) := by
    intro H1 locs1 hP1 hD1 hS1
    rw [hset] at hP1 hD1
    refine kk ad H1 locs1 ls ⟨L, fun q => by rw [← hlive]; exact hL q, hP1, hD1, fun a ha j q hjq => ?_, fun j hj => by rw [← hlive]; exact hro j hj⟩ hk hS1 hl
    rw [← hlive] at ha ⊢
    by_cases har : a = r
    · subst har
      rcases hrr j q hjq with h | h
      · exact h
      · exact hq a ha j q h
    · rw [← (ho a har).2] at hjq
      exact hq a ha j q hjq
  rcases hfin with hfin | ⟨hfin, hin, hdecl, hlk2⟩
  · rcases hlk with hlk | ⟨host, hlk⟩
    · exact va_put hx hb hts hws (cb_tt ci) hty hnm hown hE.1 hP hD hS i he (cb_clat hci) k hkn (hts _ hlk) (fun _ h => h) hfin (hty k hkn) (hn ad) (hft ad) (by rw [cb_fslen]; exact hkn) hd fin
    · exact va_putN hx hb hts hws (cb_tt ci) hty hnm hown hE.1 hP hD hS i he (cb_clat hci) k hkn (va_Nw.use rfl (hE.2.2.1 _ hlk)) (fun _ h => h) hfin (hty k hkn) (hn ad) (hft ad) (by rw [cb_fslen]; exact hkn) hd fin
  · exact va_putF hx hb hts hws (cb_tt ci) hty hnm hown hE.1 hP hD hS i he (cb_clat hci) k hkn (hts _ hlk2) (fun _ h => h) hfin hin hdecl (hty k hkn) (hn ad) (hft ad) (by rw [cb_fslen]; exact hkn) hd fin
theorem cb_putIc (O : cb_Ok κ cc nL own R) {idx ci k r : Nat} {x : Int32} (hf : cb_FL own idx ci k) (hfin : (cb_T ci k).2.2.2 = false ∨ ((cb_T ci k).2.2.2 = true ∧ κ.2.1.2.2.2.1.name = "<init>" ∧ (cb_T ci k).1 = own ∧ Cond.fieldLink own idx (cb_T ci k).1 (cb_T ci k).2.1 (cb_T ci k).2.2.1 ∈ cb_gw)) (hi : cb_ir ci k = false) (hs : cb_sh r = (0, ci)) (hd : decode cc pc = .ok (.putfield idx, 3)) (hn : narrow (cb_tt ci k) (.int x) = .int x) (hft : fits (cb_tt ci k) (.int x) = true) (hr : w.1 r = true)
    (kk : cb_X κ (cb_um w r k x) ca sl (pc + 3) lv st) : cb_X κ w ca sl pc lv (.inl x :: .inr (some r) :: st) := by
  refine cb_putC O (w' := cb_um w r k x) (v := .inl x) hf hfin hr hs hd (fun _ => hn) (fun _ => hft) (fun ad => ?_) (fun ad j hj => ?_) (fun q hq => ⟨?_, rfl⟩) rfl (fun j q h => Or.inr h) kk
  · rw [cb_fv, if_neg (by rw [hi]; decide)]
    show Value.int (cb_u2 w.2.1 r k x r k) = Value.int x
    rw [cb_u2s]
  · unfold cb_fv
    by_cases h : cb_ir ci j = true
    · rw [if_pos h, if_pos h]; rfl
    · rw [if_neg h, if_neg h]
      show Value.int (cb_u2 w.2.1 r k x r j) = Value.int (w.2.1 r j)
      rw [cb_u2n (Or.inr hj)]
  · show w.2.1 q = cb_u2 w.2.1 r k x q
    rw [cb_u2r hq]
theorem cb_putRc (O : cb_Ok κ cc nL own R) {idx ci k r q : Nat} (hf : cb_FL own idx ci k) (hfin : (cb_T ci k).2.2.2 = false ∨ ((cb_T ci k).2.2.2 = true ∧ κ.2.1.2.2.2.1.name = "<init>" ∧ (cb_T ci k).1 = own ∧ Cond.fieldLink own idx (cb_T ci k).1 (cb_T ci k).2.1 (cb_T ci k).2.2.1 ∈ cb_gw)) (hi : cb_ir ci k = true) (hs : cb_sh r = (0, ci)) (hd : decode cc pc = .ok (.putfield idx, 3)) (hn : ∀ a, narrow (cb_tt ci k) (.ref a) = .ref a) (hft : ∀ a, fits (cb_tt ci k) (.ref a) = true) (hr : w.1 r = true) (hq : w.1 q = true)
    (kk : cb_X κ (cb_ur w r k (some q)) ca sl (pc + 3) lv st) : cb_X κ w ca sl pc lv (.inr (some q) :: .inr (some r) :: st) := by
  refine cb_putC O (w' := cb_ur w r k (some q)) (v := .inr (some q)) hf hfin hr hs hd (fun ad => hn (ad q)) (fun ad => hft (ad q)) (fun ad => ?_) (fun ad j hj => ?_) (fun q' hq' => ⟨rfl, ?_⟩) rfl (fun j q' h => ?_) kk
  · rw [cb_fv, if_pos hi]
    show va_rf ((cb_u2 w.2.2 r k (some q) r k).map ad) = va_rf ((some q).map ad)
    rw [cb_u2s]
  · unfold cb_fv
    by_cases h : cb_ir ci j = true
    · rw [if_pos h, if_pos h]
      show va_rf ((cb_u2 w.2.2 r k (some q) r j).map ad) = va_rf ((w.2.2 r j).map ad)
      rw [cb_u2n (Or.inr hj)]
    · rw [if_neg h, if_neg h]; rfl
  · show w.2.2 q' = cb_u2 w.2.2 r k (some q) q'
    rw [cb_u2r hq']
  · by_cases hj : j = k
    · subst hj
      have h2 : cb_u2 w.2.2 r j (some q) r j = some q' := h
      rw [cb_u2s] at h2
      cases h2
      exact Or.inl hq
    · have h2 : cb_u2 w.2.2 r k (some q) r j = some q' := h
      rw [cb_u2n (Or.inr hj)] at h2
      exact Or.inr h2
theorem cb_ty0 (g : cb_G) : (cb_ty g)[0]? = some (g.2.2.1 1, .int) := rfl
theorem cb_ty1 (g : cb_G) : (cb_ty g)[1]? = some (g.2.2.1 2, .boolean) := rfl
theorem cb_iald (O : cb_Ok κ cc nL own R) {r n : Nat} {i : Int32} (j : Nat) (hs : cb_sh r = (1, n)) (hd : decode cc pc = .ok (.iaload, 1)) (hn : n < 2147483648) (hr : w.1 r = true) (hi : i = nI j) (hj : j < n) (kk : cb_X κ w ca sl (pc + 1) lv (.inl (w.2.1 r j) :: st)) : cb_X κ w ca sl pc lv (.inl i :: .inr (some r) :: st) := by
  intro ad H locs ls hW hk hS hl
  have hW0 := hW
  obtain ⟨L, hL, hP, hD, hq, hro⟩ := hW
  obtain ⟨p, hp, he⟩ := cb_pos (g := κ.2.2.1.1) (ad := ad) hL hr
  rw [cb_en1 hs] at he
  obtain ⟨hx, hb, hml, hown, hts, hE, -⟩ := O
  subst hi
  refine va_iald hx hb hE.1 hP p 0 he (cb_ty0 _) (vp_in_nI hj hn) hd ?_
  rw [nI_clamp (by omega)]
  exact kk ad H locs ls hW0 hk hS hl
theorem cb_zald (O : cb_Ok κ cc nL own R) {r n : Nat} {i : Int32} (j : Nat) (hs : cb_sh r = (2, n)) (hd : decode cc pc = .ok (.baload, 1)) (hn : n < 2147483648) (hr : w.1 r = true) (hi : i = nI j) (hj : j < n) (kk : cb_X κ w ca sl (pc + 1) lv (.inl (w.2.1 r j) :: st)) : cb_X κ w ca sl pc lv (.inl i :: .inr (some r) :: st) := by
  intro ad H locs ls hW hk hS hl
  have hW0 := hW
  obtain ⟨L, hL, hP, hD, hq, hro⟩ := hW
  obtain ⟨p, hp, he⟩ := cb_pos (g := κ.2.2.1.1) (ad := ad) hL hr
  rw [cb_en2 hs] at he
  obtain ⟨hx, hb, hml, hown, hts, hE, -⟩ := O
  subst hi
  refine va_zald hx hb hE.1 hP p 1 he (cb_ty1 _) (vp_in_nI hj hn) hd ?_
  rw [nI_clamp (by omega)]
  exact kk ad H locs ls hW0 hk hS hl
theorem cb_arrW {g : cb_G} {z : Nat} {ad : Nat → Nat} {H1 : Heap} {L : List Nat} {r j : Nat} {x : Int32} {e : va_E} {p : Nat} (hL : ∀ r, r ∈ L ↔ w.1 r = true) (hD : va_D (cb_A z) (cb_ls g ad w L)) (hq : ∀ r, w.1 r = true → ∀ k q, w.2.2 r k = some q → w.1 q = true) (hro : ∀ j, j < 4 → ad (900 + j) = g.2.2.2.1 j ∧ w.1 (900 + j) = false) (hp : L[p]? = some r) (he : cb_en g ad (cb_um w r j x) r = e) (hP1 : va_P (g.1, g.2.1) cb_cl ((cb_ls g ad w L).set p (ad r, e)) H1) (hD1 : va_D (cb_A z) ((cb_ls g ad w L).set p (ad r, e))) : cb_Wo g z ad (cb_um w r j x) H1 := by
  have hset : (cb_ls g ad w L).set p (ad r, e) = cb_ls g ad (cb_um w r j x) L := cb_set hD hp he (fun q hq' => cb_enc (by show w.2.1 q = cb_u2 w.2.1 r j x q; rw [cb_u2r hq']) (fun _ => rfl))
  rw [hset] at hP1 hD1
  exact ⟨L, hL, hP1, hD1, hq, hro⟩
theorem cb_upd {M : Nat → Nat → Int32} {r j : Nat} {x : Int32} : cb_u2 M r j x r = upd (M r) j x := by
  funext k
  simp [cb_u2, upd]
theorem cb_iast (O : cb_Ok κ cc nL own R) {r n : Nat} {i x : Int32} (j : Nat) (hs : cb_sh r = (1, n)) (hd : decode cc pc = .ok (.iastore, 1)) (hn : n < 2147483648) (hr : w.1 r = true) (hi : i = nI j) (hj : j < n) (kk : cb_X κ (cb_um w r j x) ca sl (pc + 1) lv st) : cb_X κ w ca sl pc lv (.inl x :: .inl i :: .inr (some r) :: st) := by
  intro ad H locs ls hW hk hS hl
  obtain ⟨L, hL, hP, hD, hq, hro⟩ := hW
  obtain ⟨p, hp, he⟩ := cb_pos (g := κ.2.2.1.1) (ad := ad) hL hr
  rw [cb_en1 hs] at he
  obtain ⟨hx, hb, hml, hown, hts, hE, -⟩ := O
  subst hi
  refine va_iast hx hb hE.1 hP hD hS p 0 he (cb_ty0 _) (vp_in_nI hj hn) hd (fun H1 locs1 hP1 hD1 hS1 => ?_)
  rw [nI_clamp (by omega)] at hP1 hD1
  exact kk ad H1 locs1 ls (cb_arrW hL hD hq hro hp (by rw [cb_en1 hs]; show _ = Sum.inl (_, _, Sum.inl _); rw [← cb_upd]; rfl) hP1 hD1) hk hS1 hl
theorem cb_zast (O : cb_Ok κ cc nL own R) {r n : Nat} {i x : Int32} (j : Nat) (hs : cb_sh r = (2, n)) (hd : decode cc pc = .ok (.bastore, 1)) (hn : n < 2147483648) (hr : w.1 r = true) (hi : i = nI j) (hj : j < n) (hxn : vp_nar .boolean x = x) (kk : cb_X κ (cb_um w r j x) ca sl (pc + 1) lv st) : cb_X κ w ca sl pc lv (.inl x :: .inl i :: .inr (some r) :: st) := by
  intro ad H locs ls hW hk hS hl
  obtain ⟨L, hL, hP, hD, hq, hro⟩ := hW
  obtain ⟨p, hp, he⟩ := cb_pos (g := κ.2.2.1.1) (ad := ad) hL hr
  rw [cb_en2 hs] at he
  obtain ⟨hx, hb, hml, hown, hts, hE, -⟩ := O
  subst hi
  refine va_zast hx hb hE.1 hP hD hS p 1 he (cb_ty1 _) (vp_in_nI hj hn) hd (fun H1 locs1 hP1 hD1 hS1 => ?_)
  rw [nI_clamp (by omega), hxn] at hP1 hD1
  exact kk ad H1 locs1 ls (cb_arrW hL hD hq hro hp (by rw [cb_en2 hs]; show _ = Sum.inl (_, _, Sum.inl _); rw [← cb_upd]; rfl) hP1 hD1) hk hS1 hl
theorem cb_tyR {g : cb_G} {kd : Nat} {s : State} {z : Nat} (hE : cb_Ev g z s) (h : 3 ≤ kd) (h2 : kd ≤ 5) : ∃ ty : FieldType, (cb_ty g)[kd - 1]? = some (g.2.2.1 kd, ty) ∧ ty.isReference = true := by
  rcases (show kd = 3 ∨ kd = 4 ∨ kd = 5 by omega) with rfl | rfl | rfl
  · exact ⟨_, rfl, rfl⟩
  · exact ⟨_, rfl, rfl⟩
  · exact ⟨_, rfl, rfl⟩
end CBM
end
section
section CBN
variable {κ : cb_K} {cc : ByteArray} {nL : Nat} {own : String} {R : Room} {w : cb_W} {ca sl pc : Nat} {lv : List (Option cb_V)} {st : List cb_V}
theorem cb_aald (O : cb_Ok κ cc nL own R) {r n kd q : Nat} {i : Int32} (j : Nat) (hs : cb_sh r = (kd, n)) (hk1 : 3 ≤ kd) (hk2 : kd ≤ 5) (hd : decode cc pc = .ok (.aaload, 1)) (hn : n < 2147483648) (hr : w.1 r = true) (hi : i = nI j) (hj : j < n) (hq : w.2.2 r j = some q) (kk : cb_X κ w ca sl (pc + 1) lv (.inr (some q) :: st)) : cb_X κ w ca sl pc lv (.inl i :: .inr (some r) :: st) := by
  intro ad H locs ls hW hk hS hl
  have hW0 := hW
  obtain ⟨L, hL, hP, hD, hqq, hro⟩ := hW
  obtain ⟨p, hp, he⟩ := cb_pos (g := κ.2.2.1.1) (ad := ad) hL hr
  rw [cb_enR hs hk1] at he
  obtain ⟨hx, hb, hml, hown, hts, hE, -⟩ := O
  obtain ⟨ty, ht, hty⟩ := cb_tyR hE hk1 hk2
  subst hi
  have hin := vp_in_nI hj hn
  have hc : (nI j).toNatClampNeg = j := nI_clamp (by omega)
  refine W.aald (v := va_rf ((w.2.2 r j).map ad)) (ty := ty) hx hb (hP p _ he) ((hE.1.2 _ _ ht).1 n (fun j => va_rf ((w.2.2 r j).map ad))) hty (fun q => by cases q) (by show ¬ (nI j < 0 ∨ (arrV _ _ _).slots.size ≤ _); rw [arrV_size]; exact hin) (by show (arrV _ _ _).slots[_]? = _; rw [hc, arrV_read _ _ hj]) rfl rfl hd ?_
  rw [hq]
  exact kk ad H locs ls hW0 hk hS hl
theorem cb_alen (O : cb_Ok κ cc nL own R) {r n kd : Nat} (hs : cb_sh r = (kd, n)) (hk1 : 1 ≤ kd) (hk2 : kd ≤ 2) (hd : decode cc pc = .ok (.arraylength, 1)) (hr : w.1 r = true) (kk : cb_X κ w ca sl (pc + 1) lv (.inl (nI n) :: st)) : cb_X κ w ca sl pc lv (.inr (some r) :: st) := by
  intro ad H locs ls hW hk hS hl
  have hW0 := hW
  obtain ⟨L, hL, hP, hD, hqq, hro⟩ := hW
  obtain ⟨p, hp, he⟩ := cb_pos (g := κ.2.2.1.1) (ad := ad) hL hr
  obtain ⟨hx, hb, hml, hown, hts, hE, -⟩ := O
  rcases (show kd = 1 ∨ kd = 2 by omega) with rfl | rfl
  · rw [cb_en1 hs] at he
    exact va_alen hx hb hE.1 hP p 0 he (cb_ty0 _) rfl hd (kk ad H locs ls hW0 hk hS hl)
  · rw [cb_en2 hs] at he
    exact va_alen hx hb hE.1 hP p 1 he (cb_ty1 _) rfl hd (kk ad H locs ls hW0 hk hS hl)
theorem cb_gets (O : cb_Ok κ cc nL own R) {idx : Nat} {C n : String} (j : Nat) (hj : j < 3) (hz : (j = 0 ∧ C = "CutBoard$RowSearch" ∧ n = "HOLDING") ∨ (j = 1 ∧ C = "CutBoard$Board" ∧ n = "ROW_STEPS") ∨ (j = 2 ∧ C = "CutBoard$Board" ∧ n = "COLUMN_STEPS")) (hlk : Cond.fieldLink own idx C n "[I" ∈ cb_gw) (hd : decode cc pc = .ok (.getstatic idx, 3)) (kk : cb_X κ w ca sl (pc + 3) lv (.inr (some (900 + j)) :: st)) : cb_X κ w ca sl pc lv st := by
  intro ad H locs ls hW hk hS hl
  have hro := hW.choose_spec.2.2.2.2 j (by omega)
  obtain ⟨hx, hb, hml, hown, hts, hE, -⟩ := O
  have hZ : va_Z C n "[I" (.ref (κ.2.2.1.1.2.2.2.1 j)) (cb_A κ.2.2.1.2) κ.1.2.2.2.2 κ.1.2.2.2.2.heap := by
    rcases hz with ⟨rfl, rfl, rfl⟩ | ⟨rfl, rfl, rfl⟩ | ⟨rfl, rfl, rfl⟩
    · exact hE.2.2.2.2.2.2.1
    · exact hE.2.2.2.2.2.2.2.1
    · exact hE.2.2.2.2.2.2.2.2.1
  refine va_gets hx hb hZ hS hown (hts _ hlk) (fun _ h => h) hd ?_
  rw [← hro.1]
  exact kk ad H locs ls hW hk hS hl
theorem cb_ialdS (O : cb_Ok κ cc nL own R) {i : Int32} (q j : Nat) (hq : q < 4) (hd : decode cc pc = .ok (.iaload, 1)) (hn : (cb_ro κ.2.2.1.1 q).1 < 2147483648) (hi : i = nI j) (hj : j < (cb_ro κ.2.2.1.1 q).1) (kk : cb_X κ w ca sl (pc + 1) lv (.inl ((cb_ro κ.2.2.1.1 q).2 j) :: st)) : cb_X κ w ca sl pc lv (.inl i :: .inr (some (900 + q)) :: st) := by
  intro ad H locs ls hW hk hS hl
  have hro := hW.choose_spec.2.2.2.2 q hq
  obtain ⟨hx, hb, hml, hown, hts, hE, -⟩ := O
  subst hi
  have hT := hE.2.2.2.2.2.2.2.2.2 q hq
  rw [← hro.1] at hT
  exact va_ti hx hb hT hS (vp_in_nI hj hn) (by rw [nI_clamp (by omega)]; rfl) hd (kk ad H locs ls hW hk hS hl)
theorem cb_alenS (O : cb_Ok κ cc nL own R) (q : Nat) (hq : q < 4) (hd : decode cc pc = .ok (.arraylength, 1)) (kk : cb_X κ w ca sl (pc + 1) lv (.inl (nI (cb_ro κ.2.2.1.1 q).1) :: st)) : cb_X κ w ca sl pc lv (.inr (some (900 + q)) :: st) := by
  intro ad H locs ls hW hk hS hl
  have hro := hW.choose_spec.2.2.2.2 q hq
  obtain ⟨hx, hb, hml, hown, hts, hE, -⟩ := O
  have hT := hE.2.2.2.2.2.2.2.2.2 q hq
  rw [← hro.1] at hT
  obtain ⟨cell, h1, h2, h3, h4, h5, h6, h7⟩ := hT
  exact W.alen (n := nI (cb_ro κ.2.2.1.1 q).1) hx hb (by rw [hS.2.1 _ (Array.getElem?_eq_some_iff.mp h1).1 h7]; exact h1) h2 h5 rfl rfl hd (kk ad H locs ls hW hk hS hl)
def cb_nr (r : Nat) (v : cb_V) : Bool := match v with
  | .inr (some q) => !(q == r)
  | _ => true
def cb_fr (r : Nat) (lv : List (Option cb_V)) (st : List cb_V) : Bool := lv.all (fun o => match o with
  | some v => cb_nr r v
  | none => true) && st.all (cb_nr r)
theorem cb_nrv {ad ad' : Nat → Nat} {r : Nat} {v : cb_V} (h : cb_nr r v = true) (ha : ∀ q, q ≠ r → ad' q = ad q) : cb_vv ad' v = cb_vv ad v := by
  rcases v with x | o
  · rfl
  · cases o with
    | none => rfl
    | some q =>
      have hq : q ≠ r := by simpa [cb_nr] using h
      show Value.ref (ad' q) = Value.ref (ad q)
      rw [ha q hq]
theorem cb_frl {ad ad' : Nat → Nat} {r : Nat} {st : List cb_V} {ls : Array Slot} {n : Nat} (h : cb_fr r lv st = true) (ha : ∀ q, q ≠ r → ad' q = ad q) (hl : cb_lh ad ls n lv) : cb_lh ad' ls n lv ∧ st.map (cb_vv ad') = st.map (cb_vv ad) := by
  simp only [cb_fr, Bool.and_eq_true, List.all_eq_true] at h
  refine ⟨⟨hl.1, hl.2.1, fun i v hv => ?_⟩, List.map_congr_left fun v hv => cb_nrv (h.2 v hv) ha⟩
  rw [cb_nrv (h.1 _ (List.mem_of_getElem? hv)) ha]
  exact hl.2.2 i v hv
def cb_nw1 (w : cb_W) (r : Nat) : cb_W := (fun q => if q = r then true else w.1 q, fun q => if q = r then (fun _ => 0) else w.2.1 q, fun q => if q = r then (fun _ => none) else w.2.2 q)
theorem cb_push {g : cb_G} {z : Nat} {ad : Nat → Nat} {H1 : Heap} {L : List Nat} {r a : Nat} {e : va_E} (hL : ∀ r, r ∈ L ↔ w.1 r = true) (hq : ∀ r, w.1 r = true → ∀ k q, w.2.2 r k = some q → w.1 q = true) (hro : ∀ j, j < 4 → ad (900 + j) = g.2.2.2.1 j ∧ w.1 (900 + j) = false) (hr : w.1 r = false) (hr9 : r < 900 ∨ 904 ≤ r) (he : cb_en g (va_up ad r a) (cb_nw1 w r) r = e) (hP : va_P (g.1, g.2.1) cb_cl (cb_ls g ad w L ++ [(a, e)]) H1) (hD : va_D (cb_A z) (cb_ls g ad w L ++ [(a, e)])) : cb_Wo g z (va_up ad r a) (cb_nw1 w r) H1 := by
  have hne : ∀ q, w.1 q = true → q ≠ r := fun q h e1 => by
    rw [e1, hr] at h
    cases h
  have hls : cb_ls g ad w L ++ [(a, e)] = cb_ls g (va_up ad r a) (cb_nw1 w r) (L ++ [r]) := by
    unfold cb_ls
    rw [List.map_append]
    congr 1
    · apply List.map_congr_left
      intro q hqL
      have hl := (hL q).mp hqL
      have hn := hne q hl
      rw [va_up_ne _ _ hn]
      congr 1
      refine cb_enc (by show w.2.1 q = if q = r then _ else _; rw [if_neg hn]) (fun k => ?_)
      show (w.2.2 q k).map ad = ((if q = r then (fun _ => none) else w.2.2 q) k).map (va_up ad r a)
      rw [if_neg hn]
      cases hk : w.2.2 q k with
      | none => rfl
      | some x =>
        show some (ad x) = some (va_up ad r a x)
        rw [va_up_ne _ _ (hne x (hq q hl k x hk))]
    · simp [va_up_self, he]
  rw [hls] at hP hD
  refine ⟨L ++ [r], fun q => ?_, hP, hD, fun q hlq k x hk => ?_, fun j hj => ?_⟩
  · rw [List.mem_append, List.mem_singleton, hL q]
    show _ ↔ (if q = r then true else w.1 q) = true
    by_cases h : q = r
    · rw [if_pos h]; simp [h]
    · rw [if_neg h]; simp [h]
  · have hlq' : (if q = r then true else w.1 q) = true := hlq
    have hk' : (if q = r then (fun _ => none) else w.2.2 q) k = some x := hk
    show (if x = r then true else w.1 x) = true
    by_cases h : q = r
    · rw [if_pos h] at hk'; cases hk'
    · rw [if_neg h] at hk' hlq'
      have := hq q hlq' k x hk'
      rw [if_neg (hne x this)]
      exact this
  · have h9 : 900 + j ≠ r := by omega
    rw [va_up_ne _ _ h9]
    refine ⟨(hro j hj).1, ?_⟩
    show (if 900 + j = r then true else w.1 (900 + j)) = false
    rw [if_neg h9]
    exact (hro j hj).2
theorem cb_def {ad : Nat → Nat} {ci r k : Nat} (h : defaultValue (cb_tt ci k) = (if cb_ir ci k = true then Value.null else .int 0)) : defaultValue (cb_tt ci k) = cb_vv ad (cb_fv (cb_nw1 w r) ci r k) := by
  rw [h, cb_fv]
  by_cases hi : cb_ir ci k = true
  · rw [if_pos hi, if_pos hi]
    show _ = va_rf (((if r = r then (fun _ => none) else w.2.2 r) k).map ad)
    rw [if_pos rfl]
    rfl
  · rw [if_neg hi, if_neg hi]
    show _ = Value.int ((if r = r then (fun _ => 0) else w.2.1 r) k)
    rw [if_pos rfl]
theorem cb_defs {ci : Nat} (h : ci < 12) : ∀ k, k < cb_nf ci → defaultValue (cb_tt ci k) = (if cb_ir ci k = true then Value.null else .int 0) := by
  rcases (show ci = 0 ∨ ci = 1 ∨ ci = 2 ∨ ci = 3 ∨ ci = 4 ∨ ci = 5 ∨ ci = 6 ∨ ci = 7 ∨ ci = 8 ∨ ci = 9 ∨ ci = 10 ∨ ci = 11 by omega) with rfl | rfl | rfl | rfl | rfl | rfl | rfl | rfl | rfl | rfl | rfl | rfl <;> decide +kernel
theorem cb_new (O : cb_Ok κ cc nL own R) {idx ci : Nat} (r : Nat) (hct : cb_CT ci) (hcl : Cond.classLink own idx (cb_C ci) ∈ cb_gw) (hin : Cond.instantiable (cb_C ci) (cb_nf ci) ∈ cb_gw) (hini : Cond.initialized (cb_C ci) ∈ cb_gw) (hs : cb_sh r = (0, ci)) (hd : decode cc pc = .ok (.new idx, 3)) (hr9 : r < 900 ∨ 904 ≤ r) (hkp : κ.2.2.2.2.1 r = false) (hfr : cb_fr r lv st = true) (h1 : ca + 1 ≤ R.cells) (h2 : sl + cb_nf ci ≤ R.slots) (hr : w.1 r = false)
    (kk : cb_X κ (cb_nw1 w r) (ca + 1) (sl + cb_nf ci) (pc + 3) lv (.inr (some r) :: st)) : cb_X κ w ca sl pc lv st := by
  intro ad H locs ls hW hk hS hl
  obtain ⟨L, hL, hP, hD, hq, hro⟩ := hW
  obtain ⟨hx, hb, hml, hown, hts, hE, hR, hlk⟩ := O
  obtain ⟨hci, hws, hty, hnm⟩ := hct
  refine va_new (fs := cb_fs ad (cb_nw1 w r) ci r) hx hb hts hws (cb_tt ci) hty hown (hts _ hcl) (hts _ hin) (hts _ hini) hE.1 hP hD hS (fun q h => Nat.le_trans hE.2.1 h) (cb_clat hci) (fun j hj => ?_) (by rw [hR]; exact h1) (by rw [hR]; exact h2) hd (fun a H1 hP1 hD1 hS1 => ?_)
  · rw [vp_V, List.getD_eq_getElem?_getD, cb_fsat hj, Option.getD_some]
    exact cb_def (cb_defs hci j hj)
  · have hup : ∀ q, q ≠ r → va_up ad r a q = ad q := fun q h => va_up_ne _ _ h
    obtain ⟨hl2, hst2⟩ := cb_frl hfr hup hl
    have hfs : cb_fs (va_up ad r a) (cb_nw1 w r) ci r = cb_fs ad (cb_nw1 w r) ci r := by
      unfold cb_fs
      apply List.map_congr_left
      intro k hk2
      unfold cb_fv
      by_cases hi : cb_ir ci k = true
      · rw [if_pos hi]
        show va_rf (((if r = r then (fun _ => none) else w.2.2 r) k).map _) = va_rf (((if r = r then (fun _ => none) else w.2.2 r) k).map _)
        rw [if_pos rfl]
        rfl
      · rw [if_neg hi]
        rfl
    have hWo := cb_push (a := a) hL hq hro hr hr9 (by rw [cb_en0 hs, hfs]) hP1 hD1
    have := kk (va_up ad r a) H1 locs ls hWo (fun q hkq => by rw [hup q (fun e1 => by rw [e1, hkp] at hkq; cases hkq)]; exact hk q hkq) hS1 hl2
    rw [List.map_cons, hst2] at this
    have e2 : cb_vv (va_up ad r a) (.inr (some r)) = .ref a := by
      show Value.ref (va_up ad r a r) = .ref a
      rw [va_up_self]
    rw [e2] at this
    exact this
end CBN
end
section
section CBO
variable {κ : cb_K} {cc : ByteArray} {nL : Nat} {own : String} {R : Room} {w : cb_W} {ca sl pc : Nat} {lv : List (Option cb_V)} {st : List cb_V}
theorem cb_upZ {ad : Nat → Nat} {r a : Nat} {z : Nat} {g : cb_G} {H1 : Heap} {locs : List Loc} {ls : Array Slot} (hkp : κ.2.2.2.2.1 r = false) (hfr : cb_fr r lv st = true) (hk : ∀ q, κ.2.2.2.2.1 q = true → ad q = κ.2.2.2.1 q) (hS1 : va_S (cb_A κ.2.2.1.2) κ.1.2.2.2.2.heap H1 locs) (hl : cb_lh ad ls κ.2.1.2.2.2.2.maxLocals lv) (hWo : cb_Wo κ.2.2.1.1 κ.2.2.1.2 (va_up ad r a) (cb_nw1 w r) H1)
    {pc' ca' sl' : Nat} (kk : cb_X κ (cb_nw1 w r) ca' sl' pc' lv (.inr (some r) :: st)) : W κ.1.1 κ.1.2.1 κ.1.2.2.1 κ.1.2.2.2.1 κ.1.2.2.2.2 κ.2.1.1 κ.2.1.2.1 κ.2.1.2.2.1 κ.2.1.2.2.2.1 κ.2.1.2.2.2.2 H1 locs ca' sl' κ.2.2.2.2.2 (F0 κ.2.1.1 pc' ls (.ref a :: st.map (cb_vv ad))) := by
  have hup : ∀ q, q ≠ r → va_up ad r a q = ad q := fun q h => va_up_ne _ _ h
  obtain ⟨hl2, hst2⟩ := cb_frl hfr hup hl
  have := kk (va_up ad r a) H1 locs ls hWo (fun q hkq => by rw [hup q (fun e1 => by rw [e1, hkp] at hkq; cases hkq)]; exact hk q hkq) hS1 hl2
  rw [List.map_cons, hst2] at this
  have e2 : cb_vv (va_up ad r a) (.inr (some r)) = .ref a := by
    show Value.ref (va_up ad r a r) = .ref a
    rw [va_up_self]
  rw [e2] at this
  exact this
theorem cb_newa (O : cb_Ok κ cc nL own R) {kd n : Nat} {atype : ArrayType} {ty : FieldType} {x : Int32} (r : Nat) (hty : newarray.typeOf atype = ty) (hkd : (kd = 1 ∧ ty = .int) ∨ (kd = 2 ∧ ty = .boolean)) (harr : Cond.arrayClass ty ∈ cb_gw) (hs : cb_sh r = (kd, n)) (hd : decode cc pc = .ok (.newarray atype, 2)) (hx0 : ¬ x < 0) (hxn : x.toNatClampNeg = n) (hbig : n ≤ 100000) (hr9 : r < 900 ∨ 904 ≤ r) (hkp : κ.2.2.2.2.1 r = false) (hfr : cb_fr r lv st = true) (h1 : ca + 1 ≤ R.cells) (h2 : sl + n ≤ R.slots) (hr : w.1 r = false)
    (kk : cb_X κ (cb_nw1 w r) (ca + 1) (sl + n) (pc + 2) lv (.inr (some r) :: st)) : cb_X κ w ca sl pc lv (.inl x :: st) := by
  intro ad H locs ls hW hk hS hl
  obtain ⟨L, hL, hP, hD, hq, hro⟩ := hW
  obtain ⟨hx, hb, hml, hown, hts, hE, hR, hlk⟩ := O
  have ha : ∀ cA : ClassId, vp_cell cA (n, .inl (fun _ => 0)) = arrV cA n (fun _ => defaultValue ty) := fun cA => by
    rcases hkd with ⟨-, rfl⟩ | ⟨-, rfl⟩ <;> rfl
  have hcb : n * componentBytes ty ≤ 536870912 := by
    rcases hkd with ⟨-, rfl⟩ | ⟨-, rfl⟩
    · have : componentBytes .int = 4 := rfl
      rw [this]; omega
    · have : componentBytes .boolean = 1 := rfl
      rw [this]; omega
  refine va_newa (a0 := (n, .inl (fun _ => 0))) hx hb (by rw [hty]; exact hts _ harr) hty hE.1 hP hD hS (fun q h => Nat.le_trans hE.2.1 h) ha hx0 hxn hcb (by rw [hR]; exact h1) (by rw [hR]; exact h2) hd (fun a cA H1 hK1 hP1 hD1 hS1 => ?_)
  have hcA : cA = κ.2.2.1.1.2.2.1 kd := by
    have h3 := (hK1.2 (cb_ty κ.2.2.1.1).length (cA, ty) (by rw [List.getElem?_append_right (Nat.le_refl _)]; simp)).2
    rcases hkd with ⟨rfl, rfl⟩ | ⟨rfl, rfl⟩
    · exact Option.some.inj (h3.symm.trans (hE.1.2 0 _ rfl).2)
    · exact Option.some.inj (h3.symm.trans (hE.1.2 1 _ rfl).2)
  have hen : cb_en κ.2.2.1.1 (va_up ad r a) (cb_nw1 w r) r = .inl (cA, (n, .inl (fun _ => 0))) := by
    have hM : (cb_nw1 w r).2.1 r = fun _ => 0 := by
      show (if r = r then (fun _ => (0 : Int32)) else w.2.1 r) = _
      rw [if_pos rfl]
    rcases hkd with ⟨rfl, -⟩ | ⟨rfl, -⟩
    · rw [cb_en1 hs, hM, hcA]
    · rw [cb_en2 hs, hM, hcA]
  exact cb_upZ (z := 0) (g := κ.2.2.1.1) hkp hfr hk hS1 hl (cb_push hL hq hro hr hr9 hen hP1 hD1) kk
theorem cb_anew (O : cb_Ok κ cc nL own R) {kd n idx : Nat} {C : String} {x : Int32} (r : Nat) (hkd : (kd = 3 ∧ C = "CutBoard$Sheet") ∨ (kd = 4 ∧ C = "CutBoard$Entry")) (hcl : Cond.classLink own idx C ∈ cb_gw) (hs : cb_sh r = (kd, n)) (hd : decode cc pc = .ok (.anewarray idx, 3)) (hx0 : ¬ x < 0) (hxn : x.toNatClampNeg = n) (hbig : n ≤ 100000) (hr9 : r < 900 ∨ 904 ≤ r) (hkp : κ.2.2.2.2.1 r = false) (hfr : cb_fr r lv st = true) (h1 : ca + 1 ≤ R.cells) (h2 : sl + n ≤ R.slots) (hr : w.1 r = false)
    (kk : cb_X κ (cb_nw1 w r) (ca + 1) (sl + n) (pc + 3) lv (.inr (some r) :: st)) : cb_X κ w ca sl pc lv (.inl x :: st) := by
  intro ad H locs ls hW hk hS hl
  obtain ⟨L, hL, hP, hD, hq, hro⟩ := hW
  obtain ⟨hx, hb, hml, hown, hts, hE, hR, hlk⟩ := O
  have hov : va_AO C κ.1.2.2.2.2 := by
    rcases hkd with ⟨-, rfl⟩ | ⟨-, rfl⟩
    · exact hE.2.2.2.1
    · exact hE.2.2.2.2.1
  refine va_newq hx hb hown (hts _ hcl) hov hE.1 hP hD hS (fun q h => Nat.le_trans hE.2.1 h) hx0 hxn (by omega) (by rw [hR]; exact h1) (by rw [hR]; exact h2) hd (fun a cA H1 hK1 hP1 hD1 hS1 => ?_)
  have hcA : cA = κ.2.2.1.1.2.2.1 kd := by
    obtain ⟨k1, c1, -, -, -, h3⟩ := (hK1.2 (cb_ty κ.2.2.1.1).length (cA, .object C) (by rw [List.getElem?_append_right (Nat.le_refl _)]; simp)).2
    rcases hkd with ⟨rfl, rfl⟩ | ⟨rfl, rfl⟩
    · obtain ⟨k2, c2, -, -, -, h4⟩ := (hE.1.2 2 _ rfl).2
      exact Option.some.inj (h3.symm.trans h4)
    · obtain ⟨k2, c2, -, -, -, h4⟩ := (hE.1.2 3 _ rfl).2
      exact Option.some.inj (h3.symm.trans h4)
  have hen : cb_en κ.2.2.1.1 (va_up ad r a) (cb_nw1 w r) r = .inl (cA, n, .inr (.inr (.inr (.inr (fun _ => none))))) := by
    have hM : (cb_nw1 w r).2.2 r = fun _ => none := by
      show (if r = r then (fun _ => (none : Option Nat)) else w.2.2 r) = _
      rw [if_pos rfl]
    rw [cb_enR hs (by rcases hkd with ⟨rfl, -⟩ | ⟨rfl, -⟩ <;> decide), hM, hcA]
    rfl
  exact cb_upZ (z := 0) (g := κ.2.2.1.1) hkp hfr hk hS1 hl (cb_push hL hq hro hr hr9 hen hP1 hD1) kk
theorem cb_aast (O : cb_Ok κ cc nL own R) {kd n r q ci : Nat} {i : Int32} (j : Nat) (hkd : (kd = 3 ∧ ci = 9) ∨ (kd = 4 ∧ ci = 2)) (hs : cb_sh r = (kd, n)) (hsq : cb_sh q = (0, ci)) (hd : decode cc pc = .ok (.aastore, 1)) (hn : n < 2147483648) (hr : w.1 r = true) (hlq : w.1 q = true) (hi : i = nI j) (hj : j < n)
    (kk : cb_X κ (cb_ur w r j (some q)) ca sl (pc + 1) lv st) : cb_X κ w ca sl pc lv (.inr (some q) :: .inl i :: .inr (some r) :: st) := by
  intro ad H locs ls hW hk hS hl
  obtain ⟨L, hL, hP, hD, hq, hro⟩ := hW
  obtain ⟨p, hp, he⟩ := cb_pos (g := κ.2.2.1.1) (ad := ad) hL hr
  obtain ⟨p2, hp2, he2⟩ := cb_pos (g := κ.2.2.1.1) (ad := ad) hL hlq
  rw [cb_enR hs (by rcases hkd with ⟨rfl, -⟩ | ⟨rfl, -⟩ <;> decide)] at he
  rw [cb_en0 hsq] at he2
  obtain ⟨hx, hb, hml, hown, hts, hE, -⟩ := O
  subst hi
  have fin : ∀ (H1 : Heap) (locs1 : List Loc), va_P (κ.2.2.1.1.1, κ.2.2.1.1.2.1) cb_cl ((cb_ls κ.2.2.1.1 ad w L).set p (ad r, .inl (κ.2.2.1.1.2.2.1 kd, n, .inr (.inr (.inr (.inr (va_up (fun j => (w.2.2 r j).map ad) (nI j).toNatClampNeg (some (ad q))))))))) H1 → va_D (cb_A κ.2.2.1.2) ((cb_ls κ.2.2.1.1 ad w L).set p (ad r, .inl (κ.2.2.1.1.2.2.1 kd, n, .inr (.inr (.inr (.inr (va_up (fun j => (w.2.2 r j).map ad) (nI j).toNatClampNeg (some (ad q))))))))) → va_S (cb_A κ.2.2.1.2) κ.1.2.2.2.2.heap H1 locs1 → W κ.1.1 κ.1.2.1 κ.1.2.2.1 κ.1.2.2.2.1 κ.1.2.2.2.2 κ.2.1.1 κ.2.1.2.1 κ.2.1.2.2.1 κ.2.1.2.2.2.1 κ.2.1.2.2.2.2 H1 locs1 ca sl κ.2.2.2.2.2 (F0 κ.2.1.1 (pc + 1) ls (st.map (cb_vv ad))) := by
    intro H1 locs1 hP1 hD1 hS1
    rw [nI_clamp (by omega)] at hP1 hD1
    have hset := cb_set (w' := cb_ur w r j (some q)) (e := .inl (κ.2.2.1.1.2.2.1 kd, n, .inr (.inr (.inr (.inr (va_up (fun j => (w.2.2 r j).map ad) j (some (ad q)))))))) hD hp (by
      rw [cb_enR hs (by rcases hkd with ⟨rfl, -⟩ | ⟨rfl, -⟩ <;> decide)]
      congr 7
      funext k
      show (cb_u2 w.2.2 r j (some q) r k).map ad = va_up (fun j => (w.2.2 r j).map ad) j (some (ad q)) k
      by_cases e1 : k = j
      · subst e1
        rw [cb_u2s, va_up_self]
        rfl
      · rw [cb_u2n (Or.inr e1), va_up_ne _ _ e1]) (fun q' hq' => cb_enc rfl (fun k => by show _ = (cb_u2 w.2.2 r j (some q) q' k).map ad; rw [cb_u2n (Or.inl hq')]))
    rw [hset] at hP1 hD1
    refine kk ad H1 locs1 ls ⟨L, hL, hP1, hD1, fun a ha k x hk2 => ?_, hro⟩ hk hS1 hl
    have hk3 : cb_u2 w.2.2 r j (some q) a k = some x := hk2
    by_cases h1 : a = r
    · by_cases h2 : k = j
      · subst h1; subst h2
        rw [cb_u2s] at hk3
        cases hk3
        exact hlq
      · rw [cb_u2n (Or.inr h2)] at hk3
        exact hq a ha k x hk3
    · rw [cb_u2n (Or.inl h1)] at hk3
      exact hq a ha k x hk3
  rcases hkd with ⟨rfl, rfl⟩ | ⟨rfl, rfl⟩
  · exact va_astq hx hb hE.1 hP hD hS p 2 p2 9 (r := (RX9, TX9, 6)) he rfl he2 rfl (vp_in_nI hj hn) hd fin
  · exact va_astq hx hb hE.1 hP hD hS p 3 p2 2 (r := (RX2, TX2, 5)) he rfl he2 rfl (vp_in_nI hj hn) hd fin
theorem cb_ren (gm : Nat → Nat) {w' : cb_W} {lv' : List (Option cb_V)} {st' : List cb_V} (hlv : lv = lv'.map (fun o => o.map (fun v => v.map id (fun r => r.map gm)))) (hst : st = st'.map (fun v => v.map id (fun r => r.map gm)))
    (h1 : ∀ r, w'.1 r = true → w.1 (gm r) = true ∧ cb_sh (gm r) = cb_sh r ∧ w'.2.1 r = w.2.1 (gm r) ∧ ∀ k, (w'.2.2 r k).map gm = w.2.2 (gm r) k) (h2 : ∀ r q, w'.1 r = true → w'.1 q = true → gm r = gm q → r = q) (h3 : ∀ r k q, w'.1 r = true → w'.2.2 r k = some q → w'.1 q = true) (h4 : ∀ j, j < 4 → gm (900 + j) = 900 + j ∧ w'.1 (900 + j) = false) (h5 : ∀ q, κ.2.2.2.2.1 q = true → gm q = q) (h6 : ∃ B, ∀ r, B ≤ r → w'.1 r = false)
    (kk : cb_X κ w' ca sl pc lv' st') : cb_X κ w ca sl pc lv st := by
  intro ad H locs ls hW hk hS hl
  obtain ⟨L, hL, hP, hD, hq, hro⟩ := hW
  obtain ⟨B, hB⟩ := h6
  have hvv : ∀ v : cb_V, cb_vv (fun r => ad (gm r)) v = cb_vv ad (v.map id (fun r => r.map gm)) := fun v => by
    rcases v with x | o
    · rfl
    · cases o <;> rfl
  have hen : ∀ r, w'.1 r = true → cb_en κ.2.2.1.1 (fun r => ad (gm r)) w' r = cb_en κ.2.2.1.1 ad w (gm r) := fun r hr => by
    obtain ⟨-, e1, e2, e3⟩ := h1 r hr
    have e4 : ∀ k, (w'.2.2 r k).map (fun r => ad (gm r)) = (w.2.2 (gm r) k).map ad := fun k => by
      rw [← e3 k]
      cases w'.2.2 r k <;> rfl
    have e5 : ∀ ci, cb_fs (fun r => ad (gm r)) w' ci r = cb_fs ad w ci (gm r) := fun ci => by
      unfold cb_fs
      apply List.map_congr_left
      intro k _
      unfold cb_fv
      by_cases hi : cb_ir ci k = true
      · rw [if_pos hi, if_pos hi]
        show va_rf _ = va_rf _
        rw [e4]
      · rw [if_neg hi, if_neg hi, e2]
        rfl
    unfold cb_en
    rw [e1, e2, e5, funext e4]
  have hsub : ∀ (k : Nat) (q : Nat × va_E), (cb_ls κ.2.2.1.1 (fun r => ad (gm r)) w' ((List.range B).filter (fun r => w'.1 r)))[k]? = some q → ∃ r, w'.1 r = true ∧ ((List.range B).filter (fun r => w'.1 r))[k]? = some r ∧ q = (ad (gm r), cb_en κ.2.2.1.1 ad w (gm r)) := fun k q hk => by
    unfold cb_ls at hk
    rw [List.getElem?_map] at hk
    cases hr : ((List.range B).filter (fun r => w'.1 r))[k]? with
    | none => rw [hr] at hk; cases hk
    | some r =>
      rw [hr] at hk
      have hlive : w'.1 r = true := (List.mem_filter.mp (List.mem_of_getElem? hr)).2
      refine ⟨r, hlive, rfl, ?_⟩
      rw [← hen r hlive]
      exact (Option.some.inj hk).symm
  have hpos : ∀ r, w'.1 r = true → ∃ i : Nat, L[i]? = some (gm r) ∧ (cb_ls κ.2.2.1.1 ad w L)[i]? = some (ad (gm r), cb_en κ.2.2.1.1 ad w (gm r)) := fun r hr => cb_pos hL (h1 r hr).1
  have := kk (fun r => ad (gm r)) H locs ls ⟨(List.range B).filter (fun r => w'.1 r), fun r => ?_, fun k q hk2 => ?_, ⟨fun i j x y hi hj hxy => ?_, fun k q hk2 => ?_⟩, fun r hr k q hk2 => h3 r k q hr hk2, fun j hj => ⟨by show ad (gm (900 + j)) = _; rw [(h4 j hj).1]; exact (hro j hj).1, (h4 j hj).2⟩⟩ (fun q hkq => by show ad (gm q) = _; rw [h5 q hkq]; exact hk q hkq) hS ⟨hl.1, hl.2.1, fun i v hv => ?_⟩
  · have hmp : st.map (cb_vv ad) = st'.map (cb_vv (fun r => ad (gm r))) := by
      rw [hst, List.map_map]
      exact List.map_congr_left (fun v _ => (hvv v).symm)
    rw [hmp]
    exact this
  · rw [List.mem_filter, List.mem_range]
    constructor
    · exact fun h => h.2
    · intro h
      refine ⟨?_, h⟩
      rcases Nat.lt_or_ge r B with h7 | h7
      · exact h7
      · rw [hB r h7] at h; cases h
  · obtain ⟨r, hr, -, rfl⟩ := hsub k q hk2
    obtain ⟨i, -, hi⟩ := hpos r hr
    exact hP i _ hi
  · obtain ⟨r, hr, hir, rfl⟩ := hsub i x hi
    obtain ⟨r2, hr2, hir2, rfl⟩ := hsub j y hj
    obtain ⟨i1, hL1, hi1⟩ := hpos r hr
    obtain ⟨i2, hL2, hi2⟩ := hpos r2 hr2
    have e1 := hD.1 i1 i2 _ _ hi1 hi2 hxy
    subst e1
    have e2 : gm r = gm r2 := Option.some.inj (hL1.symm.trans hL2)
    have e3 := h2 r r2 hr hr2 e2
    subst e3
    have hnd : ((List.range B).filter (fun r => w'.1 r)).Nodup := List.Nodup.sublist List.filter_sublist List.nodup_range
    exact (List.getElem?_inj (List.getElem?_eq_some_iff.mp hir).1 hnd).mp (hir.trans hir2.symm)
  · obtain ⟨r, hr, -, rfl⟩ := hsub k q hk2
    obtain ⟨i, -, hi⟩ := hpos r hr
    exact hD.2 i _ hi
  · rw [hvv]
    refine hl.2.2 i _ ?_
    rw [hlv, List.getElem?_map, hv]
    rfl
end CBO
end
section
def va_AOA (t : FieldType) (U : State) : Prop := (Cond.arrayOver (.array t)).before #[] U = true
theorem va_AOA.use {t : FieldType} {A : Array Value} {U : State} (h : va_AOA t U) : (Cond.arrayOver (.array t)).before A U = true := h
/-- f, but v at every address of l -/
def vr_up {α : Type} (f : Nat → α) (l : List Nat) (v : α) : Nat → α := fun a => if a ∈ l then v else f a
theorem vr_up_in {α : Type} {f : Nat → α} {l : List Nat} {v : α} {a : Nat} (h : a ∈ l) : vr_up f l v a = v := if_pos h
theorem vr_up_ne {α : Type} {f : Nat → α} {l : List Nat} {v : α} {a : Nat} (h : a ∉ l) : vr_up f l v a = f a := if_neg h
theorem vr_rows {L l : List Nat} {f : Nat → va_E} {e : va_E} (h : ∀ a, a ∈ l → a ∉ L) : va_pl L f ++ l.map (fun a => (a, e)) = va_pl (L ++ l) (vr_up f l e) := by
  unfold va_pl
  rw [List.map_append]
  congr 1
  · apply List.map_congr_left
    intro a ha
    rw [vr_up_ne (fun q => h a q ha)]
  · apply List.map_congr_left
    intro a ha
    rw [vr_up_in ha]
theorem vr_lay {X rows : va_W} {x : Nat × va_E} {pl : va_W} {D : va_G} {cl : List vw_C} {H : Heap} (hP : va_P D cl (((X ++ pl) ++ [x]) ++ rows) H) : va_P D cl ((X ++ [x]) ++ (pl ++ rows)) H := by
  rw [List.append_assoc (X ++ pl)] at hP
  have h := va_P.swap hP
  rw [← List.append_assoc X] at h
  have h2 := va_P.swap h
  rw [List.append_assoc (X ++ [x])] at h2
  exact h2
theorem vr_layD {X rows : va_W} {x : Nat × va_E} {pl : va_W} {A : Nat → Prop} (hD : va_D A (((X ++ pl) ++ [x]) ++ rows)) : va_D A ((X ++ [x]) ++ (pl ++ rows)) := by
  rw [List.append_assoc (X ++ pl)] at hD
  have h := va_D.swap hD
  rw [← List.append_assoc X] at h
  have h2 := va_D.swap h
  rw [List.append_assoc (X ++ [x])] at h2
  exact h2
theorem vr_outer (c : ClassId) (N h0 : Nat) : ∀ i : Nat, Jvm.Free.Multi.outerC c N h0 i = arrV c N (fun j => va_rf (if j < i then some (h0 + 1 + j) else none))
  | 0 => by
    show ({ cls := c, slots := Array.replicate N .null, vm := .none } : Cell) = _
    rw [arrV_new]
    refine congrArg (arrV c N) (funext fun j => ?_)
    simp [va_rf]
  | i + 1 => by
    show (Jvm.Free.Multi.outerC c N h0 i).setSlot i (.ref (h0 + 1 + i)) = _
    rw [vr_outer c N h0 i, arrV_store]
    refine congrArg (arrV c N) (funext fun j => ?_)
    by_cases e : j = i
    · subst e
      simp [updV, va_rf]
    · by_cases h : j < i
      · simp [updV, e, h, Nat.lt_succ_of_lt h]
      · simp [updV, e, h, show ¬ j < i + 1 by omega]
section VGM
variable {p : Program} {l : Launch} {e : Env} {R : Room} {s : State} {m : MethodId} {args : Array Value} {below : List Frame} {meth : Method} {c : Code} {H : Heap} {locs : List Loc} {cells slots : Nat} {Q : State → Prop}
variable {cc : ByteArray} {pc : Nat} {ls : Array Slot} {rest : List Value} {D : va_G} {cl : List vw_C} {A : Nat → Prop} {a : Nat} {tys : List (ClassId × FieldType)} {ws : va_W} {H0 : Heap}
theorem va_mna {X : va_W} {L : List Nat} {f : Nat → va_E} {cc : ByteArray} (hexec : p.tables.exec = Jvm.exec) (hb : c.code = cc) {own : String} {index : Nat} {ty : FieldType} {cy : ClassId} (hown : s.vm.findClass own = some m.cls) (hclink : (Cond.classLink own index ("[" ++ (FieldType.array ty).toString)).before args s = true) (hover : va_AOA ty s) (harr : (Cond.arrayClass ty).before args s = true) (hcy : s.vm.findClass (FieldType.array ty).toString = some cy)
    (hK : va_K D cl tys s) (hP : va_P D cl (X ++ va_pl L f) H) (hD : va_D A (X ++ va_pl L f)) (hS : va_S A H0 H locs) (hA : ∀ q, H0.size ≤ q → A q) {n k : Int32} {N' K' : Nat} {z : vp_A} (hn : ¬ n < 0) (hk : ¬ k < 0) (hN : n.toNatClampNeg = N') (hM : k.toNatClampNeg = K')
    (hb1 : N' * 4 ≤ 536870912) (hb2 : K' * componentBytes ty ≤ 536870912) (hb3 : K' ≤ 536870912) (hdf : fits ty (defaultValue ty) = true) (hdd : (defaultValue ty).isDefault = true) (hcells : cells + (1 + N') ≤ R.cells) (hslots : slots + (N' + N' * K') ≤ R.slots) (hz : ∀ c : ClassId, Jvm.Free.Multi.innerC c K' (defaultValue ty) = vp_cell c z) (hdg : decode cc pc = .ok (.multianewarray index 2, 4))
    (kk : ∀ (q : Nat) (r : Nat → Nat) (cA : ClassId) (H1 : Heap), (∀ i j : Nat, i < N' → j < N' → r i = r j → i = j) → (∀ i : Nat, i < N' → r i ∉ L) → va_K D cl (tys ++ [(cA, .array ty)]) s →
      va_P D cl ((X ++ [(q, .inl (cA, N', .inr (.inr (.inr (.inr (fun i => if i < N' then some (r i) else none))))))]) ++ va_pl (L ++ (List.range N').map r) (vr_up f ((List.range N').map r) (.inl (cy, z)))) H1 → va_D A ((X ++ [(q, .inl (cA, N', .inr (.inr (.inr (.inr (fun i => if i < N' then some (r i) else none))))))]) ++ va_pl (L ++ (List.range N').map r) (vr_up f ((List.range N').map r) (.inl (cy, z)))) → va_S A H0 H1 locs →
      W p l e R s m args below meth c H1 locs (cells + 1 + N') (slots + N' + N' * K') Q (F0 m (pc + 4) ls (.ref q :: rest))) : W p l e R s m args below meth c H locs cells slots Q (F0 m pc ls (.int k :: .int n :: rest)) := by
  subst hN
  subst hM
  intro T hT Xs
  obtain ⟨vm₁, cA, comp, -, fA, fC, hO, -, X', step⟩ := Xs.multianewarray2F hexec hown hclink (va_AOA.use hover) harr (g := F0 m pc ls (.int k :: .int n :: rest)) rfl (by rw [hb]; exact hdg) rfl hn hk hb1 hb2 hb3 hdf hdd hcells hslots
  have ec : some cy = some comp := hcy.symm.trans fC
  cases ec
  generalize hF : Jvm.Free.Multi.fill (T.setVm vm₁) cA cy n.toNatClampNeg k.toNatClampNeg (defaultValue ty) n.toNatClampNeg = F at X' step
  have hTh : (T.setVm vm₁).heap = H := hT
  obtain ⟨f1, f2, -, -⟩ := Jvm.Free.Multi.fill_facts (T.setVm vm₁) cA cy n.toNatClampNeg k.toNatClampNeg (defaultValue ty) n.toNatClampNeg
  rw [hF, hTh] at f1 f2
  have hold : ∀ x : Nat, x < H.size → F.heap[x]? = H[x]? := fun x hx => by
    have := Jvm.Free.Multi.fill_old (T.setVm vm₁) cA cy n.toNatClampNeg k.toNatClampNeg (defaultValue ty) (a := x) (by rw [hTh]; exact hx) n.toNatClampNeg
    rw [hF, hTh] at this
    exact this
  have hrow : ∀ j : Nat, j < n.toNatClampNeg → F.heap[H.size + 1 + j]? = some (vp_cell cy z) := fun j hj => by
    have := Jvm.Free.Multi.fill_inner (T.setVm vm₁) cA cy n.toNatClampNeg k.toNatClampNeg (defaultValue ty) n.toNatClampNeg j hj
    rw [hF, hTh, hz] at this
    exact this
  have hout : Jvm.Free.Multi.outerC cA n.toNatClampNeg H.size n.toNatClampNeg = vp_cell cA (n.toNatClampNeg, .inr (.inr (.inr (.inr (fun i => if i < n.toNatClampNeg then some (H.size + 1 + i) else none))))) := by
    rw [vp_cell_q]
    exact vr_outer cA n.toNatClampNeg H.size n.toNatClampNeg
  rw [hout] at f2
  have hlt : ∀ a, a ∈ L → a < H.size := fun a ha => by
    obtain ⟨k9, hk9⟩ := va_pl_get (X := X) (f := f) ha
    exact (hP k9 _ hk9).lt
  have hnl : ∀ i : Nat, i < n.toNatClampNeg → H.size + 1 + i ∉ L := fun i _ h => by
    have := hlt _ h
    omega
  have hnm : ∀ a, a ∈ (List.range n.toNatClampNeg).map (fun i => H.size + 1 + i) → a ∉ L := fun a ha h => by
    obtain ⟨i, -, rfl⟩ := List.mem_map.mp ha
    have := hlt _ h
    omega
  have hP0 : va_P D cl (X ++ va_pl L f) F.heap := hP.kept (fun k9 x hx => hold x.1 ((hP k9 x hx).lt))
  have hP1 : va_P D cl ((X ++ va_pl L f) ++ [(H.size, .inl (cA, n.toNatClampNeg, .inr (.inr (.inr (.inr (fun i => if i < n.toNatClampNeg then some (H.size + 1 + i) else none))))))]) F.heap := hP0.app (fun k9 x hx => by
    have h0 : k9 < 1 := (List.getElem?_eq_some_iff.mp hx).1
    rw [show k9 = 0 by omega] at hx
    cases hx
    exact f2)
  have hP2 : va_P D cl (((X ++ va_pl L f) ++ [(H.size, .inl (cA, n.toNatClampNeg, .inr (.inr (.inr (.inr (fun i => if i < n.toNatClampNeg then some (H.size + 1 + i) else none))))))]) ++ ((List.range n.toNatClampNeg).map (fun i => H.size + 1 + i)).map (fun a => (a, .inl (cy, z)))) F.heap := hP1.app (fun k9 x hx => by
    obtain ⟨a, ha, rfl⟩ := List.mem_map.mp (List.mem_of_getElem? hx)
    obtain ⟨i, hi, rfl⟩ := List.mem_map.mp ha
    exact hrow i (List.mem_range.mp hi))
  have hD2 : va_D A (((X ++ va_pl L f) ++ [(H.size, .inl (cA, n.toNatClampNeg, .inr (.inr (.inr (.inr (fun i => if i < n.toNatClampNeg then some (H.size + 1 + i) else none))))))]) ++ ((List.range n.toNatClampNeg).map (fun i => H.size + 1 + i)).map (fun a => (a, .inl (cy, z)))) := by
    have hD1 := hD.push (e := .inl (cA, n.toNatClampNeg, .inr (.inr (.inr (.inr (fun i => if i < n.toNatClampNeg then some (H.size + 1 + i) else none)))))) hP rfl (hA _ hS.1)
    generalize hW1 : (X ++ va_pl L f) ++ [(H.size, .inl (cA, n.toNatClampNeg, .inr (.inr (.inr (.inr (fun i => if i < n.toNatClampNeg then some (H.size + 1 + i) else none))))))] = W1 at hD1 hP1 ⊢
    have hle : ∀ (k9 : Nat) (x : Nat × va_E), W1[k9]? = some x → x.1 ≤ H.size := fun k9 x hx => by
      rw [← hW1] at hx
      by_cases hl : k9 < (X ++ va_pl L f).length
      · rw [List.getElem?_append_left hl] at hx
        exact Nat.le_of_lt ((hP k9 x hx).lt)
      · rw [List.getElem?_append_right (by omega)] at hx
        have h0 : k9 - (X ++ va_pl L f).length < 1 := (List.getElem?_eq_some_iff.mp hx).1
        rw [show k9 - (X ++ va_pl L f).length = 0 by omega] at hx
        cases hx
        exact Nat.le_refl _
    have hr : ∀ (k9 : Nat) (x : Nat × va_E), (((List.range n.toNatClampNeg).map (fun i => H.size + 1 + i)).map (fun a => ((a, .inl (cy, z)) : Nat × va_E)))[k9]? = some x → x.1 = H.size + 1 + k9 := fun k9 x hx => by
      rw [List.getElem?_map, List.getElem?_map] at hx
      by_cases h9 : k9 < n.toNatClampNeg
      · rw [List.getElem?_range h9] at hx
        cases hx
        rfl
      · have hn0 : (List.range n.toNatClampNeg)[k9]? = none := List.getElem?_eq_none (by rw [List.length_range]; omega)
        rw [hn0] at hx
        cases hx
    refine ⟨fun i j x y hi hj hxy => ?_, fun k9 x hx => ?_⟩
    · by_cases h1 : i < W1.length <;> by_cases h2 : j < W1.length
      · rw [List.getElem?_append_left h1] at hi
        rw [List.getElem?_append_left h2] at hj
        exact hD1.1 i j x y hi hj hxy
      · rw [List.getElem?_append_left h1] at hi
        rw [List.getElem?_append_right (by omega)] at hj
        have := hle _ _ hi
        have := hr _ _ hj
        omega
      · rw [List.getElem?_append_right (by omega)] at hi
        rw [List.getElem?_append_left h2] at hj
        have := hle _ _ hj
        have := hr _ _ hi
        omega
      · rw [List.getElem?_append_right (by omega)] at hi hj
        have := hr _ _ hi
        have := hr _ _ hj
        omega
    · by_cases h1 : k9 < W1.length
      · rw [List.getElem?_append_left h1] at hx
        exact hD1.2 k9 x hx
      · rw [List.getElem?_append_right (by omega)] at hx
        have := hr _ _ hx
        exact hA _ (by have := hS.1; omega)
  have hAr : ArrOfT s cA (.array ty) := fun N9 z9 => by
    obtain ⟨-, k9, hk9, cm9, hkk9⟩ := (hO 0 0 0).1
    exact ⟨(fun q hq => by cases hq), k9, hk9, cm9, hkk9⟩
  have hK2 : va_K D cl (tys ++ [(cA, .array ty)]) s := ⟨hK.1, fun k9 x hx => by
    by_cases hl : k9 < tys.length
    · rw [List.getElem?_append_left hl] at hx
      exact hK.2 k9 x hx
    · rw [List.getElem?_append_right (by omega)] at hx
      have h0 : k9 - tys.length < 1 := (List.getElem?_eq_some_iff.mp hx).1
      rw [show k9 - tys.length = 0 by omega] at hx
      cases hx
      exact ⟨hAr, fA⟩⟩
  obtain ⟨t, a1, b1⟩ := kk H.size (fun i => H.size + 1 + i) cA F.heap (fun i j _ _ h => by have h9 : H.size + 1 + i = H.size + 1 + j := h; omega) hnl hK2 (by rw [← vr_rows hnm]; exact vr_lay hP2) (by rw [← vr_rows hnm]; exact vr_layD hD2) ⟨by rw [f1]; have := hS.1; omega, fun x h1 h2 => (hold x (Nat.lt_of_lt_of_le h1 hS.1)).trans (hS.2.1 x h1 h2), hS.2.2⟩ F rfl X'
  refine ⟨t, step t ?_, b1⟩
  have e : T.heap.size = H.size := by rw [hT]
  rw [e]
  exact a1
end VGM
end
section
def cb_okv (P : Nat → Bool) (v : cb_V) : Bool := match v with
  | .inr (some q) => P q || (decide (900 ≤ q) && decide (q < 904))
  | _ => true
def cb_kp (P : Nat → Bool) (lv : List (Option cb_V)) (st : List cb_V) : Bool := lv.all (fun o => match o with
  | some v => cb_okv P v
  | none => true) && st.all (cb_okv P)
theorem cb_okvv {ad ad' : Nat → Nat} {P : Nat → Bool} {v : cb_V} (h : cb_okv P v = true) (ha : ∀ q, P q = true → ad' q = ad q) (h9 : ∀ j, j < 4 → ad' (900 + j) = ad (900 + j)) : cb_vv ad' v = cb_vv ad v := by
  rcases v with x | o
  · rfl
  · cases o with
    | none => rfl
    | some q =>
      simp only [cb_okv, Bool.or_eq_true, Bool.and_eq_true, decide_eq_true_eq] at h
      show Value.ref (ad' q) = Value.ref (ad q)
      rcases h with h | ⟨h1, h2⟩
      · rw [ha q h]
      · have := h9 (q - 900) (by omega)
        rw [show 900 + (q - 900) = q by omega] at this
        rw [this]
theorem cb_kpl {ad ad' : Nat → Nat} {P : Nat → Bool} {lv : List (Option cb_V)} {st : List cb_V} {ls : Array Slot} {n : Nat} (h : cb_kp P lv st = true) (ha : ∀ q, P q = true → ad' q = ad q) (h9 : ∀ j, j < 4 → ad' (900 + j) = ad (900 + j)) (hl : cb_lh ad ls n lv) : cb_lh ad' ls n lv ∧ st.map (cb_vv ad') = st.map (cb_vv ad) := by
  simp only [cb_kp, Bool.and_eq_true, List.all_eq_true] at h
  refine ⟨⟨hl.1, hl.2.1, fun i v hv => ?_⟩, List.map_congr_left fun v hv => cb_okvv (h.2 v hv) ha h9⟩
  rw [cb_okvv (h.1 _ (List.mem_of_getElem? hv)) ha h9]
  exact hl.2.2 i v hv
theorem cb_Wo.ro {g : cb_G} {z : Nat} {ad : Nat → Nat} {w : cb_W} {H : Heap} (h : cb_Wo g z ad w H) : ∀ j, j < 4 → ad (900 + j) = g.2.2.2.1 j := fun j hj => (h.choose_spec.2.2.2.2 j hj).1
theorem cb_Nw.same {u U : State} (h : u.vm = U.vm) (hN : cb_Nw u) : cb_Nw U := by
  intro w hw
  have h1 := hN w hw
  have h2 := (List.mem_filter.mp hw).2
  cases w <;> first | (exact va_Nw.same rfl h h1) | (exact absurd h2 (by simp [cb_isN]))
theorem cb_Ev.mv {g : cb_G} {z : Nat} {s U : State} {locs : List Loc} (hE : cb_Ev g z s) (hW : s.WarmedH U.vm) (hS : va_S (cb_A z) s.heap U.heap locs) : cb_Ev g z U := by
  obtain ⟨h1, h2, h3, h4, h5, h6, h7, h8, h9, h10⟩ := hE
  have hkp : ∀ a : Nat, a < s.heap.size → ¬ cb_A z a → U.heap[a]? = s.heap[a]? := fun a ha hn => hS.2.1 a ha hn
  exact ⟨va_K.moved hW.alike h1, Nat.le_trans h2 hS.1, cb_Nw.warm hW h3, va_AO.moved hW.alike h4, va_AO.moved hW.alike h5, over_moved hW.alike h6, (va_Z.moved hW.alike h7).kept hkp, (va_Z.moved hW.alike h8).kept hkp, (va_Z.moved hW.alike h9).kept hkp, fun j hj => (va_T.moved hW.alike (h10 j hj)).kept hkp⟩
theorem cb_Ev.calling {g : cb_G} {z : Nat} {U : State} {fr : JFrame} {mk : MethodId} {a : Array Value} (hE : cb_Ev g z U) : cb_Ev g z (U.calling fr mk a) := by
  obtain ⟨h1, h2, h3, h4, h5, h6, h7, h8, h9, h10⟩ := hE
  have hal : U.vm.Alike (U.calling fr mk a).vm := Vm.Alike.refl U.vm
  exact ⟨va_K.moved hal h1, h2, cb_Nw.same (u := U) (U := U.calling fr mk a) rfl h3, va_AO.moved hal h4, va_AO.moved hal h5, over_moved hal h6, va_Z.moved hal h7, va_Z.moved hal h8, va_Z.moved hal h9, fun j hj => va_T.moved hal (h10 j hj)⟩
theorem cb_blind {g : cb_G} {z : Nat} {ad : Nat → Nat} {As : List cb_V} {w : cb_W} : FrameBlind (cb_Pc g z ad As w) := fun a U fr mk h => ⟨h.1, h.2.1, h.2.2.calling⟩
def cb_ML (own : String) (idx : Nat) (y : MethodName) : Prop := Cond.methodLink own idx y ∈ cb_gw ∨ ∃ host, Cond.methodLinkNest own idx y host ∈ cb_nw
def cb_MY (y : MethodName) (code : ByteArray) (maxL : Nat) (ret : Option FieldType) (n : Nat) : Prop := Cond.code y code maxL ret ∈ cb_gw ∧ Cond.initialized y.cls ∈ cb_gw ∧ (y.cls ≠ "java/lang/invoke/MethodHandle" ∧ y.cls ≠ "java/lang/invoke/VarHandle" ∧ (parseMethodDescriptor y.desc).map (fun d => d.parameters.length) = some n)
def cb_pi (P : Int32 → cb_W → Prop) : Option Int32 → cb_W → Prop := fun r w => match r with
  | some x => P x w
  | none => False
def cb_pv (P : cb_W → Prop) : Option Int32 → cb_W → Prop := fun r w => match r with
  | some _ => False
  | none => P w
section CBC
variable {κ : cb_K} {cc : ByteArray} {nL : Nat} {own : String} {R : Room} {w : cb_W} {ca sl pc : Nat} {lv : List (Option cb_V)} {st stk : List cb_V} {y : MethodName} {code : ByteArray} {maxL : Nat} {ret : Option FieldType} {fr lo mc ms idx n : Nat} {keep : Nat → Bool} {As : List cb_V}
theorem cb_back {post : Option Int32 → cb_W → Prop} {ad : Nat → Nat} {H : Heap} {locs : List Loc} {ls : Array Slot} {a : Array Value} (hE : cb_Ev κ.2.2.1.1 κ.2.2.1.2 κ.1.2.2.2.2) (hW : cb_Wo κ.2.2.1.1 κ.2.2.1.2 ad w H) (hk : ∀ q, κ.2.2.2.2.1 q = true → ad q = κ.2.2.2.1 q) (hS : va_S (cb_A κ.2.2.1.2) κ.1.2.2.2.2.heap H locs) (hl : cb_lh ad ls κ.2.1.2.2.2.2.maxLocals lv) (hkk : ∀ q, κ.2.2.2.2.1 q = true → keep q = true) (hkp : cb_kp keep lv st = true)
    (hr : va_Run κ.1.1 κ.1.2.1 κ.1.2.2.1 κ.1.2.2.2.1 κ.1.2.2.2.2 κ.2.1.1 κ.2.1.2.1 κ.2.1.2.2.1 κ.2.1.2.2.2.1 κ.2.1.2.2.2.2 H locs ca sl mc ms (F0 κ.2.1.1 pc ls (stk.map (cb_vv ad))) (st.map (cb_vv ad)) (cb_Qt κ.2.2.1.1 κ.2.2.1.2 ad keep post a) (cb_A κ.2.2.1.2))
    (kk : ∀ (r : Option Int32) (w' : cb_W), post r w' → cb_X κ w' (ca + mc) (sl + ms) (pc + 3) lv ((r.map Sum.inl).toList ++ st)) : W κ.1.1 κ.1.2.1 κ.1.2.2.1 κ.1.2.2.2.1 κ.1.2.2.2.2 κ.2.1.1 κ.2.1.2.1 κ.2.1.2.2.1 κ.2.1.2.2.2.1 κ.2.1.2.2.2.2 H locs ca sl κ.2.2.2.2.2 (F0 κ.2.1.1 pc ls (stk.map (cb_vv ad))) := by
  intro T hT X
  obtain ⟨v, st₀, t, T', L, h0, X', hL, e1, e2, ⟨⟨r, w', ad', hv, hp, hkad, hWo⟩, hz, hf⟩, stp⟩ := hr T hT X
  rw [h0] at hz hf
  have hv' : v = r.map Value.int := by
    cases hv
    rfl
  subst hv'
  have h9 : ∀ j, j < 4 → ad' (900 + j) = ad (900 + j) := fun j hj => (hWo.ro j hj).trans (hW.ro j hj).symm
  obtain ⟨hl2, hst2⟩ := cb_kpl hkp hkad h9 hl
  have hS1 : va_S (cb_A κ.2.2.1.2) κ.1.2.2.2.2.heap t.heap (locs ++ L) := ⟨Nat.le_trans hS.1 hz, fun q h1 h2 => by
      rw [hf q (Nat.lt_of_lt_of_le h1 hS.1) h2]
      exact hS.2.1 q h1 h2, fun q hq => by
      rcases List.mem_append.mp hq with h | h
      · exact hS.2.2 q h
      · exact hL q h⟩
  have K := kk r w' hp ad' t.heap (locs ++ L) ls hWo (fun q hq => (hkad q (hkk q hq)).trans (hk q hq)) hS1 hl2
  obtain ⟨t2, a1, b1⟩ := K T' e1 X'
  refine ⟨t2, stp t2 ?_, b1⟩
  have e3 : ((r.map Sum.inl).toList ++ st).map (cb_vv ad') = (r.map Value.int).toList ++ st.map (cb_vv ad) := by
    rw [List.map_append, hst2]
    cases r <;> rfl
  rw [e3] at a1
  exact a1
theorem cb_cat8 {ad : Nat → Nat} {m : MethodId} {ls : Array Slot} {rest : List Value} : ∀ {st : List cb_V}, st.length ≤ 8 → 2 * (F0 m pc ls rest).monitorRoom + ((st.map (cb_vv ad)).map fun v => v.category).sum ≤ 8 := by
  intro st h
  have e : ((st.map (cb_vv ad)).map fun v => v.category).sum = st.length := by
    induction st with
    | nil => rfl
    | cons a t ih =>
      simp only [List.map_cons, List.sum_cons, cb_cat, List.length_cons]
      rw [ih (by simp at h; omega)]
      omega
  rw [e]
  show 2 * 0 + _ ≤ 8
  omega
theorem cb_run0 {post : Option Int32 → cb_W → Prop} (O : cb_Ok κ cc nL own R) (hc : cb_Con y code maxL ret fr lo mc ms keep As w post) (hm : cb_MY y code maxL ret n) (hR : fr + 1 ≤ R.frames ∧ 8 + (maxL + 11) + lo ≤ R.locals) (l : Cond.methodLink own idx y ∈ cb_gw) : CallB κ.1.2.2.2.1 κ.1.2.2.2.2 κ.2.1.2.1 own idx y code maxL ret (.code y code maxL ret :: cb_gw) (cb_rm fr mc ms lo) mc ms n := by
  obtain ⟨hx, hb, hml, hown, hts, hE, hRR, -⟩ := O
  exact callB_of n hts (cb_gin hm.1) rfl rfl rfl (hts _ hm.2.1) (hts _ l) hm.2.2 (by rw [hRR]; exact hR)
theorem cb_runN {post : Option Int32 → cb_W → Prop} {host : String} (O : cb_Ok κ cc nL own R) (hc : cb_Con y code maxL ret fr lo mc ms keep As w post) (hm : cb_MY y code maxL ret n) (hR : fr + 1 ≤ R.frames ∧ 8 + (maxL + 11) + lo ≤ R.locals) (l : Cond.methodLinkNest own idx y host ∈ cb_nw) : va_CN κ.1.2.2.2.1 κ.1.2.2.2.2 κ.2.1.2.1 own idx y host code maxL ret (.code y code maxL ret :: cb_gw) (cb_rm fr mc ms lo) mc ms n := by
  obtain ⟨hx, hb, hml, hown, hts, hE, hRR, -⟩ := O
  exact va_cnB n hts (cb_gin hm.1) rfl rfl rfl (hE.2.2.1 _ l) (hts _ hm.2.1) hm.2.2 (by rw [hRR]; exact hR)
theorem cb_callV0 {post : Option Int32 → cb_W → Prop} {b ci : Nat} (O : cb_Ok κ cc nL own R) (hc : cb_Con y code maxL ret fr lo mc ms keep (.inr (some b) :: As) w post) (hm : cb_MY y code maxL ret n) (hi : Cond.instanceMethod y ∈ cb_gw) (hsel : Cond.selects y.cls y y ∈ cb_gw) (hl : cb_ML own idx y) (hlen : As.length = n) (hs : cb_sh b = (0, ci)) (hcl : cb_CT ci ∧ cb_C ci = y.cls) (hR : fr + 1 ≤ R.frames ∧ 8 + (maxL + 11) + lo ≤ R.locals) (hf : ca + mc ≤ R.cells ∧ sl + ms ≤ R.slots) (hkk : ∀ q, κ.2.2.2.2.1 q = true → keep q = true) (hkp : cb_kp keep lv st = true) (h8 : st.length ≤ 8) (hd : decode cc pc = .ok (.invokevirtual idx, 3)) (hstk : stk = As.reverse ++ (.inr (some b) :: st)) (hr : w.1 b = true)
    (kk : ∀ (r : Option Int32) (w' : cb_W), post r w' → cb_X κ w' (ca + mc) (sl + ms) (pc + 3) lv ((r.map Sum.inl).toList ++ st)) : cb_X κ w ca sl pc lv stk := by
  intro ad H locs ls hW hk hS hlh
  obtain ⟨hx, hb, hml, hown, hts, hE, hRR, -⟩ := id O
  have hP : PreV κ.1.2.2.2.2 H y.cls (ad b) (cb_Pc κ.2.2.1.1 κ.2.2.1.2 ad (.inr (some b) :: As) w) (As.map (cb_vv ad)) := by
    refine ⟨cb_blind, ?_, fun U hU hWm => ⟨rfl, by rw [hU]; exact hW, hE.mv hWm (by rw [hU]; exact hS)⟩⟩
    obtain ⟨L, hL, hPP, hD, hq, hro⟩ := hW
    obtain ⟨p, hp, he⟩ := cb_pos (g := κ.2.2.1.1) (ad := ad) hL hr
    rw [cb_en0 hs] at he
    have := va_recv hE.1 hPP (cb_clat hcl.1.1) he
    rw [hcl.2] at this
    exact this
  have hstk2 : (F0 κ.2.1.1 pc ls (stk.map (cb_vv ad))).stack = (As.map (cb_vv ad)).reverse ++ .ref (ad b) :: st.map (cb_vv ad) := by
    show stk.map (cb_vv ad) = _
    rw [hstk, List.map_append, List.map_reverse]
    rfl
  rcases hl with l | ⟨host, l⟩
  · exact cb_back hE hW hk hS hlh hkk hkp (va_runV (As := As.map (cb_vv ad)) (rest := st.map (cb_vv ad)) ⟨hx, hb, rfl, hown, hts⟩ (hc κ.2.2.1.1 κ.2.2.1.2 κ.1.2.1 ad) ⟨cb_run0 O hc hm hR l, hts _ hi, hts _ hsel⟩ hP rfl (by rw [List.length_map]; exact hlen) hlh.1 hstk2 (cb_cat8 h8) hd (by rw [hRR]; exact hf)) kk
  · exact cb_back hE hW hk hS hlh hkk hkp (va_runVN (As := As.map (cb_vv ad)) (rest := st.map (cb_vv ad)) ⟨hx, hb, rfl, hown, hts⟩ (hc κ.2.2.1.1 κ.2.2.1.2 κ.1.2.1 ad) ⟨cb_runN O hc hm hR l, hts _ hi, hts _ hsel⟩ hP rfl (by rw [List.length_map]; exact hlen) hlh.1 hstk2 (cb_cat8 h8) hd (by rw [hRR]; exact hf)) kk
theorem cb_callS0 {post : Option Int32 → cb_W → Prop} (O : cb_Ok κ cc nL own R) (hc : cb_Con y code maxL ret fr lo mc ms keep As w post) (hm : cb_MY y code maxL ret n) (hi : Cond.static y ∈ cb_gw) (hl : cb_ML own idx y) (hlen : As.length = n) (hR : fr + 1 ≤ R.frames ∧ 8 + (maxL + 11) + lo ≤ R.locals) (hf : ca + mc ≤ R.cells ∧ sl + ms ≤ R.slots) (hkk : ∀ q, κ.2.2.2.2.1 q = true → keep q = true) (hkp : cb_kp keep lv st = true) (h8 : st.length ≤ 8) (hd : decode cc pc = .ok (.invokestatic idx, 3)) (hstk : stk = As.reverse ++ st)
    (kk : ∀ (r : Option Int32) (w' : cb_W), post r w' → cb_X κ w' (ca + mc) (sl + ms) (pc + 3) lv ((r.map Sum.inl).toList ++ st)) : cb_X κ w ca sl pc lv stk := by
  intro ad H locs ls hW hk hS hlh
  obtain ⟨hx, hb, hml, hown, hts, hE, hRR, -⟩ := id O
  have hP : PreS κ.1.2.2.2.2 H (cb_Pc κ.2.2.1.1 κ.2.2.1.2 ad As w) (As.map (cb_vv ad)) :=
    ⟨cb_blind, fun U hU hWm => ⟨rfl, by rw [hU]; exact hW, hE.mv hWm (by rw [hU]; exact hS)⟩⟩
  have hstk2 : (F0 κ.2.1.1 pc ls (stk.map (cb_vv ad))).stack = (As.map (cb_vv ad)).reverse ++ st.map (cb_vv ad) := by
    show stk.map (cb_vv ad) = _
    rw [hstk, List.map_append, List.map_reverse]
  rcases hl with l | ⟨host, l⟩
  · exact cb_back hE hW hk hS hlh hkk hkp (va_runS (As := As.map (cb_vv ad)) (rest := st.map (cb_vv ad)) ⟨hx, hb, rfl, hown, hts⟩ (hc κ.2.2.1.1 κ.2.2.1.2 κ.1.2.1 ad) ⟨cb_run0 O hc hm hR l, hts _ hi⟩ hP rfl (by rw [List.length_map]; exact hlen) hlh.1 hstk2 (cb_cat8 h8) hd (by rw [hRR]; exact hf)) kk
  · exact cb_back hE hW hk hS hlh hkk hkp (va_runSN (As := As.map (cb_vv ad)) (rest := st.map (cb_vv ad)) ⟨hx, hb, rfl, hown, hts⟩ (hc κ.2.2.1.1 κ.2.2.1.2 κ.1.2.1 ad) ⟨cb_runN O hc hm hR l, hts _ hi, trivial⟩ hP rfl (by rw [List.length_map]; exact hlen) hlh.1 hstk2 (cb_cat8 h8) hd (by rw [hRR]; exact hf)) kk
theorem cb_callI0 {post : Option Int32 → cb_W → Prop} {b : Nat} (O : cb_Ok κ cc nL own R) (hc : cb_Con y code maxL none fr lo mc ms keep (.inr (some b) :: As) w post) (hm : cb_MY y code maxL none n) (hi : Cond.instanceMethod y ∈ cb_gw) (hy : y.name = "<init>") (hl : cb_ML own idx y) (hlen : As.length = n) (hR : fr + 1 ≤ R.frames ∧ 8 + (maxL + 11) + lo ≤ R.locals) (hf : ca + mc ≤ R.cells ∧ sl + ms ≤ R.slots) (hkk : ∀ q, κ.2.2.2.2.1 q = true → keep q = true) (hkp : cb_kp keep lv st = true) (h8 : st.length ≤ 8) (hd : decode cc pc = .ok (.invokespecial idx, 3)) (hstk : stk = As.reverse ++ (.inr (some b) :: st))
    (kk : ∀ (r : Option Int32) (w' : cb_W), post r w' → cb_X κ w' (ca + mc) (sl + ms) (pc + 3) lv ((r.map Sum.inl).toList ++ st)) : cb_X κ w ca sl pc lv stk := by
  intro ad H locs ls hW hk hS hlh
  obtain ⟨hx, hb, hml, hown, hts, hE, hRR, -⟩ := id O
  have hP : PreS κ.1.2.2.2.2 H (cb_Pc κ.2.2.1.1 κ.2.2.1.2 ad (.inr (some b) :: As) w) (.ref (ad b) :: As.map (cb_vv ad)) :=
    ⟨cb_blind, fun U hU hWm => ⟨rfl, by rw [hU]; exact hW, hE.mv hWm (by rw [hU]; exact hS)⟩⟩
  have hstk2 : (F0 κ.2.1.1 pc ls (stk.map (cb_vv ad))).stack = (As.map (cb_vv ad)).reverse ++ .ref (ad b) :: st.map (cb_vv ad) := by
    show stk.map (cb_vv ad) = _
    rw [hstk, List.map_append, List.map_reverse]
    rfl
  rcases hl with l | ⟨host, l⟩
  · exact cb_back hE hW hk hS hlh hkk hkp (va_runI (As := As.map (cb_vv ad)) (rest := st.map (cb_vv ad)) ⟨hx, hb, rfl, hown, hts⟩ (hc κ.2.2.1.1 κ.2.2.1.2 κ.1.2.1 ad) ⟨cb_run0 O hc hm hR l, hy, hts _ hi⟩ hP rfl (by rw [List.length_map]; exact hlen) hlh.1 hstk2 (cb_cat8 h8) hd (by rw [hRR]; exact hf)) kk
  · exact cb_back hE hW hk hS hlh hkk hkp (va_runIN (As := As.map (cb_vv ad)) (rest := st.map (cb_vv ad)) ⟨hx, hb, rfl, hown, hts⟩ (hc κ.2.2.1.1 κ.2.2.1.2 κ.1.2.1 ad) ⟨cb_runN O hc hm hR l, hy, hts _ hi⟩ hP rfl (by rw [List.length_map]; exact hlen) hlh.1 hstk2 (cb_cat8 h8) hd (by rw [hRR]; exact hf)) kk
end CBC
end
section
section CBP
variable {κ : cb_K} {cc : ByteArray} {nL : Nat} {own : String} {R : Room} {w : cb_W} {ca sl pc : Nat} {lv : List (Option cb_V)} {st : List cb_V}
theorem cb_objInit (O : cb_Ok κ cc nL own R) {idx r : Nat} (hd : decode cc pc = .ok (.invokespecial idx, 3)) (hm : Cond.methodLink own idx objectInit ∈ cb_gw) (h2 : Cond.instanceMethod objectInit ∈ cb_gw) (h3 : Cond.code objectInit ⟨#[0xb1]⟩ 1 none ∈ cb_gw) (hR : 1 ≤ R.frames ∧ 20 ≤ R.locals) (h8 : st.length ≤ 8) (k : cb_X κ w ca sl (pc + 3) lv st) : cb_X κ w ca sl pc lv (.inr (some r) :: st) := by
  intro ad H locs ls hW hk hS hl
  obtain ⟨hx, hb, hml, hown, hts, hE, hRR, -⟩ := id O
  have h9 := cb_cat8 (pc := pc) (ad := ad) (m := κ.2.1.1) (ls := ls) (rest := (st.map (cb_vv ad))) h8
  refine W.objInit hx hb hown (hts _ hm) (hts _ h2) (hts _ h3) rfl hl.1 rfl hd (by rw [hRR]; exact hR.1) ?_ ?_
  · rw [hRR]
    have h10 : 2 * (F0 κ.2.1.1 pc ls (List.map (cb_vv ad) (.inr (some r) :: st))).monitorRoom + ((st.map (cb_vv ad)).map fun v => v.category).sum ≤ 8 := h9
    exact Nat.le_trans (Nat.add_le_add_right h10 12) hR.2
  · exact k ad H locs ls hW hk hS hl
def cb_nwM (w : cb_W) (r b n : Nat) : cb_W := (fun q => if q = r ∨ (b ≤ q ∧ q < b + n) then true else w.1 q, fun q => if q = r ∨ (b ≤ q ∧ q < b + n) then (fun _ => 0) else w.2.1 q, fun q => if q = r then (fun j => if j < n then some (b + j) else none) else if b ≤ q ∧ q < b + n then (fun _ => none) else w.2.2 q)
def cb_adM (ad : Nat → Nat) (r b n a : Nat) (rr : Nat → Nat) : Nat → Nat := fun q => if q = r then a else if b ≤ q ∧ q < b + n then rr (q - b) else ad q
theorem cb_mnew (O : cb_Ok κ cc nL own R) {n m idx : Nat} {x y : Int32} (r b : Nat) (hcl : Cond.classLink own idx "[[I" ∈ cb_gw) (harr : Cond.arrayClass .int ∈ cb_gw) (hs : cb_sh r = (5, n)) (hsb : ∀ i, i < n → cb_sh (b + i) = (1, m)) (hd : decode cc pc = .ok (.multianewarray idx 2, 4)) (hx0 : ¬ x < 0) (hxn : x.toNatClampNeg = n) (hy0 : ¬ y < 0) (hyn : y.toNatClampNeg = m) (hbig : n ≤ 1000 ∧ m ≤ 1000) (hr9 : (r < b ∨ b + n ≤ r) ∧ r < 900 ∧ b + n ≤ 900) (hkp : ∀ q, κ.2.2.2.2.1 q = true → ¬ (q = r ∨ (b ≤ q ∧ q < b + n))) (hfr : cb_kp (fun q => !(q == r || (decide (b ≤ q) && decide (q < b + n)))) lv st = true) (h1 : ca + (1 + n) ≤ R.cells) (h2 : sl + (n + n * m) ≤ R.slots) (hr : w.1 r = false) (hrb : ∀ i, i < n → w.1 (b + i) = false)
    (kk : cb_X κ (cb_nwM w r b n) (ca + 1 + n) (sl + n + n * m) (pc + 4) lv (.inr (some r) :: st)) : cb_X κ w ca sl pc lv (.inl y :: .inl x :: st) := by
  intro ad H locs ls hW hk hS hl
  have hW0 := hW
  obtain ⟨L, hL, hP, hD, hq, hro⟩ := hW
  obtain ⟨hx, hb, hml, hown, hts, hE, hR, hlk⟩ := O
  have hz : ∀ c : ClassId, Jvm.Free.Multi.innerC c m (defaultValue .int) = vp_cell c (m, .inl (fun _ => 0)) := fun c => by
    show ({ cls := c, slots := Array.replicate m (.int 0), vm := .none } : Cell) = _
    rw [arrV_new]
    rfl
  have hcy : κ.1.2.2.2.2.vm.findClass (FieldType.array .int).toString = some (κ.2.2.1.1.2.2.1 1) := (hE.1.2 0 _ rfl).2
  have e0 : cb_ls κ.2.2.1.1 ad w L ++ va_pl [] (fun _ => .inr (0, [])) = cb_ls κ.2.2.1.1 ad w L := List.append_nil _
  have hne : ∀ q, w.1 q = true → ¬ (q = r ∨ (b ≤ q ∧ q < b + n)) := fun q h e1 => by
    rcases e1 with e1 | ⟨e1, e2⟩
    · rw [e1, hr] at h; cases h
    · have := hrb (q - b) (by omega)
      rw [show b + (q - b) = q by omega, h] at this
      cases this
  refine va_mna (X := cb_ls κ.2.2.1.1 ad w L) (L := []) (f := fun _ => .inr (0, [])) (ty := .int) (z := (m, .inl (fun _ => 0))) hx hb hown (hts _ hcl) hE.2.2.2.2.2.1 (hts _ harr) hcy hE.1 (by rw [e0]; exact hP) (by rw [e0]; exact hD) hS (fun q h => Nat.le_trans hE.2.1 h) hx0 hy0 hxn hyn (by omega) (by have : componentBytes .int = 4 := rfl; rw [this]; omega) (by omega) rfl rfl (by rw [hR]; exact h1) (by rw [hR]; exact h2) hz hd ?_
  intro a rr cA H1 hinj hnm hK1 hP1 hD1 hS1
  have hcA : cA = κ.2.2.1.1.2.2.1 5 := by
    have h3 := (hK1.2 (cb_ty κ.2.2.1.1).length (cA, .array .int) (by rw [List.getElem?_append_right (Nat.le_refl _)]; simp)).2
    exact Option.some.inj (h3.symm.trans (hE.1.2 4 _ rfl).2)
  have hls : (cb_ls κ.2.2.1.1 ad w L ++ [(a, .inl (cA, n, .inr (.inr (.inr (.inr (fun i => if i < n then some (rr i) else none))))))]) ++ va_pl ([] ++ (List.range n).map rr) (vr_up (fun _ => .inr (0, [])) ((List.range n).map rr) (.inl (κ.2.2.1.1.2.2.1 1, (m, .inl (fun _ => 0))))) = cb_ls κ.2.2.1.1 (cb_adM ad r b n a rr) (cb_nwM w r b n) ((L ++ [r]) ++ (List.range n).map (fun i => b + i)) := by
    unfold cb_ls
    rw [List.map_append, List.map_append]
    congr 1
    · congr 1
      · apply List.map_congr_left
        intro q hqL
        have hlq := (hL q).mp hqL
        have hn := hne q hlq
        have hn1 : ¬ q = r := fun e => hn (Or.inl e)
        have hn2 : ¬ (b ≤ q ∧ q < b + n) := fun e => hn (Or.inr e)
        have hadq : ∀ q, w.1 q = true → cb_adM ad r b n a rr q = ad q := fun q hlq => by
          have hn := hne q hlq
          unfold cb_adM
          rw [if_neg (fun e => hn (Or.inl e)), if_neg (fun e => hn (Or.inr e))]
        rw [hadq q hlq]
        congr 1
        refine cb_enc (by show w.2.1 q = if q = r ∨ (b ≤ q ∧ q < b + n) then _ else _; rw [if_neg hn]) (fun k => ?_)
        show (w.2.2 q k).map ad = ((if q = r then (fun j => if j < n then some (b + j) else none) else if b ≤ q ∧ q < b + n then (fun _ => none) else w.2.2 q) k).map _
        rw [if_neg hn1, if_neg hn2]
        cases hk9 : w.2.2 q k with
        | none => rfl
        | some x9 =>
          show some (ad x9) = some _
          rw [hadq x9 (hq q hlq k x9 hk9)]
      · simp only [List.map_cons, List.map_nil]
        congr 1
        have hM : (cb_nwM w r b n).2.2 r = fun j => if j < n then some (b + j) else none := by
          show (if r = r then _ else _) = _
          rw [if_pos rfl]
        rw [cb_enR hs (by decide), hM, hcA]
        have h5 : cb_adM ad r b n a rr r = a := by unfold cb_adM; rw [if_pos rfl]
        rw [h5]
        congr 8
        funext j
        by_cases hj : j < n
        · rw [if_pos hj]
          show some (rr j) = Option.map (cb_adM ad r b n a rr) (if j < n then some (b + j) else none)
          rw [if_pos hj]
          show some (rr j) = some (cb_adM ad r b n a rr (b + j))
          unfold cb_adM
          rw [if_neg (by omega), if_pos (by omega), show b + j - b = j by omega]
        · rw [if_neg hj]
          show none = Option.map (cb_adM ad r b n a rr) (if j < n then some (b + j) else none)
          rw [if_neg hj]
          rfl
    · unfold va_pl
      rw [List.nil_append, List.map_map, List.map_map]
      apply List.map_congr_left
      intro i hi
      have hi2 := List.mem_range.mp hi
      show (rr i, vr_up _ _ _ (rr i)) = (cb_adM ad r b n a rr (b + i), cb_en _ _ _ (b + i))
      rw [vr_up_in (List.mem_map.mpr ⟨i, hi, rfl⟩), cb_en1 (hsb i hi2)]
      have hM : (cb_nwM w r b n).2.1 (b + i) = fun _ => 0 := by
        show (if b + i = r ∨ (b ≤ b + i ∧ b + i < b + n) then _ else _) = _
        rw [if_pos (Or.inr ⟨by omega, by omega⟩)]
      rw [hM]
      unfold cb_adM
      rw [if_neg (by omega), if_pos (by omega), show b + i - b = i by omega]
  rw [hls] at hP1 hD1
  have hlive : ∀ q, (cb_nwM w r b n).1 q = (if q = r ∨ (b ≤ q ∧ q < b + n) then true else w.1 q) := fun _ => rfl
  have hWo : cb_Wo κ.2.2.1.1 κ.2.2.1.2 (cb_adM ad r b n a rr) (cb_nwM w r b n) H1 := by
    refine ⟨(L ++ [r]) ++ (List.range n).map (fun i => b + i), fun q => ?_, hP1, hD1, fun q hlq k x9 hk9 => ?_, fun j hj => ?_⟩
    · rw [List.mem_append, List.mem_append, List.mem_singleton, hL q, hlive]
      by_cases h : q = r ∨ (b ≤ q ∧ q < b + n)
      · rw [if_pos h]
        refine ⟨fun _ => rfl, fun _ => ?_⟩
        rcases h with h | ⟨h3, h4⟩
        · exact Or.inl (Or.inr h)
        · exact Or.inr (List.mem_map.mpr ⟨q - b, List.mem_range.mpr (by omega), by omega⟩)
      · rw [if_neg h]
        refine ⟨fun h3 => ?_, fun h3 => Or.inl (Or.inl h3)⟩
        rcases h3 with (h3 | h3) | h3
        · exact h3
        · exact absurd (Or.inl h3) h
        · obtain ⟨i, hi, rfl⟩ := List.mem_map.mp h3
          have := List.mem_range.mp hi
          exact absurd (Or.inr ⟨by omega, by omega⟩) h
    · rw [hlive] at hlq ⊢
      have hk8 : (if q = r then (fun j => if j < n then some (b + j) else none) else if b ≤ q ∧ q < b + n then (fun _ => none) else w.2.2 q) k = some x9 := hk9
      by_cases h3 : q = r
      · rw [if_pos h3] at hk8
        by_cases h4 : k < n
        · have h5 : (if k < n then some (b + k) else none) = some x9 := hk8
          rw [if_pos h4] at h5
          cases h5
          rw [if_pos (Or.inr ⟨by omega, by omega⟩)]
        · have h5 : (if k < n then some (b + k) else none) = some x9 := hk8
          rw [if_neg h4] at h5
          cases h5
      · rw [if_neg h3] at hk8
        by_cases h4 : b ≤ q ∧ q < b + n
        · rw [if_pos h4] at hk8; cases hk8
        · rw [if_neg h4] at hk8
          rw [if_neg (fun e => by rcases e with e | e; exact h3 e; exact h4 e)] at hlq
          have h5 := hq q hlq k x9 hk8
          rw [if_neg (hne x9 h5)]
          exact h5
    · have h9 : cb_adM ad r b n a rr (900 + j) = ad (900 + j) := by
        unfold cb_adM
        rw [if_neg (by omega), if_neg (by omega)]
      rw [h9, hlive, if_neg (by omega)]
      exact hro j hj
  have hadk : ∀ q, (!(q == r || (decide (b ≤ q) && decide (q < b + n)))) = true → cb_adM ad r b n a rr q = ad q := fun q h => by
    simp at h
    unfold cb_adM
    rw [if_neg h.1, if_neg (fun e => by omega)]
  obtain ⟨hl2, hst2⟩ := cb_kpl hfr hadk (fun j hj => (hWo.ro j hj).trans (hW0.ro j hj).symm) hl
  have := kk (cb_adM ad r b n a rr) H1 locs ls hWo (fun q hkq => by
    have h3 := hkp q hkq
    unfold cb_adM
    rw [if_neg (fun e => h3 (Or.inl e)), if_neg (fun e => h3 (Or.inr e))]
    exact hk q hkq) hS1 hl2
  rw [List.map_cons, hst2] at this
  have e2 : cb_vv (cb_adM ad r b n a rr) (.inr (some r)) = .ref a := by
    show Value.ref (cb_adM ad r b n a rr r) = .ref a
    unfold cb_adM
    rw [if_pos rfl]
  rw [e2] at this
  exact this
end CBP
end
section
theorem ct_0 : cb_CT 0 := ⟨by decide, by decide +kernel, tyX0_ok, nmX0⟩
theorem ct_1 : cb_CT 1 := ⟨by decide, by decide +kernel, tyX1_ok, nmX1⟩
theorem ct_2 : cb_CT 2 := ⟨by decide, by decide +kernel, tyX2_ok, nmX2⟩
theorem ct_3 : cb_CT 3 := ⟨by decide, by decide +kernel, tyX3_ok, nmX3⟩
theorem ct_4 : cb_CT 4 := ⟨by decide, by decide +kernel, tyX4_ok, nmX4⟩
theorem ct_5 : cb_CT 5 := ⟨by decide, by decide +kernel, tyX5_ok, nmX5⟩
theorem ct_6 : cb_CT 6 := ⟨by decide, by decide +kernel, tyX6_ok, nmX6⟩
theorem ct_7 : cb_CT 7 := ⟨by decide, by decide +kernel, tyX7_ok, nmX7⟩
theorem ct_8 : cb_CT 8 := ⟨by decide, by decide +kernel, tyX8_ok, nmX8⟩
theorem ct_9 : cb_CT 9 := ⟨by decide, by decide +kernel, tyX9_ok, nmX9⟩
theorem ct_10 : cb_CT 10 := ⟨by decide, by decide +kernel, tyX10_ok, nmX10⟩
theorem ct_11 : cb_CT 11 := ⟨by decide, by decide +kernel, tyX11_ok, nmX11⟩
theorem ini_L : Cond.initialized RL ∈ cb_gw := cb_mem 66 (by decide +kernel) (by decide +kernel)
theorem ini_X10 : Cond.initialized RX10 ∈ cb_gw := cb_mem 67 (by decide +kernel) (by decide +kernel)
theorem ini_X4 : Cond.initialized RX4 ∈ cb_gw := cb_mem 68 (by decide +kernel) (by decide +kernel)
theorem ini_J7 : Cond.initialized RJ7 ∈ cb_gw := cb_mem 69 (by decide +kernel) (by decide +kernel)
theorem ini_X5 : Cond.initialized RX5 ∈ cb_gw := cb_mem 70 (by decide +kernel) (by decide +kernel)
theorem ini_X8 : Cond.initialized RX8 ∈ cb_gw := cb_mem 71 (by decide +kernel) (by decide +kernel)
theorem ini_X7 : Cond.initialized RX7 ∈ cb_gw := cb_mem 72 (by decide +kernel) (by decide +kernel)
theorem ini_X3 : Cond.initialized RX3 ∈ cb_gw := cb_mem 73 (by decide +kernel) (by decide +kernel)
theorem ini_X1 : Cond.initialized RX1 ∈ cb_gw := cb_mem 74 (by decide +kernel) (by decide +kernel)
theorem ini_X6 : Cond.initialized RX6 ∈ cb_gw := cb_mem 75 (by decide +kernel) (by decide +kernel)
theorem ini_X11 : Cond.initialized RX11 ∈ cb_gw := cb_mem 76 (by decide +kernel) (by decide +kernel)
theorem ini_X0 : Cond.initialized RX0 ∈ cb_gw := cb_mem 77 (by decide +kernel) (by decide +kernel)
theorem ini_J9 : Cond.initialized RJ9 ∈ cb_gw := cb_mem 78 (by decide +kernel) (by decide +kernel)
theorem ini_X9 : Cond.initialized RX9 ∈ cb_gw := cb_mem 79 (by decide +kernel) (by decide +kernel)
theorem ini_X2 : Cond.initialized RX2 ∈ cb_gw := cb_mem 80 (by decide +kernel) (by decide +kernel)
theorem ini_J6 : Cond.initialized RJ6 ∈ cb_gw := cb_mem 81 (by decide +kernel) (by decide +kernel)
theorem cl_L_7 : Cond.classLink RL 7 RX10 ∈ cb_gw := cb_mem 82 (by decide +kernel) (by decide +kernel)
theorem in_X10 : Cond.instantiable RX10 12 ∈ cb_gw := cb_mem 83 (by decide +kernel) (by decide +kernel)
theorem ml_L_9 : cb_ML RL 9 yX10_init := Or.inl (cb_mem 84 (by decide +kernel) (by decide +kernel))
theorem oi_X10_3 : Cond.methodLink RX10 3 objectInit ∈ cb_gw := cb_mem 87 (by decide +kernel) (by decide +kernel)
theorem oi_inst : Cond.instanceMethod objectInit ∈ cb_gw := cb_mem 88 (by decide +kernel) (by decide +kernel)
theorem oi_code : Cond.code objectInit ⟨#[0xb1]⟩ 1 none ∈ cb_gw := cb_mem 89 (by decide +kernel) (by decide +kernel)
theorem cl_X10_9 : Cond.classLink RX10 9 RX4 ∈ cb_gw := cb_mem 90 (by decide +kernel) (by decide +kernel)
theorem in_X4 : Cond.instantiable RX4 4 ∈ cb_gw := cb_mem 91 (by decide +kernel) (by decide +kernel)
theorem ml_X10_11 : cb_ML RX10 11 yX4_init := Or.inr ⟨"CutBoard", cb_nmem 92 (by decide +kernel) (by decide +kernel)⟩
theorem oi_X4_3 : Cond.methodLink RX4 3 objectInit ∈ cb_gw := cb_mem 95 (by decide +kernel) (by decide +kernel)
theorem cl_X4_9 : Cond.classLink RX4 9 "[[I" ∈ cb_gw := cb_mem 96 (by decide +kernel) (by decide +kernel)
theorem ml_X4_26 : cb_ML RX4 26 yJ7_fill_53178 := Or.inl (cb_mem 98 (by decide +kernel) (by decide +kernel))
theorem fm_X4_11 : Cond.fieldLink RX4 11 (cb_T 4 0).1 (cb_T 4 0).2.1 (cb_T 4 0).2.2.1 ∈ cb_gw := cb_mem 101 (by decide +kernel) (by decide +kernel)
theorem fl_X4_11 : cb_FL RX4 11 4 0 := ⟨by decide, ct_4, Or.inl fm_X4_11⟩
theorem fl_X9_43 : cb_FL RX9 43 4 0 := ⟨by decide, ct_4, Or.inr ⟨"CutBoard", cb_nmem 102 (by decide +kernel) (by decide +kernel)⟩⟩
theorem fl_X10_96 : cb_FL RX10 96 4 0 := ⟨by decide, ct_4, Or.inr ⟨"CutBoard", cb_nmem 103 (by decide +kernel) (by decide +kernel)⟩⟩
theorem fl_X3_24 : cb_FL RX3 24 4 0 := ⟨by decide, ct_4, Or.inr ⟨"CutBoard", cb_nmem 104 (by decide +kernel) (by decide +kernel)⟩⟩
theorem fl_X8_54 : cb_FL RX8 54 4 0 := ⟨by decide, ct_4, Or.inr ⟨"CutBoard", cb_nmem 105 (by decide +kernel) (by decide +kernel)⟩⟩
theorem fm_X4_16 : Cond.fieldLink RX4 16 (cb_T 4 1).1 (cb_T 4 1).2.1 (cb_T 4 1).2.2.1 ∈ cb_gw := cb_mem 106 (by decide +kernel) (by decide +kernel)
theorem fl_X4_16 : cb_FL RX4 16 4 1 := ⟨by decide, ct_4, Or.inl fm_X4_16⟩
theorem fl_X9_46 : cb_FL RX9 46 4 1 := ⟨by decide, ct_4, Or.inr ⟨"CutBoard", cb_nmem 107 (by decide +kernel) (by decide +kernel)⟩⟩
theorem fl_X10_104 : cb_FL RX10 104 4 1 := ⟨by decide, ct_4, Or.inr ⟨"CutBoard", cb_nmem 108 (by decide +kernel) (by decide +kernel)⟩⟩
theorem fm_X4_20 : Cond.fieldLink RX4 20 (cb_T 4 2).1 (cb_T 4 2).2.1 (cb_T 4 2).2.2.1 ∈ cb_gw := cb_mem 109 (by decide +kernel) (by decide +kernel)
theorem fl_X4_20 : cb_FL RX4 20 4 2 := ⟨by decide, ct_4, Or.inl fm_X4_20⟩
theorem fl_X9_37 : cb_FL RX9 37 4 2 := ⟨by decide, ct_4, Or.inr ⟨"CutBoard", cb_nmem 110 (by decide +kernel) (by decide +kernel)⟩⟩
theorem fl_X10_107 : cb_FL RX10 107 4 2 := ⟨by decide, ct_4, Or.inr ⟨"CutBoard", cb_nmem 111 (by decide +kernel) (by decide +kernel)⟩⟩
theorem fm_X4_23 : Cond.fieldLink RX4 23 (cb_T 4 3).1 (cb_T 4 3).2.1 (cb_T 4 3).2.2.1 ∈ cb_gw := cb_mem 112 (by decide +kernel) (by decide +kernel)
theorem fl_X4_23 : cb_FL RX4 23 4 3 := ⟨by decide, ct_4, Or.inl fm_X4_23⟩
theorem fl_X10_110 : cb_FL RX10 110 4 3 := ⟨by decide, ct_4, Or.inr ⟨"CutBoard", cb_nmem 113 (by decide +kernel) (by decide +kernel)⟩⟩
theorem ac_int : Cond.arrayClass .int ∈ cb_gw := cb_mem 123 (by decide +kernel) (by decide +kernel)
theorem cl_X10_16 : Cond.classLink RX10 16 RX5 ∈ cb_gw := cb_mem 124 (by decide +kernel) (by decide +kernel)
theorem in_X5 : Cond.instantiable RX5 2 ∈ cb_gw := cb_mem 125 (by decide +kernel) (by decide +kernel)
theorem ml_X10_18 : cb_ML RX10 18 yX5_init := Or.inr ⟨"CutBoard", cb_nmem 126 (by decide +kernel) (by decide +kernel)⟩
theorem oi_X5_1 : Cond.methodLink RX5 1 objectInit ∈ cb_gw := cb_mem 129 (by decide +kernel) (by decide +kernel)
theorem fm_X5_7 : Cond.fieldLink RX5 7 (cb_T 5 0).1 (cb_T 5 0).2.1 (cb_T 5 0).2.2.1 ∈ cb_gw := cb_mem 130 (by decide +kernel) (by decide +kernel)
theorem fl_X5_7 : cb_FL RX5 7 5 0 := ⟨by decide, ct_5, Or.inl fm_X5_7⟩
theorem fl_X10_116 : cb_FL RX10 116 5 0 := ⟨by decide, ct_5, Or.inr ⟨"CutBoard", cb_nmem 131 (by decide +kernel) (by decide +kernel)⟩⟩
theorem fm_X5_13 : Cond.fieldLink RX5 13 (cb_T 5 1).1 (cb_T 5 1).2.1 (cb_T 5 1).2.2.1 ∈ cb_gw := cb_mem 132 (by decide +kernel) (by decide +kernel)
theorem fl_X5_13 : cb_FL RX5 13 5 1 := ⟨by decide, ct_5, Or.inl fm_X5_13⟩
theorem fl_X10_113 : cb_FL RX10 113 5 1 := ⟨by decide, ct_5, Or.inr ⟨"CutBoard", cb_nmem 133 (by decide +kernel) (by decide +kernel)⟩⟩
theorem cl_X10_23 : Cond.classLink RX10 23 RX9 ∈ cb_gw := cb_mem 139 (by decide +kernel) (by decide +kernel)
theorem cl_X10_29 : Cond.classLink RX10 29 RX2 ∈ cb_gw := cb_mem 141 (by decide +kernel) (by decide +kernel)
theorem cl_X10_39 : Cond.classLink RX10 39 RX8 ∈ cb_gw := cb_mem 143 (by decide +kernel) (by decide +kernel)
theorem in_X8 : Cond.instantiable RX8 4 ∈ cb_gw := cb_mem 144 (by decide +kernel) (by decide +kernel)
theorem ml_X10_41 : cb_ML RX10 41 yX8_init := Or.inr ⟨"CutBoard", cb_nmem 145 (by decide +kernel) (by decide +kernel)⟩
theorem oi_X8_3 : Cond.methodLink RX8 3 objectInit ∈ cb_gw := cb_mem 148 (by decide +kernel) (by decide +kernel)
theorem cl_X8_15 : Cond.classLink RX8 15 "[[I" ∈ cb_gw := cb_mem 149 (by decide +kernel) (by decide +kernel)
theorem fm_X8_9 : Cond.fieldLink RX8 9 (cb_T 8 0).1 (cb_T 8 0).2.1 (cb_T 8 0).2.2.1 ∈ cb_gw := cb_mem 150 (by decide +kernel) (by decide +kernel)
theorem fl_X8_9 : cb_FL RX8 9 8 0 := ⟨by decide, ct_8, Or.inl fm_X8_9⟩
theorem fm_X8_17 : Cond.fieldLink RX8 17 (cb_T 8 1).1 (cb_T 8 1).2.1 (cb_T 8 1).2.2.1 ∈ cb_gw := cb_mem 151 (by decide +kernel) (by decide +kernel)
theorem fl_X8_17 : cb_FL RX8 17 8 1 := ⟨by decide, ct_8, Or.inl fm_X8_17⟩
theorem fm_X8_24 : Cond.fieldLink RX8 24 (cb_T 8 2).1 (cb_T 8 2).2.1 (cb_T 8 2).2.2.1 ∈ cb_gw := cb_mem 152 (by decide +kernel) (by decide +kernel)
theorem fl_X8_24 : cb_FL RX8 24 8 2 := ⟨by decide, ct_8, Or.inl fm_X8_24⟩
theorem fm_X8_20 : Cond.fieldLink RX8 20 (cb_T 8 3).1 (cb_T 8 3).2.1 (cb_T 8 3).2.2.1 ∈ cb_gw := cb_mem 153 (by decide +kernel) (by decide +kernel)
theorem fl_X8_20 : cb_FL RX8 20 8 3 := ⟨by decide, ct_8, Or.inl fm_X8_20⟩
theorem cl_X10_48 : Cond.classLink RX10 48 RX7 ∈ cb_gw := cb_mem 163 (by decide +kernel) (by decide +kernel)
theorem in_X7 : Cond.instantiable RX7 2 ∈ cb_gw := cb_mem 164 (by decide +kernel) (by decide +kernel)
theorem ml_X10_50 : cb_ML RX10 50 yX7_init := Or.inr ⟨"CutBoard", cb_nmem 165 (by decide +kernel) (by decide +kernel)⟩
theorem oi_X7_3 : Cond.methodLink RX7 3 objectInit ∈ cb_gw := cb_mem 168 (by decide +kernel) (by decide +kernel)
theorem cl_X7_9 : Cond.classLink RX7 9 RX3 ∈ cb_gw := cb_mem 169 (by decide +kernel) (by decide +kernel)
theorem in_X3 : Cond.instantiable RX3 2 ∈ cb_gw := cb_mem 170 (by decide +kernel) (by decide +kernel)
theorem ml_X7_11 : cb_ML RX7 11 yX3_init := Or.inr ⟨"CutBoard", cb_nmem 171 (by decide +kernel) (by decide +kernel)⟩
theorem oi_X3_3 : Cond.methodLink RX3 3 objectInit ∈ cb_gw := cb_mem 174 (by decide +kernel) (by decide +kernel)
theorem fm_X3_9 : Cond.fieldLink RX3 9 (cb_T 3 0).1 (cb_T 3 0).2.1 (cb_T 3 0).2.2.1 ∈ cb_gw := cb_mem 175 (by decide +kernel) (by decide +kernel)
theorem fl_X3_9 : cb_FL RX3 9 3 0 := ⟨by decide, ct_3, Or.inl fm_X3_9⟩
theorem fl_X8_75 : cb_FL RX8 75 3 0 := ⟨by decide, ct_3, Or.inr ⟨"CutBoard", cb_nmem 176 (by decide +kernel) (by decide +kernel)⟩⟩
theorem fl_X10_273 : cb_FL RX10 273 3 0 := ⟨by decide, ct_3, Or.inr ⟨"CutBoard", cb_nmem 177 (by decide +kernel) (by decide +kernel)⟩⟩
theorem fm_X3_15 : Cond.fieldLink RX3 15 (cb_T 3 1).1 (cb_T 3 1).2.1 (cb_T 3 1).2.2.1 ∈ cb_gw := cb_mem 178 (by decide +kernel) (by decide +kernel)
theorem fl_X3_15 : cb_FL RX3 15 3 1 := ⟨by decide, ct_3, Or.inl fm_X3_15⟩
theorem fl_X8_66 : cb_FL RX8 66 3 1 := ⟨by decide, ct_3, Or.inr ⟨"CutBoard", cb_nmem 179 (by decide +kernel) (by decide +kernel)⟩⟩
theorem fl_X10_268 : cb_FL RX10 268 3 1 := ⟨by decide, ct_3, Or.inr ⟨"CutBoard", cb_nmem 180 (by decide +kernel) (by decide +kernel)⟩⟩
theorem ml_X7_22 : cb_ML RX7 22 yJ7_fill_53178 := Or.inl (cb_mem 186 (by decide +kernel) (by decide +kernel))
theorem fm_X7_12 : Cond.fieldLink RX7 12 (cb_T 7 0).1 (cb_T 7 0).2.1 (cb_T 7 0).2.2.1 ∈ cb_gw := cb_mem 187 (by decide +kernel) (by decide +kernel)
theorem fl_X7_12 : cb_FL RX7 12 7 0 := ⟨by decide, ct_7, Or.inl fm_X7_12⟩
theorem fl_X10_256 : cb_FL RX10 256 7 0 := ⟨by decide, ct_7, Or.inr ⟨"CutBoard", cb_nmem 188 (by decide +kernel) (by decide +kernel)⟩⟩
theorem fm_X7_18 : Cond.fieldLink RX7 18 (cb_T 7 1).1 (cb_T 7 1).2.1 (cb_T 7 1).2.2.1 ∈ cb_gw := cb_mem 189 (by decide +kernel) (by decide +kernel)
theorem fl_X7_18 : cb_FL RX7 18 7 1 := ⟨by decide, ct_7, Or.inl fm_X7_18⟩
theorem fl_X10_275 : cb_FL RX10 275 7 1 := ⟨by decide, ct_7, Or.inr ⟨"CutBoard", cb_nmem 190 (by decide +kernel) (by decide +kernel)⟩⟩
theorem cl_X10_55 : Cond.classLink RX10 55 RX1 ∈ cb_gw := cb_mem 196 (by decide +kernel) (by decide +kernel)
theorem in_X1 : Cond.instantiable RX1 10 ∈ cb_gw := cb_mem 197 (by decide +kernel) (by decide +kernel)
theorem ml_X10_57 : cb_ML RX10 57 yX1_init := Or.inr ⟨"CutBoard", cb_nmem 198 (by decide +kernel) (by decide +kernel)⟩
theorem oi_X1_3 : Cond.methodLink RX1 3 objectInit ∈ cb_gw := cb_mem 201 (by decide +kernel) (by decide +kernel)
theorem ml_X1_34 : cb_ML RX1 34 yJ7_fill_fda19 := Or.inl (cb_mem 202 (by decide +kernel) (by decide +kernel))
theorem ml_J7_13 : cb_ML RJ7 13 yJ7_rangeCheck_23922 := Or.inl (cb_mem 205 (by decide +kernel) (by decide +kernel))
theorem fm_X1_27 : Cond.fieldLink RX1 27 (cb_T 1 0).1 (cb_T 1 0).2.1 (cb_T 1 0).2.2.1 ∈ cb_gw := cb_mem 208 (by decide +kernel) (by decide +kernel)
theorem fl_X1_27 : cb_FL RX1 27 1 0 := ⟨by decide, ct_1, Or.inl fm_X1_27⟩
theorem fl_X10_125 : cb_FL RX10 125 1 0 := ⟨by decide, ct_1, Or.inr ⟨"CutBoard", cb_nmem 209 (by decide +kernel) (by decide +kernel)⟩⟩
theorem fm_X1_31 : Cond.fieldLink RX1 31 (cb_T 1 1).1 (cb_T 1 1).2.1 (cb_T 1 1).2.2.1 ∈ cb_gw := cb_mem 210 (by decide +kernel) (by decide +kernel)
theorem fl_X1_31 : cb_FL RX1 31 1 1 := ⟨by decide, ct_1, Or.inl fm_X1_31⟩
theorem fl_X10_128 : cb_FL RX10 128 1 1 := ⟨by decide, ct_1, Or.inr ⟨"CutBoard", cb_nmem 211 (by decide +kernel) (by decide +kernel)⟩⟩
theorem fm_X1_9 : Cond.fieldLink RX1 9 (cb_T 1 2).1 (cb_T 1 2).2.1 (cb_T 1 2).2.2.1 ∈ cb_gw := cb_mem 212 (by decide +kernel) (by decide +kernel)
theorem fl_X1_9 : cb_FL RX1 9 1 2 := ⟨by decide, ct_1, Or.inl fm_X1_9⟩
theorem fl_X10_163 : cb_FL RX10 163 1 2 := ⟨by decide, ct_1, Or.inr ⟨"CutBoard", cb_nmem 213 (by decide +kernel) (by decide +kernel)⟩⟩
theorem fm_X1_15 : Cond.fieldLink RX1 15 (cb_T 1 3).1 (cb_T 1 3).2.1 (cb_T 1 3).2.2.1 ∈ cb_gw := cb_mem 214 (by decide +kernel) (by decide +kernel)
theorem fl_X1_15 : cb_FL RX1 15 1 3 := ⟨by decide, ct_1, Or.inl fm_X1_15⟩
theorem fl_X10_166 : cb_FL RX10 166 1 3 := ⟨by decide, ct_1, Or.inr ⟨"CutBoard", cb_nmem 215 (by decide +kernel) (by decide +kernel)⟩⟩
theorem fm_X1_18 : Cond.fieldLink RX1 18 (cb_T 1 4).1 (cb_T 1 4).2.1 (cb_T 1 4).2.2.1 ∈ cb_gw := cb_mem 216 (by decide +kernel) (by decide +kernel)
theorem fl_X1_18 : cb_FL RX1 18 1 4 := ⟨by decide, ct_1, Or.inl fm_X1_18⟩
theorem fl_X10_157 : cb_FL RX10 157 1 4 := ⟨by decide, ct_1, Or.inr ⟨"CutBoard", cb_nmem 217 (by decide +kernel) (by decide +kernel)⟩⟩
theorem fm_X1_40 : Cond.fieldLink RX1 40 (cb_T 1 5).1 (cb_T 1 5).2.1 (cb_T 1 5).2.2.1 ∈ cb_gw := cb_mem 218 (by decide +kernel) (by decide +kernel)
theorem fl_X1_40 : cb_FL RX1 40 1 5 := ⟨by decide, ct_1, Or.inl fm_X1_40⟩
theorem fl_X10_150 : cb_FL RX10 150 1 5 := ⟨by decide, ct_1, Or.inr ⟨"CutBoard", cb_nmem 219 (by decide +kernel) (by decide +kernel)⟩⟩
theorem fm_X1_21 : Cond.fieldLink RX1 21 (cb_T 1 6).1 (cb_T 1 6).2.1 (cb_T 1 6).2.2.1 ∈ cb_gw := cb_mem 220 (by decide +kernel) (by decide +kernel)
theorem fl_X1_21 : cb_FL RX1 21 1 6 := ⟨by decide, ct_1, Or.inl fm_X1_21⟩
theorem fl_X10_182 : cb_FL RX10 182 1 6 := ⟨by decide, ct_1, Or.inr ⟨"CutBoard", cb_nmem 221 (by decide +kernel) (by decide +kernel)⟩⟩
theorem fm_X1_24 : Cond.fieldLink RX1 24 (cb_T 1 7).1 (cb_T 1 7).2.1 (cb_T 1 7).2.2.1 ∈ cb_gw := cb_mem 222 (by decide +kernel) (by decide +kernel)
theorem fl_X1_24 : cb_FL RX1 24 1 7 := ⟨by decide, ct_1, Or.inl fm_X1_24⟩
theorem fl_X10_176 : cb_FL RX10 176 1 8 := ⟨by decide, ct_1, Or.inr ⟨"CutBoard", cb_nmem 223 (by decide +kernel) (by decide +kernel)⟩⟩
theorem fm_X1_80 : Cond.fieldLink RX1 80 (cb_T 1 8).1 (cb_T 1 8).2.1 (cb_T 1 8).2.2.1 ∈ cb_gw := cb_mem 224 (by decide +kernel) (by decide +kernel)
theorem fl_X1_80 : cb_FL RX1 80 1 8 := ⟨by decide, ct_1, Or.inl fm_X1_80⟩
theorem fl_X10_179 : cb_FL RX10 179 1 9 := ⟨by decide, ct_1, Or.inr ⟨"CutBoard", cb_nmem 225 (by decide +kernel) (by decide +kernel)⟩⟩
theorem fm_X1_83 : Cond.fieldLink RX1 83 (cb_T 1 9).1 (cb_T 1 9).2.1 (cb_T 1 9).2.2.1 ∈ cb_gw := cb_mem 226 (by decide +kernel) (by decide +kernel)
theorem fl_X1_83 : cb_FL RX1 83 1 9 := ⟨by decide, ct_1, Or.inl fm_X1_83⟩
theorem cl_X10_64 : Cond.classLink RX10 64 RX6 ∈ cb_gw := cb_mem 248 (by decide +kernel) (by decide +kernel)
theorem in_X6 : Cond.instantiable RX6 3 ∈ cb_gw := cb_mem 249 (by decide +kernel) (by decide +kernel)
theorem ml_X10_66 : cb_ML RX10 66 yX6_init := Or.inr ⟨"CutBoard", cb_nmem 250 (by decide +kernel) (by decide +kernel)⟩
theorem oi_X6_3 : Cond.methodLink RX6 3 objectInit ∈ cb_gw := cb_mem 253 (by decide +kernel) (by decide +kernel)
theorem fm_X6_15 : Cond.fieldLink RX6 15 (cb_T 6 0).1 (cb_T 6 0).2.1 (cb_T 6 0).2.2.1 ∈ cb_gw := cb_mem 254 (by decide +kernel) (by decide +kernel)
theorem fl_X6_15 : cb_FL RX6 15 6 0 := ⟨by decide, ct_6, Or.inl fm_X6_15⟩
theorem fl_X10_298 : cb_FL RX10 298 6 0 := ⟨by decide, ct_6, Or.inr ⟨"CutBoard", cb_nmem 255 (by decide +kernel) (by decide +kernel)⟩⟩
theorem fm_X6_19 : Cond.fieldLink RX6 19 (cb_T 6 1).1 (cb_T 6 1).2.1 (cb_T 6 1).2.2.1 ∈ cb_gw := cb_mem 256 (by decide +kernel) (by decide +kernel)
theorem fl_X6_19 : cb_FL RX6 19 6 1 := ⟨by decide, ct_6, Or.inl fm_X6_19⟩
theorem fl_X10_299 : cb_FL RX10 299 6 1 := ⟨by decide, ct_6, Or.inr ⟨"CutBoard", cb_nmem 257 (by decide +kernel) (by decide +kernel)⟩⟩
theorem fm_X6_9 : Cond.fieldLink RX6 9 (cb_T 6 2).1 (cb_T 6 2).2.1 (cb_T 6 2).2.2.1 ∈ cb_gw := cb_mem 258 (by decide +kernel) (by decide +kernel)
theorem fl_X6_9 : cb_FL RX6 9 6 2 := ⟨by decide, ct_6, Or.inl fm_X6_9⟩
theorem fl_X7_34 : cb_FL RX7 34 6 2 := ⟨by decide, ct_6, Or.inr ⟨"CutBoard", cb_nmem 259 (by decide +kernel) (by decide +kernel)⟩⟩
theorem fl_X10_245 : cb_FL RX10 245 6 2 := ⟨by decide, ct_6, Or.inr ⟨"CutBoard", cb_nmem 260 (by decide +kernel) (by decide +kernel)⟩⟩
theorem fm_X10_12 : Cond.fieldLink RX10 12 (cb_T 10 0).1 (cb_T 10 0).2.1 (cb_T 10 0).2.2.1 ∈ cb_gw := cb_mem 268 (by decide +kernel) (by decide +kernel)
theorem fl_X10_12 : cb_FL RX10 12 10 0 := ⟨by decide, ct_10, Or.inl fm_X10_12⟩
theorem fm_X10_19 : Cond.fieldLink RX10 19 (cb_T 10 1).1 (cb_T 10 1).2.1 (cb_T 10 1).2.2.1 ∈ cb_gw := cb_mem 269 (by decide +kernel) (by decide +kernel)
theorem fl_X10_19 : cb_FL RX10 19 10 1 := ⟨by decide, ct_10, Or.inl fm_X10_19⟩
theorem fm_X10_25 : Cond.fieldLink RX10 25 (cb_T 10 2).1 (cb_T 10 2).2.1 (cb_T 10 2).2.2.1 ∈ cb_gw := cb_mem 270 (by decide +kernel) (by decide +kernel)
theorem fl_X10_25 : cb_FL RX10 25 10 2 := ⟨by decide, ct_10, Or.inl fm_X10_25⟩
theorem fm_X10_31 : Cond.fieldLink RX10 31 (cb_T 10 3).1 (cb_T 10 3).2.1 (cb_T 10 3).2.2.1 ∈ cb_gw := cb_mem 271 (by decide +kernel) (by decide +kernel)
theorem fl_X10_31 : cb_FL RX10 31 10 3 := ⟨by decide, ct_10, Or.inl fm_X10_31⟩
theorem fm_X10_35 : Cond.fieldLink RX10 35 (cb_T 10 4).1 (cb_T 10 4).2.1 (cb_T 10 4).2.2.1 ∈ cb_gw := cb_mem 272 (by decide +kernel) (by decide +kernel)
theorem fl_X10_35 : cb_FL RX10 35 10 4 := ⟨by decide, ct_10, Or.inl fm_X10_35⟩
theorem fm_X10_44 : Cond.fieldLink RX10 44 (cb_T 10 5).1 (cb_T 10 5).2.1 (cb_T 10 5).2.2.1 ∈ cb_gw := cb_mem 273 (by decide +kernel) (by decide +kernel)
theorem fl_X10_44 : cb_FL RX10 44 10 5 := ⟨by decide, ct_10, Or.inl fm_X10_44⟩
theorem fm_X10_51 : Cond.fieldLink RX10 51 (cb_T 10 6).1 (cb_T 10 6).2.1 (cb_T 10 6).2.2.1 ∈ cb_gw := cb_mem 274 (by decide +kernel) (by decide +kernel)
theorem fl_X10_51 : cb_FL RX10 51 10 6 := ⟨by decide, ct_10, Or.inl fm_X10_51⟩
theorem fm_X10_60 : Cond.fieldLink RX10 60 (cb_T 10 7).1 (cb_T 10 7).2.1 (cb_T 10 7).2.2.1 ∈ cb_gw := cb_mem 275 (by decide +kernel) (by decide +kernel)
theorem fl_X10_60 : cb_FL RX10 60 10 7 := ⟨by decide, ct_10, Or.inl fm_X10_60⟩
theorem fm_X10_67 : Cond.fieldLink RX10 67 (cb_T 10 8).1 (cb_T 10 8).2.1 (cb_T 10 8).2.2.1 ∈ cb_gw := cb_mem 276 (by decide +kernel) (by decide +kernel)
theorem fl_X10_67 : cb_FL RX10 67 10 8 := ⟨by decide, ct_10, Or.inl fm_X10_67⟩
theorem fm_X10_71 : Cond.fieldLink RX10 71 (cb_T 10 9).1 (cb_T 10 9).2.1 (cb_T 10 9).2.2.1 ∈ cb_gw := cb_mem 277 (by decide +kernel) (by decide +kernel)
theorem fl_X10_71 : cb_FL RX10 71 10 9 := ⟨by decide, ct_10, Or.inl fm_X10_71⟩
theorem fm_X10_75 : Cond.fieldLink RX10 75 (cb_T 10 10).1 (cb_T 10 10).2.1 (cb_T 10 10).2.2.1 ∈ cb_gw := cb_mem 278 (by decide +kernel) (by decide +kernel)
theorem fl_X10_75 : cb_FL RX10 75 10 10 := ⟨by decide, ct_10, Or.inl fm_X10_75⟩
theorem fm_X10_78 : Cond.fieldLink RX10 78 (cb_T 10 11).1 (cb_T 10 11).2.1 (cb_T 10 11).2.2.1 ∈ cb_gw := cb_mem 279 (by decide +kernel) (by decide +kernel)
theorem fl_X10_78 : cb_FL RX10 78 10 11 := ⟨by decide, ct_10, Or.inl fm_X10_78⟩
theorem ml_L_13 : cb_ML RL 13 yX10_board := Or.inl (cb_mem 305 (by decide +kernel) (by decide +kernel))
theorem ml_X10_81 : cb_ML RX10 81 yX10_within := Or.inl (cb_mem 309 (by decide +kernel) (by decide +kernel))
theorem ml_X10_85 : cb_ML RX10 85 yX1_isTold := Or.inr ⟨"CutBoard", cb_nmem 312 (by decide +kernel) (by decide +kernel)⟩
theorem ml_L_18 : cb_ML RL 18 yX10_table := Or.inl (cb_mem 316 (by decide +kernel) (by decide +kernel))
theorem ml_X10_89 : cb_ML RX10 89 yX10_isInk := Or.inl (cb_mem 320 (by decide +kernel) (by decide +kernel))
theorem ml_X10_93 : cb_ML RX10 93 yX10_isColour := Or.inl (cb_mem 323 (by decide +kernel) (by decide +kernel))
theorem ml_X10_100 : cb_ML RX10 100 yX10_replace := Or.inl (cb_mem 326 (by decide +kernel) (by decide +kernel))
theorem ml_L_23 : cb_ML RL 23 yX10_drying := Or.inl (cb_mem 329 (by decide +kernel) (by decide +kernel))
theorem ml_L_27 : cb_ML RL 27 yX10_against := Or.inl (cb_mem 333 (by decide +kernel) (by decide +kernel))
theorem ml_L_31 : cb_ML RL 31 yX10_mixed := Or.inl (cb_mem 337 (by decide +kernel) (by decide +kernel))
theorem ml_L_35 : cb_ML RL 35 yX10_lots := Or.inl (cb_mem 341 (by decide +kernel) (by decide +kernel))
theorem ml_L_39 : cb_ML RL 39 yX10_minutes := Or.inl (cb_mem 345 (by decide +kernel) (by decide +kernel))
theorem kc_X10_119 : Cond.constant RX10 119 (99999 : Int32) ∈ cb_gw := cb_mem 349 (by decide +kernel) (by decide +kernel)
theorem ml_L_44 : cb_ML RL 44 yX10_cut := Or.inl (cb_mem 350 (by decide +kernel) (by decide +kernel))
theorem cl_X10_120 : Cond.classLink RX10 120 RX0 ∈ cb_gw := cb_mem 354 (by decide +kernel) (by decide +kernel)
theorem in_X0 : Cond.instantiable RX0 4 ∈ cb_gw := cb_mem 355 (by decide +kernel) (by decide +kernel)
theorem ml_X10_122 : cb_ML RX10 122 yX0_init := Or.inr ⟨"CutBoard", cb_nmem 356 (by decide +kernel) (by decide +kernel)⟩
theorem oi_X0_3 : Cond.methodLink RX0 3 objectInit ∈ cb_gw := cb_mem 359 (by decide +kernel) (by decide +kernel)
theorem ml_X0_9 : cb_ML RX0 9 yJ9_floorDiv_7cf53 := Or.inl (cb_mem 360 (by decide +kernel) (by decide +kernel))
theorem ml_X0_21 : cb_ML RX0 21 yJ9_floorMod_7cf53 := Or.inl (cb_mem 363 (by decide +kernel) (by decide +kernel))
theorem fm_X0_15 : Cond.fieldLink RX0 15 (cb_T 0 0).1 (cb_T 0 0).2.1 (cb_T 0 0).2.2.1 ∈ cb_gw := cb_mem 366 (by decide +kernel) (by decide +kernel)
theorem fl_X0_15 : cb_FL RX0 15 0 0 := ⟨by decide, ct_0, Or.inl fm_X0_15⟩
theorem fm_X0_24 : Cond.fieldLink RX0 24 (cb_T 0 1).1 (cb_T 0 1).2.1 (cb_T 0 1).2.2.1 ∈ cb_gw := cb_mem 367 (by decide +kernel) (by decide +kernel)
theorem fl_X0_24 : cb_FL RX0 24 0 1 := ⟨by decide, ct_0, Or.inl fm_X0_24⟩
theorem fm_X0_27 : Cond.fieldLink RX0 27 (cb_T 0 2).1 (cb_T 0 2).2.1 (cb_T 0 2).2.2.1 ∈ cb_gw := cb_mem 368 (by decide +kernel) (by decide +kernel)
theorem fl_X0_27 : cb_FL RX0 27 0 2 := ⟨by decide, ct_0, Or.inl fm_X0_27⟩
theorem fm_X0_30 : Cond.fieldLink RX0 30 (cb_T 0 3).1 (cb_T 0 3).2.1 (cb_T 0 3).2.2.1 ∈ cb_gw := cb_mem 369 (by decide +kernel) (by decide +kernel)
theorem fl_X0_30 : cb_FL RX0 30 0 3 := ⟨by decide, ct_0, Or.inl fm_X0_30⟩
theorem ml_X10_131 : cb_ML RX10 131 yX0_liesOn := Or.inr ⟨"CutBoard", cb_nmem 379 (by decide +kernel) (by decide +kernel)⟩
theorem ml_X10_135 : cb_ML RX10 135 yX1_standsInOutPiece := Or.inr ⟨"CutBoard", cb_nmem 383 (by decide +kernel) (by decide +kernel)⟩
theorem ml_X1_65 : cb_ML RX1 65 yX0_covers := Or.inr ⟨"CutBoard", cb_nmem 387 (by decide +kernel) (by decide +kernel)⟩
theorem ml_X0_33 : cb_ML RX0 33 yX10_within := Or.inr ⟨"CutBoard", cb_nmem 391 (by decide +kernel) (by decide +kernel)⟩
theorem ml_X1_51 : cb_ML RX1 51 yX1_stands := Or.inl (cb_mem 392 (by decide +kernel) (by decide +kernel))
theorem ml_X1_55 : cb_ML RX1 55 yX1_isIn := Or.inl (cb_mem 396 (by decide +kernel) (by decide +kernel))
theorem ml_X10_139 : cb_ML RX10 139 yX1_cutAway := Or.inr ⟨"CutBoard", cb_nmem 400 (by decide +kernel) (by decide +kernel)⟩
theorem ml_X1_70 : cb_ML RX1 70 yX10_replace := Or.inr ⟨"CutBoard", cb_nmem 404 (by decide +kernel) (by decide +kernel)⟩
theorem ml_L_48 : cb_ML RL 48 yX10_saw := Or.inl (cb_mem 405 (by decide +kernel) (by decide +kernel))
theorem ml_X10_143 : cb_ML RX10 143 yX1_hasPiece := Or.inr ⟨"CutBoard", cb_nmem 409 (by decide +kernel) (by decide +kernel)⟩
theorem ml_X1_43 : cb_ML RX1 43 yX10_within := Or.inr ⟨"CutBoard", cb_nmem 413 (by decide +kernel) (by decide +kernel)⟩
theorem ml_X10_146 : cb_ML RX10 146 yX1_divides := Or.inr ⟨"CutBoard", cb_nmem 414 (by decide +kernel) (by decide +kernel)⟩
theorem ml_X1_74 : cb_ML RX1 74 yX1_hasCell := Or.inl (cb_mem 418 (by decide +kernel) (by decide +kernel))
theorem ml_X1_47 : cb_ML RX1 47 yX1_isAt := Or.inl (cb_mem 422 (by decide +kernel) (by decide +kernel))
theorem ml_X10_153 : cb_ML RX10 153 yX1_sawFree := Or.inr ⟨"CutBoard", cb_nmem 426 (by decide +kernel) (by decide +kernel)⟩
theorem ml_L_52 : cb_ML RL 52 yX10_piece := Or.inl (cb_mem 430 (by decide +kernel) (by decide +kernel))
theorem ml_L_56 : cb_ML RL 56 yX10_cell := Or.inl (cb_mem 434 (by decide +kernel) (by decide +kernel))
theorem ml_X10_160 : cb_ML RX10 160 yX1_hasCell := Or.inr ⟨"CutBoard", cb_nmem 438 (by decide +kernel) (by decide +kernel)⟩
theorem ml_L_60 : cb_ML RL 60 yX10_islands := Or.inl (cb_mem 439 (by decide +kernel) (by decide +kernel))
theorem ml_X10_169 : cb_ML RX10 169 yX1_printingCells := Or.inr ⟨"CutBoard", cb_nmem 443 (by decide +kernel) (by decide +kernel)⟩
theorem ml_X1_58 : cb_ML RX1 58 yX1_prints := Or.inl (cb_mem 447 (by decide +kernel) (by decide +kernel))
theorem ml_X1_61 : cb_ML RX1 61 yX10_answer := Or.inr ⟨"CutBoard", cb_nmem 451 (by decide +kernel) (by decide +kernel)⟩
theorem ml_X10_173 : cb_ML RX10 173 yX1_markIslands := Or.inr ⟨"CutBoard", cb_nmem 454 (by decide +kernel) (by decide +kernel)⟩
theorem ml_X1_77 : cb_ML RX1 77 yJ7_fill_53178 := Or.inl (cb_mem 458 (by decide +kernel) (by decide +kernel))
theorem ml_X1_86 : cb_ML RX1 86 yX1_markIsland := Or.inl (cb_mem 459 (by decide +kernel) (by decide +kernel))
theorem ml_X1_96 : cb_ML RX1 96 yX1_findNeighbours := Or.inl (cb_mem 463 (by decide +kernel) (by decide +kernel))
theorem fs_X1_99 : Cond.fieldLink RX1 99 "CutBoard$Board" "ROW_STEPS" "[I" ∈ cb_gw := cb_mem 467 (by decide +kernel) (by decide +kernel)
theorem fs_X1_102 : Cond.fieldLink RX1 102 "CutBoard$Board" "COLUMN_STEPS" "[I" ∈ cb_gw := cb_mem 469 (by decide +kernel) (by decide +kernel)
theorem ml_X1_90 : cb_ML RX1 90 yJ9_max_7cf53 := Or.inl (cb_mem 471 (by decide +kernel) (by decide +kernel))
theorem ml_L_64 : cb_ML RL 64 yX10_joined := Or.inl (cb_mem 474 (by decide +kernel) (by decide +kernel))
theorem ml_X10_185 : cb_ML RX10 185 yX10_answer := Or.inl (cb_mem 478 (by decide +kernel) (by decide +kernel))
theorem ml_L_68 : cb_ML RL 68 yX10_sheets := Or.inl (cb_mem 479 (by decide +kernel) (by decide +kernel))
theorem in_X9 : Cond.instantiable RX9 6 ∈ cb_gw := cb_mem 483 (by decide +kernel) (by decide +kernel)
theorem ml_X10_189 : cb_ML RX10 189 yX9_init := Or.inr ⟨"CutBoard", cb_nmem 484 (by decide +kernel) (by decide +kernel)⟩
theorem oi_X9_3 : Cond.methodLink RX9 3 objectInit ∈ cb_gw := cb_mem 487 (by decide +kernel) (by decide +kernel)
theorem ml_X9_31 : cb_ML RX9 31 yJ7_fill_53178 := Or.inl (cb_mem 488 (by decide +kernel) (by decide +kernel))
theorem fm_X9_9 : Cond.fieldLink RX9 9 (cb_T 9 0).1 (cb_T 9 0).2.1 (cb_T 9 0).2.2.1 ∈ cb_gw := cb_mem 489 (by decide +kernel) (by decide +kernel)
theorem fl_X9_9 : cb_FL RX9 9 9 0 := ⟨by decide, ct_9, Or.inl fm_X9_9⟩
theorem fl_X6_34 : cb_FL RX6 34 9 0 := ⟨by decide, ct_9, Or.inr ⟨"CutBoard", cb_nmem 490 (by decide +kernel) (by decide +kernel)⟩⟩
theorem fl_X10_206 : cb_FL RX10 206 9 0 := ⟨by decide, ct_9, Or.inr ⟨"CutBoard", cb_nmem 491 (by decide +kernel) (by decide +kernel)⟩⟩
theorem fm_X9_15 : Cond.fieldLink RX9 15 (cb_T 9 1).1 (cb_T 9 1).2.1 (cb_T 9 1).2.2.1 ∈ cb_gw := cb_mem 492 (by decide +kernel) (by decide +kernel)
theorem fl_X9_15 : cb_FL RX9 15 9 1 := ⟨by decide, ct_9, Or.inl fm_X9_15⟩
theorem fm_X9_18 : Cond.fieldLink RX9 18 (cb_T 9 2).1 (cb_T 9 2).2.1 (cb_T 9 2).2.2.1 ∈ cb_gw := cb_mem 493 (by decide +kernel) (by decide +kernel)
theorem fl_X9_18 : cb_FL RX9 18 9 2 := ⟨by decide, ct_9, Or.inl fm_X9_18⟩
theorem fl_X10_209 : cb_FL RX10 209 9 2 := ⟨by decide, ct_9, Or.inr ⟨"CutBoard", cb_nmem 494 (by decide +kernel) (by decide +kernel)⟩⟩
theorem fm_X9_21 : Cond.fieldLink RX9 21 (cb_T 9 3).1 (cb_T 9 3).2.1 (cb_T 9 3).2.2.1 ∈ cb_gw := cb_mem 495 (by decide +kernel) (by decide +kernel)
theorem fl_X9_21 : cb_FL RX9 21 9 3 := ⟨by decide, ct_9, Or.inl fm_X9_21⟩
theorem fl_X10_212 : cb_FL RX10 212 9 3 := ⟨by decide, ct_9, Or.inr ⟨"CutBoard", cb_nmem 496 (by decide +kernel) (by decide +kernel)⟩⟩
theorem fm_X9_24 : Cond.fieldLink RX9 24 (cb_T 9 4).1 (cb_T 9 4).2.1 (cb_T 9 4).2.2.1 ∈ cb_gw := cb_mem 497 (by decide +kernel) (by decide +kernel)
theorem fl_X9_24 : cb_FL RX9 24 9 4 := ⟨by decide, ct_9, Or.inl fm_X9_24⟩
theorem fl_X10_215 : cb_FL RX10 215 9 4 := ⟨by decide, ct_9, Or.inr ⟨"CutBoard", cb_nmem 498 (by decide +kernel) (by decide +kernel)⟩⟩
theorem fm_X9_27 : Cond.fieldLink RX9 27 (cb_T 9 5).1 (cb_T 9 5).2.1 (cb_T 9 5).2.2.1 ∈ cb_gw := cb_mem 499 (by decide +kernel) (by decide +kernel)
theorem fl_X9_27 : cb_FL RX9 27 9 5 := ⟨by decide, ct_9, Or.inl fm_X9_27⟩
theorem fl_X10_218 : cb_FL RX10 218 9 5 := ⟨by decide, ct_9, Or.inr ⟨"CutBoard", cb_nmem 500 (by decide +kernel) (by decide +kernel)⟩⟩
theorem ml_L_72 : cb_ML RL 72 yX10_pull := Or.inl (cb_mem 514 (by decide +kernel) (by decide +kernel))
theorem ml_X10_190 : cb_ML RX10 190 yJ7_fill_53178 := Or.inl (cb_mem 518 (by decide +kernel) (by decide +kernel))
theorem ml_X10_196 : cb_ML RX10 196 yX10_pullRoll := Or.inl (cb_mem 519 (by decide +kernel) (by decide +kernel))
theorem ml_X10_226 : cb_ML RX10 226 yX10_areSheets := Or.inl (cb_mem 523 (by decide +kernel) (by decide +kernel))
theorem ml_X10_229 : cb_ML RX10 229 yX10_firstOf := Or.inl (cb_mem 527 (by decide +kernel) (by decide +kernel))
theorem ml_X10_232 : cb_ML RX10 232 yX10_lastOf := Or.inl (cb_mem 530 (by decide +kernel) (by decide +kernel))
theorem ml_X10_203 : cb_ML RX10 203 yX10_isSheet := Or.inl (cb_mem 533 (by decide +kernel) (by decide +kernel))
theorem ml_X10_310 : cb_ML RX10 310 yX10_pullSheets := Or.inl (cb_mem 537 (by decide +kernel) (by decide +kernel))
theorem ml_X10_316 : cb_ML RX10 316 yX5_slips := Or.inr ⟨"CutBoard", cb_nmem 541 (by decide +kernel) (by decide +kernel)⟩
theorem kc_X5_16 : Cond.constant RX5 16 (1103515245 : Int32) ∈ cb_gw := cb_mem 545 (by decide +kernel) (by decide +kernel)
theorem ml_X10_319 : cb_ML RX10 319 yX10_layRoll := Or.inl (cb_mem 546 (by decide +kernel) (by decide +kernel))
theorem ml_X10_323 : cb_ML RX10 323 yX1_prints := Or.inr ⟨"CutBoard", cb_nmem 550 (by decide +kernel) (by decide +kernel)⟩
theorem ml_X10_326 : cb_ML RX10 326 yX9_take := Or.inr ⟨"CutBoard", cb_nmem 551 (by decide +kernel) (by decide +kernel)⟩
theorem in_X2 : Cond.instantiable RX2 5 ∈ cb_gw := cb_mem 555 (by decide +kernel) (by decide +kernel)
theorem ml_X10_313 : cb_ML RX10 313 yX2_init := Or.inr ⟨"CutBoard", cb_nmem 556 (by decide +kernel) (by decide +kernel)⟩
theorem oi_X2_3 : Cond.methodLink RX2 3 objectInit ∈ cb_gw := cb_mem 559 (by decide +kernel) (by decide +kernel)
theorem fm_X2_9 : Cond.fieldLink RX2 9 (cb_T 2 0).1 (cb_T 2 0).2.1 (cb_T 2 0).2.2.1 ∈ cb_gw := cb_mem 560 (by decide +kernel) (by decide +kernel)
theorem fl_X2_9 : cb_FL RX2 9 2 0 := ⟨by decide, ct_2, Or.inl fm_X2_9⟩
theorem fm_X2_15 : Cond.fieldLink RX2 15 (cb_T 2 1).1 (cb_T 2 1).2.1 (cb_T 2 1).2.2.1 ∈ cb_gw := cb_mem 561 (by decide +kernel) (by decide +kernel)
theorem fl_X2_15 : cb_FL RX2 15 2 1 := ⟨by decide, ct_2, Or.inl fm_X2_15⟩
theorem fm_X2_18 : Cond.fieldLink RX2 18 (cb_T 2 2).1 (cb_T 2 2).2.1 (cb_T 2 2).2.2.1 ∈ cb_gw := cb_mem 562 (by decide +kernel) (by decide +kernel)
theorem fl_X2_18 : cb_FL RX2 18 2 2 := ⟨by decide, ct_2, Or.inl fm_X2_18⟩
theorem fm_X2_21 : Cond.fieldLink RX2 21 (cb_T 2 3).1 (cb_T 2 3).2.1 (cb_T 2 3).2.2.1 ∈ cb_gw := cb_mem 563 (by decide +kernel) (by decide +kernel)
theorem fl_X2_21 : cb_FL RX2 21 2 3 := ⟨by decide, ct_2, Or.inl fm_X2_21⟩
theorem fm_X2_24 : Cond.fieldLink RX2 24 (cb_T 2 4).1 (cb_T 2 4).2.1 (cb_T 2 4).2.2.1 ∈ cb_gw := cb_mem 564 (by decide +kernel) (by decide +kernel)
theorem fl_X2_24 : cb_FL RX2 24 2 4 := ⟨by decide, ct_2, Or.inl fm_X2_24⟩
theorem ml_L_76 : cb_ML RL 76 yX10_blend := Or.inl (cb_mem 576 (by decide +kernel) (by decide +kernel))
theorem ml_X10_200 : cb_ML RX10 200 yJ7_fill_fda19 := Or.inl (cb_mem 580 (by decide +kernel) (by decide +kernel))
theorem ml_L_80 : cb_ML RL 80 yX10_colour := Or.inl (cb_mem 581 (by decide +kernel) (by decide +kernel))
theorem ml_L_84 : cb_ML RL 84 yX10_led := Or.inl (cb_mem 585 (by decide +kernel) (by decide +kernel))
theorem ml_L_88 : cb_ML RL 88 yX10_good := Or.inl (cb_mem 589 (by decide +kernel) (by decide +kernel))
theorem ml_L_92 : cb_ML RL 92 yX10_book := Or.inl (cb_mem 593 (by decide +kernel) (by decide +kernel))
theorem ml_X10_222 : cb_ML RX10 222 yX2_fact := Or.inr ⟨"CutBoard", cb_nmem 597 (by decide +kernel) (by decide +kernel)⟩
theorem ml_L_96 : cb_ML RL 96 yX10_free := Or.inl (cb_mem 601 (by decide +kernel) (by decide +kernel))
theorem ml_X10_235 : cb_ML RX10 235 yX9_dryFor := Or.inr ⟨"CutBoard", cb_nmem 605 (by decide +kernel) (by decide +kernel)⟩
theorem ml_X9_49 : cb_ML RX9 49 yX1_prints := Or.inr ⟨"CutBoard", cb_nmem 609 (by decide +kernel) (by decide +kernel)⟩
theorem ml_X9_55 : cb_ML RX9 55 yJ9_max_7cf53 := Or.inl (cb_mem 610 (by decide +kernel) (by decide +kernel))
theorem ml_X10_239 : cb_ML RX10 239 yJ9_max_7cf53 := Or.inl (cb_mem 611 (by decide +kernel) (by decide +kernel))
theorem ml_L_100 : cb_ML RL 100 yX10_wanted := Or.inl (cb_mem 612 (by decide +kernel) (by decide +kernel))
theorem ml_L_104 : cb_ML RL 104 yX10_want := Or.inl (cb_mem 616 (by decide +kernel) (by decide +kernel))
theorem ml_X10_244 : cb_ML RX10 244 yX6_hasCell := Or.inr ⟨"CutBoard", cb_nmem 620 (by decide +kernel) (by decide +kernel)⟩
theorem ml_X6_26 : cb_ML RX6 26 yX6_isAt := Or.inl (cb_mem 624 (by decide +kernel) (by decide +kernel))
theorem ml_X6_22 : cb_ML RX6 22 yX10_within := Or.inr ⟨"CutBoard", cb_nmem 628 (by decide +kernel) (by decide +kernel)⟩
theorem ml_L_108 : cb_ML RL 108 yX10_fewest := Or.inl (cb_mem 629 (by decide +kernel) (by decide +kernel))
theorem ml_X10_246 : cb_ML RX10 246 yX6_isTold := Or.inr ⟨"CutBoard", cb_nmem 633 (by decide +kernel) (by decide +kernel)⟩
theorem ml_X10_247 : cb_ML RX10 247 yX10_isInkSet := Or.inl (cb_mem 637 (by decide +kernel) (by decide +kernel))
theorem ml_X10_250 : cb_ML RX10 250 yX6_colourSet := Or.inr ⟨"CutBoard", cb_nmem 640 (by decide +kernel) (by decide +kernel)⟩
theorem ml_X6_30 : cb_ML RX6 30 yX6_hasCell := Or.inl (cb_mem 644 (by decide +kernel) (by decide +kernel))
theorem ml_X10_253 : cb_ML RX10 253 yX8_leastPulls := Or.inr ⟨"CutBoard", cb_nmem 645 (by decide +kernel) (by decide +kernel)⟩
theorem ml_X8_28 : cb_ML RX8 28 yX10_withoutPaper := Or.inr ⟨"CutBoard", cb_nmem 649 (by decide +kernel) (by decide +kernel)⟩
theorem ml_X8_32 : cb_ML RX8 32 yJ6_bitCount_0f7a4 := Or.inl (cb_mem 652 (by decide +kernel) (by decide +kernel))
theorem kc_J6_265 : Cond.constant RJ6 265 (1431655765 : Int32) ∈ cb_gw := cb_mem 655 (by decide +kernel) (by decide +kernel)
theorem kc_J6_266 : Cond.constant RJ6 266 (858993459 : Int32) ∈ cb_gw := cb_mem 656 (by decide +kernel) (by decide +kernel)
theorem kc_J6_267 : Cond.constant RJ6 267 (252645135 : Int32) ∈ cb_gw := cb_mem 657 (by decide +kernel) (by decide +kernel)
theorem ml_X8_37 : cb_ML RX8 37 yX8_numberNeeded := Or.inl (cb_mem 658 (by decide +kernel) (by decide +kernel))
theorem ml_X8_50 : cb_ML RX8 50 yX10_has := Or.inr ⟨"CutBoard", cb_nmem 662 (by decide +kernel) (by decide +kernel)⟩
theorem ml_X8_41 : cb_ML RX8 41 yJ7_fill_53178 := Or.inl (cb_mem 665 (by decide +kernel) (by decide +kernel))
theorem ml_X8_47 : cb_ML RX8 47 yX8_fillEndings := Or.inl (cb_mem 666 (by decide +kernel) (by decide +kernel))
theorem ml_X8_59 : cb_ML RX8 59 yX8_setsAhead := Or.inl (cb_mem 670 (by decide +kernel) (by decide +kernel))
theorem fs_X8_63 : Cond.fieldLink RX8 63 "CutBoard$RowSearch" "HOLDING" "[I" ∈ cb_gw := cb_mem 674 (by decide +kernel) (by decide +kernel)
theorem ml_X10_260 : cb_ML RX10 260 yX8_writeRow := Or.inr ⟨"CutBoard", cb_nmem 676 (by decide +kernel) (by decide +kernel)⟩
theorem ml_X8_71 : cb_ML RX8 71 yX8_firstInk := Or.inl (cb_mem 680 (by decide +kernel) (by decide +kernel))
theorem ml_X8_78 : cb_ML RX8 78 yX8_setWith := Or.inl (cb_mem 684 (by decide +kernel) (by decide +kernel))
theorem ml_X10_264 : cb_ML RX10 264 yX7_keepPlaces := Or.inr ⟨"CutBoard", cb_nmem 688 (by decide +kernel) (by decide +kernel)⟩
theorem ml_X7_28 : cb_ML RX7 28 yX6_hasCell := Or.inr ⟨"CutBoard", cb_nmem 692 (by decide +kernel) (by decide +kernel)⟩
theorem ml_X7_37 : cb_ML RX7 37 yX3_leastPlace := Or.inr ⟨"CutBoard", cb_nmem 693 (by decide +kernel) (by decide +kernel)⟩
theorem ml_X3_30 : cb_ML RX3 30 yX3_colourAfter := Or.inl (cb_mem 697 (by decide +kernel) (by decide +kernel))
theorem ml_L_112 : cb_ML RL 112 yX10_order := Or.inl (cb_mem 701 (by decide +kernel) (by decide +kernel))
theorem ml_L_116 : cb_ML RL 116 yX10_place := Or.inl (cb_mem 705 (by decide +kernel) (by decide +kernel))
theorem ml_L_120 : cb_ML RL 120 yX10_why := Or.inl (cb_mem 709 (by decide +kernel) (by decide +kernel))
theorem ml_X10_278 : cb_ML RX10 278 yX4_reachedBy := Or.inr ⟨"CutBoard", cb_nmem 713 (by decide +kernel) (by decide +kernel)⟩
theorem ml_X4_32 : cb_ML RX4 32 yX4_oneInkOn := Or.inl (cb_mem 717 (by decide +kernel) (by decide +kernel))
theorem ml_X4_36 : cb_ML RX4 36 yX10_has := Or.inr ⟨"CutBoard", cb_nmem 721 (by decide +kernel) (by decide +kernel)⟩
theorem ml_X10_281 : cb_ML RX10 281 yX10_withoutPaper := Or.inl (cb_mem 722 (by decide +kernel) (by decide +kernel))
theorem ml_L_124 : cb_ML RL 124 yX10_alike := Or.inl (cb_mem 723 (by decide +kernel) (by decide +kernel))
theorem ml_X10_284 : cb_ML RX10 284 yX3_isRow := Or.inr ⟨"CutBoard", cb_nmem 727 (by decide +kernel) (by decide +kernel)⟩
theorem kc_X3_19 : Cond.constant RX3 19 (161050 : Int32) ∈ cb_gw := cb_mem 730 (by decide +kernel) (by decide +kernel)
theorem ml_X3_20 : cb_ML RX3 20 yX10_within := Or.inr ⟨"CutBoard", cb_nmem 731 (by decide +kernel) (by decide +kernel)⟩
theorem kc_X10_287 : Cond.constant RX10 287 (65535 : Int32) ∈ cb_gw := cb_mem 732 (by decide +kernel) (by decide +kernel)
theorem cl_X10_269 : Cond.classLink RX10 269 RX3 ∈ cb_gw := cb_mem 733 (by decide +kernel) (by decide +kernel)
theorem ml_X10_288 : cb_ML RX10 288 yX3_init_ := Or.inr ⟨"CutBoard", cb_nmem 734 (by decide +kernel) (by decide +kernel)⟩
theorem ml_X10_289 : cb_ML RX10 289 yX3_coloursMade := Or.inr ⟨"CutBoard", cb_nmem 737 (by decide +kernel) (by decide +kernel)⟩
theorem ml_L_128 : cb_ML RL 128 yX10_made := Or.inl (cb_mem 741 (by decide +kernel) (by decide +kernel))
theorem ml_X10_293 : cb_ML RX10 293 yX3_colourAfter := Or.inr ⟨"CutBoard", cb_nmem 745 (by decide +kernel) (by decide +kernel)⟩
theorem ml_L_132 : cb_ML RL 132 yX10_begin := Or.inl (cb_mem 746 (by decide +kernel) (by decide +kernel))
theorem kc_X10_297 : Cond.constant RX10 297 (100000 : Int32) ∈ cb_gw := cb_mem 750 (by decide +kernel) (by decide +kernel)
theorem ml_L_136 : cb_ML RL 136 yX10_shows := Or.inl (cb_mem 751 (by decide +kernel) (by decide +kernel))
theorem ml_X10_300 : cb_ML RX10 300 yX6_isOn := Or.inr ⟨"CutBoard", cb_nmem 755 (by decide +kernel) (by decide +kernel)⟩
theorem ml_X6_37 : cb_ML RX6 37 yX6_colourAt := Or.inl (cb_mem 759 (by decide +kernel) (by decide +kernel))
theorem ml_L_140 : cb_ML RL 140 yX10_count := Or.inl (cb_mem 763 (by decide +kernel) (by decide +kernel))
theorem ml_X10_304 : cb_ML RX10 304 yX10_goodSheets := Or.inl (cb_mem 767 (by decide +kernel) (by decide +kernel))
theorem ml_X10_307 : cb_ML RX10 307 yX1_standingCells := Or.inr ⟨"CutBoard", cb_nmem 771 (by decide +kernel) (by decide +kernel)⟩
theorem cl_L_10 : Cond.classLink RL 10 RX11 ∈ cb_gw := cb_mem 775 (by decide +kernel) (by decide +kernel)
theorem in_X11 : Cond.instantiable RX11 41 ∈ cb_gw := cb_mem 776 (by decide +kernel) (by decide +kernel)
theorem ml_L_12 : cb_ML RL 12 yX11_init := Or.inl (cb_mem 777 (by decide +kernel) (by decide +kernel))
theorem oi_X11_1 : Cond.methodLink RX11 1 objectInit ∈ cb_gw := cb_mem 780 (by decide +kernel) (by decide +kernel)
theorem fm_X11_94 : Cond.fieldLink RX11 94 (cb_T 11 0).1 (cb_T 11 0).2.1 (cb_T 11 0).2.2.1 ∈ cb_gw := cb_mem 781 (by decide +kernel) (by decide +kernel)
theorem fl_X11_94 : cb_FL RX11 94 11 0 := ⟨by decide, ct_11, Or.inl fm_X11_94⟩
theorem fm_X11_97 : Cond.fieldLink RX11 97 (cb_T 11 1).1 (cb_T 11 1).2.1 (cb_T 11 1).2.2.1 ∈ cb_gw := cb_mem 782 (by decide +kernel) (by decide +kernel)
theorem fl_X11_97 : cb_FL RX11 97 11 1 := ⟨by decide, ct_11, Or.inl fm_X11_97⟩
theorem fm_X11_9 : Cond.fieldLink RX11 9 (cb_T 11 2).1 (cb_T 11 2).2.1 (cb_T 11 2).2.2.1 ∈ cb_gw := cb_mem 783 (by decide +kernel) (by decide +kernel)
theorem fl_X11_9 : cb_FL RX11 9 11 2 := ⟨by decide, ct_11, Or.inl fm_X11_9⟩
theorem fm_X11_13 : Cond.fieldLink RX11 13 (cb_T 11 3).1 (cb_T 11 3).2.1 (cb_T 11 3).2.2.1 ∈ cb_gw := cb_mem 784 (by decide +kernel) (by decide +kernel)
theorem fl_X11_13 : cb_FL RX11 13 11 3 := ⟨by decide, ct_11, Or.inl fm_X11_13⟩
theorem fm_X11_16 : Cond.fieldLink RX11 16 (cb_T 11 4).1 (cb_T 11 4).2.1 (cb_T 11 4).2.2.1 ∈ cb_gw := cb_mem 785 (by decide +kernel) (by decide +kernel)
theorem fl_X11_16 : cb_FL RX11 16 11 4 := ⟨by decide, ct_11, Or.inl fm_X11_16⟩
theorem fm_X11_20 : Cond.fieldLink RX11 20 (cb_T 11 5).1 (cb_T 11 5).2.1 (cb_T 11 5).2.2.1 ∈ cb_gw := cb_mem 786 (by decide +kernel) (by decide +kernel)
theorem fl_X11_20 : cb_FL RX11 20 11 5 := ⟨by decide, ct_11, Or.inl fm_X11_20⟩
theorem fm_X11_110 : Cond.fieldLink RX11 110 (cb_T 11 6).1 (cb_T 11 6).2.1 (cb_T 11 6).2.2.1 ∈ cb_gw := cb_mem 787 (by decide +kernel) (by decide +kernel)
theorem fl_X11_110 : cb_FL RX11 110 11 6 := ⟨by decide, ct_11, Or.inl fm_X11_110⟩
theorem fm_X11_113 : Cond.fieldLink RX11 113 (cb_T 11 7).1 (cb_T 11 7).2.1 (cb_T 11 7).2.2.1 ∈ cb_gw := cb_mem 788 (by decide +kernel) (by decide +kernel)
theorem fl_X11_113 : cb_FL RX11 113 11 7 := ⟨by decide, ct_11, Or.inl fm_X11_113⟩
theorem fm_X11_116 : Cond.fieldLink RX11 116 (cb_T 11 8).1 (cb_T 11 8).2.1 (cb_T 11 8).2.2.1 ∈ cb_gw := cb_mem 789 (by decide +kernel) (by decide +kernel)
theorem fl_X11_116 : cb_FL RX11 116 11 8 := ⟨by decide, ct_11, Or.inl fm_X11_116⟩
theorem fm_X11_23 : Cond.fieldLink RX11 23 (cb_T 11 9).1 (cb_T 11 9).2.1 (cb_T 11 9).2.2.1 ∈ cb_gw := cb_mem 790 (by decide +kernel) (by decide +kernel)
theorem fl_X11_23 : cb_FL RX11 23 11 9 := ⟨by decide, ct_11, Or.inl fm_X11_23⟩
theorem fm_X11_26 : Cond.fieldLink RX11 26 (cb_T 11 10).1 (cb_T 11 10).2.1 (cb_T 11 10).2.2.1 ∈ cb_gw := cb_mem 791 (by decide +kernel) (by decide +kernel)
theorem fl_X11_26 : cb_FL RX11 26 11 10 := ⟨by decide, ct_11, Or.inl fm_X11_26⟩
theorem fm_X11_29 : Cond.fieldLink RX11 29 (cb_T 11 11).1 (cb_T 11 11).2.1 (cb_T 11 11).2.2.1 ∈ cb_gw := cb_mem 792 (by decide +kernel) (by decide +kernel)
theorem fl_X11_29 : cb_FL RX11 29 11 11 := ⟨by decide, ct_11, Or.inl fm_X11_29⟩
theorem fm_X11_100 : Cond.fieldLink RX11 100 (cb_T 11 12).1 (cb_T 11 12).2.1 (cb_T 11 12).2.2.1 ∈ cb_gw := cb_mem 793 (by decide +kernel) (by decide +kernel)
theorem fl_X11_100 : cb_FL RX11 100 11 12 := ⟨by decide, ct_11, Or.inl fm_X11_100⟩
theorem fm_X11_32 : Cond.fieldLink RX11 32 (cb_T 11 13).1 (cb_T 11 13).2.1 (cb_T 11 13).2.2.1 ∈ cb_gw := cb_mem 794 (by decide +kernel) (by decide +kernel)
theorem fl_X11_32 : cb_FL RX11 32 11 13 := ⟨by decide, ct_11, Or.inl fm_X11_32⟩
theorem fm_X11_35 : Cond.fieldLink RX11 35 (cb_T 11 14).1 (cb_T 11 14).2.1 (cb_T 11 14).2.2.1 ∈ cb_gw := cb_mem 795 (by decide +kernel) (by decide +kernel)
theorem fl_X11_35 : cb_FL RX11 35 11 14 := ⟨by decide, ct_11, Or.inl fm_X11_35⟩
theorem fm_X11_38 : Cond.fieldLink RX11 38 (cb_T 11 15).1 (cb_T 11 15).2.1 (cb_T 11 15).2.2.1 ∈ cb_gw := cb_mem 796 (by decide +kernel) (by decide +kernel)
theorem fl_X11_38 : cb_FL RX11 38 11 15 := ⟨by decide, ct_11, Or.inl fm_X11_38⟩
theorem fm_X11_41 : Cond.fieldLink RX11 41 (cb_T 11 16).1 (cb_T 11 16).2.1 (cb_T 11 16).2.2.1 ∈ cb_gw := cb_mem 797 (by decide +kernel) (by decide +kernel)
theorem fl_X11_41 : cb_FL RX11 41 11 16 := ⟨by decide, ct_11, Or.inl fm_X11_41⟩
theorem fm_X11_44 : Cond.fieldLink RX11 44 (cb_T 11 17).1 (cb_T 11 17).2.1 (cb_T 11 17).2.2.1 ∈ cb_gw := cb_mem 798 (by decide +kernel) (by decide +kernel)
theorem fl_X11_44 : cb_FL RX11 44 11 17 := ⟨by decide, ct_11, Or.inl fm_X11_44⟩
theorem fm_X11_47 : Cond.fieldLink RX11 47 (cb_T 11 18).1 (cb_T 11 18).2.1 (cb_T 11 18).2.2.1 ∈ cb_gw := cb_mem 799 (by decide +kernel) (by decide +kernel)
theorem fl_X11_47 : cb_FL RX11 47 11 18 := ⟨by decide, ct_11, Or.inl fm_X11_47⟩
theorem fm_X11_50 : Cond.fieldLink RX11 50 (cb_T 11 19).1 (cb_T 11 19).2.1 (cb_T 11 19).2.2.1 ∈ cb_gw := cb_mem 800 (by decide +kernel) (by decide +kernel)
theorem fl_X11_50 : cb_FL RX11 50 11 19 := ⟨by decide, ct_11, Or.inl fm_X11_50⟩
theorem fm_X11_155 : Cond.fieldLink RX11 155 (cb_T 11 20).1 (cb_T 11 20).2.1 (cb_T 11 20).2.2.1 ∈ cb_gw := cb_mem 801 (by decide +kernel) (by decide +kernel)
theorem fl_X11_155 : cb_FL RX11 155 11 20 := ⟨by decide, ct_11, Or.inl fm_X11_155⟩
theorem fm_X11_53 : Cond.fieldLink RX11 53 (cb_T 11 21).1 (cb_T 11 21).2.1 (cb_T 11 21).2.2.1 ∈ cb_gw := cb_mem 802 (by decide +kernel) (by decide +kernel)
theorem fl_X11_53 : cb_FL RX11 53 11 21 := ⟨by decide, ct_11, Or.inl fm_X11_53⟩
theorem fm_X11_56 : Cond.fieldLink RX11 56 (cb_T 11 22).1 (cb_T 11 22).2.1 (cb_T 11 22).2.2.1 ∈ cb_gw := cb_mem 803 (by decide +kernel) (by decide +kernel)
theorem fl_X11_56 : cb_FL RX11 56 11 22 := ⟨by decide, ct_11, Or.inl fm_X11_56⟩
theorem fm_X11_59 : Cond.fieldLink RX11 59 (cb_T 11 23).1 (cb_T 11 23).2.1 (cb_T 11 23).2.2.1 ∈ cb_gw := cb_mem 804 (by decide +kernel) (by decide +kernel)
theorem fl_X11_59 : cb_FL RX11 59 11 23 := ⟨by decide, ct_11, Or.inl fm_X11_59⟩
theorem fm_X11_62 : Cond.fieldLink RX11 62 (cb_T 11 24).1 (cb_T 11 24).2.1 (cb_T 11 24).2.2.1 ∈ cb_gw := cb_mem 805 (by decide +kernel) (by decide +kernel)
theorem fl_X11_62 : cb_FL RX11 62 11 24 := ⟨by decide, ct_11, Or.inl fm_X11_62⟩
theorem fm_X11_65 : Cond.fieldLink RX11 65 (cb_T 11 25).1 (cb_T 11 25).2.1 (cb_T 11 25).2.2.1 ∈ cb_gw := cb_mem 806 (by decide +kernel) (by decide +kernel)
theorem fl_X11_65 : cb_FL RX11 65 11 25 := ⟨by decide, ct_11, Or.inl fm_X11_65⟩
theorem fm_X11_159 : Cond.fieldLink RX11 159 (cb_T 11 26).1 (cb_T 11 26).2.1 (cb_T 11 26).2.2.1 ∈ cb_gw := cb_mem 807 (by decide +kernel) (by decide +kernel)
theorem fl_X11_159 : cb_FL RX11 159 11 26 := ⟨by decide, ct_11, Or.inl fm_X11_159⟩
theorem fm_X11_68 : Cond.fieldLink RX11 68 (cb_T 11 27).1 (cb_T 11 27).2.1 (cb_T 11 27).2.2.1 ∈ cb_gw := cb_mem 808 (by decide +kernel) (by decide +kernel)
theorem fl_X11_68 : cb_FL RX11 68 11 27 := ⟨by decide, ct_11, Or.inl fm_X11_68⟩
theorem fm_X11_179 : Cond.fieldLink RX11 179 (cb_T 11 28).1 (cb_T 11 28).2.1 (cb_T 11 28).2.2.1 ∈ cb_gw := cb_mem 809 (by decide +kernel) (by decide +kernel)
theorem fl_X11_179 : cb_FL RX11 179 11 28 := ⟨by decide, ct_11, Or.inl fm_X11_179⟩
theorem fm_X11_182 : Cond.fieldLink RX11 182 (cb_T 11 29).1 (cb_T 11 29).2.1 (cb_T 11 29).2.2.1 ∈ cb_gw := cb_mem 810 (by decide +kernel) (by decide +kernel)
theorem fl_X11_182 : cb_FL RX11 182 11 29 := ⟨by decide, ct_11, Or.inl fm_X11_182⟩
theorem fm_X11_71 : Cond.fieldLink RX11 71 (cb_T 11 30).1 (cb_T 11 30).2.1 (cb_T 11 30).2.2.1 ∈ cb_gw := cb_mem 811 (by decide +kernel) (by decide +kernel)
theorem fl_X11_71 : cb_FL RX11 71 11 30 := ⟨by decide, ct_11, Or.inl fm_X11_71⟩
theorem fm_X11_74 : Cond.fieldLink RX11 74 (cb_T 11 31).1 (cb_T 11 31).2.1 (cb_T 11 31).2.2.1 ∈ cb_gw := cb_mem 812 (by decide +kernel) (by decide +kernel)
theorem fl_X11_74 : cb_FL RX11 74 11 31 := ⟨by decide, ct_11, Or.inl fm_X11_74⟩
theorem fm_X11_77 : Cond.fieldLink RX11 77 (cb_T 11 32).1 (cb_T 11 32).2.1 (cb_T 11 32).2.2.1 ∈ cb_gw := cb_mem 813 (by decide +kernel) (by decide +kernel)
theorem fl_X11_77 : cb_FL RX11 77 11 32 := ⟨by decide, ct_11, Or.inl fm_X11_77⟩
theorem fm_X11_80 : Cond.fieldLink RX11 80 (cb_T 11 33).1 (cb_T 11 33).2.1 (cb_T 11 33).2.2.1 ∈ cb_gw := cb_mem 814 (by decide +kernel) (by decide +kernel)
theorem fl_X11_80 : cb_FL RX11 80 11 33 := ⟨by decide, ct_11, Or.inl fm_X11_80⟩
theorem fm_X11_84 : Cond.fieldLink RX11 84 (cb_T 11 34).1 (cb_T 11 34).2.1 (cb_T 11 34).2.2.1 ∈ cb_gw := cb_mem 815 (by decide +kernel) (by decide +kernel)
theorem fl_X11_84 : cb_FL RX11 84 11 34 := ⟨by decide, ct_11, Or.inl fm_X11_84⟩
theorem fm_X11_87 : Cond.fieldLink RX11 87 (cb_T 11 35).1 (cb_T 11 35).2.1 (cb_T 11 35).2.2.1 ∈ cb_gw := cb_mem 816 (by decide +kernel) (by decide +kernel)
theorem fl_X11_87 : cb_FL RX11 87 11 35 := ⟨by decide, ct_11, Or.inl fm_X11_87⟩
theorem fm_X11_199 : Cond.fieldLink RX11 199 (cb_T 11 36).1 (cb_T 11 36).2.1 (cb_T 11 36).2.2.1 ∈ cb_gw := cb_mem 817 (by decide +kernel) (by decide +kernel)
theorem fl_X11_199 : cb_FL RX11 199 11 36 := ⟨by decide, ct_11, Or.inl fm_X11_199⟩
theorem fm_X11_120 : Cond.fieldLink RX11 120 (cb_T 11 37).1 (cb_T 11 37).2.1 (cb_T 11 37).2.2.1 ∈ cb_gw := cb_mem 818 (by decide +kernel) (by decide +kernel)
theorem fl_X11_120 : cb_FL RX11 120 11 37 := ⟨by decide, ct_11, Or.inl fm_X11_120⟩
theorem fm_X11_123 : Cond.fieldLink RX11 123 (cb_T 11 38).1 (cb_T 11 38).2.1 (cb_T 11 38).2.2.1 ∈ cb_gw := cb_mem 819 (by decide +kernel) (by decide +kernel)
theorem fl_X11_123 : cb_FL RX11 123 11 38 := ⟨by decide, ct_11, Or.inl fm_X11_123⟩
theorem fm_X11_126 : Cond.fieldLink RX11 126 (cb_T 11 39).1 (cb_T 11 39).2.1 (cb_T 11 39).2.2.1 ∈ cb_gw := cb_mem 820 (by decide +kernel) (by decide +kernel)
theorem fl_X11_126 : cb_FL RX11 126 11 39 := ⟨by decide, ct_11, Or.inl fm_X11_126⟩
theorem fm_X11_129 : Cond.fieldLink RX11 129 (cb_T 11 40).1 (cb_T 11 40).2.1 (cb_T 11 40).2.2.1 ∈ cb_gw := cb_mem 821 (by decide +kernel) (by decide +kernel)
theorem fl_X11_129 : cb_FL RX11 129 11 40 := ⟨by decide, ct_11, Or.inl fm_X11_129⟩
theorem ac_boolean : Cond.arrayClass .boolean ∈ cb_gw := cb_mem 905 (by decide +kernel) (by decide +kernel)
theorem ml_L_17 : cb_ML RL 17 yX11_board := Or.inl (cb_mem 906 (by decide +kernel) (by decide +kernel))
theorem ml_X11_90 : cb_ML RX11 90 yX11_within := Or.inl (cb_mem 910 (by decide +kernel) (by decide +kernel))
theorem ml_L_22 : cb_ML RL 22 yX11_table := Or.inl (cb_mem 913 (by decide +kernel) (by decide +kernel))
theorem ml_X11_103 : cb_ML RX11 103 yX11_isInk := Or.inl (cb_mem 917 (by decide +kernel) (by decide +kernel))
theorem ml_X11_107 : cb_ML RX11 107 yX11_isColour := Or.inl (cb_mem 920 (by decide +kernel) (by decide +kernel))
theorem ml_L_26 : cb_ML RL 26 yX11_drying := Or.inl (cb_mem 923 (by decide +kernel) (by decide +kernel))
theorem ml_L_30 : cb_ML RL 30 yX11_against := Or.inl (cb_mem 927 (by decide +kernel) (by decide +kernel))
theorem ml_L_34 : cb_ML RL 34 yX11_mixed := Or.inl (cb_mem 931 (by decide +kernel) (by decide +kernel))
theorem ml_L_38 : cb_ML RL 38 yX11_lots := Or.inl (cb_mem 935 (by decide +kernel) (by decide +kernel))
theorem ml_L_43 : cb_ML RL 43 yX11_minutes := Or.inl (cb_mem 939 (by decide +kernel) (by decide +kernel))
theorem kc_X11_119 : Cond.constant RX11 119 (99999 : Int32) ∈ cb_gw := cb_mem 943 (by decide +kernel) (by decide +kernel)
theorem ml_L_47 : cb_ML RL 47 yX11_cut := Or.inl (cb_mem 944 (by decide +kernel) (by decide +kernel))
theorem ml_X11_132 : cb_ML RX11 132 yX11_takeCells := Or.inl (cb_mem 948 (by decide +kernel) (by decide +kernel))
theorem ml_L_51 : cb_ML RL 51 yX11_saw := Or.inl (cb_mem 952 (by decide +kernel) (by decide +kernel))
theorem ml_X11_135 : cb_ML RX11 135 yX11_isPiece := Or.inl (cb_mem 956 (by decide +kernel) (by decide +kernel))
theorem ml_X11_138 : cb_ML RX11 138 yX11_cellsOf := Or.inl (cb_mem 960 (by decide +kernel) (by decide +kernel))
theorem ml_L_55 : cb_ML RL 55 yX11_piece := Or.inl (cb_mem 964 (by decide +kernel) (by decide +kernel))
theorem ml_L_59 : cb_ML RL 59 yX11_cell := Or.inl (cb_mem 968 (by decide +kernel) (by decide +kernel))
theorem ml_X11_142 : cb_ML RX11 142 yX11_isCell := Or.inl (cb_mem 972 (by decide +kernel) (by decide +kernel))
theorem ml_L_63 : cb_ML RL 63 yX11_islands := Or.inl (cb_mem 976 (by decide +kernel) (by decide +kernel))
theorem ml_X11_152 : cb_ML RX11 152 yX11_findGroups := Or.inl (cb_mem 980 (by decide +kernel) (by decide +kernel))
theorem ml_X11_145 : cb_ML RX11 145 yX11_prints := Or.inl (cb_mem 984 (by decide +kernel) (by decide +kernel))
theorem ml_X11_148 : cb_ML RX11 148 yX11_join := Or.inl (cb_mem 988 (by decide +kernel) (by decide +kernel))
theorem ml_L_67 : cb_ML RL 67 yX11_joined := Or.inl (cb_mem 992 (by decide +kernel) (by decide +kernel))
theorem ml_L_71 : cb_ML RL 71 yX11_sheets := Or.inl (cb_mem 996 (by decide +kernel) (by decide +kernel))
theorem ml_L_75 : cb_ML RL 75 yX11_pull := Or.inl (cb_mem 1000 (by decide +kernel) (by decide +kernel))
theorem ml_X11_169 : cb_ML RX11 169 yX11_areSheets := Or.inl (cb_mem 1004 (by decide +kernel) (by decide +kernel))
theorem ml_X11_172 : cb_ML RX11 172 yX11_pulled := Or.inl (cb_mem 1008 (by decide +kernel) (by decide +kernel))
theorem ml_X11_162 : cb_ML RX11 162 yX11_throwsOff := Or.inl (cb_mem 1012 (by decide +kernel) (by decide +kernel))
theorem kc_X11_158 : Cond.constant RX11 158 (1103515245 : Int32) ∈ cb_gw := cb_mem 1016 (by decide +kernel) (by decide +kernel)
theorem ml_X11_166 : cb_ML RX11 166 yX11_lay := Or.inl (cb_mem 1017 (by decide +kernel) (by decide +kernel))
theorem ml_L_79 : cb_ML RL 79 yX11_blend := Or.inl (cb_mem 1021 (by decide +kernel) (by decide +kernel))
theorem ml_L_83 : cb_ML RL 83 yX11_colour := Or.inl (cb_mem 1025 (by decide +kernel) (by decide +kernel))
theorem ml_X11_176 : cb_ML RX11 176 yX11_isSheet := Or.inl (cb_mem 1029 (by decide +kernel) (by decide +kernel))
theorem ml_L_87 : cb_ML RL 87 yX11_led := Or.inl (cb_mem 1033 (by decide +kernel) (by decide +kernel))
theorem ml_L_91 : cb_ML RL 91 yX11_good := Or.inl (cb_mem 1037 (by decide +kernel) (by decide +kernel))
theorem ml_L_95 : cb_ML RL 95 yX11_book := Or.inl (cb_mem 1041 (by decide +kernel) (by decide +kernel))
theorem ml_L_99 : cb_ML RL 99 yX11_free := Or.inl (cb_mem 1045 (by decide +kernel) (by decide +kernel))
theorem ml_L_103 : cb_ML RL 103 yX11_wanted := Or.inl (cb_mem 1049 (by decide +kernel) (by decide +kernel))
theorem ml_L_107 : cb_ML RL 107 yX11_want := Or.inl (cb_mem 1053 (by decide +kernel) (by decide +kernel))
theorem ml_X11_185 : cb_ML RX11 185 yX11_isWanted := Or.inl (cb_mem 1057 (by decide +kernel) (by decide +kernel))
theorem ml_L_111 : cb_ML RL 111 yX11_fewest := Or.inl (cb_mem 1061 (by decide +kernel) (by decide +kernel))
theorem ml_X11_196 : cb_ML RX11 196 yX11_least := Or.inl (cb_mem 1065 (by decide +kernel) (by decide +kernel))
theorem ml_X11_192 : cb_ML RX11 192 yX11_wantedColours := Or.inl (cb_mem 1069 (by decide +kernel) (by decide +kernel))
theorem ml_X11_188 : cb_ML RX11 188 yX11_makes := Or.inl (cb_mem 1073 (by decide +kernel) (by decide +kernel))
theorem ml_L_115 : cb_ML RL 115 yX11_order := Or.inl (cb_mem 1077 (by decide +kernel) (by decide +kernel))
theorem ml_L_119 : cb_ML RL 119 yX11_place := Or.inl (cb_mem 1081 (by decide +kernel) (by decide +kernel))
theorem ml_L_123 : cb_ML RL 123 yX11_why := Or.inl (cb_mem 1085 (by decide +kernel) (by decide +kernel))
theorem ml_L_127 : cb_ML RL 127 yX11_alike := Or.inl (cb_mem 1089 (by decide +kernel) (by decide +kernel))
theorem kc_X11_206 : Cond.constant RX11 206 (65535 : Int32) ∈ cb_gw := cb_mem 1093 (by decide +kernel) (by decide +kernel)
theorem ml_X11_207 : cb_ML RX11 207 yX11_takeRow := Or.inl (cb_mem 1094 (by decide +kernel) (by decide +kernel))
theorem kc_X11_202 : Cond.constant RX11 202 (161051 : Int32) ∈ cb_gw := cb_mem 1098 (by decide +kernel) (by decide +kernel)
theorem ml_X11_210 : cb_ML RX11 210 yX11_coloursMade := Or.inl (cb_mem 1099 (by decide +kernel) (by decide +kernel))
theorem ml_X11_203 : cb_ML RX11 203 yX11_madeBy := Or.inl (cb_mem 1103 (by decide +kernel) (by decide +kernel))
theorem ml_L_131 : cb_ML RL 131 yX11_made := Or.inl (cb_mem 1107 (by decide +kernel) (by decide +kernel))
theorem ml_L_135 : cb_ML RL 135 yX11_begin := Or.inl (cb_mem 1111 (by decide +kernel) (by decide +kernel))
theorem kc_X11_213 : Cond.constant RX11 213 (100001 : Int32) ∈ cb_gw := cb_mem 1115 (by decide +kernel) (by decide +kernel)
theorem ml_X11_214 : cb_ML RX11 214 yX11_goodOf := Or.inl (cb_mem 1116 (by decide +kernel) (by decide +kernel))
theorem kc_X11_218 : Cond.constant RX11 218 (100000 : Int32) ∈ cb_gw := cb_mem 1119 (by decide +kernel) (by decide +kernel)
theorem ml_L_139 : cb_ML RL 139 yX11_shows := Or.inl (cb_mem 1120 (by decide +kernel) (by decide +kernel))
theorem ml_L_143 : cb_ML RL 143 yX11_count := Or.inl (cb_mem 1124 (by decide +kernel) (by decide +kernel))
theorem my_X10_init : cb_MY yX10_init cX10_init 1 none 0 := ⟨cb_mem 86 (by decide +kernel) (by decide +kernel), ini_X10, by decide, by decide, by decide +kernel⟩
theorem mi_X10_init : Cond.instanceMethod yX10_init ∈ cb_gw := cb_mem 85 (by decide +kernel) (by decide +kernel)
theorem my_X4_init : cb_MY yX4_init cX4_init 2 none 0 := ⟨cb_mem 94 (by decide +kernel) (by decide +kernel), ini_X4, by decide, by decide, by decide +kernel⟩
theorem mi_X4_init : Cond.instanceMethod yX4_init ∈ cb_gw := cb_mem 93 (by decide +kernel) (by decide +kernel)
theorem my_J7_fill_53178 : cb_MY yJ7_fill_53178 cJ7_fill_53178 4 none 2 := ⟨cb_mem 100 (by decide +kernel) (by decide +kernel), ini_J7, by decide, by decide, by decide +kernel⟩
theorem mt_J7_fill_53178 : Cond.static yJ7_fill_53178 ∈ cb_gw := cb_mem 99 (by decide +kernel) (by decide +kernel)
theorem my_X5_init : cb_MY yX5_init cX5_init 1 none 0 := ⟨cb_mem 128 (by decide +kernel) (by decide +kernel), ini_X5, by decide, by decide, by decide +kernel⟩
theorem mi_X5_init : Cond.instanceMethod yX5_init ∈ cb_gw := cb_mem 127 (by decide +kernel) (by decide +kernel)
theorem my_X8_init : cb_MY yX8_init cX8_init 2 none 1 := ⟨cb_mem 147 (by decide +kernel) (by decide +kernel), ini_X8, by decide, by decide, by decide +kernel⟩
theorem mi_X8_init : Cond.instanceMethod yX8_init ∈ cb_gw := cb_mem 146 (by decide +kernel) (by decide +kernel)
theorem my_X7_init : cb_MY yX7_init cX7_init 1 none 0 := ⟨cb_mem 167 (by decide +kernel) (by decide +kernel), ini_X7, by decide, by decide, by decide +kernel⟩
theorem mi_X7_init : Cond.instanceMethod yX7_init ∈ cb_gw := cb_mem 166 (by decide +kernel) (by decide +kernel)
theorem my_X3_init : cb_MY yX3_init cX3_init 1 none 0 := ⟨cb_mem 173 (by decide +kernel) (by decide +kernel), ini_X3, by decide, by decide, by decide +kernel⟩
theorem mi_X3_init : Cond.instanceMethod yX3_init ∈ cb_gw := cb_mem 172 (by decide +kernel) (by decide +kernel)
theorem my_X1_init : cb_MY yX1_init cX1_init 4 none 2 := ⟨cb_mem 200 (by decide +kernel) (by decide +kernel), ini_X1, by decide, by decide, by decide +kernel⟩
theorem mi_X1_init : Cond.instanceMethod yX1_init ∈ cb_gw := cb_mem 199 (by decide +kernel) (by decide +kernel)
theorem my_J7_fill_fda19 : cb_MY yJ7_fill_fda19 cJ7_fill_fda19 5 none 4 := ⟨cb_mem 204 (by decide +kernel) (by decide +kernel), ini_J7, by decide, by decide, by decide +kernel⟩
theorem mt_J7_fill_fda19 : Cond.static yJ7_fill_fda19 ∈ cb_gw := cb_mem 203 (by decide +kernel) (by decide +kernel)
theorem my_J7_rangeCheck_23922 : cb_MY yJ7_rangeCheck_23922 cJ7_rangeCheck_23922 3 none 3 := ⟨cb_mem 207 (by decide +kernel) (by decide +kernel), ini_J7, by decide, by decide, by decide +kernel⟩
theorem mt_J7_rangeCheck_23922 : Cond.static yJ7_rangeCheck_23922 ∈ cb_gw := cb_mem 206 (by decide +kernel) (by decide +kernel)
theorem my_X6_init : cb_MY yX6_init cX6_init 3 none 2 := ⟨cb_mem 252 (by decide +kernel) (by decide +kernel), ini_X6, by decide, by decide, by decide +kernel⟩
theorem mi_X6_init : Cond.instanceMethod yX6_init ∈ cb_gw := cb_mem 251 (by decide +kernel) (by decide +kernel)
theorem my_X10_board : cb_MY yX10_board cX10_board 3 (some .int) 2 := ⟨cb_mem 308 (by decide +kernel) (by decide +kernel), ini_X10, by decide, by decide, by decide +kernel⟩
theorem mi_X10_board : Cond.instanceMethod yX10_board ∈ cb_gw := cb_mem 306 (by decide +kernel) (by decide +kernel)
theorem mx_X10_board : Cond.selects yX10_board.cls yX10_board yX10_board ∈ cb_gw := cb_mem 307 (by decide +kernel) (by decide +kernel)
theorem my_X10_within : cb_MY yX10_within cX10_within 3 (some .boolean) 3 := ⟨cb_mem 311 (by decide +kernel) (by decide +kernel), ini_X10, by decide, by decide, by decide +kernel⟩
theorem mt_X10_within : Cond.static yX10_within ∈ cb_gw := cb_mem 310 (by decide +kernel) (by decide +kernel)
theorem my_X1_isTold : cb_MY yX1_isTold cX1_isTold 1 (some .boolean) 0 := ⟨cb_mem 315 (by decide +kernel) (by decide +kernel), ini_X1, by decide, by decide, by decide +kernel⟩
theorem mi_X1_isTold : Cond.instanceMethod yX1_isTold ∈ cb_gw := cb_mem 314 (by decide +kernel) (by decide +kernel)
theorem mx_X1_isTold : Cond.selects yX1_isTold.cls yX1_isTold yX1_isTold ∈ cb_gw := cb_mem 0 (by decide +kernel) (by decide +kernel)
theorem my_X10_table : cb_MY yX10_table cX10_table 4 (some .int) 3 := ⟨cb_mem 319 (by decide +kernel) (by decide +kernel), ini_X10, by decide, by decide, by decide +kernel⟩
theorem mi_X10_table : Cond.instanceMethod yX10_table ∈ cb_gw := cb_mem 317 (by decide +kernel) (by decide +kernel)
theorem mx_X10_table : Cond.selects yX10_table.cls yX10_table yX10_table ∈ cb_gw := cb_mem 318 (by decide +kernel) (by decide +kernel)
theorem my_X10_isInk : cb_MY yX10_isInk cX10_isInk 1 (some .boolean) 1 := ⟨cb_mem 322 (by decide +kernel) (by decide +kernel), ini_X10, by decide, by decide, by decide +kernel⟩
theorem mt_X10_isInk : Cond.static yX10_isInk ∈ cb_gw := cb_mem 321 (by decide +kernel) (by decide +kernel)
theorem my_X10_isColour : cb_MY yX10_isColour cX10_isColour 1 (some .boolean) 1 := ⟨cb_mem 325 (by decide +kernel) (by decide +kernel), ini_X10, by decide, by decide, by decide +kernel⟩
theorem mt_X10_isColour : Cond.static yX10_isColour ∈ cb_gw := cb_mem 324 (by decide +kernel) (by decide +kernel)
theorem my_X10_replace : cb_MY yX10_replace cX10_replace 4 (some .int) 3 := ⟨cb_mem 328 (by decide +kernel) (by decide +kernel), ini_X10, by decide, by decide, by decide +kernel⟩
theorem mt_X10_replace : Cond.static yX10_replace ∈ cb_gw := cb_mem 327 (by decide +kernel) (by decide +kernel)
theorem my_X10_drying : cb_MY yX10_drying cX10_drying 3 (some .int) 2 := ⟨cb_mem 332 (by decide +kernel) (by decide +kernel), ini_X10, by decide, by decide, by decide +kernel⟩
theorem mi_X10_drying : Cond.instanceMethod yX10_drying ∈ cb_gw := cb_mem 330 (by decide +kernel) (by decide +kernel)
theorem mx_X10_drying : Cond.selects yX10_drying.cls yX10_drying yX10_drying ∈ cb_gw := cb_mem 331 (by decide +kernel) (by decide +kernel)
theorem my_X10_against : cb_MY yX10_against cX10_against 4 (some .int) 3 := ⟨cb_mem 336 (by decide +kernel) (by decide +kernel), ini_X10, by decide, by decide, by decide +kernel⟩
theorem mi_X10_against : Cond.instanceMethod yX10_against ∈ cb_gw := cb_mem 334 (by decide +kernel) (by decide +kernel)
theorem mx_X10_against : Cond.selects yX10_against.cls yX10_against yX10_against ∈ cb_gw := cb_mem 335 (by decide +kernel) (by decide +kernel)
theorem my_X10_mixed : cb_MY yX10_mixed cX10_mixed 4 (some .int) 3 := ⟨cb_mem 340 (by decide +kernel) (by decide +kernel), ini_X10, by decide, by decide, by decide +kernel⟩
theorem mi_X10_mixed : Cond.instanceMethod yX10_mixed ∈ cb_gw := cb_mem 338 (by decide +kernel) (by decide +kernel)
theorem mx_X10_mixed : Cond.selects yX10_mixed.cls yX10_mixed yX10_mixed ∈ cb_gw := cb_mem 339 (by decide +kernel) (by decide +kernel)
theorem my_X10_lots : cb_MY yX10_lots cX10_lots 3 (some .int) 2 := ⟨cb_mem 344 (by decide +kernel) (by decide +kernel), ini_X10, by decide, by decide, by decide +kernel⟩
theorem mi_X10_lots : Cond.instanceMethod yX10_lots ∈ cb_gw := cb_mem 342 (by decide +kernel) (by decide +kernel)
theorem mx_X10_lots : Cond.selects yX10_lots.cls yX10_lots yX10_lots ∈ cb_gw := cb_mem 343 (by decide +kernel) (by decide +kernel)
theorem my_X10_minutes : cb_MY yX10_minutes cX10_minutes 2 (some .int) 1 := ⟨cb_mem 348 (by decide +kernel) (by decide +kernel), ini_X10, by decide, by decide, by decide +kernel⟩
theorem mi_X10_minutes : Cond.instanceMethod yX10_minutes ∈ cb_gw := cb_mem 346 (by decide +kernel) (by decide +kernel)
theorem mx_X10_minutes : Cond.selects yX10_minutes.cls yX10_minutes yX10_minutes ∈ cb_gw := cb_mem 347 (by decide +kernel) (by decide +kernel)
theorem my_X10_cut : cb_MY yX10_cut cX10_cut 3 (some .int) 1 := ⟨cb_mem 353 (by decide +kernel) (by decide +kernel), ini_X10, by decide, by decide, by decide +kernel⟩
theorem mi_X10_cut : Cond.instanceMethod yX10_cut ∈ cb_gw := cb_mem 351 (by decide +kernel) (by decide +kernel)
theorem mx_X10_cut : Cond.selects yX10_cut.cls yX10_cut yX10_cut ∈ cb_gw := cb_mem 352 (by decide +kernel) (by decide +kernel)
theorem my_X0_init : cb_MY yX0_init cX0_init 2 none 1 := ⟨cb_mem 358 (by decide +kernel) (by decide +kernel), ini_X0, by decide, by decide, by decide +kernel⟩
theorem mi_X0_init : Cond.instanceMethod yX0_init ∈ cb_gw := cb_mem 357 (by decide +kernel) (by decide +kernel)
theorem my_J9_floorDiv_7cf53 : cb_MY yJ9_floorDiv_7cf53 cJ9_floorDiv_7cf53 3 (some .int) 2 := ⟨cb_mem 362 (by decide +kernel) (by decide +kernel), ini_J9, by decide, by decide, by decide +kernel⟩
theorem mt_J9_floorDiv_7cf53 : Cond.static yJ9_floorDiv_7cf53 ∈ cb_gw := cb_mem 361 (by decide +kernel) (by decide +kernel)
theorem my_J9_floorMod_7cf53 : cb_MY yJ9_floorMod_7cf53 cJ9_floorMod_7cf53 3 (some .int) 2 := ⟨cb_mem 365 (by decide +kernel) (by decide +kernel), ini_J9, by decide, by decide, by decide +kernel⟩
theorem mt_J9_floorMod_7cf53 : Cond.static yJ9_floorMod_7cf53 ∈ cb_gw := cb_mem 364 (by decide +kernel) (by decide +kernel)
theorem my_X0_liesOn : cb_MY yX0_liesOn cX0_liesOn 3 (some .boolean) 2 := ⟨cb_mem 382 (by decide +kernel) (by decide +kernel), ini_X0, by decide, by decide, by decide +kernel⟩
theorem mi_X0_liesOn : Cond.instanceMethod yX0_liesOn ∈ cb_gw := cb_mem 381 (by decide +kernel) (by decide +kernel)
theorem mx_X0_liesOn : Cond.selects yX0_liesOn.cls yX0_liesOn yX0_liesOn ∈ cb_gw := cb_mem 1 (by decide +kernel) (by decide +kernel)
theorem my_X1_standsInOutPiece : cb_MY yX1_standsInOutPiece cX1_standsInOutPiece 3 (some .boolean) 1 := ⟨cb_mem 386 (by decide +kernel) (by decide +kernel), ini_X1, by decide, by decide, by decide +kernel⟩
theorem mi_X1_standsInOutPiece : Cond.instanceMethod yX1_standsInOutPiece ∈ cb_gw := cb_mem 385 (by decide +kernel) (by decide +kernel)
theorem mx_X1_standsInOutPiece : Cond.selects yX1_standsInOutPiece.cls yX1_standsInOutPiece yX1_standsInOutPiece ∈ cb_gw := cb_mem 2 (by decide +kernel) (by decide +kernel)
theorem my_X0_covers : cb_MY yX0_covers cX0_covers 2 (some .boolean) 1 := ⟨cb_mem 390 (by decide +kernel) (by decide +kernel), ini_X0, by decide, by decide, by decide +kernel⟩
theorem mi_X0_covers : Cond.instanceMethod yX0_covers ∈ cb_gw := cb_mem 389 (by decide +kernel) (by decide +kernel)
theorem mx_X0_covers : Cond.selects yX0_covers.cls yX0_covers yX0_covers ∈ cb_gw := cb_mem 3 (by decide +kernel) (by decide +kernel)
theorem my_X1_stands : cb_MY yX1_stands cX1_stands 2 (some .boolean) 1 := ⟨cb_mem 395 (by decide +kernel) (by decide +kernel), ini_X1, by decide, by decide, by decide +kernel⟩
theorem mi_X1_stands : Cond.instanceMethod yX1_stands ∈ cb_gw := cb_mem 394 (by decide +kernel) (by decide +kernel)
theorem mx_X1_stands : Cond.selects yX1_stands.cls yX1_stands yX1_stands ∈ cb_gw := cb_mem 4 (by decide +kernel) (by decide +kernel)
theorem my_X1_isIn : cb_MY yX1_isIn cX1_isIn 2 (some .boolean) 1 := ⟨cb_mem 399 (by decide +kernel) (by decide +kernel), ini_X1, by decide, by decide, by decide +kernel⟩
theorem mi_X1_isIn : Cond.instanceMethod yX1_isIn ∈ cb_gw := cb_mem 398 (by decide +kernel) (by decide +kernel)
theorem mx_X1_isIn : Cond.selects yX1_isIn.cls yX1_isIn yX1_isIn ∈ cb_gw := cb_mem 5 (by decide +kernel) (by decide +kernel)
theorem my_X1_cutAway : cb_MY yX1_cutAway cX1_cutAway 4 (some .int) 1 := ⟨cb_mem 403 (by decide +kernel) (by decide +kernel), ini_X1, by decide, by decide, by decide +kernel⟩
theorem mi_X1_cutAway : Cond.instanceMethod yX1_cutAway ∈ cb_gw := cb_mem 402 (by decide +kernel) (by decide +kernel)
theorem mx_X1_cutAway : Cond.selects yX1_cutAway.cls yX1_cutAway yX1_cutAway ∈ cb_gw := cb_mem 6 (by decide +kernel) (by decide +kernel)
theorem my_X10_saw : cb_MY yX10_saw cX10_saw 4 (some .int) 2 := ⟨cb_mem 408 (by decide +kernel) (by decide +kernel), ini_X10, by decide, by decide, by decide +kernel⟩
theorem mi_X10_saw : Cond.instanceMethod yX10_saw ∈ cb_gw := cb_mem 406 (by decide +kernel) (by decide +kernel)
theorem mx_X10_saw : Cond.selects yX10_saw.cls yX10_saw yX10_saw ∈ cb_gw := cb_mem 407 (by decide +kernel) (by decide +kernel)
theorem my_X1_hasPiece : cb_MY yX1_hasPiece cX1_hasPiece 2 (some .boolean) 1 := ⟨cb_mem 412 (by decide +kernel) (by decide +kernel), ini_X1, by decide, by decide, by decide +kernel⟩
theorem mi_X1_hasPiece : Cond.instanceMethod yX1_hasPiece ∈ cb_gw := cb_mem 411 (by decide +kernel) (by decide +kernel)
theorem mx_X1_hasPiece : Cond.selects yX1_hasPiece.cls yX1_hasPiece yX1_hasPiece ∈ cb_gw := cb_mem 7 (by decide +kernel) (by decide +kernel)
theorem my_X1_divides : cb_MY yX1_divides cX1_divides 6 (some .boolean) 2 := ⟨cb_mem 417 (by decide +kernel) (by decide +kernel), ini_X1, by decide, by decide, by decide +kernel⟩
theorem mi_X1_divides : Cond.instanceMethod yX1_divides ∈ cb_gw := cb_mem 416 (by decide +kernel) (by decide +kernel)
theorem mx_X1_divides : Cond.selects yX1_divides.cls yX1_divides yX1_divides ∈ cb_gw := cb_mem 8 (by decide +kernel) (by decide +kernel)
theorem my_X1_hasCell : cb_MY yX1_hasCell cX1_hasCell 2 (some .boolean) 1 := ⟨cb_mem 421 (by decide +kernel) (by decide +kernel), ini_X1, by decide, by decide, by decide +kernel⟩
theorem mi_X1_hasCell : Cond.instanceMethod yX1_hasCell ∈ cb_gw := cb_mem 420 (by decide +kernel) (by decide +kernel)
theorem mx_X1_hasCell : Cond.selects yX1_hasCell.cls yX1_hasCell yX1_hasCell ∈ cb_gw := cb_mem 9 (by decide +kernel) (by decide +kernel)
theorem my_X1_isAt : cb_MY yX1_isAt cX1_isAt 3 (some .boolean) 2 := ⟨cb_mem 425 (by decide +kernel) (by decide +kernel), ini_X1, by decide, by decide, by decide +kernel⟩
theorem mi_X1_isAt : Cond.instanceMethod yX1_isAt ∈ cb_gw := cb_mem 424 (by decide +kernel) (by decide +kernel)
theorem mx_X1_isAt : Cond.selects yX1_isAt.cls yX1_isAt yX1_isAt ∈ cb_gw := cb_mem 10 (by decide +kernel) (by decide +kernel)
theorem my_X1_sawFree : cb_MY yX1_sawFree cX1_sawFree 5 (some .int) 2 := ⟨cb_mem 429 (by decide +kernel) (by decide +kernel), ini_X1, by decide, by decide, by decide +kernel⟩
theorem mi_X1_sawFree : Cond.instanceMethod yX1_sawFree ∈ cb_gw := cb_mem 428 (by decide +kernel) (by decide +kernel)
theorem mx_X1_sawFree : Cond.selects yX1_sawFree.cls yX1_sawFree yX1_sawFree ∈ cb_gw := cb_mem 11 (by decide +kernel) (by decide +kernel)
theorem my_X10_piece : cb_MY yX10_piece cX10_piece 3 (some .int) 2 := ⟨cb_mem 433 (by decide +kernel) (by decide +kernel), ini_X10, by decide, by decide, by decide +kernel⟩
theorem mi_X10_piece : Cond.instanceMethod yX10_piece ∈ cb_gw := cb_mem 431 (by decide +kernel) (by decide +kernel)
theorem mx_X10_piece : Cond.selects yX10_piece.cls yX10_piece yX10_piece ∈ cb_gw := cb_mem 432 (by decide +kernel) (by decide +kernel)
theorem my_X10_cell : cb_MY yX10_cell cX10_cell 3 (some .int) 2 := ⟨cb_mem 437 (by decide +kernel) (by decide +kernel), ini_X10, by decide, by decide, by decide +kernel⟩
theorem mi_X10_cell : Cond.instanceMethod yX10_cell ∈ cb_gw := cb_mem 435 (by decide +kernel) (by decide +kernel)
theorem mx_X10_cell : Cond.selects yX10_cell.cls yX10_cell yX10_cell ∈ cb_gw := cb_mem 436 (by decide +kernel) (by decide +kernel)
theorem my_X10_islands : cb_MY yX10_islands cX10_islands 2 (some .int) 1 := ⟨cb_mem 442 (by decide +kernel) (by decide +kernel), ini_X10, by decide, by decide, by decide +kernel⟩
theorem mi_X10_islands : Cond.instanceMethod yX10_islands ∈ cb_gw := cb_mem 440 (by decide +kernel) (by decide +kernel)
theorem mx_X10_islands : Cond.selects yX10_islands.cls yX10_islands yX10_islands ∈ cb_gw := cb_mem 441 (by decide +kernel) (by decide +kernel)
theorem my_X1_printingCells : cb_MY yX1_printingCells cX1_printingCells 3 (some .int) 0 := ⟨cb_mem 446 (by decide +kernel) (by decide +kernel), ini_X1, by decide, by decide, by decide +kernel⟩
theorem mi_X1_printingCells : Cond.instanceMethod yX1_printingCells ∈ cb_gw := cb_mem 445 (by decide +kernel) (by decide +kernel)
theorem mx_X1_printingCells : Cond.selects yX1_printingCells.cls yX1_printingCells yX1_printingCells ∈ cb_gw := cb_mem 12 (by decide +kernel) (by decide +kernel)
theorem my_X1_prints : cb_MY yX1_prints cX1_prints 2 (some .boolean) 1 := ⟨cb_mem 450 (by decide +kernel) (by decide +kernel), ini_X1, by decide, by decide, by decide +kernel⟩
theorem mi_X1_prints : Cond.instanceMethod yX1_prints ∈ cb_gw := cb_mem 449 (by decide +kernel) (by decide +kernel)
theorem mx_X1_prints : Cond.selects yX1_prints.cls yX1_prints yX1_prints ∈ cb_gw := cb_mem 13 (by decide +kernel) (by decide +kernel)
theorem my_X10_answer : cb_MY yX10_answer cX10_answer 1 (some .int) 1 := ⟨cb_mem 453 (by decide +kernel) (by decide +kernel), ini_X10, by decide, by decide, by decide +kernel⟩
theorem mt_X10_answer : Cond.static yX10_answer ∈ cb_gw := cb_mem 452 (by decide +kernel) (by decide +kernel)
theorem my_X1_markIslands : cb_MY yX1_markIslands cX1_markIslands 2 none 0 := ⟨cb_mem 457 (by decide +kernel) (by decide +kernel), ini_X1, by decide, by decide, by decide +kernel⟩
theorem mi_X1_markIslands : Cond.instanceMethod yX1_markIslands ∈ cb_gw := cb_mem 456 (by decide +kernel) (by decide +kernel)
theorem mx_X1_markIslands : Cond.selects yX1_markIslands.cls yX1_markIslands yX1_markIslands ∈ cb_gw := cb_mem 14 (by decide +kernel) (by decide +kernel)
theorem my_X1_markIsland : cb_MY yX1_markIsland cX1_markIsland 4 (some .int) 1 := ⟨cb_mem 462 (by decide +kernel) (by decide +kernel), ini_X1, by decide, by decide, by decide +kernel⟩
theorem mi_X1_markIsland : Cond.instanceMethod yX1_markIsland ∈ cb_gw := cb_mem 461 (by decide +kernel) (by decide +kernel)
theorem mx_X1_markIsland : Cond.selects yX1_markIsland.cls yX1_markIsland yX1_markIsland ∈ cb_gw := cb_mem 15 (by decide +kernel) (by decide +kernel)
theorem my_X1_findNeighbours : cb_MY yX1_findNeighbours cX1_findNeighbours 8 (some .int) 2 := ⟨cb_mem 466 (by decide +kernel) (by decide +kernel), ini_X1, by decide, by decide, by decide +kernel⟩
theorem mi_X1_findNeighbours : Cond.instanceMethod yX1_findNeighbours ∈ cb_gw := cb_mem 465 (by decide +kernel) (by decide +kernel)
theorem mx_X1_findNeighbours : Cond.selects yX1_findNeighbours.cls yX1_findNeighbours yX1_findNeighbours ∈ cb_gw := cb_mem 16 (by decide +kernel) (by decide +kernel)
theorem my_J9_max_7cf53 : cb_MY yJ9_max_7cf53 cJ9_max_7cf53 2 (some .int) 2 := ⟨cb_mem 473 (by decide +kernel) (by decide +kernel), ini_J9, by decide, by decide, by decide +kernel⟩
theorem mt_J9_max_7cf53 : Cond.static yJ9_max_7cf53 ∈ cb_gw := cb_mem 472 (by decide +kernel) (by decide +kernel)
theorem my_X10_joined : cb_MY yX10_joined cX10_joined 3 (some .int) 2 := ⟨cb_mem 477 (by decide +kernel) (by decide +kernel), ini_X10, by decide, by decide, by decide +kernel⟩
theorem mi_X10_joined : Cond.instanceMethod yX10_joined ∈ cb_gw := cb_mem 475 (by decide +kernel) (by decide +kernel)
theorem mx_X10_joined : Cond.selects yX10_joined.cls yX10_joined yX10_joined ∈ cb_gw := cb_mem 476 (by decide +kernel) (by decide +kernel)
theorem my_X10_sheets : cb_MY yX10_sheets cX10_sheets 3 (some .int) 1 := ⟨cb_mem 482 (by decide +kernel) (by decide +kernel), ini_X10, by decide, by decide, by decide +kernel⟩
theorem mi_X10_sheets : Cond.instanceMethod yX10_sheets ∈ cb_gw := cb_mem 480 (by decide +kernel) (by decide +kernel)
theorem mx_X10_sheets : Cond.selects yX10_sheets.cls yX10_sheets yX10_sheets ∈ cb_gw := cb_mem 481 (by decide +kernel) (by decide +kernel)
theorem my_X9_init : cb_MY yX9_init cX9_init 1 none 0 := ⟨cb_mem 486 (by decide +kernel) (by decide +kernel), ini_X9, by decide, by decide, by decide +kernel⟩
theorem mi_X9_init : Cond.instanceMethod yX9_init ∈ cb_gw := cb_mem 485 (by decide +kernel) (by decide +kernel)
theorem my_X10_pull : cb_MY yX10_pull cX10_pull 3 (some .int) 2 := ⟨cb_mem 517 (by decide +kernel) (by decide +kernel), ini_X10, by decide, by decide, by decide +kernel⟩
theorem mi_X10_pull : Cond.instanceMethod yX10_pull ∈ cb_gw := cb_mem 515 (by decide +kernel) (by decide +kernel)
theorem mx_X10_pull : Cond.selects yX10_pull.cls yX10_pull yX10_pull ∈ cb_gw := cb_mem 516 (by decide +kernel) (by decide +kernel)
theorem my_X10_pullRoll : cb_MY yX10_pullRoll cX10_pullRoll 5 (some .int) 2 := ⟨cb_mem 522 (by decide +kernel) (by decide +kernel), ini_X10, by decide, by decide, by decide +kernel⟩
theorem mi_X10_pullRoll : Cond.instanceMethod yX10_pullRoll ∈ cb_gw := cb_mem 521 (by decide +kernel) (by decide +kernel)
theorem mx_X10_pullRoll : Cond.selects yX10_pullRoll.cls yX10_pullRoll yX10_pullRoll ∈ cb_gw := cb_mem 17 (by decide +kernel) (by decide +kernel)
theorem my_X10_areSheets : cb_MY yX10_areSheets cX10_areSheets 2 (some .boolean) 1 := ⟨cb_mem 526 (by decide +kernel) (by decide +kernel), ini_X10, by decide, by decide, by decide +kernel⟩
theorem mi_X10_areSheets : Cond.instanceMethod yX10_areSheets ∈ cb_gw := cb_mem 525 (by decide +kernel) (by decide +kernel)
theorem mx_X10_areSheets : Cond.selects yX10_areSheets.cls yX10_areSheets yX10_areSheets ∈ cb_gw := cb_mem 18 (by decide +kernel) (by decide +kernel)
theorem my_X10_firstOf : cb_MY yX10_firstOf cX10_firstOf 1 (some .int) 1 := ⟨cb_mem 529 (by decide +kernel) (by decide +kernel), ini_X10, by decide, by decide, by decide +kernel⟩
theorem mt_X10_firstOf : Cond.static yX10_firstOf ∈ cb_gw := cb_mem 528 (by decide +kernel) (by decide +kernel)
theorem my_X10_lastOf : cb_MY yX10_lastOf cX10_lastOf 1 (some .int) 1 := ⟨cb_mem 532 (by decide +kernel) (by decide +kernel), ini_X10, by decide, by decide, by decide +kernel⟩
theorem mt_X10_lastOf : Cond.static yX10_lastOf ∈ cb_gw := cb_mem 531 (by decide +kernel) (by decide +kernel)
theorem my_X10_isSheet : cb_MY yX10_isSheet cX10_isSheet 2 (some .boolean) 1 := ⟨cb_mem 536 (by decide +kernel) (by decide +kernel), ini_X10, by decide, by decide, by decide +kernel⟩
theorem mi_X10_isSheet : Cond.instanceMethod yX10_isSheet ∈ cb_gw := cb_mem 535 (by decide +kernel) (by decide +kernel)
theorem mx_X10_isSheet : Cond.selects yX10_isSheet.cls yX10_isSheet yX10_isSheet ∈ cb_gw := cb_mem 19 (by decide +kernel) (by decide +kernel)
theorem my_X10_pullSheets : cb_MY yX10_pullSheets cX10_pullSheets 6 (some .int) 2 := ⟨cb_mem 540 (by decide +kernel) (by decide +kernel), ini_X10, by decide, by decide, by decide +kernel⟩
theorem mi_X10_pullSheets : Cond.instanceMethod yX10_pullSheets ∈ cb_gw := cb_mem 539 (by decide +kernel) (by decide +kernel)
theorem mx_X10_pullSheets : Cond.selects yX10_pullSheets.cls yX10_pullSheets yX10_pullSheets ∈ cb_gw := cb_mem 20 (by decide +kernel) (by decide +kernel)
theorem my_X5_slips : cb_MY yX5_slips cX5_slips 1 (some .boolean) 0 := ⟨cb_mem 544 (by decide +kernel) (by decide +kernel), ini_X5, by decide, by decide, by decide +kernel⟩
theorem mi_X5_slips : Cond.instanceMethod yX5_slips ∈ cb_gw := cb_mem 543 (by decide +kernel) (by decide +kernel)
theorem mx_X5_slips : Cond.selects yX5_slips.cls yX5_slips yX5_slips ∈ cb_gw := cb_mem 21 (by decide +kernel) (by decide +kernel)
theorem my_X10_layRoll : cb_MY yX10_layRoll cX10_layRoll 3 none 1 := ⟨cb_mem 549 (by decide +kernel) (by decide +kernel), ini_X10, by decide, by decide, by decide +kernel⟩
theorem mi_X10_layRoll : Cond.instanceMethod yX10_layRoll ∈ cb_gw := cb_mem 548 (by decide +kernel) (by decide +kernel)
theorem mx_X10_layRoll : Cond.selects yX10_layRoll.cls yX10_layRoll yX10_layRoll ∈ cb_gw := cb_mem 22 (by decide +kernel) (by decide +kernel)
theorem my_X9_take : cb_MY yX9_take cX9_take 5 none 4 := ⟨cb_mem 554 (by decide +kernel) (by decide +kernel), ini_X9, by decide, by decide, by decide +kernel⟩
theorem mi_X9_take : Cond.instanceMethod yX9_take ∈ cb_gw := cb_mem 553 (by decide +kernel) (by decide +kernel)
theorem mx_X9_take : Cond.selects yX9_take.cls yX9_take yX9_take ∈ cb_gw := cb_mem 23 (by decide +kernel) (by decide +kernel)
theorem my_X2_init : cb_MY yX2_init cX2_init 6 none 5 := ⟨cb_mem 558 (by decide +kernel) (by decide +kernel), ini_X2, by decide, by decide, by decide +kernel⟩
theorem mi_X2_init : Cond.instanceMethod yX2_init ∈ cb_gw := cb_mem 557 (by decide +kernel) (by decide +kernel)
theorem my_X10_blend : cb_MY yX10_blend cX10_blend 6 (some .int) 2 := ⟨cb_mem 579 (by decide +kernel) (by decide +kernel), ini_X10, by decide, by decide, by decide +kernel⟩
theorem mi_X10_blend : Cond.instanceMethod yX10_blend ∈ cb_gw := cb_mem 577 (by decide +kernel) (by decide +kernel)
theorem mx_X10_blend : Cond.selects yX10_blend.cls yX10_blend yX10_blend ∈ cb_gw := cb_mem 578 (by decide +kernel) (by decide +kernel)
theorem my_X10_colour : cb_MY yX10_colour cX10_colour 3 (some .int) 2 := ⟨cb_mem 584 (by decide +kernel) (by decide +kernel), ini_X10, by decide, by decide, by decide +kernel⟩
theorem mi_X10_colour : Cond.instanceMethod yX10_colour ∈ cb_gw := cb_mem 582 (by decide +kernel) (by decide +kernel)
theorem mx_X10_colour : Cond.selects yX10_colour.cls yX10_colour yX10_colour ∈ cb_gw := cb_mem 583 (by decide +kernel) (by decide +kernel)
theorem my_X10_led : cb_MY yX10_led cX10_led 4 (some .int) 3 := ⟨cb_mem 588 (by decide +kernel) (by decide +kernel), ini_X10, by decide, by decide, by decide +kernel⟩
theorem mi_X10_led : Cond.instanceMethod yX10_led ∈ cb_gw := cb_mem 586 (by decide +kernel) (by decide +kernel)
theorem mx_X10_led : Cond.selects yX10_led.cls yX10_led yX10_led ∈ cb_gw := cb_mem 587 (by decide +kernel) (by decide +kernel)
theorem my_X10_good : cb_MY yX10_good cX10_good 2 (some .int) 1 := ⟨cb_mem 592 (by decide +kernel) (by decide +kernel), ini_X10, by decide, by decide, by decide +kernel⟩
theorem mi_X10_good : Cond.instanceMethod yX10_good ∈ cb_gw := cb_mem 590 (by decide +kernel) (by decide +kernel)
theorem mx_X10_good : Cond.selects yX10_good.cls yX10_good yX10_good ∈ cb_gw := cb_mem 591 (by decide +kernel) (by decide +kernel)
theorem my_X10_book : cb_MY yX10_book cX10_book 3 (some .int) 2 := ⟨cb_mem 596 (by decide +kernel) (by decide +kernel), ini_X10, by decide, by decide, by decide +kernel⟩
theorem mi_X10_book : Cond.instanceMethod yX10_book ∈ cb_gw := cb_mem 594 (by decide +kernel) (by decide +kernel)
theorem mx_X10_book : Cond.selects yX10_book.cls yX10_book yX10_book ∈ cb_gw := cb_mem 595 (by decide +kernel) (by decide +kernel)
theorem my_X2_fact : cb_MY yX2_fact cX2_fact 2 (some .int) 1 := ⟨cb_mem 600 (by decide +kernel) (by decide +kernel), ini_X2, by decide, by decide, by decide +kernel⟩
theorem mi_X2_fact : Cond.instanceMethod yX2_fact ∈ cb_gw := cb_mem 599 (by decide +kernel) (by decide +kernel)
theorem mx_X2_fact : Cond.selects yX2_fact.cls yX2_fact yX2_fact ∈ cb_gw := cb_mem 24 (by decide +kernel) (by decide +kernel)
theorem my_X10_free : cb_MY yX10_free cX10_free 5 (some .int) 2 := ⟨cb_mem 604 (by decide +kernel) (by decide +kernel), ini_X10, by decide, by decide, by decide +kernel⟩
theorem mi_X10_free : Cond.instanceMethod yX10_free ∈ cb_gw := cb_mem 602 (by decide +kernel) (by decide +kernel)
theorem mx_X10_free : Cond.selects yX10_free.cls yX10_free yX10_free ∈ cb_gw := cb_mem 603 (by decide +kernel) (by decide +kernel)
theorem my_X9_dryFor : cb_MY yX9_dryFor cX9_dryFor 6 (some .int) 3 := ⟨cb_mem 608 (by decide +kernel) (by decide +kernel), ini_X9, by decide, by decide, by decide +kernel⟩
theorem mi_X9_dryFor : Cond.instanceMethod yX9_dryFor ∈ cb_gw := cb_mem 607 (by decide +kernel) (by decide +kernel)
theorem mx_X9_dryFor : Cond.selects yX9_dryFor.cls yX9_dryFor yX9_dryFor ∈ cb_gw := cb_mem 25 (by decide +kernel) (by decide +kernel)
theorem my_X10_wanted : cb_MY yX10_wanted cX10_wanted 3 (some .int) 2 := ⟨cb_mem 615 (by decide +kernel) (by decide +kernel), ini_X10, by decide, by decide, by decide +kernel⟩
theorem mi_X10_wanted : Cond.instanceMethod yX10_wanted ∈ cb_gw := cb_mem 613 (by decide +kernel) (by decide +kernel)
theorem mx_X10_wanted : Cond.selects yX10_wanted.cls yX10_wanted yX10_wanted ∈ cb_gw := cb_mem 614 (by decide +kernel) (by decide +kernel)
theorem my_X10_want : cb_MY yX10_want cX10_want 3 (some .int) 2 := ⟨cb_mem 619 (by decide +kernel) (by decide +kernel), ini_X10, by decide, by decide, by decide +kernel⟩
theorem mi_X10_want : Cond.instanceMethod yX10_want ∈ cb_gw := cb_mem 617 (by decide +kernel) (by decide +kernel)
theorem mx_X10_want : Cond.selects yX10_want.cls yX10_want yX10_want ∈ cb_gw := cb_mem 618 (by decide +kernel) (by decide +kernel)
theorem my_X6_hasCell : cb_MY yX6_hasCell cX6_hasCell 2 (some .boolean) 1 := ⟨cb_mem 623 (by decide +kernel) (by decide +kernel), ini_X6, by decide, by decide, by decide +kernel⟩
theorem mi_X6_hasCell : Cond.instanceMethod yX6_hasCell ∈ cb_gw := cb_mem 622 (by decide +kernel) (by decide +kernel)
theorem mx_X6_hasCell : Cond.selects yX6_hasCell.cls yX6_hasCell yX6_hasCell ∈ cb_gw := cb_mem 26 (by decide +kernel) (by decide +kernel)
theorem my_X6_isAt : cb_MY yX6_isAt cX6_isAt 3 (some .boolean) 2 := ⟨cb_mem 627 (by decide +kernel) (by decide +kernel), ini_X6, by decide, by decide, by decide +kernel⟩
theorem mi_X6_isAt : Cond.instanceMethod yX6_isAt ∈ cb_gw := cb_mem 626 (by decide +kernel) (by decide +kernel)
theorem mx_X6_isAt : Cond.selects yX6_isAt.cls yX6_isAt yX6_isAt ∈ cb_gw := cb_mem 27 (by decide +kernel) (by decide +kernel)
theorem my_X10_fewest : cb_MY yX10_fewest cX10_fewest 3 (some .int) 1 := ⟨cb_mem 632 (by decide +kernel) (by decide +kernel), ini_X10, by decide, by decide, by decide +kernel⟩
theorem mi_X10_fewest : Cond.instanceMethod yX10_fewest ∈ cb_gw := cb_mem 630 (by decide +kernel) (by decide +kernel)
theorem mx_X10_fewest : Cond.selects yX10_fewest.cls yX10_fewest yX10_fewest ∈ cb_gw := cb_mem 631 (by decide +kernel) (by decide +kernel)
theorem my_X6_isTold : cb_MY yX6_isTold cX6_isTold 1 (some .boolean) 0 := ⟨cb_mem 636 (by decide +kernel) (by decide +kernel), ini_X6, by decide, by decide, by decide +kernel⟩
theorem mi_X6_isTold : Cond.instanceMethod yX6_isTold ∈ cb_gw := cb_mem 635 (by decide +kernel) (by decide +kernel)
theorem mx_X6_isTold : Cond.selects yX6_isTold.cls yX6_isTold yX6_isTold ∈ cb_gw := cb_mem 28 (by decide +kernel) (by decide +kernel)
theorem my_X10_isInkSet : cb_MY yX10_isInkSet cX10_isInkSet 1 (some .boolean) 1 := ⟨cb_mem 639 (by decide +kernel) (by decide +kernel), ini_X10, by decide, by decide, by decide +kernel⟩
theorem mt_X10_isInkSet : Cond.static yX10_isInkSet ∈ cb_gw := cb_mem 638 (by decide +kernel) (by decide +kernel)
theorem my_X6_colourSet : cb_MY yX6_colourSet cX6_colourSet 3 (some .int) 0 := ⟨cb_mem 643 (by decide +kernel) (by decide +kernel), ini_X6, by decide, by decide, by decide +kernel⟩
theorem mi_X6_colourSet : Cond.instanceMethod yX6_colourSet ∈ cb_gw := cb_mem 642 (by decide +kernel) (by decide +kernel)
theorem mx_X6_colourSet : Cond.selects yX6_colourSet.cls yX6_colourSet yX6_colourSet ∈ cb_gw := cb_mem 29 (by decide +kernel) (by decide +kernel)
theorem my_X8_leastPulls : cb_MY yX8_leastPulls cX8_leastPulls 6 (some .int) 2 := ⟨cb_mem 648 (by decide +kernel) (by decide +kernel), ini_X8, by decide, by decide, by decide +kernel⟩
theorem mi_X8_leastPulls : Cond.instanceMethod yX8_leastPulls ∈ cb_gw := cb_mem 647 (by decide +kernel) (by decide +kernel)
theorem mx_X8_leastPulls : Cond.selects yX8_leastPulls.cls yX8_leastPulls yX8_leastPulls ∈ cb_gw := cb_mem 30 (by decide +kernel) (by decide +kernel)
theorem my_X10_withoutPaper : cb_MY yX10_withoutPaper cX10_withoutPaper 1 (some .int) 1 := ⟨cb_mem 651 (by decide +kernel) (by decide +kernel), ini_X10, by decide, by decide, by decide +kernel⟩
theorem mt_X10_withoutPaper : Cond.static yX10_withoutPaper ∈ cb_gw := cb_mem 650 (by decide +kernel) (by decide +kernel)
theorem my_J6_bitCount_0f7a4 : cb_MY yJ6_bitCount_0f7a4 cJ6_bitCount_0f7a4 1 (some .int) 1 := ⟨cb_mem 654 (by decide +kernel) (by decide +kernel), ini_J6, by decide, by decide, by decide +kernel⟩
theorem mt_J6_bitCount_0f7a4 : Cond.static yJ6_bitCount_0f7a4 ∈ cb_gw := cb_mem 653 (by decide +kernel) (by decide +kernel)
theorem my_X8_numberNeeded : cb_MY yX8_numberNeeded cX8_numberNeeded 4 none 1 := ⟨cb_mem 661 (by decide +kernel) (by decide +kernel), ini_X8, by decide, by decide, by decide +kernel⟩
theorem mi_X8_numberNeeded : Cond.instanceMethod yX8_numberNeeded ∈ cb_gw := cb_mem 660 (by decide +kernel) (by decide +kernel)
theorem mx_X8_numberNeeded : Cond.selects yX8_numberNeeded.cls yX8_numberNeeded yX8_numberNeeded ∈ cb_gw := cb_mem 31 (by decide +kernel) (by decide +kernel)
theorem my_X10_has : cb_MY yX10_has cX10_has 2 (some .boolean) 2 := ⟨cb_mem 664 (by decide +kernel) (by decide +kernel), ini_X10, by decide, by decide, by decide +kernel⟩
theorem mt_X10_has : Cond.static yX10_has ∈ cb_gw := cb_mem 663 (by decide +kernel) (by decide +kernel)
theorem my_X8_fillEndings : cb_MY yX8_fillEndings cX8_fillEndings 6 none 1 := ⟨cb_mem 669 (by decide +kernel) (by decide +kernel), ini_X8, by decide, by decide, by decide +kernel⟩
theorem mi_X8_fillEndings : Cond.instanceMethod yX8_fillEndings ∈ cb_gw := cb_mem 668 (by decide +kernel) (by decide +kernel)
theorem mx_X8_fillEndings : Cond.selects yX8_fillEndings.cls yX8_fillEndings yX8_fillEndings ∈ cb_gw := cb_mem 32 (by decide +kernel) (by decide +kernel)
theorem my_X8_setsAhead : cb_MY yX8_setsAhead cX8_setsAhead 5 (some .int) 2 := ⟨cb_mem 673 (by decide +kernel) (by decide +kernel), ini_X8, by decide, by decide, by decide +kernel⟩
theorem mi_X8_setsAhead : Cond.instanceMethod yX8_setsAhead ∈ cb_gw := cb_mem 672 (by decide +kernel) (by decide +kernel)
theorem mx_X8_setsAhead : Cond.selects yX8_setsAhead.cls yX8_setsAhead yX8_setsAhead ∈ cb_gw := cb_mem 33 (by decide +kernel) (by decide +kernel)
theorem my_X8_writeRow : cb_MY yX8_writeRow cX8_writeRow 7 none 2 := ⟨cb_mem 679 (by decide +kernel) (by decide +kernel), ini_X8, by decide, by decide, by decide +kernel⟩
theorem mi_X8_writeRow : Cond.instanceMethod yX8_writeRow ∈ cb_gw := cb_mem 678 (by decide +kernel) (by decide +kernel)
theorem mx_X8_writeRow : Cond.selects yX8_writeRow.cls yX8_writeRow yX8_writeRow ∈ cb_gw := cb_mem 34 (by decide +kernel) (by decide +kernel)
theorem my_X8_firstInk : cb_MY yX8_firstInk cX8_firstInk 6 (some .int) 3 := ⟨cb_mem 683 (by decide +kernel) (by decide +kernel), ini_X8, by decide, by decide, by decide +kernel⟩
theorem mi_X8_firstInk : Cond.instanceMethod yX8_firstInk ∈ cb_gw := cb_mem 682 (by decide +kernel) (by decide +kernel)
theorem mx_X8_firstInk : Cond.selects yX8_firstInk.cls yX8_firstInk yX8_firstInk ∈ cb_gw := cb_mem 35 (by decide +kernel) (by decide +kernel)
theorem my_X8_setWith : cb_MY yX8_setWith cX8_setWith 3 (some .int) 2 := ⟨cb_mem 687 (by decide +kernel) (by decide +kernel), ini_X8, by decide, by decide, by decide +kernel⟩
theorem mi_X8_setWith : Cond.instanceMethod yX8_setWith ∈ cb_gw := cb_mem 686 (by decide +kernel) (by decide +kernel)
theorem mx_X8_setWith : Cond.selects yX8_setWith.cls yX8_setWith yX8_setWith ∈ cb_gw := cb_mem 36 (by decide +kernel) (by decide +kernel)
theorem my_X7_keepPlaces : cb_MY yX7_keepPlaces cX7_keepPlaces 4 none 2 := ⟨cb_mem 691 (by decide +kernel) (by decide +kernel), ini_X7, by decide, by decide, by decide +kernel⟩
theorem mi_X7_keepPlaces : Cond.instanceMethod yX7_keepPlaces ∈ cb_gw := cb_mem 690 (by decide +kernel) (by decide +kernel)
theorem mx_X7_keepPlaces : Cond.selects yX7_keepPlaces.cls yX7_keepPlaces yX7_keepPlaces ∈ cb_gw := cb_mem 37 (by decide +kernel) (by decide +kernel)
theorem my_X3_leastPlace : cb_MY yX3_leastPlace cX3_leastPlace 4 (some .int) 2 := ⟨cb_mem 696 (by decide +kernel) (by decide +kernel), ini_X3, by decide, by decide, by decide +kernel⟩
theorem mi_X3_leastPlace : Cond.instanceMethod yX3_leastPlace ∈ cb_gw := cb_mem 695 (by decide +kernel) (by decide +kernel)
theorem mx_X3_leastPlace : Cond.selects yX3_leastPlace.cls yX3_leastPlace yX3_leastPlace ∈ cb_gw := cb_mem 38 (by decide +kernel) (by decide +kernel)
theorem my_X3_colourAfter : cb_MY yX3_colourAfter cX3_colourAfter 5 (some .int) 2 := ⟨cb_mem 700 (by decide +kernel) (by decide +kernel), ini_X3, by decide, by decide, by decide +kernel⟩
theorem mi_X3_colourAfter : Cond.instanceMethod yX3_colourAfter ∈ cb_gw := cb_mem 699 (by decide +kernel) (by decide +kernel)
theorem mx_X3_colourAfter : Cond.selects yX3_colourAfter.cls yX3_colourAfter yX3_colourAfter ∈ cb_gw := cb_mem 39 (by decide +kernel) (by decide +kernel)
theorem my_X10_order : cb_MY yX10_order cX10_order 2 (some .int) 1 := ⟨cb_mem 704 (by decide +kernel) (by decide +kernel), ini_X10, by decide, by decide, by decide +kernel⟩
theorem mi_X10_order : Cond.instanceMethod yX10_order ∈ cb_gw := cb_mem 702 (by decide +kernel) (by decide +kernel)
theorem mx_X10_order : Cond.selects yX10_order.cls yX10_order yX10_order ∈ cb_gw := cb_mem 703 (by decide +kernel) (by decide +kernel)
theorem my_X10_place : cb_MY yX10_place cX10_place 2 (some .int) 1 := ⟨cb_mem 708 (by decide +kernel) (by decide +kernel), ini_X10, by decide, by decide, by decide +kernel⟩
theorem mi_X10_place : Cond.instanceMethod yX10_place ∈ cb_gw := cb_mem 706 (by decide +kernel) (by decide +kernel)
theorem mx_X10_place : Cond.selects yX10_place.cls yX10_place yX10_place ∈ cb_gw := cb_mem 707 (by decide +kernel) (by decide +kernel)
theorem my_X10_why : cb_MY yX10_why cX10_why 5 (some .int) 1 := ⟨cb_mem 712 (by decide +kernel) (by decide +kernel), ini_X10, by decide, by decide, by decide +kernel⟩
theorem mi_X10_why : Cond.instanceMethod yX10_why ∈ cb_gw := cb_mem 710 (by decide +kernel) (by decide +kernel)
theorem mx_X10_why : Cond.selects yX10_why.cls yX10_why yX10_why ∈ cb_gw := cb_mem 711 (by decide +kernel) (by decide +kernel)
theorem my_X4_reachedBy : cb_MY yX4_reachedBy cX4_reachedBy 4 (some .int) 1 := ⟨cb_mem 716 (by decide +kernel) (by decide +kernel), ini_X4, by decide, by decide, by decide +kernel⟩
theorem mi_X4_reachedBy : Cond.instanceMethod yX4_reachedBy ∈ cb_gw := cb_mem 715 (by decide +kernel) (by decide +kernel)
theorem mx_X4_reachedBy : Cond.selects yX4_reachedBy.cls yX4_reachedBy yX4_reachedBy ∈ cb_gw := cb_mem 40 (by decide +kernel) (by decide +kernel)
theorem my_X4_oneInkOn : cb_MY yX4_oneInkOn cX4_oneInkOn 6 (some .int) 2 := ⟨cb_mem 720 (by decide +kernel) (by decide +kernel), ini_X4, by decide, by decide, by decide +kernel⟩
theorem mi_X4_oneInkOn : Cond.instanceMethod yX4_oneInkOn ∈ cb_gw := cb_mem 719 (by decide +kernel) (by decide +kernel)
theorem mx_X4_oneInkOn : Cond.selects yX4_oneInkOn.cls yX4_oneInkOn yX4_oneInkOn ∈ cb_gw := cb_mem 41 (by decide +kernel) (by decide +kernel)
theorem my_X10_alike : cb_MY yX10_alike cX10_alike 5 (some .int) 3 := ⟨cb_mem 726 (by decide +kernel) (by decide +kernel), ini_X10, by decide, by decide, by decide +kernel⟩
theorem mi_X10_alike : Cond.instanceMethod yX10_alike ∈ cb_gw := cb_mem 724 (by decide +kernel) (by decide +kernel)
theorem mx_X10_alike : Cond.selects yX10_alike.cls yX10_alike yX10_alike ∈ cb_gw := cb_mem 725 (by decide +kernel) (by decide +kernel)
theorem my_X3_isRow : cb_MY yX3_isRow cX3_isRow 2 (some .boolean) 1 := ⟨cb_mem 729 (by decide +kernel) (by decide +kernel), ini_X3, by decide, by decide, by decide +kernel⟩
theorem mt_X3_isRow : Cond.static yX3_isRow ∈ cb_gw := cb_mem 728 (by decide +kernel) (by decide +kernel)
theorem my_X3_init_ : cb_MY yX3_init_ cX3_init_ 4 none 1 := ⟨cb_mem 736 (by decide +kernel) (by decide +kernel), ini_X3, by decide, by decide, by decide +kernel⟩
theorem mi_X3_init_ : Cond.instanceMethod yX3_init_ ∈ cb_gw := cb_mem 735 (by decide +kernel) (by decide +kernel)
theorem my_X3_coloursMade : cb_MY yX3_coloursMade cX3_coloursMade 4 (some .int) 1 := ⟨cb_mem 740 (by decide +kernel) (by decide +kernel), ini_X3, by decide, by decide, by decide +kernel⟩
theorem mi_X3_coloursMade : Cond.instanceMethod yX3_coloursMade ∈ cb_gw := cb_mem 739 (by decide +kernel) (by decide +kernel)
theorem mx_X3_coloursMade : Cond.selects yX3_coloursMade.cls yX3_coloursMade yX3_coloursMade ∈ cb_gw := cb_mem 42 (by decide +kernel) (by decide +kernel)
theorem my_X10_made : cb_MY yX10_made cX10_made 4 (some .int) 2 := ⟨cb_mem 744 (by decide +kernel) (by decide +kernel), ini_X10, by decide, by decide, by decide +kernel⟩
theorem mi_X10_made : Cond.instanceMethod yX10_made ∈ cb_gw := cb_mem 742 (by decide +kernel) (by decide +kernel)
theorem mx_X10_made : Cond.selects yX10_made.cls yX10_made yX10_made ∈ cb_gw := cb_mem 743 (by decide +kernel) (by decide +kernel)
theorem my_X10_begin : cb_MY yX10_begin cX10_begin 7 (some .int) 3 := ⟨cb_mem 749 (by decide +kernel) (by decide +kernel), ini_X10, by decide, by decide, by decide +kernel⟩
theorem mi_X10_begin : Cond.instanceMethod yX10_begin ∈ cb_gw := cb_mem 747 (by decide +kernel) (by decide +kernel)
theorem mx_X10_begin : Cond.selects yX10_begin.cls yX10_begin yX10_begin ∈ cb_gw := cb_mem 748 (by decide +kernel) (by decide +kernel)
theorem my_X10_shows : cb_MY yX10_shows cX10_shows 2 (some .int) 1 := ⟨cb_mem 754 (by decide +kernel) (by decide +kernel), ini_X10, by decide, by decide, by decide +kernel⟩
theorem mi_X10_shows : Cond.instanceMethod yX10_shows ∈ cb_gw := cb_mem 752 (by decide +kernel) (by decide +kernel)
theorem mx_X10_shows : Cond.selects yX10_shows.cls yX10_shows yX10_shows ∈ cb_gw := cb_mem 753 (by decide +kernel) (by decide +kernel)
theorem my_X6_isOn : cb_MY yX6_isOn cX6_isOn 3 (some .boolean) 1 := ⟨cb_mem 758 (by decide +kernel) (by decide +kernel), ini_X6, by decide, by decide, by decide +kernel⟩
theorem mi_X6_isOn : Cond.instanceMethod yX6_isOn ∈ cb_gw := cb_mem 757 (by decide +kernel) (by decide +kernel)
theorem mx_X6_isOn : Cond.selects yX6_isOn.cls yX6_isOn yX6_isOn ∈ cb_gw := cb_mem 43 (by decide +kernel) (by decide +kernel)
theorem my_X6_colourAt : cb_MY yX6_colourAt cX6_colourAt 3 (some .int) 2 := ⟨cb_mem 762 (by decide +kernel) (by decide +kernel), ini_X6, by decide, by decide, by decide +kernel⟩
theorem mi_X6_colourAt : Cond.instanceMethod yX6_colourAt ∈ cb_gw := cb_mem 761 (by decide +kernel) (by decide +kernel)
theorem mx_X6_colourAt : Cond.selects yX6_colourAt.cls yX6_colourAt yX6_colourAt ∈ cb_gw := cb_mem 44 (by decide +kernel) (by decide +kernel)
theorem my_X10_count : cb_MY yX10_count cX10_count 2 (some .int) 1 := ⟨cb_mem 766 (by decide +kernel) (by decide +kernel), ini_X10, by decide, by decide, by decide +kernel⟩
theorem mi_X10_count : Cond.instanceMethod yX10_count ∈ cb_gw := cb_mem 764 (by decide +kernel) (by decide +kernel)
theorem mx_X10_count : Cond.selects yX10_count.cls yX10_count yX10_count ∈ cb_gw := cb_mem 765 (by decide +kernel) (by decide +kernel)
theorem my_X10_goodSheets : cb_MY yX10_goodSheets cX10_goodSheets 3 (some .int) 0 := ⟨cb_mem 770 (by decide +kernel) (by decide +kernel), ini_X10, by decide, by decide, by decide +kernel⟩
theorem mi_X10_goodSheets : Cond.instanceMethod yX10_goodSheets ∈ cb_gw := cb_mem 769 (by decide +kernel) (by decide +kernel)
theorem mx_X10_goodSheets : Cond.selects yX10_goodSheets.cls yX10_goodSheets yX10_goodSheets ∈ cb_gw := cb_mem 45 (by decide +kernel) (by decide +kernel)
theorem my_X1_standingCells : cb_MY yX1_standingCells cX1_standingCells 3 (some .int) 0 := ⟨cb_mem 774 (by decide +kernel) (by decide +kernel), ini_X1, by decide, by decide, by decide +kernel⟩
theorem mi_X1_standingCells : Cond.instanceMethod yX1_standingCells ∈ cb_gw := cb_mem 773 (by decide +kernel) (by decide +kernel)
theorem mx_X1_standingCells : Cond.selects yX1_standingCells.cls yX1_standingCells yX1_standingCells ∈ cb_gw := cb_mem 46 (by decide +kernel) (by decide +kernel)
theorem my_X11_init : cb_MY yX11_init cX11_init 3 none 0 := ⟨cb_mem 779 (by decide +kernel) (by decide +kernel), ini_X11, by decide, by decide, by decide +kernel⟩
theorem mi_X11_init : Cond.instanceMethod yX11_init ∈ cb_gw := cb_mem 778 (by decide +kernel) (by decide +kernel)
theorem my_X11_board : cb_MY yX11_board cX11_board 3 (some .int) 2 := ⟨cb_mem 909 (by decide +kernel) (by decide +kernel), ini_X11, by decide, by decide, by decide +kernel⟩
theorem mi_X11_board : Cond.instanceMethod yX11_board ∈ cb_gw := cb_mem 907 (by decide +kernel) (by decide +kernel)
theorem mx_X11_board : Cond.selects yX11_board.cls yX11_board yX11_board ∈ cb_gw := cb_mem 908 (by decide +kernel) (by decide +kernel)
theorem my_X11_within : cb_MY yX11_within cX11_within 3 (some .boolean) 3 := ⟨cb_mem 912 (by decide +kernel) (by decide +kernel), ini_X11, by decide, by decide, by decide +kernel⟩
theorem mt_X11_within : Cond.static yX11_within ∈ cb_gw := cb_mem 911 (by decide +kernel) (by decide +kernel)
theorem my_X11_table : cb_MY yX11_table cX11_table 5 (some .int) 3 := ⟨cb_mem 916 (by decide +kernel) (by decide +kernel), ini_X11, by decide, by decide, by decide +kernel⟩
theorem mi_X11_table : Cond.instanceMethod yX11_table ∈ cb_gw := cb_mem 914 (by decide +kernel) (by decide +kernel)
theorem mx_X11_table : Cond.selects yX11_table.cls yX11_table yX11_table ∈ cb_gw := cb_mem 915 (by decide +kernel) (by decide +kernel)
theorem my_X11_isInk : cb_MY yX11_isInk cX11_isInk 1 (some .boolean) 1 := ⟨cb_mem 919 (by decide +kernel) (by decide +kernel), ini_X11, by decide, by decide, by decide +kernel⟩
theorem mt_X11_isInk : Cond.static yX11_isInk ∈ cb_gw := cb_mem 918 (by decide +kernel) (by decide +kernel)
theorem my_X11_isColour : cb_MY yX11_isColour cX11_isColour 1 (some .boolean) 1 := ⟨cb_mem 922 (by decide +kernel) (by decide +kernel), ini_X11, by decide, by decide, by decide +kernel⟩
theorem mt_X11_isColour : Cond.static yX11_isColour ∈ cb_gw := cb_mem 921 (by decide +kernel) (by decide +kernel)
theorem my_X11_drying : cb_MY yX11_drying cX11_drying 4 (some .int) 2 := ⟨cb_mem 926 (by decide +kernel) (by decide +kernel), ini_X11, by decide, by decide, by decide +kernel⟩
theorem mi_X11_drying : Cond.instanceMethod yX11_drying ∈ cb_gw := cb_mem 924 (by decide +kernel) (by decide +kernel)
theorem mx_X11_drying : Cond.selects yX11_drying.cls yX11_drying yX11_drying ∈ cb_gw := cb_mem 925 (by decide +kernel) (by decide +kernel)
theorem my_X11_against : cb_MY yX11_against cX11_against 5 (some .int) 3 := ⟨cb_mem 930 (by decide +kernel) (by decide +kernel), ini_X11, by decide, by decide, by decide +kernel⟩
theorem mi_X11_against : Cond.instanceMethod yX11_against ∈ cb_gw := cb_mem 928 (by decide +kernel) (by decide +kernel)
theorem mx_X11_against : Cond.selects yX11_against.cls yX11_against yX11_against ∈ cb_gw := cb_mem 929 (by decide +kernel) (by decide +kernel)
theorem my_X11_mixed : cb_MY yX11_mixed cX11_mixed 5 (some .int) 3 := ⟨cb_mem 934 (by decide +kernel) (by decide +kernel), ini_X11, by decide, by decide, by decide +kernel⟩
theorem mi_X11_mixed : Cond.instanceMethod yX11_mixed ∈ cb_gw := cb_mem 932 (by decide +kernel) (by decide +kernel)
theorem mx_X11_mixed : Cond.selects yX11_mixed.cls yX11_mixed yX11_mixed ∈ cb_gw := cb_mem 933 (by decide +kernel) (by decide +kernel)
theorem my_X11_lots : cb_MY yX11_lots cX11_lots 3 (some .int) 2 := ⟨cb_mem 938 (by decide +kernel) (by decide +kernel), ini_X11, by decide, by decide, by decide +kernel⟩
theorem mi_X11_lots : Cond.instanceMethod yX11_lots ∈ cb_gw := cb_mem 936 (by decide +kernel) (by decide +kernel)
theorem mx_X11_lots : Cond.selects yX11_lots.cls yX11_lots yX11_lots ∈ cb_gw := cb_mem 937 (by decide +kernel) (by decide +kernel)
theorem my_X11_minutes : cb_MY yX11_minutes cX11_minutes 2 (some .int) 1 := ⟨cb_mem 942 (by decide +kernel) (by decide +kernel), ini_X11, by decide, by decide, by decide +kernel⟩
theorem mi_X11_minutes : Cond.instanceMethod yX11_minutes ∈ cb_gw := cb_mem 940 (by decide +kernel) (by decide +kernel)
theorem mx_X11_minutes : Cond.selects yX11_minutes.cls yX11_minutes yX11_minutes ∈ cb_gw := cb_mem 941 (by decide +kernel) (by decide +kernel)
theorem my_X11_cut : cb_MY yX11_cut cX11_cut 6 (some .int) 1 := ⟨cb_mem 947 (by decide +kernel) (by decide +kernel), ini_X11, by decide, by decide, by decide +kernel⟩
theorem mi_X11_cut : Cond.instanceMethod yX11_cut ∈ cb_gw := cb_mem 945 (by decide +kernel) (by decide +kernel)
theorem mx_X11_cut : Cond.selects yX11_cut.cls yX11_cut yX11_cut ∈ cb_gw := cb_mem 946 (by decide +kernel) (by decide +kernel)
theorem my_X11_takeCells : cb_MY yX11_takeCells cX11_takeCells 2 (some .boolean) 1 := ⟨cb_mem 951 (by decide +kernel) (by decide +kernel), ini_X11, by decide, by decide, by decide +kernel⟩
theorem mi_X11_takeCells : Cond.instanceMethod yX11_takeCells ∈ cb_gw := cb_mem 950 (by decide +kernel) (by decide +kernel)
theorem mx_X11_takeCells : Cond.selects yX11_takeCells.cls yX11_takeCells yX11_takeCells ∈ cb_gw := cb_mem 47 (by decide +kernel) (by decide +kernel)
theorem my_X11_saw : cb_MY yX11_saw cX11_saw 6 (some .int) 2 := ⟨cb_mem 955 (by decide +kernel) (by decide +kernel), ini_X11, by decide, by decide, by decide +kernel⟩
theorem mi_X11_saw : Cond.instanceMethod yX11_saw ∈ cb_gw := cb_mem 953 (by decide +kernel) (by decide +kernel)
theorem mx_X11_saw : Cond.selects yX11_saw.cls yX11_saw yX11_saw ∈ cb_gw := cb_mem 954 (by decide +kernel) (by decide +kernel)
theorem my_X11_isPiece : cb_MY yX11_isPiece cX11_isPiece 2 (some .boolean) 1 := ⟨cb_mem 959 (by decide +kernel) (by decide +kernel), ini_X11, by decide, by decide, by decide +kernel⟩
theorem mi_X11_isPiece : Cond.instanceMethod yX11_isPiece ∈ cb_gw := cb_mem 958 (by decide +kernel) (by decide +kernel)
theorem mx_X11_isPiece : Cond.selects yX11_isPiece.cls yX11_isPiece yX11_isPiece ∈ cb_gw := cb_mem 48 (by decide +kernel) (by decide +kernel)
theorem my_X11_cellsOf : cb_MY yX11_cellsOf cX11_cellsOf 5 (some .int) 1 := ⟨cb_mem 963 (by decide +kernel) (by decide +kernel), ini_X11, by decide, by decide, by decide +kernel⟩
theorem mi_X11_cellsOf : Cond.instanceMethod yX11_cellsOf ∈ cb_gw := cb_mem 962 (by decide +kernel) (by decide +kernel)
theorem mx_X11_cellsOf : Cond.selects yX11_cellsOf.cls yX11_cellsOf yX11_cellsOf ∈ cb_gw := cb_mem 49 (by decide +kernel) (by decide +kernel)
theorem my_X11_piece : cb_MY yX11_piece cX11_piece 4 (some .int) 2 := ⟨cb_mem 967 (by decide +kernel) (by decide +kernel), ini_X11, by decide, by decide, by decide +kernel⟩
theorem mi_X11_piece : Cond.instanceMethod yX11_piece ∈ cb_gw := cb_mem 965 (by decide +kernel) (by decide +kernel)
theorem mx_X11_piece : Cond.selects yX11_piece.cls yX11_piece yX11_piece ∈ cb_gw := cb_mem 966 (by decide +kernel) (by decide +kernel)
theorem my_X11_cell : cb_MY yX11_cell cX11_cell 3 (some .int) 2 := ⟨cb_mem 971 (by decide +kernel) (by decide +kernel), ini_X11, by decide, by decide, by decide +kernel⟩
theorem mi_X11_cell : Cond.instanceMethod yX11_cell ∈ cb_gw := cb_mem 969 (by decide +kernel) (by decide +kernel)
theorem mx_X11_cell : Cond.selects yX11_cell.cls yX11_cell yX11_cell ∈ cb_gw := cb_mem 970 (by decide +kernel) (by decide +kernel)
theorem my_X11_isCell : cb_MY yX11_isCell cX11_isCell 2 (some .boolean) 1 := ⟨cb_mem 975 (by decide +kernel) (by decide +kernel), ini_X11, by decide, by decide, by decide +kernel⟩
theorem mi_X11_isCell : Cond.instanceMethod yX11_isCell ∈ cb_gw := cb_mem 974 (by decide +kernel) (by decide +kernel)
theorem mx_X11_isCell : Cond.selects yX11_isCell.cls yX11_isCell yX11_isCell ∈ cb_gw := cb_mem 50 (by decide +kernel) (by decide +kernel)
theorem my_X11_islands : cb_MY yX11_islands cX11_islands 8 (some .int) 1 := ⟨cb_mem 979 (by decide +kernel) (by decide +kernel), ini_X11, by decide, by decide, by decide +kernel⟩
theorem mi_X11_islands : Cond.instanceMethod yX11_islands ∈ cb_gw := cb_mem 977 (by decide +kernel) (by decide +kernel)
theorem mx_X11_islands : Cond.selects yX11_islands.cls yX11_islands yX11_islands ∈ cb_gw := cb_mem 978 (by decide +kernel) (by decide +kernel)
theorem my_X11_findGroups : cb_MY yX11_findGroups cX11_findGroups 3 none 0 := ⟨cb_mem 983 (by decide +kernel) (by decide +kernel), ini_X11, by decide, by decide, by decide +kernel⟩
theorem mi_X11_findGroups : Cond.instanceMethod yX11_findGroups ∈ cb_gw := cb_mem 982 (by decide +kernel) (by decide +kernel)
theorem mx_X11_findGroups : Cond.selects yX11_findGroups.cls yX11_findGroups yX11_findGroups ∈ cb_gw := cb_mem 51 (by decide +kernel) (by decide +kernel)
theorem my_X11_prints : cb_MY yX11_prints cX11_prints 2 (some .boolean) 1 := ⟨cb_mem 987 (by decide +kernel) (by decide +kernel), ini_X11, by decide, by decide, by decide +kernel⟩
theorem mi_X11_prints : Cond.instanceMethod yX11_prints ∈ cb_gw := cb_mem 986 (by decide +kernel) (by decide +kernel)
theorem mx_X11_prints : Cond.selects yX11_prints.cls yX11_prints yX11_prints ∈ cb_gw := cb_mem 52 (by decide +kernel) (by decide +kernel)
theorem my_X11_join : cb_MY yX11_join cX11_join 3 (some .boolean) 2 := ⟨cb_mem 991 (by decide +kernel) (by decide +kernel), ini_X11, by decide, by decide, by decide +kernel⟩
theorem mi_X11_join : Cond.instanceMethod yX11_join ∈ cb_gw := cb_mem 990 (by decide +kernel) (by decide +kernel)
theorem mx_X11_join : Cond.selects yX11_join.cls yX11_join yX11_join ∈ cb_gw := cb_mem 53 (by decide +kernel) (by decide +kernel)
theorem my_X11_joined : cb_MY yX11_joined cX11_joined 3 (some .int) 2 := ⟨cb_mem 995 (by decide +kernel) (by decide +kernel), ini_X11, by decide, by decide, by decide +kernel⟩
theorem mi_X11_joined : Cond.instanceMethod yX11_joined ∈ cb_gw := cb_mem 993 (by decide +kernel) (by decide +kernel)
theorem mx_X11_joined : Cond.selects yX11_joined.cls yX11_joined yX11_joined ∈ cb_gw := cb_mem 994 (by decide +kernel) (by decide +kernel)
theorem my_X11_sheets : cb_MY yX11_sheets cX11_sheets 3 (some .int) 1 := ⟨cb_mem 999 (by decide +kernel) (by decide +kernel), ini_X11, by decide, by decide, by decide +kernel⟩
theorem mi_X11_sheets : Cond.instanceMethod yX11_sheets ∈ cb_gw := cb_mem 997 (by decide +kernel) (by decide +kernel)
theorem mx_X11_sheets : Cond.selects yX11_sheets.cls yX11_sheets yX11_sheets ∈ cb_gw := cb_mem 998 (by decide +kernel) (by decide +kernel)
theorem my_X11_pull : cb_MY yX11_pull cX11_pull 4 (some .int) 2 := ⟨cb_mem 1003 (by decide +kernel) (by decide +kernel), ini_X11, by decide, by decide, by decide +kernel⟩
theorem mi_X11_pull : Cond.instanceMethod yX11_pull ∈ cb_gw := cb_mem 1001 (by decide +kernel) (by decide +kernel)
theorem mx_X11_pull : Cond.selects yX11_pull.cls yX11_pull yX11_pull ∈ cb_gw := cb_mem 1002 (by decide +kernel) (by decide +kernel)
theorem my_X11_areSheets : cb_MY yX11_areSheets cX11_areSheets 2 (some .boolean) 1 := ⟨cb_mem 1007 (by decide +kernel) (by decide +kernel), ini_X11, by decide, by decide, by decide +kernel⟩
theorem mi_X11_areSheets : Cond.instanceMethod yX11_areSheets ∈ cb_gw := cb_mem 1006 (by decide +kernel) (by decide +kernel)
theorem mx_X11_areSheets : Cond.selects yX11_areSheets.cls yX11_areSheets yX11_areSheets ∈ cb_gw := cb_mem 54 (by decide +kernel) (by decide +kernel)
theorem my_X11_pulled : cb_MY yX11_pulled cX11_pulled 7 (some .int) 2 := ⟨cb_mem 1011 (by decide +kernel) (by decide +kernel), ini_X11, by decide, by decide, by decide +kernel⟩
theorem mi_X11_pulled : Cond.instanceMethod yX11_pulled ∈ cb_gw := cb_mem 1010 (by decide +kernel) (by decide +kernel)
theorem mx_X11_pulled : Cond.selects yX11_pulled.cls yX11_pulled yX11_pulled ∈ cb_gw := cb_mem 55 (by decide +kernel) (by decide +kernel)
theorem my_X11_throwsOff : cb_MY yX11_throwsOff cX11_throwsOff 1 (some .boolean) 0 := ⟨cb_mem 1015 (by decide +kernel) (by decide +kernel), ini_X11, by decide, by decide, by decide +kernel⟩
theorem mi_X11_throwsOff : Cond.instanceMethod yX11_throwsOff ∈ cb_gw := cb_mem 1014 (by decide +kernel) (by decide +kernel)
theorem mx_X11_throwsOff : Cond.selects yX11_throwsOff.cls yX11_throwsOff yX11_throwsOff ∈ cb_gw := cb_mem 56 (by decide +kernel) (by decide +kernel)
theorem my_X11_lay : cb_MY yX11_lay cX11_lay 8 (some .boolean) 1 := ⟨cb_mem 1020 (by decide +kernel) (by decide +kernel), ini_X11, by decide, by decide, by decide +kernel⟩
theorem mi_X11_lay : Cond.instanceMethod yX11_lay ∈ cb_gw := cb_mem 1019 (by decide +kernel) (by decide +kernel)
theorem mx_X11_lay : Cond.selects yX11_lay.cls yX11_lay yX11_lay ∈ cb_gw := cb_mem 57 (by decide +kernel) (by decide +kernel)
theorem my_X11_blend : cb_MY yX11_blend cX11_blend 6 (some .int) 2 := ⟨cb_mem 1024 (by decide +kernel) (by decide +kernel), ini_X11, by decide, by decide, by decide +kernel⟩
theorem mi_X11_blend : Cond.instanceMethod yX11_blend ∈ cb_gw := cb_mem 1022 (by decide +kernel) (by decide +kernel)
theorem mx_X11_blend : Cond.selects yX11_blend.cls yX11_blend yX11_blend ∈ cb_gw := cb_mem 1023 (by decide +kernel) (by decide +kernel)
theorem my_X11_colour : cb_MY yX11_colour cX11_colour 3 (some .int) 2 := ⟨cb_mem 1028 (by decide +kernel) (by decide +kernel), ini_X11, by decide, by decide, by decide +kernel⟩
theorem mi_X11_colour : Cond.instanceMethod yX11_colour ∈ cb_gw := cb_mem 1026 (by decide +kernel) (by decide +kernel)
theorem mx_X11_colour : Cond.selects yX11_colour.cls yX11_colour yX11_colour ∈ cb_gw := cb_mem 1027 (by decide +kernel) (by decide +kernel)
theorem my_X11_isSheet : cb_MY yX11_isSheet cX11_isSheet 2 (some .boolean) 1 := ⟨cb_mem 1032 (by decide +kernel) (by decide +kernel), ini_X11, by decide, by decide, by decide +kernel⟩
theorem mi_X11_isSheet : Cond.instanceMethod yX11_isSheet ∈ cb_gw := cb_mem 1031 (by decide +kernel) (by decide +kernel)
theorem mx_X11_isSheet : Cond.selects yX11_isSheet.cls yX11_isSheet yX11_isSheet ∈ cb_gw := cb_mem 58 (by decide +kernel) (by decide +kernel)
theorem my_X11_led : cb_MY yX11_led cX11_led 5 (some .int) 3 := ⟨cb_mem 1036 (by decide +kernel) (by decide +kernel), ini_X11, by decide, by decide, by decide +kernel⟩
theorem mi_X11_led : Cond.instanceMethod yX11_led ∈ cb_gw := cb_mem 1034 (by decide +kernel) (by decide +kernel)
theorem mx_X11_led : Cond.selects yX11_led.cls yX11_led yX11_led ∈ cb_gw := cb_mem 1035 (by decide +kernel) (by decide +kernel)
theorem my_X11_good : cb_MY yX11_good cX11_good 2 (some .int) 1 := ⟨cb_mem 1040 (by decide +kernel) (by decide +kernel), ini_X11, by decide, by decide, by decide +kernel⟩
theorem mi_X11_good : Cond.instanceMethod yX11_good ∈ cb_gw := cb_mem 1038 (by decide +kernel) (by decide +kernel)
theorem mx_X11_good : Cond.selects yX11_good.cls yX11_good yX11_good ∈ cb_gw := cb_mem 1039 (by decide +kernel) (by decide +kernel)
theorem my_X11_book : cb_MY yX11_book cX11_book 3 (some .int) 2 := ⟨cb_mem 1044 (by decide +kernel) (by decide +kernel), ini_X11, by decide, by decide, by decide +kernel⟩
theorem mi_X11_book : Cond.instanceMethod yX11_book ∈ cb_gw := cb_mem 1042 (by decide +kernel) (by decide +kernel)
theorem mx_X11_book : Cond.selects yX11_book.cls yX11_book yX11_book ∈ cb_gw := cb_mem 1043 (by decide +kernel) (by decide +kernel)
theorem my_X11_free : cb_MY yX11_free cX11_free 7 (some .int) 2 := ⟨cb_mem 1048 (by decide +kernel) (by decide +kernel), ini_X11, by decide, by decide, by decide +kernel⟩
theorem mi_X11_free : Cond.instanceMethod yX11_free ∈ cb_gw := cb_mem 1046 (by decide +kernel) (by decide +kernel)
theorem mx_X11_free : Cond.selects yX11_free.cls yX11_free yX11_free ∈ cb_gw := cb_mem 1047 (by decide +kernel) (by decide +kernel)
theorem my_X11_wanted : cb_MY yX11_wanted cX11_wanted 4 (some .int) 2 := ⟨cb_mem 1052 (by decide +kernel) (by decide +kernel), ini_X11, by decide, by decide, by decide +kernel⟩
theorem mi_X11_wanted : Cond.instanceMethod yX11_wanted ∈ cb_gw := cb_mem 1050 (by decide +kernel) (by decide +kernel)
theorem mx_X11_wanted : Cond.selects yX11_wanted.cls yX11_wanted yX11_wanted ∈ cb_gw := cb_mem 1051 (by decide +kernel) (by decide +kernel)
theorem my_X11_want : cb_MY yX11_want cX11_want 4 (some .int) 2 := ⟨cb_mem 1056 (by decide +kernel) (by decide +kernel), ini_X11, by decide, by decide, by decide +kernel⟩
theorem mi_X11_want : Cond.instanceMethod yX11_want ∈ cb_gw := cb_mem 1054 (by decide +kernel) (by decide +kernel)
theorem mx_X11_want : Cond.selects yX11_want.cls yX11_want yX11_want ∈ cb_gw := cb_mem 1055 (by decide +kernel) (by decide +kernel)
theorem my_X11_isWanted : cb_MY yX11_isWanted cX11_isWanted 2 (some .boolean) 1 := ⟨cb_mem 1060 (by decide +kernel) (by decide +kernel), ini_X11, by decide, by decide, by decide +kernel⟩
theorem mi_X11_isWanted : Cond.instanceMethod yX11_isWanted ∈ cb_gw := cb_mem 1059 (by decide +kernel) (by decide +kernel)
theorem mx_X11_isWanted : Cond.selects yX11_isWanted.cls yX11_isWanted yX11_isWanted ∈ cb_gw := cb_mem 59 (by decide +kernel) (by decide +kernel)
theorem my_X11_fewest : cb_MY yX11_fewest cX11_fewest 6 (some .int) 1 := ⟨cb_mem 1064 (by decide +kernel) (by decide +kernel), ini_X11, by decide, by decide, by decide +kernel⟩
theorem mi_X11_fewest : Cond.instanceMethod yX11_fewest ∈ cb_gw := cb_mem 1062 (by decide +kernel) (by decide +kernel)
theorem mx_X11_fewest : Cond.selects yX11_fewest.cls yX11_fewest yX11_fewest ∈ cb_gw := cb_mem 1063 (by decide +kernel) (by decide +kernel)
theorem my_X11_least : cb_MY yX11_least cX11_least 4 (some .int) 1 := ⟨cb_mem 1068 (by decide +kernel) (by decide +kernel), ini_X11, by decide, by decide, by decide +kernel⟩
theorem mi_X11_least : Cond.instanceMethod yX11_least ∈ cb_gw := cb_mem 1067 (by decide +kernel) (by decide +kernel)
theorem mx_X11_least : Cond.selects yX11_least.cls yX11_least yX11_least ∈ cb_gw := cb_mem 60 (by decide +kernel) (by decide +kernel)
theorem my_X11_wantedColours : cb_MY yX11_wantedColours cX11_wantedColours 3 (some .int) 0 := ⟨cb_mem 1072 (by decide +kernel) (by decide +kernel), ini_X11, by decide, by decide, by decide +kernel⟩
theorem mi_X11_wantedColours : Cond.instanceMethod yX11_wantedColours ∈ cb_gw := cb_mem 1071 (by decide +kernel) (by decide +kernel)
theorem mx_X11_wantedColours : Cond.selects yX11_wantedColours.cls yX11_wantedColours yX11_wantedColours ∈ cb_gw := cb_mem 61 (by decide +kernel) (by decide +kernel)
theorem my_X11_makes : cb_MY yX11_makes cX11_makes 8 (some .boolean) 5 := ⟨cb_mem 1076 (by decide +kernel) (by decide +kernel), ini_X11, by decide, by decide, by decide +kernel⟩
theorem mi_X11_makes : Cond.instanceMethod yX11_makes ∈ cb_gw := cb_mem 1075 (by decide +kernel) (by decide +kernel)
theorem mx_X11_makes : Cond.selects yX11_makes.cls yX11_makes yX11_makes ∈ cb_gw := cb_mem 62 (by decide +kernel) (by decide +kernel)
theorem my_X11_order : cb_MY yX11_order cX11_order 2 (some .int) 1 := ⟨cb_mem 1080 (by decide +kernel) (by decide +kernel), ini_X11, by decide, by decide, by decide +kernel⟩
theorem mi_X11_order : Cond.instanceMethod yX11_order ∈ cb_gw := cb_mem 1078 (by decide +kernel) (by decide +kernel)
theorem mx_X11_order : Cond.selects yX11_order.cls yX11_order yX11_order ∈ cb_gw := cb_mem 1079 (by decide +kernel) (by decide +kernel)
theorem my_X11_place : cb_MY yX11_place cX11_place 2 (some .int) 1 := ⟨cb_mem 1084 (by decide +kernel) (by decide +kernel), ini_X11, by decide, by decide, by decide +kernel⟩
theorem mi_X11_place : Cond.instanceMethod yX11_place ∈ cb_gw := cb_mem 1082 (by decide +kernel) (by decide +kernel)
theorem mx_X11_place : Cond.selects yX11_place.cls yX11_place yX11_place ∈ cb_gw := cb_mem 1083 (by decide +kernel) (by decide +kernel)
theorem my_X11_why : cb_MY yX11_why cX11_why 8 (some .int) 1 := ⟨cb_mem 1088 (by decide +kernel) (by decide +kernel), ini_X11, by decide, by decide, by decide +kernel⟩
theorem mi_X11_why : Cond.instanceMethod yX11_why ∈ cb_gw := cb_mem 1086 (by decide +kernel) (by decide +kernel)
theorem mx_X11_why : Cond.selects yX11_why.cls yX11_why yX11_why ∈ cb_gw := cb_mem 1087 (by decide +kernel) (by decide +kernel)
theorem my_X11_alike : cb_MY yX11_alike cX11_alike 5 (some .int) 3 := ⟨cb_mem 1092 (by decide +kernel) (by decide +kernel), ini_X11, by decide, by decide, by decide +kernel⟩
theorem mi_X11_alike : Cond.instanceMethod yX11_alike ∈ cb_gw := cb_mem 1090 (by decide +kernel) (by decide +kernel)
theorem mx_X11_alike : Cond.selects yX11_alike.cls yX11_alike yX11_alike ∈ cb_gw := cb_mem 1091 (by decide +kernel) (by decide +kernel)
theorem my_X11_takeRow : cb_MY yX11_takeRow cX11_takeRow 3 (some .boolean) 1 := ⟨cb_mem 1097 (by decide +kernel) (by decide +kernel), ini_X11, by decide, by decide, by decide +kernel⟩
theorem mi_X11_takeRow : Cond.instanceMethod yX11_takeRow ∈ cb_gw := cb_mem 1096 (by decide +kernel) (by decide +kernel)
theorem mx_X11_takeRow : Cond.selects yX11_takeRow.cls yX11_takeRow yX11_takeRow ∈ cb_gw := cb_mem 63 (by decide +kernel) (by decide +kernel)
theorem my_X11_coloursMade : cb_MY yX11_coloursMade cX11_coloursMade 3 (some .int) 0 := ⟨cb_mem 1102 (by decide +kernel) (by decide +kernel), ini_X11, by decide, by decide, by decide +kernel⟩
theorem mi_X11_coloursMade : Cond.instanceMethod yX11_coloursMade ∈ cb_gw := cb_mem 1101 (by decide +kernel) (by decide +kernel)
theorem mx_X11_coloursMade : Cond.selects yX11_coloursMade.cls yX11_coloursMade yX11_coloursMade ∈ cb_gw := cb_mem 64 (by decide +kernel) (by decide +kernel)
theorem my_X11_madeBy : cb_MY yX11_madeBy cX11_madeBy 4 (some .int) 1 := ⟨cb_mem 1106 (by decide +kernel) (by decide +kernel), ini_X11, by decide, by decide, by decide +kernel⟩
theorem mi_X11_madeBy : Cond.instanceMethod yX11_madeBy ∈ cb_gw := cb_mem 1105 (by decide +kernel) (by decide +kernel)
theorem mx_X11_madeBy : Cond.selects yX11_madeBy.cls yX11_madeBy yX11_madeBy ∈ cb_gw := cb_mem 65 (by decide +kernel) (by decide +kernel)
theorem my_X11_made : cb_MY yX11_made cX11_made 3 (some .int) 2 := ⟨cb_mem 1110 (by decide +kernel) (by decide +kernel), ini_X11, by decide, by decide, by decide +kernel⟩
theorem mi_X11_made : Cond.instanceMethod yX11_made ∈ cb_gw := cb_mem 1108 (by decide +kernel) (by decide +kernel)
theorem mx_X11_made : Cond.selects yX11_made.cls yX11_made yX11_made ∈ cb_gw := cb_mem 1109 (by decide +kernel) (by decide +kernel)
theorem my_X11_begin : cb_MY yX11_begin cX11_begin 7 (some .int) 3 := ⟨cb_mem 1114 (by decide +kernel) (by decide +kernel), ini_X11, by decide, by decide, by decide +kernel⟩
theorem mi_X11_begin : Cond.instanceMethod yX11_begin ∈ cb_gw := cb_mem 1112 (by decide +kernel) (by decide +kernel)
theorem mx_X11_begin : Cond.selects yX11_begin.cls yX11_begin yX11_begin ∈ cb_gw := cb_mem 1113 (by decide +kernel) (by decide +kernel)
theorem my_X11_goodOf : cb_MY yX11_goodOf cX11_goodOf 5 (some .int) 3 := ⟨cb_mem 1118 (by decide +kernel) (by decide +kernel), ini_X11, by decide, by decide, by decide +kernel⟩
theorem mt_X11_goodOf : Cond.static yX11_goodOf ∈ cb_gw := cb_mem 1117 (by decide +kernel) (by decide +kernel)
theorem my_X11_shows : cb_MY yX11_shows cX11_shows 5 (some .int) 1 := ⟨cb_mem 1123 (by decide +kernel) (by decide +kernel), ini_X11, by decide, by decide, by decide +kernel⟩
theorem mi_X11_shows : Cond.instanceMethod yX11_shows ∈ cb_gw := cb_mem 1121 (by decide +kernel) (by decide +kernel)
theorem mx_X11_shows : Cond.selects yX11_shows.cls yX11_shows yX11_shows ∈ cb_gw := cb_mem 1122 (by decide +kernel) (by decide +kernel)
theorem my_X11_count : cb_MY yX11_count cX11_count 5 (some .int) 1 := ⟨cb_mem 1127 (by decide +kernel) (by decide +kernel), ini_X11, by decide, by decide, by decide +kernel⟩
theorem mi_X11_count : Cond.instanceMethod yX11_count ∈ cb_gw := cb_mem 1125 (by decide +kernel) (by decide +kernel)
theorem mx_X11_count : Cond.selects yX11_count.cls yX11_count yX11_count ∈ cb_gw := cb_mem 1126 (by decide +kernel) (by decide +kernel)
end
section
def cb_Pu (y : MethodName) (cc : ByteArray) (maxL : Nat) (ret : Option FieldType) (fr lo : Nat) (As : List cb_V) (w : cb_W) (v : Int32) : Prop := cb_Con y cc maxL ret fr lo 0 0 (fun _ => true) As w (cb_pi (fun x w' => x = v ∧ w' = w))
section CBQ
variable {κ : cb_K} {cc : ByteArray} {nL : Nat} {own : String} {R : Room} {w : cb_W} {ca sl pc : Nat} {lv : List (Option cb_V)} {st stk : List cb_V} {y : MethodName} {code : ByteArray} {maxL : Nat} {ret : Option FieldType} {fr lo mc ms idx n : Nat} {keep : Nat → Bool} {As : List cb_V}
theorem cb_ifp_eq {P : Prop} [Decidable P] (O : cb_Ok κ cc nL own R) {off : Int} (tgt : Nat) (hd : decode cc pc = .ok (.ifCond .eq off, 3)) (ht : (pc : Int) + off = (tgt : Int)) (kt : ¬ P → cb_X κ w ca sl tgt lv st) (kf : P → cb_X κ w ca sl (pc + 3) lv st) : cb_X κ w ca sl pc lv (.inl (if P then 1 else 0) :: st) := by
  by_cases h : P
  · rw [if_pos h]
    exact cb_if_eq O tgt hd ht (fun c => absurd c (by decide)) (fun _ => kf h)
  · rw [if_neg h]
    exact cb_if_eq O tgt hd ht (fun _ => kt h) (fun c => absurd rfl c)
theorem cb_ifp_ne {P : Prop} [Decidable P] (O : cb_Ok κ cc nL own R) {off : Int} (tgt : Nat) (hd : decode cc pc = .ok (.ifCond .ne off, 3)) (ht : (pc : Int) + off = (tgt : Int)) (kt : P → cb_X κ w ca sl tgt lv st) (kf : ¬ P → cb_X κ w ca sl (pc + 3) lv st) : cb_X κ w ca sl pc lv (.inl (if P then 1 else 0) :: st) := by
  by_cases h : P
  · rw [if_pos h]
    exact cb_if_ne O tgt hd ht (fun _ => kt h) (fun c => absurd c (by decide))
  · rw [if_neg h]
    exact cb_if_ne O tgt hd ht (fun c => absurd rfl c) (fun _ => kf h)
theorem cb_cSp {v : Int32} (O : cb_Ok κ cc nL own R) (hc : cb_Pu y code maxL ret fr lo As w v) (hm : cb_MY y code maxL ret n) (hi : Cond.static y ∈ cb_gw) (hl : cb_ML own idx y) (hd : decode cc pc = .ok (.invokestatic idx, 3)) (hstk : stk = As.reverse ++ st) (hlen : As.length = n) (hR : fr + 1 ≤ R.frames ∧ 8 + (maxL + 11) + lo ≤ R.locals) (h8 : st.length ≤ 8) (hkp : cb_kp (fun _ => true) lv st = true) (hf : ca ≤ R.cells ∧ sl ≤ R.slots) (kk : cb_X κ w ca sl (pc + 3) lv (.inl v :: st)) : cb_X κ w ca sl pc lv stk :=
  cb_callS0 O hc hm hi hl hlen hR hf (fun _ _ => rfl) hkp h8 hd hstk (fun r w' h => by
    cases r with
    | none => exact absurd h (fun h => h)
    | some x =>
      obtain ⟨rfl, rfl⟩ := h
      exact kk)
theorem cb_cVp {v : Int32} {b ci : Nat} (O : cb_Ok κ cc nL own R) (hc : cb_Pu y code maxL ret fr lo (.inr (some b) :: As) w v) (hm : cb_MY y code maxL ret n) (hi : Cond.instanceMethod y ∈ cb_gw) (hsel : Cond.selects y.cls y y ∈ cb_gw) (hl : cb_ML own idx y) (hd : decode cc pc = .ok (.invokevirtual idx, 3)) (hstk : stk = As.reverse ++ (.inr (some b) :: st)) (hct : cb_CT ci) (hlen : As.length = n) (hs : cb_sh b = (0, ci)) (hcl : cb_C ci = y.cls) (hR : fr + 1 ≤ R.frames ∧ 8 + (maxL + 11) + lo ≤ R.locals) (h8 : st.length ≤ 8) (hkp : cb_kp (fun _ => true) lv st = true) (hf : ca ≤ R.cells ∧ sl ≤ R.slots) (hr : w.1 b = true) (kk : cb_X κ w ca sl (pc + 3) lv (.inl v :: st)) : cb_X κ w ca sl pc lv stk :=
  cb_callV0 O hc hm hi hsel hl hlen hs ⟨hct, hcl⟩ hR hf (fun _ _ => rfl) hkp h8 hd hstk hr (fun r w' h => by
    cases r with
    | none => exact absurd h (fun h => h)
    | some x =>
      obtain ⟨rfl, rfl⟩ := h
      exact kk)
theorem cb_cSi {P : Int32 → cb_W → Prop} (O : cb_Ok κ cc nL own R) (hc : cb_Con y code maxL ret fr lo mc ms keep As w (cb_pi P)) (hm : cb_MY y code maxL ret n) (hi : Cond.static y ∈ cb_gw) (hl : cb_ML own idx y) (hd : decode cc pc = .ok (.invokestatic idx, 3)) (hstk : stk = As.reverse ++ st) (hlen : As.length = n) (hR : fr + 1 ≤ R.frames ∧ 8 + (maxL + 11) + lo ≤ R.locals) (h8 : st.length ≤ 8) (hkp : cb_kp keep lv st = true) (hf : ca + mc ≤ R.cells ∧ sl + ms ≤ R.slots) (hkk : ∀ q, κ.2.2.2.2.1 q = true → keep q = true) (kk : ∀ x w', P x w' → cb_X κ w' (ca + mc) (sl + ms) (pc + 3) lv (.inl x :: st)) : cb_X κ w ca sl pc lv stk :=
  cb_callS0 O hc hm hi hl hlen hR hf hkk hkp h8 hd hstk (fun r w' h => by
    cases r with
    | none => exact absurd h (fun h => h)
    | some x => exact kk x w' h)
theorem cb_cSv {P : cb_W → Prop} (O : cb_Ok κ cc nL own R) (hc : cb_Con y code maxL ret fr lo mc ms keep As w (cb_pv P)) (hm : cb_MY y code maxL ret n) (hi : Cond.static y ∈ cb_gw) (hl : cb_ML own idx y) (hd : decode cc pc = .ok (.invokestatic idx, 3)) (hstk : stk = As.reverse ++ st) (hlen : As.length = n) (hR : fr + 1 ≤ R.frames ∧ 8 + (maxL + 11) + lo ≤ R.locals) (h8 : st.length ≤ 8) (hkp : cb_kp keep lv st = true) (hf : ca + mc ≤ R.cells ∧ sl + ms ≤ R.slots) (hkk : ∀ q, κ.2.2.2.2.1 q = true → keep q = true) (kk : ∀ w', P w' → cb_X κ w' (ca + mc) (sl + ms) (pc + 3) lv st) : cb_X κ w ca sl pc lv stk :=
  cb_callS0 O hc hm hi hl hlen hR hf hkk hkp h8 hd hstk (fun r w' h => by
    cases r with
    | some x => exact absurd h (fun h => h)
    | none => exact kk w' h)
theorem cb_cVi {P : Int32 → cb_W → Prop} {b ci : Nat} (O : cb_Ok κ cc nL own R) (hc : cb_Con y code maxL ret fr lo mc ms keep (.inr (some b) :: As) w (cb_pi P)) (hm : cb_MY y code maxL ret n) (hi : Cond.instanceMethod y ∈ cb_gw) (hsel : Cond.selects y.cls y y ∈ cb_gw) (hl : cb_ML own idx y) (hd : decode cc pc = .ok (.invokevirtual idx, 3)) (hstk : stk = As.reverse ++ (.inr (some b) :: st)) (hct : cb_CT ci) (hlen : As.length = n) (hs : cb_sh b = (0, ci)) (hcl : cb_C ci = y.cls) (hR : fr + 1 ≤ R.frames ∧ 8 + (maxL + 11) + lo ≤ R.locals) (h8 : st.length ≤ 8) (hkp : cb_kp keep lv st = true) (hf : ca + mc ≤ R.cells ∧ sl + ms ≤ R.slots) (hkk : ∀ q, κ.2.2.2.2.1 q = true → keep q = true) (hr : w.1 b = true) (kk : ∀ x w', P x w' → cb_X κ w' (ca + mc) (sl + ms) (pc + 3) lv (.inl x :: st)) : cb_X κ w ca sl pc lv stk :=
  cb_callV0 O hc hm hi hsel hl hlen hs ⟨hct, hcl⟩ hR hf hkk hkp h8 hd hstk hr (fun r w' h => by
    cases r with
    | none => exact absurd h (fun h => h)
    | some x => exact kk x w' h)
theorem cb_cVv {P : cb_W → Prop} {b ci : Nat} (O : cb_Ok κ cc nL own R) (hc : cb_Con y code maxL ret fr lo mc ms keep (.inr (some b) :: As) w (cb_pv P)) (hm : cb_MY y code maxL ret n) (hi : Cond.instanceMethod y ∈ cb_gw) (hsel : Cond.selects y.cls y y ∈ cb_gw) (hl : cb_ML own idx y) (hd : decode cc pc = .ok (.invokevirtual idx, 3)) (hstk : stk = As.reverse ++ (.inr (some b) :: st)) (hct : cb_CT ci) (hlen : As.length = n) (hs : cb_sh b = (0, ci)) (hcl : cb_C ci = y.cls) (hR : fr + 1 ≤ R.frames ∧ 8 + (maxL + 11) + lo ≤ R.locals) (h8 : st.length ≤ 8) (hkp : cb_kp keep lv st = true) (hf : ca + mc ≤ R.cells ∧ sl + ms ≤ R.slots) (hkk : ∀ q, κ.2.2.2.2.1 q = true → keep q = true) (hr : w.1 b = true) (kk : ∀ w', P w' → cb_X κ w' (ca + mc) (sl + ms) (pc + 3) lv st) : cb_X κ w ca sl pc lv stk :=
  cb_callV0 O hc hm hi hsel hl hlen hs ⟨hct, hcl⟩ hR hf hkk hkp h8 hd hstk hr (fun r w' h => by
    cases r with
    | some x => exact absurd h (fun h => h)
    | none => exact kk w' h)
theorem cb_cIv {P : cb_W → Prop} {b : Nat} (O : cb_Ok κ cc nL own R) (hc : cb_Con y code maxL none fr lo mc ms keep (.inr (some b) :: As) w (cb_pv P)) (hm : cb_MY y code maxL none n) (hi : Cond.instanceMethod y ∈ cb_gw) (hy : y.name = "<init>") (hl : cb_ML own idx y) (hd : decode cc pc = .ok (.invokespecial idx, 3)) (hstk : stk = As.reverse ++ (.inr (some b) :: st)) (hlen : As.length = n) (hR : fr + 1 ≤ R.frames ∧ 8 + (maxL + 11) + lo ≤ R.locals) (h8 : st.length ≤ 8) (hkp : cb_kp keep lv st = true) (hf : ca + mc ≤ R.cells ∧ sl + ms ≤ R.slots) (hkk : ∀ q, κ.2.2.2.2.1 q = true → keep q = true) (kk : ∀ w', P w' → cb_X κ w' (ca + mc) (sl + ms) (pc + 3) lv st) : cb_X κ w ca sl pc lv stk :=
  cb_callI0 O hc hm hi hy hl hlen hR hf hkk hkp h8 hd hstk (fun r w' h => by
    cases r with
    | some x => exact absurd h (fun h => h)
    | none => exact kk w' h)
end CBQ
end
section
/-! plain facts on numbers and arrays, to paste: each family by itself; over the kit's rows on nI and upd -/
/-! ===== order of ints, in all its forms, and through longs ===== -/
theorem fa_lt (a b : Int32) : a < b ↔ a.toInt < b.toInt := Int32.lt_iff_toInt_lt
theorem fa_le (a b : Int32) : a ≤ b ↔ a.toInt ≤ b.toInt := Int32.le_iff_toInt_le
theorem fa_eq (a b : Int32) : a = b ↔ a.toInt = b.toInt := Int32.toInt_inj.symm
theorem fa_lt64 (a b : Int64) : a < b ↔ a.toInt < b.toInt := Int64.lt_iff_toInt_lt
theorem fa_le64 (a b : Int64) : a ≤ b ↔ a.toInt ≤ b.toInt := Int64.le_iff_toInt_le
theorem fa_eq64 (a b : Int64) : a = b ↔ a.toInt = b.toInt := Int64.toInt_inj.symm
/-- a comparison of two ints taken as longs -/
theorem fa_wide_lt (a b : Int32) : a.toInt64 < b.toInt64 ↔ a < b := by rw [fa_lt64, fa_lt, Int32.toInt_toInt64, Int32.toInt_toInt64]
theorem fa_wide_le (a b : Int32) : a.toInt64 ≤ b.toInt64 ↔ a ≤ b := by rw [fa_le64, fa_le, Int32.toInt_toInt64, Int32.toInt_toInt64]
theorem fa_wide_eq (a b : Int32) : a.toInt64 = b.toInt64 ↔ a = b := by rw [fa_eq64, fa_eq, Int32.toInt_toInt64, Int32.toInt_toInt64]
/-- one strict comparison gives all the others -/
theorem fa_of_lt {a b : Int32} (h : a < b) : a ≤ b ∧ ¬ b ≤ a ∧ ¬ b < a ∧ a ≠ b ∧ b ≠ a := by
  rw [fa_lt] at h
  refine ⟨?_, ?_, ?_, ?_, ?_⟩
  · rw [fa_le]; omega
  · rw [fa_le]; omega
  · rw [fa_lt]; omega
  · intro e; rw [fa_eq] at e; omega
  · intro e; rw [fa_eq] at e; omega
theorem fa_of_nlt {a b : Int32} (h : ¬ a < b) : b ≤ a := by
  rw [fa_lt] at h
  rw [fa_le]
  omega
theorem fa_of_nle {a b : Int32} (h : ¬ a ≤ b) : b < a := by
  rw [fa_le] at h
  rw [fa_lt]
  omega
theorem fa_le_ne {a b : Int32} (h : a ≤ b) (h2 : a ≠ b) : a < b := by
  rw [fa_le] at h
  rw [fa_lt]
  have h3 : a.toInt ≠ b.toInt := fun e => h2 ((fa_eq a b).mpr e)
  omega
theorem fa_three (a b : Int32) : a < b ∨ a = b ∨ b < a := by
  rw [fa_lt, fa_lt, fa_eq]
  omega
theorem fa_trans {a b c : Int32} (h : a < b) (h2 : b ≤ c) : a < c := by
  rw [fa_lt] at *
  rw [fa_le] at h2
  omega
/-! ===== small literals as numbers ===== -/
theorem fa_lit (n : Nat) : (OfNat.ofNat n : Int32) = nI n := rfl
theorem fa_litL (n : Nat) : (OfNat.ofNat n : Int64) = lN n := rfl
/-! ===== bits of a number: 'or', masks, one bit ===== -/
theorem fa_and (a b : Nat) : nI a &&& nI b = nI (a &&& b) := by
  apply Int32.toBitVec_inj.1
  show BitVec.ofNat 32 a &&& BitVec.ofNat 32 b = BitVec.ofNat 32 (a &&& b)
  apply BitVec.eq_of_getLsbD_eq
  intro i hi
  simp [hi]
theorem fa_or (a b : Nat) : nI a ||| nI b = nI (a ||| b) := by
  apply Int32.toBitVec_inj.1
  show BitVec.ofNat 32 a ||| BitVec.ofNat 32 b = BitVec.ofNat 32 (a ||| b)
  apply BitVec.eq_of_getLsbD_eq
  intro i hi
  simp [hi]
/-- a remainder by a power of two, as a mask -/
theorem fa_mask (n k : Nat) : nI n &&& nI (2 ^ k - 1) = nI (n % 2 ^ k) := by rw [fa_and, Nat.and_two_pow_sub_one_eq_mod]
/-- 'or' of a high part and a low one that don't meet is their sum -/
theorem fa_or_sum {a k : Nat} (b : Nat) (h : a < 2 ^ k) : nI (2 ^ k * b) ||| nI a = nI (2 ^ k * b + a) := by rw [fa_or, Nat.two_pow_add_eq_or_of_lt h]
/-- one bit, by 'and' with a power of two -/
theorem fa_bit {n j : Nat} (hj : j < 31) : nI n &&& nI (2 ^ j) = 0 ↔ n.testBit j = false := by
  have h2 : (2 : Nat) ^ j < 2 ^ 31 := Nat.pow_lt_pow_right (by decide) hj
  have hle : n &&& 2 ^ j ≤ 2 ^ j := Nat.and_le_right
  have e : n &&& 2 ^ j = 0 ↔ n.testBit j = false := by
    constructor
    · intro h
      have h1 : (n &&& 2 ^ j).testBit j = false := by rw [h]; simp
      rw [Nat.testBit_and] at h1
      first | simpa using h1 | simpa [Nat.testBit_two_pow_self] using h1 | simpa [Nat.testBit_two_pow] using h1
    · intro h
      apply Nat.eq_of_testBit_eq
      intro i
      rw [Nat.testBit_and]
      by_cases hi : j = i
      · subst hi; simp [h]
      · first | (simp [Nat.testBit_two_pow, hi]; done) | (simp [Nat.testBit_two_pow_of_ne hi]; done)
  rw [fa_and]
  constructor
  · intro h
    apply e.mp
    rcases Nat.eq_zero_or_pos (n &&& 2 ^ j) with z | z
    · exact z
    · exact absurd h (nI_ne0 z (Nat.lt_of_le_of_lt hle h2))
  · intro h
    rw [e.mpr h]; exact nI_0
/-- a remainder by a power of two of a number that isn't negative, as Java divides -/
theorem fa_rem {a k : Nat} (ha : a < 2 ^ 31) (hk : k < 31) : nI a - nI a / nI (2 ^ k) * nI (2 ^ k) = nI (a % 2 ^ k) := pk_rem ha (Nat.two_pow_pos k) (Nat.pow_lt_pow_right (by decide) hk)
/-! ===== cuts to a byte, a short ===== -/
theorem fa_byte_xor (x y : Int32) : (x ^^^ y).toInt8 = x.toInt8 ^^^ y.toInt8 := by
  apply Int8.toBitVec_inj.1
  apply BitVec.eq_of_getLsbD_eq
  intro i hi
  first | (simp [hi]; done) | (simp [hi, BitVec.getLsbD_setWidth, BitVec.getLsbD_signExtend]; done)
theorem fa_short_xor (x y : Int32) : (x ^^^ y).toInt16 = x.toInt16 ^^^ y.toInt16 := by
  apply Int16.toBitVec_inj.1
  apply BitVec.eq_of_getLsbD_eq
  intro i hi
  first | (simp [hi]; done) | (simp [hi, BitVec.getLsbD_setWidth, BitVec.getLsbD_signExtend]; done)
/-- the cut to a byte sees the low byte alone -/
theorem fa_byte_low (x : Int32) : (x &&& 255).toInt8 = x.toInt8 := by
  apply Int8.toBitVec_inj.1
  apply BitVec.eq_of_getLsbD_eq
  intro i hi
  have h2 : (255 : Int32).toBitVec.getLsbD i = true := by
    have : ∀ j : Fin 8, (255 : Int32).toBitVec.getLsbD j.val = true := by decide +kernel
    exact this ⟨i, hi⟩
  have h4 : (x &&& 255).toBitVec.getLsbD i = x.toBitVec.getLsbD i := by
    show (x.toBitVec &&& (255 : Int32).toBitVec).getLsbD i = _
    rw [BitVec.getLsbD_and, h2, Bool.and_true]
  have h3 : i < 32 := by omega
  first
    | (show (((x &&& 255).toBitVec).signExtend 8).getLsbD i = (x.toBitVec.signExtend 8).getLsbD i; rw [BitVec.getLsbD_signExtend, BitVec.getLsbD_signExtend, if_pos h3, if_pos h3, h4])
    | (show (((x &&& 255).toBitVec).setWidth 8).getLsbD i = (x.toBitVec.setWidth 8).getLsbD i; rw [BitVec.getLsbD_setWidth, BitVec.getLsbD_setWidth, h4])
    | (simp [hi, h3, h4]; done)
theorem fa_short_low (x : Int32) : (x &&& 65535).toInt16 = x.toInt16 := by
  apply Int16.toBitVec_inj.1
  apply BitVec.eq_of_getLsbD_eq
  intro i hi
  have h2 : (65535 : Int32).toBitVec.getLsbD i = true := by
    have : ∀ j : Fin 16, (65535 : Int32).toBitVec.getLsbD j.val = true := by decide +kernel
    exact this ⟨i, hi⟩
  have h4 : (x &&& 65535).toBitVec.getLsbD i = x.toBitVec.getLsbD i := by
    show (x.toBitVec &&& (65535 : Int32).toBitVec).getLsbD i = _
    rw [BitVec.getLsbD_and, h2, Bool.and_true]
  have h3 : i < 32 := by omega
  first
    | (show (((x &&& 65535).toBitVec).signExtend 16).getLsbD i = (x.toBitVec.signExtend 16).getLsbD i; rw [BitVec.getLsbD_signExtend, BitVec.getLsbD_signExtend, if_pos h3, if_pos h3, h4])
    | (show (((x &&& 65535).toBitVec).setWidth 16).getLsbD i = (x.toBitVec.setWidth 16).getLsbD i; rw [BitVec.getLsbD_setWidth, BitVec.getLsbD_setWidth, h4])
    | (simp [hi, h3, h4]; done)
/-- a small number is its own byte, its own short -/
theorem fa_byte_small {n : Nat} (h : n < 128) : (nI n).toInt8.toInt32 = nI n := by
  have : ∀ j : Fin 128, (nI j.val).toInt8.toInt32 = nI j.val := by decide +kernel
  exact this ⟨n, h⟩
/-! ===== absolute difference ===== -/
theorem fa_absdiff {a b : Nat} (ha : a < 2 ^ 31) (hb : b < 2 ^ 31) : (if nI a < nI b then nI b - nI a else nI a - nI b) = nI (if a < b then b - a else a - b) := by
  by_cases h : a < b
  · rw [if_pos (nI_lt h hb), if_pos h]
    exact pk_sub (Nat.le_of_lt h)
  · rw [if_neg (nI_nlt (Nat.le_of_not_lt h) ha), if_neg h]
    exact pk_sub (Nat.le_of_not_lt h)
/-! ===== an array behind i stores, a conditional store, a row copied ===== -/
/-- f where k < i, what stood there else -/
def fa_fill {α : Type} (f g : Nat → α) (i : Nat) : Nat → α := fun k => if k < i then f k else g k
theorem fa_fill_0 {α : Type} (f g : Nat → α) : fa_fill f g 0 = g := funext fun k => if_neg (Nat.not_lt_zero k)
theorem fa_fill_in {α : Type} {f g : Nat → α} {i k : Nat} (h : k < i) : fa_fill f g i k = f k := if_pos h
theorem fa_fill_out {α : Type} {f g : Nat → α} {i k : Nat} (h : i ≤ k) : fa_fill f g i k = g k := if_neg (Nat.not_lt.mpr h)
theorem fa_fill_succ (f g : Nat → Int32) (i : Nat) : upd (fa_fill f g i) i (f i) = fa_fill f g (i + 1) := by
  funext k
  by_cases e : k = i
  · subst e
    rw [pk_us]
    exact (if_pos (Nat.lt_succ_self k)).symm
  · rw [pk_un e]
    by_cases h : k < i
    · rw [fa_fill_in h, fa_fill_in (Nat.lt_succ_of_lt h)]
    · rw [fa_fill_out (Nat.le_of_not_lt h), fa_fill_out (by omega)]
/-- a store that changes nothing -/
theorem fa_upd_same {f : Nat → Int32} {i : Nat} {x : Int32} (h : f i = x) : upd f i x = f := by
  funext k
  by_cases e : k = i
  · subst e
    rw [pk_us, h]
  · rw [pk_un e]
/-- a store under a condition, told as one -/
theorem fa_upd_if (c : Prop) [Decidable c] (f : Nat → Int32) (i : Nat) (x : Int32) : (if c then upd f i x else f) = upd f i (if c then x else f i) := by
  by_cases h : c
  · rw [if_pos h, if_pos h]
  · rw [if_neg h, if_neg h, fa_upd_same rfl]
/-- two stores at one place, at two -/
theorem fa_upd_twice (f : Nat → Int32) (i : Nat) (x y : Int32) : upd (upd f i x) i y = upd f i y := by
  funext k
  by_cases e : k = i
  · subst e
    rw [pk_us, pk_us]
  · rw [pk_un e, pk_un e, pk_un e]
theorem fa_upd_swap (f : Nat → Int32) {i j : Nat} (h : i ≠ j) (x y : Int32) : upd (upd f i x) j y = upd (upd f j y) i x := by
  funext k
  by_cases e : k = i
  · subst e
    rw [pk_un h, pk_us, pk_us]
  · by_cases e2 : k = j
    · subst e2
      rw [pk_us, pk_un e, pk_us]
    · rw [pk_un e2, pk_un e, pk_un e, pk_un e2]
/-! ===== the first index with a property; a count ===== -/
/-- the first k < n with p k, n if there is none -/
def fa_first (p : Nat → Bool) : Nat → Nat
  | 0 => 0
  | n + 1 => if fa_first p n < n then fa_first p n else if p n then n else n + 1
theorem fa_first_le (p : Nat → Bool) : ∀ n, fa_first p n ≤ n
  | 0 => Nat.le_refl 0
  | n + 1 => by
    have ih := fa_first_le p n
    unfold fa_first
    split
    · omega
    · split
      · omega
      · omega
theorem fa_first_no (p : Nat → Bool) : ∀ n k, k < fa_first p n → p k = false
  | 0, k, h => absurd h (Nat.not_lt_zero k)
  | n + 1, k, h => by
    have ih := fa_first_no p n
    have hl := fa_first_le p n
    unfold fa_first at h
    split at h
    · exact ih k h
    · rename_i h1
      split at h
      · exact ih k (by omega)
      · rename_i h2
        by_cases e : k = n
        · subst e
          exact Bool.eq_false_iff.mpr h2
        · exact ih k (by omega)
theorem fa_first_yes (p : Nat → Bool) : ∀ n, fa_first p n < n → p (fa_first p n) = true
  | 0, h => absurd h (Nat.not_lt_zero _)
  | n + 1, h => by
    have ih := fa_first_yes p n
    have hl := fa_first_le p n
    unfold fa_first at h ⊢
    split at h
    · rename_i h1
      rw [if_pos h1]
      exact ih h1
    · rename_i h1
      rw [if_neg h1]
      split at h
      · rename_i h2
        rw [if_pos h2]
        exact h2
      · omega
/-- how many k < n have p k -/
def fa_cnt (p : Nat → Bool) : Nat → Nat
  | 0 => 0
  | n + 1 => fa_cnt p n + if p n then 1 else 0
theorem fa_cnt_le (p : Nat → Bool) : ∀ n, fa_cnt p n ≤ n
  | 0 => Nat.le_refl 0
  | n + 1 => by
    have ih := fa_cnt_le p n
    unfold fa_cnt
    split
    · omega
    · omega
theorem fa_cnt_yes {p : Nat → Bool} {n : Nat} (h : p n = true) : fa_cnt p (n + 1) = fa_cnt p n + 1 := by rw [fa_cnt, if_pos h]
theorem fa_cnt_no {p : Nat → Bool} {n : Nat} (h : p n = false) : fa_cnt p (n + 1) = fa_cnt p n := by rw [fa_cnt, if_neg (by rw [h]; decide)]; rfl
theorem fa_cnt_cong {p q : Nat → Bool} : ∀ {n : Nat}, (∀ k, k < n → p k = q k) → fa_cnt p n = fa_cnt q n
  | 0, _ => rfl
  | n + 1, h => by rw [fa_cnt, fa_cnt, fa_cnt_cong (fun k hk => h k (Nat.lt_succ_of_lt hk)), h n (Nat.lt_succ_self n)]
/-! ===== an answer carried into a post; a branch on a boolean answer ===== -/
theorem fa_post {α : Type} {P : α → Prop} {x y : α} (h : x = y) (hp : P y) : P x := h ▸ hp
theorem fa_post2 {α β : Type} {P : α → β → Prop} {x y : α} {u v : β} (h : x = y) (h2 : u = v) (hp : P y v) : P x u := h ▸ h2 ▸ hp
theorem fa_bool {r : Int32} {b : Bool} (h : r = if b then 1 else 0) : (r = 0 ↔ b = false) ∧ (¬ r = 0 ↔ b = true) := by
  subst h
  cases b
  · exact ⟨⟨fun _ => rfl, fun _ => rfl⟩, ⟨fun h => absurd rfl h, fun h => absurd h (by decide)⟩⟩
  · exact ⟨⟨fun h => absurd h (by decide), fun h => absurd h (by decide)⟩, ⟨fun _ => rfl, fun _ => by decide⟩⟩
/-- a boolean's narrowing changes nothing -/
theorem fa_bool_and {r : Int32} (h : r = 0 ∨ r = 1) : r &&& 1 = r := by
  rcases h with rfl | rfl
  · decide
  · decide
theorem fa_bool_prop {c : Prop} [Decidable c] {r : Int32} (h : r = if c then 1 else 0) : (r = 0 ↔ ¬ c) ∧ (¬ r = 0 ↔ c) := by
  subst h
  by_cases hc : c
  · rw [if_pos hc]
    exact ⟨⟨fun h => absurd h (by decide), fun h => absurd hc h⟩, ⟨fun _ => hc, fun _ => by decide⟩⟩
  · rw [if_neg hc]
    exact ⟨⟨fun _ => hc, fun _ => rfl⟩, ⟨fun h => absurd rfl h, fun h => absurd h hc⟩⟩
/-! plain facts to paste, each family by itself; over the kit's nI, lN and upd -/
/-! ===== drawers: more things than places ===== -/
theorem fb_holes : ∀ (m n : Nat) (f : Nat → Nat), (∀ i, i < n → f i < m) → (∀ i j, i < j → j < n → f i ≠ f j) → n ≤ m := by
  intro m
  induction m with
  | zero =>
    intro n f h1 _
    rcases Nat.eq_zero_or_pos n with h | h
    · omega
    · exact absurd (h1 0 h) (Nat.not_lt_zero _)
  | succ m ih =>
    intro n f h1 h2
    by_cases hx : ∃ i, i < n ∧ f i = m
    · obtain ⟨a, ha, hfa⟩ := hx
      have hg := ih (n - 1) (fun i => if i < a then f i else f (i + 1)) (by
        intro i hi
        by_cases q : i < a
        · simp only [if_pos q]
          have b1 := h1 i (by omega)
          have b2 := h2 i a q ha
          omega
        · simp only [if_neg q]
          have b1 := h1 (i + 1) (by omega)
          have b2 := h2 a (i + 1) (by omega) (by omega)
          omega) (by
        intro i j hij hj
        by_cases q : i < a
        · by_cases r : j < a
          · simp only [if_pos q, if_pos r]
            exact h2 i j hij (by omega)
          · simp only [if_pos q, if_neg r]
            exact h2 i (j + 1) (by omega) (by omega)
        · have r : ¬ j < a := by omega
          simp only [if_neg q, if_neg r]
          exact h2 (i + 1) (j + 1) (by omega) (by omega))
      omega
    · have hg := ih n f (fun i hi => by
        have b1 := h1 i hi
        have b2 : f i ≠ m := fun e => hx ⟨i, hi, e⟩
        omega) h2
      omega
/-- two of them in one place -/
theorem fb_twice {m n : Nat} {f : Nat → Nat} (h : ∀ i, i < n → f i < m) (hm : m < n) : ∃ i j, i < j ∧ j < n ∧ f i = f j := by
  refine Classical.byContradiction fun hx => ?_
  have := fb_holes m n f h (fun i j hij hj e => hx ⟨i, j, hij, hj, e⟩)
  omega
/-- as many as places, none twice: each place is taken -/
theorem fb_onto {n : Nat} {f : Nat → Nat} (h : ∀ i, i < n → f i < n) (h2 : ∀ i j, i < j → j < n → f i ≠ f j) {y : Nat} (hy : y < n) : ∃ i, i < n ∧ f i = y := by
  refine Classical.byContradiction fun hx => ?_
  have hne : ∀ i, i < n → f i ≠ y := fun i hi e => hx ⟨i, hi, e⟩
  have := fb_holes (n - 1) n (fun i => if f i < y then f i else f i - 1) (by
    intro i hi
    have b1 := h i hi
    have b2 := hne i hi
    by_cases q : f i < y
    · simp only [if_pos q]; omega
    · simp only [if_neg q]; omega) (by
    intro i j hij hj
    have b1 := hne i (by omega)
    have b2 := hne j hj
    have b3 := h2 i j hij hj
    by_cases q : f i < y
    · by_cases r : f j < y
      · simp only [if_pos q, if_pos r]; exact b3
      · simp only [if_pos q, if_neg r]; omega
    · by_cases r : f j < y
      · simp only [if_neg q, if_pos r]; omega
      · simp only [if_neg q, if_neg r]; omega)
  omega
/-! ===== how many places have a property ===== -/
def fb_ct (p : Nat → Bool) : Nat → Nat
  | 0 => 0
  | n + 1 => fb_ct p n + (if p n then 1 else 0)
theorem fb_ct_succ (p : Nat → Bool) (n : Nat) : fb_ct p (n + 1) = fb_ct p n + (if p n then 1 else 0) := rfl
theorem fb_ct_le (p : Nat → Bool) : ∀ n, fb_ct p n ≤ n
  | 0 => Nat.le_refl _
  | n + 1 => by
    have h := fb_ct_le p n
    rw [fb_ct_succ]
    split <;> omega
theorem fb_ct_step (p : Nat → Bool) (m : Nat) : ∀ n, fb_ct p m ≤ fb_ct p (m + n)
  | 0 => Nat.le_refl _
  | n + 1 => by
    have h := fb_ct_step p m n
    show fb_ct p m ≤ fb_ct p (m + n + 1)
    rw [fb_ct_succ]
    omega
theorem fb_ct_mono (p : Nat → Bool) {m n : Nat} (h : m ≤ n) : fb_ct p m ≤ fb_ct p n := by
  have := fb_ct_step p m (n - m)
  rwa [Nat.add_sub_cancel' h] at this
theorem fb_ct_cong {p q : Nat → Bool} : ∀ {n : Nat}, (∀ k, k < n → p k = q k) → fb_ct p n = fb_ct q n
  | 0, _ => rfl
  | n + 1, h => by
    rw [fb_ct_succ, fb_ct_succ, fb_ct_cong (fun k hk => h k (by omega)), h n (by omega)]
/-- one place changed -/
theorem fb_ct_out (p : Nat → Bool) (b : Bool) {i n : Nat} (h : n ≤ i) : fb_ct (fun k => if k = i then b else p k) n = fb_ct p n :=
  fb_ct_cong fun k hk => if_neg (by omega)
theorem fb_ct_upd (p : Nat → Bool) (b : Bool) {i : Nat} : ∀ {n : Nat}, i < n → fb_ct (fun k => if k = i then b else p k) n + (if p i then 1 else 0) = fb_ct p n + (if b then 1 else 0)
  | 0, h => absurd h (Nat.not_lt_zero i)
  | n + 1, h => by
    rw [fb_ct_succ, fb_ct_succ]
    rcases Nat.lt_or_ge i n with q | q
    · have := fb_ct_upd p b q
      have e : (if n = i then b else p n) = p n := if_neg (by omega)
      rw [e]
      omega
    · have e : i = n := by omega
      subst e
      rw [fb_ct_out p b (Nat.le_refl _)]
      simp only [if_true]
      omega
theorem fb_ct_sub {p q : Nat → Bool} : ∀ {n : Nat}, (∀ k, k < n → p k = true → q k = true) → fb_ct p n ≤ fb_ct q n
  | 0, _ => Nat.le_refl _
  | n + 1, h => by
    have h1 := fb_ct_sub (n := n) (p := p) (q := q) (fun k hk => h k (by omega))
    have h2 := h n (by omega)
    rw [fb_ct_succ, fb_ct_succ]
    cases hp : p n <;> cases hq : q n <;> simp_all <;> omega
theorem fb_ct_or {p q : Nat → Bool} : ∀ {n : Nat}, (∀ k, k < n → ¬ (p k = true ∧ q k = true)) → fb_ct (fun k => p k || q k) n = fb_ct p n + fb_ct q n
  | 0, _ => rfl
  | n + 1, h => by
    have h1 := fb_ct_or (n := n) (p := p) (q := q) (fun k hk => h k (by omega))
    have h2 := h n (by omega)
    rw [fb_ct_succ, fb_ct_succ, fb_ct_succ, h1]
    cases hp : p n <;> cases hq : q n <;> simp_all <;> omega
theorem fb_ct_not (p : Nat → Bool) : ∀ n, fb_ct p n + fb_ct (fun k => !p k) n = n
  | 0 => rfl
  | n + 1 => by
    have h := fb_ct_not p n
    rw [fb_ct_succ, fb_ct_succ]
    cases p n <;> simp <;> omega
theorem fb_ct_split (p : Nat → Bool) (m : Nat) : ∀ n, fb_ct p (m + n) = fb_ct p m + fb_ct (fun k => p (m + k)) n
  | 0 => rfl
  | n + 1 => by
    have h := fb_ct_split p m n
    show fb_ct p (m + n + 1) = _
    rw [fb_ct_succ, fb_ct_succ, h, Nat.add_assoc]
theorem fb_ct_zero {p : Nat → Bool} : ∀ {n : Nat}, fb_ct p n = 0 ↔ ∀ k, k < n → p k = false
  | 0 => ⟨fun _ k hk => absurd hk (Nat.not_lt_zero k), fun _ => rfl⟩
  | n + 1 => by
    have h := fb_ct_zero (p := p) (n := n)
    rw [fb_ct_succ]
    constructor
    · intro e k hk
      have e1 : fb_ct p n = 0 := by omega
      rcases Nat.lt_or_ge k n with q | q
      · exact h.mp e1 k q
      · have ek : k = n := by omega
        subst ek
        cases hp : p k
        · rfl
        · simp [hp] at e
    · intro a
      rw [h.mpr (fun k hk => a k (by omega)), a n (by omega)]
      rfl
theorem fb_ct_pos {p : Nat → Bool} {n : Nat} : 0 < fb_ct p n ↔ ∃ k, k < n ∧ p k = true := by
  constructor
  · intro h
    refine Classical.byContradiction fun hx => ?_
    have := fb_ct_zero.mpr (fun k hk => by
      cases hp : p k
      · rfl
      · exact absurd ⟨k, hk, hp⟩ hx : ∀ k, k < n → p k = false)
    omega
  · rintro ⟨k, hk, hp⟩
    rcases Nat.eq_zero_or_pos (fb_ct p n) with e | e
    · have := fb_ct_zero.mp e k hk
      rw [this] at hp
      cases hp
    · exact e
theorem fb_ct_all {p : Nat → Bool} {n : Nat} : fb_ct p n = n ↔ ∀ k, k < n → p k = true := by
  have h := fb_ct_not p n
  constructor
  · intro e k hk
    have z : fb_ct (fun k => !p k) n = 0 := by omega
    have := fb_ct_zero.mp z k hk
    cases hp : p k
    · simp [hp] at this
    · rfl
  · intro a
    have z : fb_ct (fun k => !p k) n = 0 := fb_ct_zero.mpr (fun k hk => by simp [a k hk])
    omega
/-- the k-th place with the property -/
theorem fb_ct_kth {p : Nat → Bool} {k : Nat} : ∀ {n : Nat}, k < fb_ct p n → ∃ i, i < n ∧ p i = true ∧ fb_ct p i = k
  | 0, h => absurd h (Nat.not_lt_zero k)
  | n + 1, h => by
    rcases Nat.lt_or_ge k (fb_ct p n) with q | q
    · obtain ⟨i, h1, h2⟩ := fb_ct_kth q
      exact ⟨i, by omega, h2⟩
    · rw [fb_ct_succ] at h
      cases hp : p n
      · simp [hp] at h; omega
      · simp [hp] at h
        exact ⟨n, by omega, hp, by omega⟩
theorem fb_ct_kth_one {p : Nat → Bool} {i j : Nat} (hi : p i = true) (hj : p j = true) (e : fb_ct p i = fb_ct p j) : i = j := by
  have key : ∀ a b : Nat, a < b → p a = true → fb_ct p a < fb_ct p b := by
    intro a b hab ha
    have h := fb_ct_mono p (show a + 1 ≤ b from hab)
    rw [fb_ct_succ, ha] at h
    simp at h
    omega
  rcases Nat.lt_trichotomy i j with q | q | q
  · have := key i j q hi; omega
  · exact q
  · have := key j i q hj; omega
/-! ===== sums over a range: one place changed, parts, bounds ===== -/
def fb_sm (f : Nat → Nat) : Nat → Nat
  | 0 => 0
  | n + 1 => fb_sm f n + f n
theorem fb_sm_succ (f : Nat → Nat) (n : Nat) : fb_sm f (n + 1) = fb_sm f n + f n := rfl
theorem fb_sm_cong {f g : Nat → Nat} : ∀ {n : Nat}, (∀ k, k < n → f k = g k) → fb_sm f n = fb_sm g n
  | 0, _ => rfl
  | n + 1, h => by rw [fb_sm_succ, fb_sm_succ, fb_sm_cong (fun k hk => h k (by omega)), h n (by omega)]
theorem fb_sm_out (f : Nat → Nat) (v : Nat) {i n : Nat} (h : n ≤ i) : fb_sm (fun k => if k = i then v else f k) n = fb_sm f n :=
  fb_sm_cong fun k hk => if_neg (by omega)
theorem fb_sm_upd (f : Nat → Nat) (v : Nat) {i : Nat} : ∀ {n : Nat}, i < n → fb_sm (fun k => if k = i then v else f k) n + f i = fb_sm f n + v
  | 0, h => absurd h (Nat.not_lt_zero i)
  | n + 1, h => by
    rw [fb_sm_succ, fb_sm_succ]
    rcases Nat.lt_or_ge i n with q | q
    · have := fb_sm_upd f v q
      have e : (if n = i then v else f n) = f n := if_neg (by omega)
      rw [e]
      omega
    · have e : i = n := by omega
      subst e
      rw [fb_sm_out f v (Nat.le_refl _)]
      simp only [if_true]
      omega
theorem fb_sm_add (f g : Nat → Nat) : ∀ n, fb_sm (fun k => f k + g k) n = fb_sm f n + fb_sm g n
  | 0 => rfl
  | n + 1 => by
    have h := fb_sm_add f g n
    rw [fb_sm_succ, fb_sm_succ, fb_sm_succ, h]
    omega
theorem fb_sm_le {f g : Nat → Nat} : ∀ {n : Nat}, (∀ k, k < n → f k ≤ g k) → fb_sm f n ≤ fb_sm g n
  | 0, _ => Nat.le_refl _
  | n + 1, h => by
    have h1 := fb_sm_le (n := n) (f := f) (g := g) (fun k hk => h k (by omega))
    have h2 := h n (by omega)
    rw [fb_sm_succ, fb_sm_succ]
    omega
theorem fb_sm_const (c : Nat) : ∀ n, fb_sm (fun _ => c) n = n * c
  | 0 => by rw [Nat.zero_mul]; rfl
  | n + 1 => by rw [fb_sm_succ, fb_sm_const c n, Nat.succ_mul]
theorem fb_sm_bound {f : Nat → Nat} {c n : Nat} (h : ∀ k, k < n → f k ≤ c) : fb_sm f n ≤ n * c := by
  rw [← fb_sm_const c n]
  exact fb_sm_le h
theorem fb_sm_mono (f : Nat → Nat) (m : Nat) : ∀ n, fb_sm f m ≤ fb_sm f (m + n)
  | 0 => Nat.le_refl _
  | n + 1 => by
    have h := fb_sm_mono f m n
    show fb_sm f m ≤ fb_sm f (m + n + 1)
    rw [fb_sm_succ]
    omega
theorem fb_sm_part (f : Nat → Nat) {i n : Nat} (h : i < n) : fb_sm f i + f i ≤ fb_sm f n := by
  have := fb_sm_mono f (i + 1) (n - (i + 1))
  rw [fb_sm_succ, show i + 1 + (n - (i + 1)) = n by omega] at this
  exact this
theorem fb_sm_split (f : Nat → Nat) (m : Nat) : ∀ n, fb_sm f (m + n) = fb_sm f m + fb_sm (fun k => f (m + k)) n
  | 0 => rfl
  | n + 1 => by
    have h := fb_sm_split f m n
    show fb_sm f (m + n + 1) = _
    rw [fb_sm_succ, fb_sm_succ, h, Nat.add_assoc]
theorem fb_sm_zero {f : Nat → Nat} {n : Nat} (h : fb_sm f n = 0) : ∀ k, k < n → f k = 0 := fun k hk => by
  have := fb_sm_part f hk
  omega
/-- the same over whole numbers -/
def fb_si (f : Nat → Int) : Nat → Int
  | 0 => 0
  | n + 1 => fb_si f n + f n
theorem fb_si_succ (f : Nat → Int) (n : Nat) : fb_si f (n + 1) = fb_si f n + f n := rfl
theorem fb_si_cong {f g : Nat → Int} : ∀ {n : Nat}, (∀ k, k < n → f k = g k) → fb_si f n = fb_si g n
  | 0, _ => rfl
  | n + 1, h => by rw [fb_si_succ, fb_si_succ, fb_si_cong (fun k hk => h k (by omega)), h n (by omega)]
theorem fb_si_out (f : Nat → Int) (v : Int) {i n : Nat} (h : n ≤ i) : fb_si (fun k => if k = i then v else f k) n = fb_si f n :=
  fb_si_cong fun k hk => if_neg (by omega)
theorem fb_si_upd (f : Nat → Int) (v : Int) {i : Nat} : ∀ {n : Nat}, i < n → fb_si (fun k => if k = i then v else f k) n = fb_si f n - f i + v
  | 0, h => absurd h (Nat.not_lt_zero i)
  | n + 1, h => by
    rw [fb_si_succ, fb_si_succ]
    rcases Nat.lt_or_ge i n with q | q
    · have := fb_si_upd f v q
      have e : (if n = i then v else f n) = f n := if_neg (by omega)
      rw [e]
      omega
    · have e : i = n := by omega
      subst e
      rw [fb_si_out f v (Nat.le_refl _)]
      simp only [if_true]
      omega
theorem fb_si_add (f g : Nat → Int) : ∀ n, fb_si (fun k => f k + g k) n = fb_si f n + fb_si g n
  | 0 => rfl
  | n + 1 => by
    have h := fb_si_add f g n
    rw [fb_si_succ, fb_si_succ, fb_si_succ, h]
    omega
theorem fb_si_sub (f g : Nat → Int) : ∀ n, fb_si (fun k => f k - g k) n = fb_si f n - fb_si g n
  | 0 => rfl
  | n + 1 => by
    have h := fb_si_sub f g n
    rw [fb_si_succ, fb_si_succ, fb_si_succ, h]
    omega
theorem fb_si_mul (c : Int) (f : Nat → Int) : ∀ n, fb_si (fun k => c * f k) n = c * fb_si f n
  | 0 => (Int.mul_zero c).symm
  | n + 1 => by
    have h := fb_si_mul c f n
    rw [fb_si_succ, fb_si_succ, h, Int.mul_add]
theorem fb_si_split (f : Nat → Int) (m : Nat) : ∀ n, fb_si f (m + n) = fb_si f m + fb_si (fun k => f (m + k)) n
  | 0 => (Int.add_zero _).symm
  | n + 1 => by
    have h := fb_si_split f m n
    show fb_si f (m + n + 1) = _
    rw [fb_si_succ, fb_si_succ, h, Int.add_assoc]
theorem fb_si_nat (f : Nat → Nat) : ∀ n, fb_si (fun k => (f k : Int)) n = (fb_sm f n : Int)
  | 0 => rfl
  | n + 1 => by
    have h := fb_si_nat f n
    rw [fb_si_succ, fb_sm_succ, h]
    omega
theorem fb_si_bound {f : Nat → Int} {c : Int} (hc : 0 ≤ c) : ∀ {n : Nat}, (∀ k, k < n → -c ≤ f k ∧ f k ≤ c) → -(n * c) ≤ fb_si f n ∧ fb_si f n ≤ n * c
  | 0, _ => by simp [fb_si]
  | n + 1, h => by
    have h1 := fb_si_bound (n := n) (f := f) hc (fun k hk => h k (by omega))
    have h2 := h n (by omega)
    have e : ((n + 1 : Nat) : Int) * c = n * c + c := by rw [Int.natCast_add, Int.add_mul]; simp
    rw [fb_si_succ, e]
    omega
/-! ===== bits of a long that isn't negative ===== -/
theorem fb_andL (a b : Nat) : lN a &&& lN b = lN (a &&& b) := by
  apply Int64.toBitVec_inj.1
  show BitVec.ofNat 64 a &&& BitVec.ofNat 64 b = BitVec.ofNat 64 (a &&& b)
  apply BitVec.eq_of_getLsbD_eq
  intro i hi
  simp [hi]
theorem fb_orL (a b : Nat) : lN a ||| lN b = lN (a ||| b) := by
  apply Int64.toBitVec_inj.1
  show BitVec.ofNat 64 a ||| BitVec.ofNat 64 b = BitVec.ofNat 64 (a ||| b)
  apply BitVec.eq_of_getLsbD_eq
  intro i hi
  simp [hi]
theorem fb_xorL (a b : Nat) : lN a ^^^ lN b = lN (a ^^^ b) := by
  apply Int64.toBitVec_inj.1
  show BitVec.ofNat 64 a ^^^ BitVec.ofNat 64 b = BitVec.ofNat 64 (a ^^^ b)
  apply BitVec.eq_of_getLsbD_eq
  intro i hi
  simp [hi]
theorem fb_xorI (a b : Nat) : nI a ^^^ nI b = nI (a ^^^ b) := by
  apply Int32.toBitVec_inj.1
  show BitVec.ofNat 32 a ^^^ BitVec.ofNat 32 b = BitVec.ofNat 32 (a ^^^ b)
  apply BitVec.eq_of_getLsbD_eq
  intro i hi
  simp [hi]
theorem fb_maskL (n k : Nat) : lN n &&& lN (2 ^ k - 1) = lN (n % 2 ^ k) := by rw [fb_andL, Nat.and_two_pow_sub_one_eq_mod]
theorem fb_or_sumL {a k : Nat} (b : Nat) (h : a < 2 ^ k) : lN (2 ^ k * b) ||| lN a = lN (2 ^ k * b + a) := by rw [fb_orL, Nat.two_pow_add_eq_or_of_lt h]
theorem fb_lN_inj {a b : Nat} (ha : a < 2 ^ 63) (hb : b < 2 ^ 63) : lN a = lN b ↔ a = b := by
  constructor
  · intro h
    have h1 : (BitVec.ofNat 64 a).toNat = (BitVec.ofNat 64 b).toNat := congrArg (fun x : Int64 => x.toBitVec.toNat) h
    rw [BitVec.toNat_ofNat, BitVec.toNat_ofNat, Nat.mod_eq_of_lt (by omega), Nat.mod_eq_of_lt (by omega)] at h1
    exact h1
  · rintro rfl; rfl
theorem fb_bit_nat (n j : Nat) : n &&& 2 ^ j = 0 ↔ n.testBit j = false := by
  constructor
  · intro h
    have h1 : (n &&& 2 ^ j).testBit j = false := by rw [h]; simp
    rw [Nat.testBit_and] at h1
    simpa using h1
  · intro h
    apply Nat.eq_of_testBit_eq
    intro i
    rw [Nat.testBit_and]
    by_cases hi : j = i
    · subst hi; simp [h]
    · first | (simp [Nat.testBit_two_pow, hi]; done) | (simp [Nat.testBit_two_pow_of_ne hi]; done)
/-- one bit of a long -/
theorem fb_bitL {n j : Nat} (hj : j < 63) : lN n &&& lN (2 ^ j) = 0 ↔ n.testBit j = false := by
  have h2 : (2 : Nat) ^ j < 2 ^ 63 := Nat.pow_lt_pow_right (by decide) hj
  have hle : n &&& 2 ^ j ≤ 2 ^ j := Nat.and_le_right
  rw [fb_andL, ← fb_bit_nat, show (0 : Int64) = lN 0 from rfl]
  exact fb_lN_inj (by omega) (by decide)
/-- a bit set, a bit taken off -/
theorem fb_bit_set (n j i : Nat) : (n ||| 2 ^ j).testBit i = (n.testBit i || decide (i = j)) := by
  rw [Nat.testBit_or]
  by_cases h : j = i
  · subst h; simp
  · have h2 : ¬ i = j := fun e => h e.symm
    first | (simp [Nat.testBit_two_pow, h, h2]; done) | (simp [Nat.testBit_two_pow_of_ne h, h2]; done)
theorem fb_bit_flip (n j i : Nat) : (n ^^^ 2 ^ j).testBit i = (n.testBit i ^^ decide (i = j)) := by
  rw [Nat.testBit_xor]
  by_cases h : j = i
  · subst h; simp
  · have h2 : ¬ i = j := fun e => h e.symm
    first | (simp [Nat.testBit_two_pow, h, h2]; done) | (simp [Nat.testBit_two_pow_of_ne h, h2]; done)
/-! ===== a stretch of an array written over by a function ===== -/
def fb_put {α : Type} (f g : Nat → α) (a n : Nat) : Nat → α := fun k => if a ≤ k ∧ k < a + n then g (k - a) else f k
theorem fb_put_0 {α : Type} (f g : Nat → α) (a : Nat) : fb_put f g a 0 = f := funext fun k => if_neg (by omega)
theorem fb_put_in {α : Type} {f g : Nat → α} {a n k : Nat} (h1 : a ≤ k) (h2 : k < a + n) : fb_put f g a n k = g (k - a) := if_pos ⟨h1, h2⟩
theorem fb_put_out {α : Type} {f g : Nat → α} {a n k : Nat} (h : k < a ∨ a + n ≤ k) : fb_put f g a n k = f k := if_neg (by omega)
theorem fb_put_succ (f g : Nat → Int32) (a n : Nat) : upd (fb_put f g a n) (a + n) (g n) = fb_put f g a (n + 1) := by
  funext k
  by_cases h : k = a + n
  · subst h
    simp [upd, fb_put]
  · by_cases h1 : a ≤ k ∧ k < a + n
    · have h2 : a ≤ k ∧ k < a + (n + 1) := by omega
      simp only [upd, fb_put, if_neg h, if_pos h1, if_pos h2]
    · have h2 : ¬ (a ≤ k ∧ k < a + (n + 1)) := by omega
      simp only [upd, fb_put, if_neg h, if_neg h1, if_neg h2]
/-- .. from the far end down -/
theorem fb_put_down (f g : Nat → Int32) {a n m : Nat} (h : m < n) : upd (fb_put f (fun k => g (k + (m + 1))) (a + (m + 1)) (n - (m + 1))) (a + m) (g m) = fb_put f (fun k => g (k + m)) (a + m) (n - m) := by
  funext k
  by_cases h0 : k = a + m
  · subst h0
    simp only [upd, if_true]
    rw [fb_put_in (by omega) (by omega)]
    exact congrArg g (by omega)
  · simp only [upd, if_neg h0]
    by_cases h1 : a + (m + 1) ≤ k ∧ k < a + (m + 1) + (n - (m + 1))
    · rw [fb_put_in h1.1 h1.2, fb_put_in (by omega) (by omega)]
      exact congrArg g (by omega)
    · rw [fb_put_out (by omega), fb_put_out (by omega)]
theorem fb_put_cong {α : Type} {f f2 g g2 : Nat → α} {a n : Nat} (hf : ∀ k, (k < a ∨ a + n ≤ k) → f k = f2 k) (hg : ∀ k, k < n → g k = g2 k) : fb_put f g a n = fb_put f2 g2 a n := by
  funext k
  by_cases h : a ≤ k ∧ k < a + n
  · rw [fb_put_in h.1 h.2, fb_put_in h.1 h.2, hg _ (by omega)]
  · rw [fb_put_out (by omega), fb_put_out (by omega), hf _ (by omega)]
/-! ===== the least, the first, the best so far; that there is one alone ===== -/
theorem fb_first {p : Nat → Prop} [DecidablePred p] : ∀ {n : Nat}, (∃ i, i < n ∧ p i) → ∃ i, i < n ∧ p i ∧ ∀ j, j < i → ¬ p j
  | 0, h => by obtain ⟨i, hi, -⟩ := h; exact absurd hi (Nat.not_lt_zero i)
  | n + 1, h => by
    by_cases q : ∃ i, i < n ∧ p i
    · obtain ⟨i, h1, h2⟩ := fb_first q
      exact ⟨i, by omega, h2⟩
    · obtain ⟨i, h1, h2⟩ := h
      have e : i = n := by
        rcases Nat.lt_or_ge i n with r | r
        · exact absurd ⟨i, r, h2⟩ q
        · omega
      subst e
      exact ⟨i, by omega, h2, fun j hj hp => q ⟨j, hj, hp⟩⟩
theorem fb_first_one {p : Nat → Prop} {i j : Nat} (hi : p i) (hi2 : ∀ k, k < i → ¬ p k) (hj : p j) (hj2 : ∀ k, k < j → ¬ p k) : i = j := by
  rcases Nat.lt_trichotomy i j with q | q | q
  · exact absurd hi (hj2 i q)
  · exact q
  · exact absurd hj (hi2 j q)
theorem fb_last {p : Nat → Prop} [DecidablePred p] : ∀ {n : Nat}, (∃ i, i < n ∧ p i) → ∃ i, i < n ∧ p i ∧ ∀ j, i < j → j < n → ¬ p j
  | 0, h => by obtain ⟨i, hi, -⟩ := h; exact absurd hi (Nat.not_lt_zero i)
  | n + 1, h => by
    by_cases q : p n
    · exact ⟨n, by omega, q, fun j h1 h2 => by omega⟩
    · obtain ⟨i, h1, h2⟩ := h
      have hi : i < n := by
        rcases Nat.lt_or_ge i n with r | r
        · exact r
        · have e : i = n := by omega
          subst e
          exact absurd h2 q
      obtain ⟨i2, a1, a2, a3⟩ := fb_last (n := n) ⟨i, hi, h2⟩
      refine ⟨i2, by omega, a2, fun j b1 b2 => ?_⟩
      rcases Nat.lt_or_ge j n with r | r
      · exact a3 j b1 r
      · have e : j = n := by omega
        subst e
        exact q
/-- the first greatest -/
theorem fb_best (f : Nat → Int) : ∀ {n : Nat}, 0 < n → ∃ i, i < n ∧ (∀ j, j < n → f j ≤ f i) ∧ ∀ j, j < i → f j < f i
  | 0, h => absurd h (Nat.lt_irrefl 0)
  | 1, _ => ⟨0, by omega, fun j hj => by have e : j = 0 := by omega
                                         subst e; exact Int.le_refl _, fun j hj => absurd hj (Nat.not_lt_zero j)⟩
  | n + 2, _ => by
    obtain ⟨i, h1, h2, h3⟩ := fb_best f (n := n + 1) (by omega)
    by_cases q : f i < f (n + 1)
    · refine ⟨n + 1, by omega, fun j hj => ?_, fun j hj => ?_⟩
      · rcases Nat.lt_or_ge j (n + 1) with r | r
        · have := h2 j r; omega
        · have e : j = n + 1 := by omega
          subst e; exact Int.le_refl _
      · have := h2 j hj; omega
    · refine ⟨i, by omega, fun j hj => ?_, h3⟩
      rcases Nat.lt_or_ge j (n + 1) with r | r
      · exact h2 j r
      · have e : j = n + 1 := by omega
        subst e; omega
theorem fb_best_one {f : Nat → Int} {n i j : Nat} (hi : i < n) (hi2 : ∀ k, k < n → f k ≤ f i) (hi3 : ∀ k, k < i → f k < f i) (hj : j < n) (hj2 : ∀ k, k < n → f k ≤ f j) (hj3 : ∀ k, k < j → f k < f j) : i = j := by
  rcases Nat.lt_trichotomy i j with q | q | q
  · have a := hj3 i q
    have b := hi2 j hj
    omega
  · exact q
  · have a := hi3 j q
    have b := hj2 i hi
    omega
/-- the first least -/
theorem fb_low (f : Nat → Int) {n : Nat} (h : 0 < n) : ∃ i, i < n ∧ (∀ j, j < n → f i ≤ f j) ∧ ∀ j, j < i → f i < f j := by
  obtain ⟨i, h1, h2, h3⟩ := fb_best (fun k => -f k) h
  exact ⟨i, h1, fun j hj => by have := h2 j hj; omega, fun j hj => by have := h3 j hj; omega⟩
/-! ===== signed ints as whole numbers, within bounds ===== -/
theorem fb_rng (x : Int32) : -2147483648 ≤ x.toInt ∧ x.toInt < 2147483648 := by
  have h1 := Int32.le_toInt x
  have h2 := Int32.toInt_lt x
  omega
theorem fb_bmod {z : Int} (h1 : -2147483648 ≤ z) (h2 : z < 2147483648) : z.bmod (2 ^ 32) = z := by
  rw [Int.bmod_eq_of_le (by omega) (by omega)]
theorem fb_addI {x y : Int32} (h1 : -2147483648 ≤ x.toInt + y.toInt) (h2 : x.toInt + y.toInt < 2147483648) : (x + y).toInt = x.toInt + y.toInt := by
  rw [Int32.toInt_add, fb_bmod h1 h2]
theorem fb_subI {x y : Int32} (h1 : -2147483648 ≤ x.toInt - y.toInt) (h2 : x.toInt - y.toInt < 2147483648) : (x - y).toInt = x.toInt - y.toInt := by
  rw [Int32.toInt_sub, fb_bmod h1 h2]
theorem fb_mulI {x y : Int32} (h1 : -2147483648 ≤ x.toInt * y.toInt) (h2 : x.toInt * y.toInt < 2147483648) : (x * y).toInt = x.toInt * y.toInt := by
  rw [Int32.toInt_mul, fb_bmod h1 h2]
theorem fb_negI {x : Int32} (h : x.toInt ≠ -2147483648) : (-x).toInt = -x.toInt := by
  have := fb_rng x
  rw [Int32.toInt_neg, fb_bmod (by omega) (by omega)]
theorem fb_ofI {z : Int} (h1 : -2147483648 ≤ z) (h2 : z < 2147483648) : (Int32.ofInt z).toInt = z := by
  rw [Int32.toInt_ofInt, fb_bmod h1 h2]
theorem fb_asI (x : Int32) : Int32.ofInt x.toInt = x := Int32.ofInt_toInt x
theorem fb_rngL (x : Int64) : -9223372036854775808 ≤ x.toInt ∧ x.toInt < 9223372036854775808 := by
  have h1 := Int64.le_toInt x
  have h2 := Int64.toInt_lt x
  omega
theorem fb_bmodL {z : Int} (h1 : -9223372036854775808 ≤ z) (h2 : z < 9223372036854775808) : z.bmod (2 ^ 64) = z := by
  rw [Int.bmod_eq_of_le (by omega) (by omega)]
theorem fb_addL {x y : Int64} (h1 : -9223372036854775808 ≤ x.toInt + y.toInt) (h2 : x.toInt + y.toInt < 9223372036854775808) : (x + y).toInt = x.toInt + y.toInt := by
  rw [Int64.toInt_add, fb_bmodL h1 h2]
theorem fb_subL {x y : Int64} (h1 : -9223372036854775808 ≤ x.toInt - y.toInt) (h2 : x.toInt - y.toInt < 9223372036854775808) : (x - y).toInt = x.toInt - y.toInt := by
  rw [Int64.toInt_sub, fb_bmodL h1 h2]
theorem fb_mulL {x y : Int64} (h1 : -9223372036854775808 ≤ x.toInt * y.toInt) (h2 : x.toInt * y.toInt < 9223372036854775808) : (x * y).toInt = x.toInt * y.toInt := by
  rw [Int64.toInt_mul, fb_bmodL h1 h2]
/-! ===== cuts of what is narrow already ===== -/
theorem fb_byte {x : Int32} (h1 : -128 ≤ x.toInt) (h2 : x.toInt < 128) : x.toInt8.toInt32 = x := by
  apply Int32.toInt_inj.1
  rw [Int8.toInt_toInt32, Int32.toInt_toInt8, Int.bmod_eq_of_le (by omega) (by omega)]
theorem fb_short {x : Int32} (h1 : -32768 ≤ x.toInt) (h2 : x.toInt < 32768) : x.toInt16.toInt32 = x := by
  apply Int32.toInt_inj.1
  rw [Int16.toInt_toInt32, Int32.toInt_toInt16, Int.bmod_eq_of_le (by omega) (by omega)]
theorem fb_byte_rng (x : Int32) : -128 ≤ x.toInt8.toInt32.toInt ∧ x.toInt8.toInt32.toInt < 128 := by
  rw [Int8.toInt_toInt32]
  have h1 := Int8.le_toInt x.toInt8
  have h2 := Int8.toInt_lt x.toInt8
  omega
theorem fb_short_rng (x : Int32) : -32768 ≤ x.toInt16.toInt32.toInt ∧ x.toInt16.toInt32.toInt < 32768 := by
  rw [Int16.toInt_toInt32]
  have h1 := Int16.le_toInt x.toInt16
  have h2 := Int16.toInt_lt x.toInt16
  omega
theorem fb_byte_twice (x : Int32) : x.toInt8.toInt32.toInt8.toInt32 = x.toInt8.toInt32 := fb_byte (fb_byte_rng x).1 (fb_byte_rng x).2
theorem fb_short_twice (x : Int32) : x.toInt16.toInt32.toInt16.toInt32 = x.toInt16.toInt32 := fb_short (fb_short_rng x).1 (fb_short_rng x).2
theorem fb_char {n : Nat} (h : n < 65536) : (nI n).toUInt32.toUInt16.toUInt32.toInt32 = nI n := by
  apply Int32.toBitVec_inj.1
  apply BitVec.eq_of_toNat_eq
  have e1 : (nI n).toBitVec.toNat = n := by
    show (BitVec.ofNat 32 n).toNat = n
    rw [BitVec.toNat_ofNat, Nat.mod_eq_of_lt (by omega)]
  have e2 : ((nI n).toUInt32.toUInt16.toUInt32).toNat = n := by
    rw [UInt16.toNat_toUInt32, UInt32.toNat_toUInt16]
    show (nI n).toBitVec.toNat % 2 ^ 16 = n
    rw [e1, Nat.mod_eq_of_lt (by omega)]
  rw [e1]
  exact e2
end
section
theorem ci_lt {a b : Int32} : a < b ↔ a.toInt < b.toInt := fa_lt a b
theorem ci_le {a b : Int32} : a ≤ b ↔ a.toInt ≤ b.toInt := fa_le a b
theorem ci_eq {a b : Int32} : a = b ↔ a.toInt = b.toInt := fa_eq a b
theorem ci_n {n : Nat} (h : n < 2147483648) : (nI n).toInt = (n : Int) := nI_toInt h
theorem ci_of {x : Int32} {a : Nat} (h : 0 ≤ x.toInt ∧ x.toInt ≤ (a : Int)) : ∃ j : Nat, j ≤ a ∧ x = nI j := by
  have hb := fb_rng x
  refine ⟨x.toInt.toNat, by omega, ?_⟩
  rw [ci_eq, ci_n (by omega)]
  omega
def ca_R (k i : Nat) : Bool := if k = 0 then (i == 0 || i == 1 || i == 6 || i == 8 || i == 12 || i == 20 || i == 26 || i == 28 || i == 29 || i == 33) else (k == 3 && decide (i < 160) || k == 4 && decide (i < 10) || k == 5 && decide (i < 100) || k == 6 && decide (i < 100) || k == 10 && decide (i < 64) || k == 11 && decide (i < 64) || k == 12 && decide (i < 8) || k == 15 && decide (i < 1280) || k == 16 && decide (i < 1280) || k == 17 && decide (i < 1280) || k == 18 && decide (i < 1280) || k == 19 && decide (i < 1280) || k == 20 && decide (i < 20) || k == 22 && decide (i < 200) || k == 23 && decide (i < 200) || k == 24 && decide (i < 200) || k == 25 && decide (i < 200) || k == 26 && decide (i < 200) || k == 31 && decide (i < 16) || k == 33 && decide (i < 5) || k == 35 && decide (i < 16))
def ca_v (k i a : Nat) : Int32 := if k = 16 ∨ k = 24 ∨ k = 35 ∨ (k = 0 ∧ i = 33) then nI a - 1 else nI a
abbrev ca_A : Type := Nat → Nat → Nat
def ca_on (A : ca_A) (k : Nat) : Prop := k / 8 < A 0 0 ∧ k % 8 < A 0 1
end
section
theorem cb_ofW {l : Launch} {y : MethodName} {ws ws' : List Cond} {rm : Room} {Pc : Array Value → State → Prop} {Qc : Array Value → State → Outcome → State → Prop} {mc ms : Nat} {free : Addr → Prop} {cc : ByteArray} {maxL : Nat} {ret : Option FieldType}
    (hy : plainFor y = true) (hw : ws = Cond.code y cc maxL ret :: ws')
    (body : ∀ p e s m args below meth c s₁, BodyLoose p l y (headSpec ws rm) cc maxL ret e s m args below meth c s₁ → c.maxLocals = maxL → Pc args s →
      W p l e (headSpec ws rm).room s m args below meth c s.heap [] 0 0 (MQ below Qc args s mc ms free) (entryFrame m args maxL)) : Met l y ws rm Pc Qc mc ms free := by
  refine MetFree.of_bodySF (code := cc) (maxLocals := maxL) (ret := ret) hy ?_ ?_
  · intro args s m h hn
    obtain ⟨meth, c, h1, h2, h3, h4, h5, h6, -, -⟩ := Cond.code_spec hn (atoms_spec (ws := ws) h _ (by rw [hw]; exact List.mem_cons_self))
    exact ⟨meth, c, h1, h2, h3, h4, h5, h6⟩
  · intro p e s m args below meth c s₁ B hml hP _
    have hh0 : s₁.heap = s.heap := by rw [B.state]; rfl
    obtain ⟨t, a1, o, b1, b2, b3⟩ := body p e s m args below meth c s₁ B hml hP s₁ hh0 (Stand.of_body B)
    exact ⟨t, o, a1, b1, b2, ⟨b3.1, b3.2⟩⟩
theorem cb_conF {y : MethodName} {cc : ByteArray} {maxL : Nat} {ret : Option FieldType} {fr lo mc ms : Nat} {keep : Nat → Bool} {As : List cb_V} {w : cb_W} {post : Option Int32 → cb_W → Prop} (hy : plainFor y = true) (hn : As.length ≤ maxL)
    (body : ∀ κ : cb_K, cb_Ok κ cc maxL y.cls (cb_rm fr mc ms lo) → cb_Rt κ keep post mc ms ret → κ.2.1.2.2.2.1.name = y.name → cb_X κ w 0 0 0 (cb_l0 As maxL) []) : cb_Con y cc maxL ret fr lo mc ms keep As w post := by
  intro g z l ad
  refine cb_ofW (cc := cc) (maxL := maxL) (ret := ret) hy rfl ?_
  intro p e s m args below meth c s₁ B hml hv
  obtain ⟨rfl, hW, hE⟩ := hv
  have hts := atoms_spec (ws := .code y cc maxL ret :: cb_gw) B.pre
  have h := body ((p, l, e, (headSpec (.code y cc maxL ret :: cb_gw) (cb_rm fr mc ms lo)).room, s), (m, (As.map (cb_vv ad)).toArray, below, meth, c), (g, z), (ad, keep, MQ below (cb_Qt g z ad keep post) (As.map (cb_vv ad)).toArray s mc ms (cb_A z)))
    ⟨B.exec, B.bytes, hml, findClass_of_methodNamed B.named, fun w hw => hts w (List.mem_cons_of_mem _ hw), hE, rfl, B.notSynchronized⟩ ⟨rfl, B.returns, rfl⟩ (name_of_methodNamed B.named B.method).1
    ad s.heap [] ((lg_sl (As.map (cb_vv ad)) ++ List.replicate (maxL - (lg_sl (As.map (cb_vv ad))).length) Slot.unset).toArray) hW (fun _ _ => rfl) va_S.rf (by rw [hml]; exact cb_entry ad As hn)
  rw [lg_entry_eq]
  exact h
end
section
theorem c_X10_within (w : cb_W) (v a b : Int32) : cb_Pu yX10_within cX10_within 3 (some .boolean) 0 0 [.inl v, .inl a, .inl b] w (if a ≤ v ∧ v ≤ b then 1 else 0) := by
  refine cb_con (by decide) (Nat.le_of_ble_eq_true rfl) (fun κ O Rt hnm => ?_)
  show cb_X κ w 0 0 0 [some (.inl v), some (.inl a), some (.inl b)] []
  refine cb_iload_n (pc := 0) O dX10_within_0 rfl ?_
  refine cb_iload_n (pc := 1) O dX10_within_1 rfl ?_
  refine cb_icmp_lt (pc := 2) O 14 dX10_within_2 (by decide) (fun c_2 => ?_) (fun c_2 => ?_)
  · skip
    refine cb_iconst (pc := 14) (v := 0) O dX10_within_14 (by decide) ?_
    exact cb_iret (pc := 15) O Rt rfl (Nat.le_of_ble_eq_true rfl) (Nat.le_of_ble_eq_true rfl) dX10_within_15 ⟨by
        split <;> first | rfl | (exfalso; simp only [ci_lt, ci_le, ci_eq] at *; omega), rfl⟩
  · skip
    refine cb_iload_n (pc := 5) O dX10_within_5 rfl ?_
    refine cb_iload_n (pc := 6) O dX10_within_6 rfl ?_
    refine cb_icmp_gt (pc := 7) O 14 dX10_within_7 (by decide) (fun c_7 => ?_) (fun c_7 => ?_)
    · skip
      refine cb_iconst (pc := 14) (v := 0) O dX10_within_14 (by decide) ?_
      exact cb_iret (pc := 15) O Rt rfl (Nat.le_of_ble_eq_true rfl) (Nat.le_of_ble_eq_true rfl) dX10_within_15 ⟨by
          split <;> first | rfl | (exfalso; simp only [ci_lt, ci_le, ci_eq] at *; omega), rfl⟩
    · skip
      refine cb_iconst (pc := 10) (v := 1) O dX10_within_10 (by decide) ?_
      refine cb_goto (pc := 11) O 15 dX10_within_11 (by decide) ?_
      exact cb_iret (pc := 15) O Rt rfl (Nat.le_of_ble_eq_true rfl) (Nat.le_of_ble_eq_true rfl) dX10_within_15 ⟨by
          split <;> first | rfl | (exfalso; simp only [ci_lt, ci_le, ci_eq] at *; omega), rfl⟩

theorem c_X10_isInk (w : cb_W) (v : Int32) : cb_Pu yX10_isInk cX10_isInk 1 (some .boolean) 1 22 [.inl v] w (if 0 ≤ v ∧ v ≤ 9 then 1 else 0) := by
  refine cb_con (by decide) (Nat.le_of_ble_eq_true rfl) (fun κ O Rt hnm => ?_)
  show cb_X κ w 0 0 0 [some (.inl v)] []
  refine cb_iload_n (pc := 0) O dX10_isInk_0 rfl ?_
  refine cb_iconst (pc := 1) (v := 0) O dX10_isInk_1 (by decide) ?_
  refine cb_bipush (pc := 2) (v := 9) O dX10_isInk_2 (by decide) ?_
  refine cb_cSp (pc := 4) O (c_X10_within _ _ _ _) my_X10_within mt_X10_within ml_X10_81 dX10_isInk_4 rfl rfl ⟨(Nat.le_of_ble_eq_true rfl), (Nat.le_of_ble_eq_true rfl)⟩ (Nat.le_of_ble_eq_true rfl) rfl ⟨(Nat.le_of_ble_eq_true rfl), (Nat.le_of_ble_eq_true rfl)⟩ ?_
  exact cb_iret (pc := 7) O Rt (by split <;> rfl) (Nat.le_of_ble_eq_true rfl) (Nat.le_of_ble_eq_true rfl) dX10_isInk_7 ⟨rfl, rfl⟩

theorem c_X10_isColour (w : cb_W) (v : Int32) : cb_Pu yX10_isColour cX10_isColour 1 (some .boolean) 1 22 [.inl v] w (if 0 ≤ v ∧ v ≤ 15 then 1 else 0) := by
  refine cb_con (by decide) (Nat.le_of_ble_eq_true rfl) (fun κ O Rt hnm => ?_)
  show cb_X κ w 0 0 0 [some (.inl v)] []
  refine cb_iload_n (pc := 0) O dX10_isColour_0 rfl ?_
  refine cb_iconst (pc := 1) (v := 0) O dX10_isColour_1 (by decide) ?_
  refine cb_bipush (pc := 2) (v := 15) O dX10_isColour_2 (by decide) ?_
  refine cb_cSp (pc := 4) O (c_X10_within _ _ _ _) my_X10_within mt_X10_within ml_X10_81 dX10_isColour_4 rfl rfl ⟨(Nat.le_of_ble_eq_true rfl), (Nat.le_of_ble_eq_true rfl)⟩ (Nat.le_of_ble_eq_true rfl) rfl ⟨(Nat.le_of_ble_eq_true rfl), (Nat.le_of_ble_eq_true rfl)⟩ ?_
  exact cb_iret (pc := 7) O Rt (by split <;> rfl) (Nat.le_of_ble_eq_true rfl) (Nat.le_of_ble_eq_true rfl) dX10_isColour_7 ⟨rfl, rfl⟩

theorem c_X10_isInkSet (w : cb_W) (v : Int32) : cb_Pu yX10_isInkSet cX10_isInkSet 1 (some .boolean) 1 22 [.inl v] w (if 0 ≤ v ∧ v ≤ 1023 then 1 else 0) := by
  refine cb_con (by decide) (Nat.le_of_ble_eq_true rfl) (fun κ O Rt hnm => ?_)
  show cb_X κ w 0 0 0 [some (.inl v)] []
  refine cb_iload_n (pc := 0) O dX10_isInkSet_0 rfl ?_
  refine cb_iconst (pc := 1) (v := 0) O dX10_isInkSet_1 (by decide) ?_
  refine cb_sipush (pc := 2) (v := 1023) O dX10_isInkSet_2 (by decide) ?_
  refine cb_cSp (pc := 5) O (c_X10_within _ _ _ _) my_X10_within mt_X10_within ml_X10_81 dX10_isInkSet_5 rfl rfl ⟨(Nat.le_of_ble_eq_true rfl), (Nat.le_of_ble_eq_true rfl)⟩ (Nat.le_of_ble_eq_true rfl) rfl ⟨(Nat.le_of_ble_eq_true rfl), (Nat.le_of_ble_eq_true rfl)⟩ ?_
  exact cb_iret (pc := 8) O Rt (by split <;> rfl) (Nat.le_of_ble_eq_true rfl) (Nat.le_of_ble_eq_true rfl) dX10_isInkSet_8 ⟨rfl, rfl⟩

theorem c_X11_within (w : cb_W) (v a b : Int32) : cb_Pu yX11_within cX11_within 3 (some .boolean) 0 0 [.inl v, .inl a, .inl b] w (if a ≤ v ∧ v ≤ b then 1 else 0) := by
  refine cb_con (by decide) (Nat.le_of_ble_eq_true rfl) (fun κ O Rt hnm => ?_)
  show cb_X κ w 0 0 0 [some (.inl v), some (.inl a), some (.inl b)] []
  refine cb_iload_n (pc := 0) O dX11_within_0 rfl ?_
  refine cb_iload_n (pc := 1) O dX11_within_1 rfl ?_
  refine cb_icmp_lt (pc := 2) O 14 dX11_within_2 (by decide) (fun c_2 => ?_) (fun c_2 => ?_)
  · skip
    refine cb_iconst (pc := 14) (v := 0) O dX11_within_14 (by decide) ?_
    exact cb_iret (pc := 15) O Rt rfl (Nat.le_of_ble_eq_true rfl) (Nat.le_of_ble_eq_true rfl) dX11_within_15 ⟨by
        split <;> first | rfl | (exfalso; simp only [ci_lt, ci_le, ci_eq] at *; omega), rfl⟩
  · skip
    refine cb_iload_n (pc := 5) O dX11_within_5 rfl ?_
    refine cb_iload_n (pc := 6) O dX11_within_6 rfl ?_
    refine cb_icmp_gt (pc := 7) O 14 dX11_within_7 (by decide) (fun c_7 => ?_) (fun c_7 => ?_)
    · skip
      refine cb_iconst (pc := 14) (v := 0) O dX11_within_14 (by decide) ?_
      exact cb_iret (pc := 15) O Rt rfl (Nat.le_of_ble_eq_true rfl) (Nat.le_of_ble_eq_true rfl) dX11_within_15 ⟨by
          split <;> first | rfl | (exfalso; simp only [ci_lt, ci_le, ci_eq] at *; omega), rfl⟩
    · skip
      refine cb_iconst (pc := 10) (v := 1) O dX11_within_10 (by decide) ?_
      refine cb_goto (pc := 11) O 15 dX11_within_11 (by decide) ?_
      exact cb_iret (pc := 15) O Rt rfl (Nat.le_of_ble_eq_true rfl) (Nat.le_of_ble_eq_true rfl) dX11_within_15 ⟨by
          split <;> first | rfl | (exfalso; simp only [ci_lt, ci_le, ci_eq] at *; omega), rfl⟩

theorem c_X11_isInk (w : cb_W) (v : Int32) : cb_Pu yX11_isInk cX11_isInk 1 (some .boolean) 1 22 [.inl v] w (if 0 ≤ v ∧ v ≤ 9 then 1 else 0) := by
  refine cb_con (by decide) (Nat.le_of_ble_eq_true rfl) (fun κ O Rt hnm => ?_)
  show cb_X κ w 0 0 0 [some (.inl v)] []
  refine cb_iload_n (pc := 0) O dX11_isInk_0 rfl ?_
  refine cb_iconst (pc := 1) (v := 0) O dX11_isInk_1 (by decide) ?_
  refine cb_bipush (pc := 2) (v := 9) O dX11_isInk_2 (by decide) ?_
  refine cb_cSp (pc := 4) O (c_X11_within _ _ _ _) my_X11_within mt_X11_within ml_X11_90 dX11_isInk_4 rfl rfl ⟨(Nat.le_of_ble_eq_true rfl), (Nat.le_of_ble_eq_true rfl)⟩ (Nat.le_of_ble_eq_true rfl) rfl ⟨(Nat.le_of_ble_eq_true rfl), (Nat.le_of_ble_eq_true rfl)⟩ ?_
  exact cb_iret (pc := 7) O Rt (by split <;> rfl) (Nat.le_of_ble_eq_true rfl) (Nat.le_of_ble_eq_true rfl) dX11_isInk_7 ⟨rfl, rfl⟩

theorem c_X11_isColour (w : cb_W) (v : Int32) : cb_Pu yX11_isColour cX11_isColour 1 (some .boolean) 1 22 [.inl v] w (if 0 ≤ v ∧ v ≤ 15 then 1 else 0) := by
  refine cb_con (by decide) (Nat.le_of_ble_eq_true rfl) (fun κ O Rt hnm => ?_)
  show cb_X κ w 0 0 0 [some (.inl v)] []
  refine cb_iload_n (pc := 0) O dX11_isColour_0 rfl ?_
  refine cb_iconst (pc := 1) (v := 0) O dX11_isColour_1 (by decide) ?_
  refine cb_bipush (pc := 2) (v := 15) O dX11_isColour_2 (by decide) ?_
  refine cb_cSp (pc := 4) O (c_X11_within _ _ _ _) my_X11_within mt_X11_within ml_X11_90 dX11_isColour_4 rfl rfl ⟨(Nat.le_of_ble_eq_true rfl), (Nat.le_of_ble_eq_true rfl)⟩ (Nat.le_of_ble_eq_true rfl) rfl ⟨(Nat.le_of_ble_eq_true rfl), (Nat.le_of_ble_eq_true rfl)⟩ ?_
  exact cb_iret (pc := 7) O Rt (by split <;> rfl) (Nat.le_of_ble_eq_true rfl) (Nat.le_of_ble_eq_true rfl) dX11_isColour_7 ⟨rfl, rfl⟩

theorem c_X10_answer (w : cb_W) (v : Int32) : cb_Pu yX10_answer cX10_answer 1 (some .int) 0 0 [.inl v] w (if v = 0 then 0 else 1) := by
  refine cb_con (by decide) (Nat.le_of_ble_eq_true rfl) (fun κ O Rt hnm => ?_)
  show cb_X κ w 0 0 0 [some (.inl v)] []
  refine cb_iload_n (pc := 0) O dX10_answer_0 rfl ?_
  refine cb_if_eq (pc := 1) O 8 dX10_answer_1 (by decide) (fun c_1 => ?_) (fun c_1 => ?_)
  · skip
    refine cb_iconst (pc := 8) (v := 0) O dX10_answer_8 (by decide) ?_
    exact cb_iret (pc := 9) O Rt rfl (Nat.le_of_ble_eq_true rfl) (Nat.le_of_ble_eq_true rfl) dX10_answer_9 ⟨by simp [*], rfl⟩
  · skip
    refine cb_iconst (pc := 4) (v := 1) O dX10_answer_4 (by decide) ?_
    refine cb_goto (pc := 5) O 9 dX10_answer_5 (by decide) ?_
    exact cb_iret (pc := 9) O Rt rfl (Nat.le_of_ble_eq_true rfl) (Nat.le_of_ble_eq_true rfl) dX10_answer_9 ⟨by simp [*], rfl⟩

theorem c_X10_withoutPaper (w : cb_W) (v : Int32) : cb_Pu yX10_withoutPaper cX10_withoutPaper 1 (some .int) 0 0 [.inl v] w (v &&& (-2)) := by
  refine cb_con (by decide) (Nat.le_of_ble_eq_true rfl) (fun κ O Rt hnm => ?_)
  show cb_X κ w 0 0 0 [some (.inl v)] []
  refine cb_iload_n (pc := 0) O dX10_withoutPaper_0 rfl ?_
  refine cb_bipush (pc := 1) (v := (-2)) O dX10_withoutPaper_1 (by decide) ?_
  refine cb_iand (pc := 3) O dX10_withoutPaper_3 ?_
  exact cb_iret (pc := 4) O Rt rfl (Nat.le_of_ble_eq_true rfl) (Nat.le_of_ble_eq_true rfl) dX10_withoutPaper_4 ⟨rfl, rfl⟩

theorem c_X10_firstOf (w : cb_W) (v : Int32) : cb_Pu yX10_firstOf cX10_firstOf 1 (some .int) 0 0 [.inl v] w (v / 100) := by
  refine cb_con (by decide) (Nat.le_of_ble_eq_true rfl) (fun κ O Rt hnm => ?_)
  show cb_X κ w 0 0 0 [some (.inl v)] []
  refine cb_iload_n (pc := 0) O dX10_firstOf_0 rfl ?_
  refine cb_bipush (pc := 1) (v := 100) O dX10_firstOf_1 (by decide) ?_
  refine cb_idiv (pc := 3) O dX10_firstOf_3 (by decide) ?_
  exact cb_iret (pc := 4) O Rt rfl (Nat.le_of_ble_eq_true rfl) (Nat.le_of_ble_eq_true rfl) dX10_firstOf_4 ⟨rfl, rfl⟩

theorem c_X10_lastOf (w : cb_W) (v : Int32) : cb_Pu yX10_lastOf cX10_lastOf 1 (some .int) 0 0 [.inl v] w (v - v / 100 * 100) := by
  refine cb_con (by decide) (Nat.le_of_ble_eq_true rfl) (fun κ O Rt hnm => ?_)
  show cb_X κ w 0 0 0 [some (.inl v)] []
  refine cb_iload_n (pc := 0) O dX10_lastOf_0 rfl ?_
  refine cb_bipush (pc := 1) (v := 100) O dX10_lastOf_1 (by decide) ?_
  refine cb_irem (pc := 3) O dX10_lastOf_3 (by decide) ?_
  exact cb_iret (pc := 4) O Rt rfl (Nat.le_of_ble_eq_true rfl) (Nat.le_of_ble_eq_true rfl) dX10_lastOf_4 ⟨rfl, rfl⟩

theorem c_X10_has (w : cb_W) (s m : Int32) : cb_Pu yX10_has cX10_has 2 (some .boolean) 0 0 [.inl s, .inl m] w (if (s.toUInt32 >>> (m.toUInt32 &&& Int32.toUInt32 31)).toInt32 &&& 1 = 1 then 1 else 0) := by
  refine cb_con (by decide) (Nat.le_of_ble_eq_true rfl) (fun κ O Rt hnm => ?_)
  show cb_X κ w 0 0 0 [some (.inl s), some (.inl m)] []
  refine cb_iload_n (pc := 0) O dX10_has_0 rfl ?_
  refine cb_iload_n (pc := 1) O dX10_has_1 rfl ?_
  refine cb_iushr (pc := 2) O dX10_has_2 ?_
  refine cb_iconst (pc := 3) (v := 1) O dX10_has_3 (by decide) ?_
  refine cb_iand (pc := 4) O dX10_has_4 ?_
  refine cb_iconst (pc := 5) (v := 1) O dX10_has_5 (by decide) ?_
  refine cb_icmp_ne (pc := 6) O 13 dX10_has_6 (by decide) (fun c_6 => ?_) (fun c_6 => ?_)
  · skip
    refine cb_iconst (pc := 13) (v := 0) O dX10_has_13 (by decide) ?_
    exact cb_iret (pc := 14) O Rt rfl (Nat.le_of_ble_eq_true rfl) (Nat.le_of_ble_eq_true rfl) dX10_has_14 ⟨by simp [*], rfl⟩
  · skip
    refine cb_iconst (pc := 9) (v := 1) O dX10_has_9 (by decide) ?_
    refine cb_goto (pc := 10) O 14 dX10_has_10 (by decide) ?_
    exact cb_iret (pc := 14) O Rt rfl (Nat.le_of_ble_eq_true rfl) (Nat.le_of_ble_eq_true rfl) dX10_has_14 ⟨by simp [*], rfl⟩

theorem c_max (w : cb_W) (a b : Int32) : cb_Pu yJ9_max_7cf53 cJ9_max_7cf53 2 (some .int) 0 0 [.inl a, .inl b] w (if a < b then b else a) := by
  refine cb_conF (by decide +kernel) (Nat.le_of_ble_eq_true rfl) (fun κ O Rt hnm => ?_)
  show cb_X κ w 0 0 0 [some (.inl a), some (.inl b)] []
  refine cb_iload_n (pc := 0) O dJ9_max_7cf53_0 rfl ?_
  refine cb_iload_n (pc := 1) O dJ9_max_7cf53_1 rfl ?_
  refine cb_icmp_lt (pc := 2) O 9 dJ9_max_7cf53_2 (by decide) (fun c_2 => ?_) (fun c_2 => ?_)
  · skip
    refine cb_iload_n (pc := 9) O dJ9_max_7cf53_9 rfl ?_
    exact cb_iret (pc := 10) O Rt rfl (Nat.le_of_ble_eq_true rfl) (Nat.le_of_ble_eq_true rfl) dJ9_max_7cf53_10 ⟨by simp [*], rfl⟩
  · skip
    refine cb_iload_n (pc := 5) O dJ9_max_7cf53_5 rfl ?_
    refine cb_goto (pc := 6) O 10 dJ9_max_7cf53_6 (by decide) ?_
    exact cb_iret (pc := 10) O Rt rfl (Nat.le_of_ble_eq_true rfl) (Nat.le_of_ble_eq_true rfl) dJ9_max_7cf53_10 ⟨by simp [*], rfl⟩
end
section
abbrev ca_o (A : ca_A) (k : Nat) : Prop := k / 8 < A 0 0 ∧ k % 8 < A 0 1
abbrev ca_p (A : ca_A) (k : Nat) : Prop := ca_o A k ∧ A 10 k = 0 ∧ A 12 (A 11 k) = 0
def ca_I (A : ca_A) : Prop :=
  (A 0 0 ≤ 8 ∧ A 0 1 ≤ 8 ∧ A 0 12 ≤ 8 ∧ A 0 20 ≤ 20 ∧ A 0 26 ≤ 200 ∧ A 0 8 ≤ 99999 ∧ A 0 6 ≤ 999 ∧ A 0 28 ≤ 4 ∧ A 0 29 ≤ 4 ∧ A 0 33 ≤ 6) ∧
  ((A 0 0 = 0 → A 0 1 = 0 ∧ A 0 12 = 0 ∧ A 0 20 = 0 ∧ A 0 26 = 0) ∧ (0 < A 0 0 → 0 < A 0 1 ∧ 0 < A 0 12) ∧ (A 0 28 = 0 ↔ A 0 29 = 0)) ∧
  ((∀ i, A 3 i < 16) ∧ (∀ i, A 4 i ≤ 999) ∧ (∀ i, A 5 i ≤ 1) ∧ (∀ i, A 6 i < 10)) ∧
  ((∀ k, A 10 k ≤ 1) ∧ (∀ k, A 11 k < 8) ∧ (∀ k, ca_o A k → A 11 k < A 0 12) ∧ (∀ p, A 12 p ≤ 1)) ∧
  ((∀ i, A 15 i < 16) ∧ (∀ i, A 17 i ≤ A 0 26) ∧ (∀ i, A 18 i < 10) ∧ (∀ i, A 19 i ≤ 100998) ∧ (∀ s, A 20 s ≤ 1)) ∧
  ((∀ k, A 31 k < 16) ∧ (∀ k, A 33 k < 10) ∧ (∀ k, A 35 k ≤ 6)) ∧
  (∀ s, A 0 20 ≤ s → s < 20 → (∀ k, k < 64 → A 15 (64 * s + k) = 0 ∧ A 17 (64 * s + k) = 0 ∧ A 18 (64 * s + k) = 0 ∧ A 19 (64 * s + k) = 0) ∧ A 20 s = 0)
def cc_Lv (r : Nat) : Bool := decide (r < 17) || (decide (20 ≤ r) && decide (r < 28)) || (decide (100 ≤ r) && decide (r < 136))
def cc_Rf (r k : Nat) : Option Nat :=
  if r = 0 then ([some 1, some 2, some 3, some 4, some 5, some 6, some 7, some 20, some 26] : List (Option Nat)).getD k none
  else if r = 1 then ([some 8, some 9, some 10, some 11] : List (Option Nat)).getD k none
  else if r = 6 then ([some 12, some 13, some 1] : List (Option Nat)).getD k none
  else if r = 7 then ([some 14, some 16] : List (Option Nat)).getD k none
  else if r = 8 then (if k < 10 then some (100 + k) else none)
  else if r = 10 then (if k < 10 then some (110 + k) else none)
  else if r = 11 then (if k < 10 then some (120 + k) else none)
  else if r = 13 then (if k < 6 then some (130 + k) else none)
  else if r = 14 then ([some 15] : List (Option Nat)).getD k none
  else if r = 20 then ([none, none, some 21, some 22, some 23, none, some 24, some 25] : List (Option Nat)).getD k none
  else if r = 26 then ([none, none, some 27] : List (Option Nat)).getD k none
  else none
def cm_Lv (r : Nat) : Bool := decide (1000 ≤ r) && ((cb_sh r).1 != 9)
def cm_Rf (r k : Nat) : Option Nat := if r = 1000 then (if cb_ir 11 k && decide (k < 41) then some (1001 + k) else none) else none
def cb_CW (w : cb_W) : Prop := (∀ r, cc_Lv r = true → w.1 r = true) ∧ (∀ r k q, cc_Rf r k = some q → w.2.2 r k = some q)
def cb_MW (w : cb_W) : Prop := (∀ r, cm_Lv r = true → w.1 r = true) ∧ (∀ r k q, cm_Rf r k = some q → w.2.2 r k = some q)
def cm_I (w : cb_W) (A : ca_A) (z : Int32) : Prop := cb_MW w ∧ (∀ k i, ca_R k i = true → w.2.1 (1000 + k) i = ca_v k i (A k i)) ∧ w.2.1 1000 7 = z
def cc_B (M : Nat → Nat → Int32) (A : ca_A) : Prop := (M 20 0 = nI (A 0 0) ∧ M 20 1 = nI (A 0 1) ∧ M 20 5 = nI (A 0 12)) ∧ (∀ k, k < 64 → M 21 k = nI (if ca_o A k ∧ A 10 k = 0 then 1 else 0)) ∧ (∀ k, k < 64 → M 22 k = nI (A 11 k)) ∧ (∀ p, p < A 0 12 → M 23 p = nI (1 - A 12 p))
def cc_N (M : Nat → Nat → Int32) (A : ca_A) (z : Int32) : Prop := M 0 9 = nI (A 0 20) ∧ M 0 10 = nI (A 0 26) ∧ M 0 11 = nI (A 0 8) ∧ M 2 0 = z ∧ M 2 1 = nI (A 0 6)
def cc_K (M : Nat → Nat → Int32) (A : ca_A) : Prop := (∀ i c, i < 10 → c < 16 → M (100 + i) c = nI (A 3 (16 * i + c))) ∧ (∀ i, i < 10 → M 9 i = nI (A 4 i)) ∧ (∀ i j, i < 10 → j < 10 → M (110 + i) j = nI (A 5 (10 * i + j))) ∧ (∀ i j, i < 10 → j < 10 → M (120 + i) j = nI (A 6 (10 * i + j)))
def cc_S (w : cb_W) (A : ca_A) : Prop := (∀ s, s < A 0 20 → (∀ j, j < 6 → w.1 (200 + 6 * s + j) = true) ∧ w.2.2 3 s = some (200 + 6 * s) ∧ (∀ j, j < 5 → w.2.2 (200 + 6 * s) j = some (201 + 6 * s + j)) ∧ w.2.1 (200 + 6 * s) 5 = nI (1 - A 20 s) ∧
    (∀ k, k < 64 → w.2.1 (201 + 6 * s) k = nI (A 15 (64 * s + k)) ∧ w.2.1 (202 + 6 * s) k = nI (A 18 (64 * s + k)) ∧ w.2.1 (203 + 6 * s) k = nI (A 16 (64 * s + k)) - 1 ∧ w.2.1 (204 + 6 * s) k = nI (A 17 (64 * s + k)) ∧ w.2.1 (205 + 6 * s) k = nI (A 19 (64 * s + k)))) ∧
  (∀ s, A 0 20 ≤ s → s < 20 → ∀ j, j < 6 → w.1 (200 + 6 * s + j) = false)
def cc_E (w : cb_W) (A : ca_A) : Prop := (∀ p, p < A 0 26 → w.1 (400 + p) = true ∧ w.2.2 4 p = some (400 + p) ∧ w.2.1 (400 + p) 0 = nI (A 22 p) ∧ w.2.1 (400 + p) 1 = nI (A 23 p) ∧ w.2.1 (400 + p) 2 = nI (A 24 p) - 1 ∧ w.2.1 (400 + p) 3 = nI (A 25 p) ∧ w.2.1 (400 + p) 4 = nI (A 26 p)) ∧ (∀ p, A 0 26 ≤ p → p < 200 → w.1 (400 + p) = false)
def cc_P (M : Nat → Nat → Int32) (A : ca_A) : Prop := M 26 0 = nI (A 0 28) ∧ M 26 1 = nI (A 0 29) ∧ (∀ k, k < 16 → M 27 k = nI (A 31 k))
def cc_L (M : Nat → Nat → Int32) (A : ca_A) : Prop := M 14 1 = nI (A 0 33 - 1) ∧ (∀ k, k < A 0 33 - 1 → M 15 k = nI (A 33 k)) ∧ (∀ k, k < 16 → M 16 k = (if A 0 33 = 0 then -1 else nI (A 35 k) - 1))
def cc_I (w : cb_W) (A : ca_A) (z : Int32) : Prop := cb_CW w ∧ cc_B w.2.1 A ∧ cc_N w.2.1 A z ∧ cc_K w.2.1 A ∧ cc_S w A ∧ cc_E w A ∧ cc_P w.2.1 A ∧ cc_L w.2.1 A ∧ (∀ r, 30 ≤ r → r < 46 → w.1 r = false) ∧ (∀ r, 1100 ≤ r → w.1 r = false)
def cb_M1 (w w' : cb_W) : Prop := ∀ r, 1000 ≤ r → w'.1 r = w.1 r ∧ w'.2.1 r = w.2.1 r ∧ w'.2.2 r = w.2.2 r
def cb_C1 (w w' : cb_W) : Prop := ∀ r, r < 1000 → w'.1 r = w.1 r ∧ w'.2.1 r = w.2.1 r ∧ w'.2.2 r = w.2.2 r
theorem cb_M1.rfl' {w : cb_W} : cb_M1 w w := fun _ _ => ⟨rfl, rfl, rfl⟩
theorem cb_C1.rfl' {w : cb_W} : cb_C1 w w := fun _ _ => ⟨rfl, rfl, rfl⟩
theorem cb_M1.trans {a b c : cb_W} (h1 : cb_M1 a b) (h2 : cb_M1 b c) : cb_M1 a c := fun r hr => ⟨(h2 r hr).1.trans (h1 r hr).1, (h2 r hr).2.1.trans (h1 r hr).2.1, (h2 r hr).2.2.trans (h1 r hr).2.2⟩
theorem cb_C1.trans {a b c : cb_W} (h1 : cb_C1 a b) (h2 : cb_C1 b c) : cb_C1 a c := fun r hr => ⟨(h2 r hr).1.trans (h1 r hr).1, (h2 r hr).2.1.trans (h1 r hr).2.1, (h2 r hr).2.2.trans (h1 r hr).2.2⟩
theorem cb_M1.um {w w' : cb_W} {r k : Nat} {x : Int32} (h : cb_M1 w w') (hr : r < 1000) : cb_M1 w (cb_um w' r k x) := fun q hq => ⟨(h q hq).1, by show cb_u2 w'.2.1 r k x q = _; rw [cb_u2r (by omega)]; exact (h q hq).2.1, (h q hq).2.2⟩
theorem cb_C1.um {w w' : cb_W} {r k : Nat} {x : Int32} (h : cb_C1 w w') (hr : 1000 ≤ r) : cb_C1 w (cb_um w' r k x) := fun q hq => ⟨(h q hq).1, by show cb_u2 w'.2.1 r k x q = _; rw [cb_u2r (by omega)]; exact (h q hq).2.1, (h q hq).2.2⟩
theorem cb_M1.ur {w w' : cb_W} {r k : Nat} {x : Option Nat} (h : cb_M1 w w') (hr : r < 1000) : cb_M1 w (cb_ur w' r k x) := fun q hq => ⟨(h q hq).1, (h q hq).2.1, by show cb_u2 w'.2.2 r k x q = _; rw [cb_u2r (by omega)]; exact (h q hq).2.2⟩
theorem cm_Lv_lo {r : Nat} (h : cm_Lv r = true) : 1000 ≤ r := by simp [cm_Lv] at h; exact h.1
theorem cm_Rf_lo {r k q : Nat} (h : cm_Rf r k = some q) : r = 1000 := by
  unfold cm_Rf at h
  by_cases e : r = 1000
  · exact e
  · rw [if_neg e] at h; cases h
theorem cc_Lv_lo {r : Nat} (h : cc_Lv r = true) : r < 1000 := by simp [cc_Lv] at h; omega
theorem cc_Rf_lo {r k q : Nat} (h : cc_Rf r k = some q) : r < 27 := by
  rcases Nat.lt_or_ge r 27 with h1 | h1
  · exact h1
  · unfold cc_Rf at h
    rw [if_neg (by omega), if_neg (by omega), if_neg (by omega), if_neg (by omega), if_neg (by omega), if_neg (by omega), if_neg (by omega), if_neg (by omega), if_neg (by omega), if_neg (by omega), if_neg (by omega)] at h
    cases h
theorem cm_I.mv {w w' : cb_W} {A : ca_A} {z : Int32} (h : cm_I w A z) (h1 : cb_M1 w w') : cm_I w' A z := by
  obtain ⟨⟨a1, a2⟩, a3, a4⟩ := h
  refine ⟨⟨fun r hr => by rw [(h1 r (cm_Lv_lo hr)).1]; exact a1 r hr, fun r k q hq => by rw [(h1 r (by rw [cm_Rf_lo hq]; decide)).2.2]; exact a2 r k q hq⟩, fun k i hk => by rw [(h1 (1000 + k) (by omega)).2.1]; exact a3 k i hk, by rw [(h1 1000 (by decide)).2.1]; exact a4⟩
theorem cc_I.mv {w w' : cb_W} {A : ca_A} {z : Int32} (h : cc_I w A z) (h1 : cb_C1 w w') (h2 : ∀ r, 1100 ≤ r → w'.1 r = false) (hI : ca_I A) : cc_I w' A z := by
  obtain ⟨⟨a1, a2⟩, ⟨b1, b2, b3, b4⟩, ⟨c1, c2, c3, c4, c5⟩, ⟨d1, d2, d3, d4⟩, ⟨e1, e2⟩, ⟨f1, f2⟩, ⟨g1, g2, g3⟩, ⟨k1, k2, k3⟩, l1, l2⟩ := h
  have hm : ∀ r, r < 1000 → w'.2.1 r = w.2.1 r := fun r hr => (h1 r hr).2.1
  have hv : ∀ r, r < 1000 → w'.1 r = w.1 r := fun r hr => (h1 r hr).1
  have hr' : ∀ r, r < 1000 → w'.2.2 r = w.2.2 r := fun r hr => (h1 r hr).2.2
  have hS := hI.1.2.2.2.1
  have hN := hI.1.2.2.2.2.1
  refine ⟨⟨fun r hr => by rw [hv r (cc_Lv_lo hr)]; exact a1 r hr, fun r k q hq => by rw [hr' r (by have := cc_Rf_lo hq; omega)]; exact a2 r k q hq⟩, ⟨?_, ?_, ?_, ?_⟩, ?_, ⟨?_, ?_, ?_, ?_⟩, ⟨?_, ?_⟩, ⟨?_, ?_⟩, ?_, ?_, ?_, h2⟩
  · rw [hm 20 (by decide)]; exact b1
  · intro k hk; rw [hm 21 (by decide)]; exact b2 k hk
  · intro k hk; rw [hm 22 (by decide)]; exact b3 k hk
  · intro k hk; rw [hm 23 (by decide)]; exact b4 k hk
  · unfold cc_N; rw [hm 0 (by decide), hm 2 (by decide)]; exact ⟨c1, c2, c3, c4, c5⟩
  · intro i c hi hc; rw [hm _ (by omega)]; exact d1 i c hi hc
  · intro i hi; rw [hm _ (by omega)]; exact d2 i hi
  · intro i c hi hc; rw [hm _ (by omega)]; exact d3 i c hi hc
  · intro i c hi hc; rw [hm _ (by omega)]; exact d4 i c hi hc
  · intro s hs
    obtain ⟨x1, x2, x3, x4, x5⟩ := e1 s hs
    refine ⟨fun j hj => by rw [hv _ (by omega)]; exact x1 j hj, by rw [hr' 3 (by decide)]; exact x2, fun j hj => by rw [hr' _ (by omega)]; exact x3 j hj, by rw [hm _ (by omega)]; exact x4, fun k hk => ?_⟩
    rw [hm _ (by omega), hm _ (by omega), hm _ (by omega), hm _ (by omega), hm _ (by omega)]
    exact x5 k hk
  · intro s hs hs2 j hj; rw [hv _ (by omega)]; exact e2 s hs hs2 j hj
  · intro p hp
    rw [hv _ (by omega), hr' 4 (by decide), hm _ (by omega)]
    exact f1 p hp
  · intro p hp hp2; rw [hv _ (by omega)]; exact f2 p hp hp2
  · unfold cc_P; rw [hm 26 (by decide), hm 27 (by decide)]; exact ⟨g1, g2, g3⟩
  · unfold cc_L; rw [hm 14 (by decide), hm 15 (by decide), hm 16 (by decide)]; exact ⟨k1, k2, k3⟩
  · intro r h3 h4; rw [hv _ (by omega)]; exact l1 r h3 h4
end
section
theorem ci_in {x b : Int32} {n : Nat} (h : 0 ≤ x ∧ x ≤ b) (hb : b.toInt = (n : Int)) : ∃ j : Nat, j ≤ n ∧ x = nI j := by
  rw [ci_le, ci_le, hb] at h
  exact ci_of h
theorem ci_nz {n : Nat} (h : n < 2147483648) : (nI n).toNatClampNeg = n := nI_clamp h
theorem cb_CW.um {w : cb_W} {r k : Nat} {x : Int32} (h : cb_CW w) : cb_CW (cb_um w r k x) := h
theorem cb_MW.um {w : cb_W} {r k : Nat} {x : Int32} (h : cb_MW w) : cb_MW (cb_um w r k x) := h
theorem cc_B.cg {M M' : Nat → Nat → Int32} {A A' : ca_A} (h : cc_B M A) (hm : ∀ r k, (r = 20 ∧ (k = 0 ∨ k = 1 ∨ k = 5)) ∨ r = 21 ∨ r = 22 ∨ r = 23 → M' r k = M r k) (ha : ∀ k i, (k = 0 ∧ (i = 0 ∨ i = 1 ∨ i = 12)) ∨ k = 10 ∨ k = 11 ∨ k = 12 → A' k i = A k i) : cc_B M' A' := by
  obtain ⟨⟨b0, b1, b5⟩, b2, b3, b4⟩ := h
  refine ⟨⟨?_, ?_, ?_⟩, fun k hk => ?_, fun k hk => ?_, fun k hk => ?_⟩
  · rw [hm 20 0 (by omega), ha 0 0 (by omega)]; exact b0
  · rw [hm 20 1 (by omega), ha 0 1 (by omega)]; exact b1
  · rw [hm 20 5 (by omega), ha 0 12 (by omega)]; exact b5
  · rw [hm 21 k (by omega)]
    unfold ca_o
    rw [ha 0 0 (by omega), ha 0 1 (by omega), ha 10 k (by omega)]
    exact b2 k hk
  · rw [hm 22 k (by omega), ha 11 k (by omega)]; exact b3 k hk
  · rw [ha 0 12 (by omega)] at hk
    rw [hm 23 k (by omega), ha 12 k (by omega)]
    exact b4 k hk
theorem cc_N.cg {M M' : Nat → Nat → Int32} {A A' : ca_A} {z : Int32} (h : cc_N M A z) (hm : ∀ r k, (r = 0 ∧ (k = 9 ∨ k = 10 ∨ k = 11)) ∨ (r = 2 ∧ (k = 0 ∨ k = 1)) → M' r k = M r k) (ha : ∀ k i, k = 0 ∧ (i = 20 ∨ i = 26 ∨ i = 8 ∨ i = 6) → A' k i = A k i) : cc_N M' A' z := by
  obtain ⟨b0, b1, b2, b3, b4⟩ := h
  refine ⟨?_, ?_, ?_, ?_, ?_⟩
  · rw [hm 0 9 (by omega), ha 0 20 (by omega)]; exact b0
  · rw [hm 0 10 (by omega), ha 0 26 (by omega)]; exact b1
  · rw [hm 0 11 (by omega), ha 0 8 (by omega)]; exact b2
  · rw [hm 2 0 (by omega)]; exact b3
  · rw [hm 2 1 (by omega), ha 0 6 (by omega)]; exact b4
theorem cc_K.cg {M M' : Nat → Nat → Int32} {A A' : ca_A} (h : cc_K M A) (hm : ∀ r k, r = 9 ∨ (100 ≤ r ∧ r < 130) → M' r k = M r k) (ha : ∀ k i, k = 3 ∨ k = 4 ∨ k = 5 ∨ k = 6 → A' k i = A k i) : cc_K M' A' := by
  obtain ⟨b0, b1, b2, b3⟩ := h
  refine ⟨fun i c hi hc => ?_, fun i hi => ?_, fun i c hi hc => ?_, fun i c hi hc => ?_⟩
  · rw [hm _ _ (by omega), ha 3 _ (by omega)]; exact b0 i c hi hc
  · rw [hm _ _ (by omega), ha 4 _ (by omega)]; exact b1 i hi
  · rw [hm _ _ (by omega), ha 5 _ (by omega)]; exact b2 i c hi hc
  · rw [hm _ _ (by omega), ha 6 _ (by omega)]; exact b3 i c hi hc
theorem cc_S.cg {w w' : cb_W} {A A' : ca_A} (h : cc_S w A) (h20 : A 0 20 ≤ 20) (hv : ∀ r, 200 ≤ r → r < 320 → w'.1 r = w.1 r) (hr : ∀ r k, r = 3 ∨ (200 ≤ r ∧ r < 320) → w'.2.2 r k = w.2.2 r k) (hm : ∀ r k, 200 ≤ r → r < 320 → w'.2.1 r k = w.2.1 r k) (ha : ∀ k i, (k = 0 ∧ i = 20) ∨ (15 ≤ k ∧ k ≤ 20) → A' k i = A k i) : cc_S w' A' := by
  obtain ⟨e1, e2⟩ := h
  have h20' : A' 0 20 = A 0 20 := ha 0 20 (by omega)
  refine ⟨fun s hs => ?_, fun s hs hs2 j hj => ?_⟩
  · rw [h20'] at hs
    obtain ⟨x1, x2, x3, x4, x5⟩ := e1 s hs
    refine ⟨fun j hj => by rw [hv _ (by omega) (by omega)]; exact x1 j hj, by rw [hr 3 s (by omega)]; exact x2, fun j hj => by rw [hr _ _ (by omega)]; exact x3 j hj, by rw [hm _ _ (by omega) (by omega), ha 20 s (by omega)]; exact x4, fun k hk => ?_⟩
    rw [hm _ _ (by omega) (by omega), hm _ _ (by omega) (by omega), hm _ _ (by omega) (by omega), hm _ _ (by omega) (by omega), hm _ _ (by omega) (by omega), ha 15 _ (by omega), ha 16 _ (by omega), ha 17 _ (by omega), ha 18 _ (by omega), ha 19 _ (by omega)]
    exact x5 k hk
  · rw [h20'] at hs
    rw [hv _ (by omega) (by omega)]
    exact e2 s hs hs2 j hj
theorem cc_E.cg {w w' : cb_W} {A A' : ca_A} (h : cc_E w A) (h26 : A 0 26 ≤ 200) (hv : ∀ r, 400 ≤ r → r < 600 → w'.1 r = w.1 r) (hr : ∀ k, w'.2.2 4 k = w.2.2 4 k) (hm : ∀ r k, 400 ≤ r → r < 600 → w'.2.1 r k = w.2.1 r k) (ha : ∀ k i, (k = 0 ∧ i = 26) ∨ (22 ≤ k ∧ k ≤ 26) → A' k i = A k i) : cc_E w' A' := by
  obtain ⟨e1, e2⟩ := h
  have h20' : A' 0 26 = A 0 26 := ha 0 26 (by omega)
  refine ⟨fun s hs => ?_, fun s hs hs2 => ?_⟩
  · rw [h20'] at hs
    rw [hv _ (by omega) (by omega), hr s, hm _ _ (by omega) (by omega), hm _ _ (by omega) (by omega), hm _ _ (by omega) (by omega), hm _ _ (by omega) (by omega), hm _ _ (by omega) (by omega), ha 22 _ (by omega), ha 23 _ (by omega), ha 24 _ (by omega), ha 25 _ (by omega), ha 26 _ (by omega)]
    exact e1 s hs
  · rw [h20'] at hs
    rw [hv _ (by omega) (by omega)]
    exact e2 s hs hs2
theorem cc_P.cg {M M' : Nat → Nat → Int32} {A A' : ca_A} (h : cc_P M A) (hm : ∀ r k, (r = 26 ∧ (k = 0 ∨ k = 1)) ∨ r = 27 → M' r k = M r k) (ha : ∀ k i, (k = 0 ∧ (i = 28 ∨ i = 29)) ∨ k = 31 → A' k i = A k i) : cc_P M' A' := by
  obtain ⟨b0, b1, b2⟩ := h
  refine ⟨?_, ?_, fun k hk => ?_⟩
  · rw [hm 26 0 (by omega), ha 0 28 (by omega)]; exact b0
  · rw [hm 26 1 (by omega), ha 0 29 (by omega)]; exact b1
  · rw [hm 27 k (by omega), ha 31 k (by omega)]; exact b2 k hk
theorem cc_L.cg {M M' : Nat → Nat → Int32} {A A' : ca_A} (h : cc_L M A) (hm : ∀ r k, (r = 14 ∧ k = 1) ∨ r = 15 ∨ r = 16 → M' r k = M r k) (ha : ∀ k i, (k = 0 ∧ i = 33) ∨ k = 33 ∨ k = 35 → A' k i = A k i) : cc_L M' A' := by
  obtain ⟨b0, b1, b2⟩ := h
  have h33 : A' 0 33 = A 0 33 := ha 0 33 (by omega)
  refine ⟨?_, fun k hk => ?_, fun k hk => ?_⟩
  · rw [hm 14 1 (by omega), h33]; exact b0
  · rw [h33] at hk
    rw [hm 15 k (by omega), ha 33 k (by omega)]; exact b1 k hk
  · rw [hm 16 k (by omega), h33, ha 35 k (by omega)]; exact b2 k hk
theorem cm_I.um {w : cb_W} {A : ca_A} {z : Int32} {k i a : Nat} (h : cm_I w A z) (hz : ¬ (k = 0 ∧ i = 7)) (x : Int32) (hx : ca_R k i = true → x = ca_v k i a) : cm_I (cb_um w (1000 + k) i x) (cb_u2 A k i a) z := by
  obtain ⟨h1, h2, h3⟩ := h
  refine ⟨h1, fun k' i' hk => ?_, ?_⟩
  · show cb_u2 w.2.1 (1000 + k) i x (1000 + k') i' = ca_v k' i' (cb_u2 A k i a k' i')
    by_cases e : k' = k ∧ i' = i
    · obtain ⟨rfl, rfl⟩ := e
      rw [cb_u2s, cb_u2s]
      exact hx hk
    · rw [cb_u2n (by omega), cb_u2n (by omega)]
      exact h2 k' i' hk
  · show cb_u2 w.2.1 (1000 + k) i x 1000 7 = z
    rw [cb_u2n (by omega)]
    exact h3
theorem cm_I.sc {w : cb_W} {A : ca_A} {z : Int32} {k i : Nat} (h : cm_I w A z) (hz : ¬ (k = 0 ∧ i = 7)) (x : Int32) (hx : ca_R k i = false) : cm_I (cb_um w (1000 + k) i x) A z := by
  obtain ⟨h1, h2, h3⟩ := h
  refine ⟨h1, fun k' i' hk => ?_, ?_⟩
  · show cb_u2 w.2.1 (1000 + k) i x (1000 + k') i' = ca_v k' i' (A k' i')
    by_cases e : k' = k ∧ i' = i
    · obtain ⟨rfl, rfl⟩ := e
      rw [hx] at hk; cases hk
    · rw [cb_u2n (by omega)]
      exact h2 k' i' hk
  · show cb_u2 w.2.1 (1000 + k) i x 1000 7 = z
    rw [cb_u2n (by omega)]
    exact h3
theorem cm_at {w : cb_W} {A : ca_A} {z : Int32} (h : cm_I w A z) (k i : Nat) (hk : ca_R k i = true) (h1 : ¬ (k = 16 ∨ k = 24 ∨ k = 35 ∨ (k = 0 ∧ i = 33))) : w.2.1 (1000 + k) i = nI (A k i) := by
  rw [h.2.1 k i hk, ca_v, if_neg h1]
theorem sh_mk {i : Nat} (h : i < 10) : cb_sh (100 + i) = (1, 16) := by
  unfold cb_sh
  rw [if_neg (by omega), if_neg (by omega), if_pos (by omega)]
theorem sh_cl {i : Nat} (h : i < 10) : cb_sh (110 + i) = (1, 10) := by
  unfold cb_sh
  rw [if_neg (by omega), if_neg (by omega), if_neg (by omega), if_pos (by omega)]
theorem sh_mx {i : Nat} (h : i < 10) : cb_sh (120 + i) = (1, 10) := by
  unfold cb_sh
  rw [if_neg (by omega), if_neg (by omega), if_neg (by omega), if_pos (by omega)]
theorem sh_en {i : Nat} (h : i < 6) : cb_sh (130 + i) = (1, 16) := by
  unfold cb_sh
  rw [if_neg (by omega), if_neg (by omega), if_neg (by omega), if_neg (by omega), if_pos (by omega)]
theorem sh_s0 {s : Nat} (h : s < 20) : cb_sh (200 + 6 * s) = (0, 9) := by
  unfold cb_sh
  rw [if_neg (by omega), if_neg (by omega), if_neg (by omega), if_neg (by omega), if_neg (by omega), if_neg (by omega), if_pos (by omega), if_pos (by omega)]
theorem sh_sj {s j r : Nat} (h : s < 20) (hj : j < 5) (hr : r = 201 + 6 * s + j) : cb_sh r = (1, 64) := by
  subst hr
  unfold cb_sh
  rw [if_neg (by omega), if_neg (by omega), if_neg (by omega), if_neg (by omega), if_neg (by omega), if_neg (by omega), if_pos (by omega), if_neg (by omega)]
theorem sh_e {p : Nat} (h : p < 200) : cb_sh (400 + p) = (0, 2) := by
  unfold cb_sh
  rw [if_neg (by omega), if_neg (by omega), if_neg (by omega), if_neg (by omega), if_neg (by omega), if_neg (by omega), if_neg (by omega), if_neg (by omega), if_pos (by omega)]
theorem lv_f {r : Nat} (h : 100 ≤ r ∧ r < 136) : cc_Lv r = true := by simp [cc_Lv]; omega
end
section
theorem c_X10_replace (w : cb_W) (r n j : Nat) (v : Int32) (hs : cb_sh r = (1, n)) (hr : w.1 r = true) (hj : j < n) (hn : n ≤ 10000) : cb_Con yX10_replace cX10_replace 4 (some .int) 0 0 0 0 (fun _ => true) [.inr (some r), .inl (nI j), .inl v] w (cb_pi (fun x w' => x = w.2.1 r j ∧ w' = cb_um w r j v)) := by
  refine cb_con (by decide) (Nat.le_of_ble_eq_true rfl) (fun κ O Rt hnm => ?_)
  show cb_X κ w 0 0 0 [some (.inr (some r)), some (.inl (nI j)), some (.inl v), none] []
  refine cb_aload_n (pc := 0) O dX10_replace_0 rfl ?_
  refine cb_iload_n (pc := 1) O dX10_replace_1 rfl ?_
  refine cb_iald (pc := 2) O _ hs dX10_replace_2 (by omega) hr rfl hj ?_
  refine cb_istore_n (pc := 3) O dX10_replace_3 (by decide) ?_
  dsimp only [List.set]
  refine cb_aload_n (pc := 4) O dX10_replace_4 rfl ?_
  refine cb_iload_n (pc := 5) O dX10_replace_5 rfl ?_
  refine cb_iload_n (pc := 6) O dX10_replace_6 rfl ?_
  refine cb_iast (pc := 7) O _ hs dX10_replace_7 (by omega) hr rfl hj ?_
  refine cb_iload_n (pc := 8) O dX10_replace_8 rfl ?_
  exact cb_iret (pc := 9) O Rt rfl (Nat.le_of_ble_eq_true rfl) (Nat.le_of_ble_eq_true rfl) dX10_replace_9 ⟨rfl, rfl⟩

abbrev sv_table (i c m : Int32) : Prop := (0 ≤ i ∧ i ≤ 9) ∧ (0 ≤ c ∧ c ≤ 15) ∧ (0 ≤ m ∧ m ≤ 15)
def sr_table (A : ca_A) (i c m : Int32) : Int32 := if sv_table i c m then nI (A 3 (16 * i.toNatClampNeg + c.toNatClampNeg)) else -1
def sA_table (A : ca_A) (i c m : Int32) : ca_A := if sv_table i c m then cb_u2 A 3 (16 * i.toNatClampNeg + c.toNatClampNeg) m.toNatClampNeg else A
abbrev sv_drying (i m : Int32) : Prop := (0 ≤ i ∧ i ≤ 9) ∧ (0 ≤ m ∧ m ≤ 999)
def sr_drying (A : ca_A) (i m : Int32) : Int32 := if sv_drying i m then nI (A 4 i.toNatClampNeg) else -1
def sA_drying (A : ca_A) (i m : Int32) : ca_A := if sv_drying i m then cb_u2 A 4 i.toNatClampNeg m.toNatClampNeg else A
abbrev sv_against (i j m : Int32) : Prop := (0 ≤ i ∧ i ≤ 9) ∧ (0 ≤ j ∧ j ≤ 9) ∧ (0 ≤ m ∧ m ≤ 1)
def sr_against (A : ca_A) (i j m : Int32) : Int32 := if sv_against i j m then nI (A 5 (10 * i.toNatClampNeg + j.toNatClampNeg)) else -1
def sA_against (A : ca_A) (i j m : Int32) : ca_A := if sv_against i j m then cb_u2 A 5 (10 * i.toNatClampNeg + j.toNatClampNeg) m.toNatClampNeg else A
abbrev sv_mixed (p q m : Int32) : Prop := (0 ≤ p ∧ p ≤ 9) ∧ (0 ≤ q ∧ q ≤ 9) ∧ p ≠ q ∧ (0 ≤ m ∧ m ≤ 9)
def sr_mixed (A : ca_A) (p q m : Int32) : Int32 := if sv_mixed p q m then nI (A 6 (10 * p.toNatClampNeg + q.toNatClampNeg)) else -1
def sA_mixed (A : ca_A) (p q m : Int32) : ca_A := if sv_mixed p q m then cb_u2 (cb_u2 A 6 (10 * p.toNatClampNeg + q.toNatClampNeg) m.toNatClampNeg) 6 (10 * q.toNatClampNeg + p.toNatClampNeg) m.toNatClampNeg else A
theorem ci_m16 (i c : Nat) : (16 : Int32) * nI i + nI c = nI (16 * i + c) := by rw [show (16 : Int32) = nI 16 from rfl, pk_mul, nI_add]
theorem ci_m10 (i c : Nat) : (10 : Int32) * nI i + nI c = nI (10 * i + c) := by rw [show (10 : Int32) = nI 10 from rfl, pk_mul, nI_add]
theorem cc_K.tab {M : Nat → Nat → Int32} {A : ca_A} {i c : Nat} (h : cc_K M A) (hi : i < 10) (hc : c < 16) (m : Nat) : cc_K (cb_u2 M (100 + i) c (nI m)) (cb_u2 A 3 (16 * i + c) m) := by
  obtain ⟨d1, d2, d3, d4⟩ := h
  refine ⟨fun i2 c2 h1 h2 => ?_, fun i2 h1 => ?_, fun i2 c2 h1 h2 => ?_, fun i2 c2 h1 h2 => ?_⟩
  · by_cases e : i2 = i ∧ c2 = c
    · obtain ⟨rfl, rfl⟩ := e
      rw [cb_u2s, cb_u2s]
    · rw [cb_u2n (by omega), cb_u2n (by omega)]
      exact d1 i2 c2 h1 h2
  · rw [cb_u2n (by omega), cb_u2n (by omega)]
    exact d2 i2 h1
  · rw [cb_u2n (by omega), cb_u2n (by omega)]
    exact d3 i2 c2 h1 h2
  · rw [cb_u2n (by omega), cb_u2n (by omega)]
    exact d4 i2 c2 h1 h2
theorem cc_K.dry {M : Nat → Nat → Int32} {A : ca_A} {i : Nat} (h : cc_K M A) (hi : i < 10) (m : Nat) : cc_K (cb_u2 M 9 i (nI m)) (cb_u2 A 4 i m) := by
  obtain ⟨d1, d2, d3, d4⟩ := h
  refine ⟨fun i2 c2 h1 h2 => ?_, fun i2 h1 => ?_, fun i2 c2 h1 h2 => ?_, fun i2 c2 h1 h2 => ?_⟩
  · rw [cb_u2n (by omega), cb_u2n (by omega)]
    exact d1 i2 c2 h1 h2
  · by_cases e : i2 = i
    · subst e
      rw [cb_u2s, cb_u2s]
    · rw [cb_u2n (by omega), cb_u2n (by omega)]
      exact d2 i2 h1
  · rw [cb_u2n (by omega), cb_u2n (by omega)]
    exact d3 i2 c2 h1 h2
  · rw [cb_u2n (by omega), cb_u2n (by omega)]
    exact d4 i2 c2 h1 h2
theorem cc_K.cla {M : Nat → Nat → Int32} {A : ca_A} {i c : Nat} (h : cc_K M A) (hi : i < 10) (hc : c < 10) (m : Nat) : cc_K (cb_u2 M (110 + i) c (nI m)) (cb_u2 A 5 (10 * i + c) m) := by
  obtain ⟨d1, d2, d3, d4⟩ := h
  refine ⟨fun i2 c2 h1 h2 => ?_, fun i2 h1 => ?_, fun i2 c2 h1 h2 => ?_, fun i2 c2 h1 h2 => ?_⟩
  · rw [cb_u2n (by omega), cb_u2n (by omega)]
    exact d1 i2 c2 h1 h2
  · rw [cb_u2n (by omega), cb_u2n (by omega)]
    exact d2 i2 h1
  · by_cases e : i2 = i ∧ c2 = c
    · obtain ⟨rfl, rfl⟩ := e
      rw [cb_u2s, cb_u2s]
    · rw [cb_u2n (by omega), cb_u2n (by omega)]
      exact d3 i2 c2 h1 h2
  · rw [cb_u2n (by omega), cb_u2n (by omega)]
    exact d4 i2 c2 h1 h2
theorem cc_K.mix {M : Nat → Nat → Int32} {A : ca_A} {i c : Nat} (h : cc_K M A) (hi : i < 10) (hc : c < 10) (m : Nat) : cc_K (cb_u2 M (120 + i) c (nI m)) (cb_u2 A 6 (10 * i + c) m) := by
  obtain ⟨d1, d2, d3, d4⟩ := h
  refine ⟨fun i2 c2 h1 h2 => ?_, fun i2 h1 => ?_, fun i2 c2 h1 h2 => ?_, fun i2 c2 h1 h2 => ?_⟩
  · rw [cb_u2n (by omega), cb_u2n (by omega)]
    exact d1 i2 c2 h1 h2
  · rw [cb_u2n (by omega), cb_u2n (by omega)]
    exact d2 i2 h1
  · rw [cb_u2n (by omega), cb_u2n (by omega)]
    exact d3 i2 c2 h1 h2
  · by_cases e : i2 = i ∧ c2 = c
    · obtain ⟨rfl, rfl⟩ := e
      rw [cb_u2s, cb_u2s]
    · rw [cb_u2n (by omega), cb_u2n (by omega)]
      exact d4 i2 c2 h1 h2
theorem cb_u2c {α : Type} (M : Nat → Nat → α) (k i j : Nat) (v : α) : cb_u2 (cb_u2 M k i v) k j v = cb_u2 (cb_u2 M k j v) k i v := by
  funext a b
  unfold cb_u2
  by_cases h1 : a = k
  · by_cases h2 : b = i
    · by_cases h3 : b = j <;> simp [h1, h2, h3]
    · by_cases h3 : b = j <;> simp [h1, h2, h3]
  · simp [h1]
theorem k_table (w : cb_W) (A : ca_A) (z : Int32) (hI : ca_I A) (hC : cc_I w A z) (i c m : Int32) : cb_Con yX10_table cX10_table 4 (some .int) 2 42 0 0 (fun _ => true) [.inr (some 0), .inl i, .inl c, .inl m] w (cb_pi (fun x w' => x = sr_table A i c m ∧ cc_I w' (sA_table A i c m) z ∧ cb_M1 w w')) := by
  refine cb_con (by decide) (Nat.le_of_ble_eq_true rfl) (fun κ O Rt hnm => ?_)
  show cb_X κ w 0 0 0 [some (.inr (some 0)), some (.inl i), some (.inl c), some (.inl m)] []
  refine cb_iload_n (pc := 0) O dX10_table_0 rfl ?_
  refine cb_cSp (pc := 1) O (c_X10_isInk _ _) my_X10_isInk mt_X10_isInk ml_X10_89 dX10_table_1 rfl rfl ⟨(Nat.le_of_ble_eq_true rfl), (Nat.le_of_ble_eq_true rfl)⟩ (Nat.le_of_ble_eq_true rfl) rfl ⟨(Nat.le_of_ble_eq_true rfl), (Nat.le_of_ble_eq_true rfl)⟩ ?_
  refine cb_ifp_eq (pc := 4) O 21 dX10_table_4 (by decide) (fun c_4 => ?_) (fun c_4 => ?_)
  · skip
    refine cb_iconst (pc := 21) (v := (-1)) O dX10_table_21 (by decide) ?_
    exact cb_iret (pc := 22) O Rt rfl (Nat.le_of_ble_eq_true rfl) (Nat.le_of_ble_eq_true rfl) dX10_table_22 (by
      have hv : ¬ sv_table i c m := by simp only [sv_table]; simp [*]
      exact ⟨by rw [sr_table, if_neg hv], by rw [sA_table, if_neg hv]; exact hC, cb_M1.rfl'⟩)
  · skip
    refine cb_iload_n (pc := 7) O dX10_table_7 rfl ?_
    refine cb_cSp (pc := 8) O (c_X10_isColour _ _) my_X10_isColour mt_X10_isColour ml_X10_93 dX10_table_8 rfl rfl ⟨(Nat.le_of_ble_eq_true rfl), (Nat.le_of_ble_eq_true rfl)⟩ (Nat.le_of_ble_eq_true rfl) rfl ⟨(Nat.le_of_ble_eq_true rfl), (Nat.le_of_ble_eq_true rfl)⟩ ?_
    refine cb_ifp_eq (pc := 11) O 21 dX10_table_11 (by decide) (fun c_11 => ?_) (fun c_11 => ?_)
    · skip
      refine cb_iconst (pc := 21) (v := (-1)) O dX10_table_21 (by decide) ?_
      exact cb_iret (pc := 22) O Rt rfl (Nat.le_of_ble_eq_true rfl) (Nat.le_of_ble_eq_true rfl) dX10_table_22 (by
        have hv : ¬ sv_table i c m := by simp only [sv_table]; simp [*]
        exact ⟨by rw [sr_table, if_neg hv], by rw [sA_table, if_neg hv]; exact hC, cb_M1.rfl'⟩)
    · skip
      refine cb_iload_n (pc := 14) O dX10_table_14 rfl ?_
      refine cb_cSp (pc := 15) O (c_X10_isColour _ _) my_X10_isColour mt_X10_isColour ml_X10_93 dX10_table_15 rfl rfl ⟨(Nat.le_of_ble_eq_true rfl), (Nat.le_of_ble_eq_true rfl)⟩ (Nat.le_of_ble_eq_true rfl) rfl ⟨(Nat.le_of_ble_eq_true rfl), (Nat.le_of_ble_eq_true rfl)⟩ ?_
      refine cb_ifp_ne (pc := 18) O 23 dX10_table_18 (by decide) (fun c_18 => ?_) (fun c_18 => ?_)
      · skip
        have hv : sv_table i c m := ⟨c_4, c_11, c_18⟩
        obtain ⟨i, hi, rfl⟩ := ci_in (n := 9) c_4 rfl
        obtain ⟨c, hc, rfl⟩ := ci_in (n := 15) c_11 rfl
        obtain ⟨m, hm, rfl⟩ := ci_in (n := 15) c_18 rfl
        refine cb_aload_n (pc := 23) O dX10_table_23 rfl ?_
        refine cb_getR (pc := 24) O fl_X10_12 rfl rfl dX10_table_24 (hC.1.1 _ rfl) (hC.1.2 _ _ _ rfl) ?_
        refine cb_getR (pc := 27) O fl_X10_96 rfl rfl dX10_table_27 (hC.1.1 _ rfl) (hC.1.2 _ _ _ rfl) ?_
        refine cb_iload_n (pc := 30) O dX10_table_30 rfl ?_
        refine cb_aald (pc := 31) O i rfl (by decide) (by decide) dX10_table_31 (by decide) (hC.1.1 _ rfl) rfl (by omega) (hC.1.2 8 i (100 + i) (by simp [cc_Rf]; omega)) ?_
        refine cb_iload_n (pc := 32) O dX10_table_32 rfl ?_
        refine cb_iload_n (pc := 33) O dX10_table_33 rfl ?_
        refine cb_cSi (pc := 34) O (c_X10_replace w (100 + i) 16 c (nI m) (sh_mk (by omega)) (hC.1.1 _ (lv_f (by omega))) (by omega) (by decide)) my_X10_replace mt_X10_replace ml_X10_100 dX10_table_34 rfl rfl ⟨(Nat.le_of_ble_eq_true rfl), (Nat.le_of_ble_eq_true rfl)⟩ (Nat.le_of_ble_eq_true rfl) rfl ⟨(Nat.le_of_ble_eq_true rfl), (Nat.le_of_ble_eq_true rfl)⟩ (fun _ _ => rfl) (fun x_34 w_34 hp_34 => ?_)
        obtain ⟨rfl, rfl⟩ := hp_34
        exact cb_iret (pc := 37) O Rt rfl (Nat.le_of_ble_eq_true rfl) (Nat.le_of_ble_eq_true rfl) dX10_table_37 (by
          refine ⟨?_, ?_, cb_M1.rfl'.um (by omega)⟩
          · rw [sr_table, if_pos hv, ci_nz (by omega), ci_nz (by omega)]
            exact hC.2.2.2.1.1 i c (by omega) (by omega)
          · rw [sA_table, if_pos hv, ci_nz (by omega), ci_nz (by omega), ci_nz (by omega)]
            exact ⟨hC.1, hC.2.1.cg (fun r k h => by first | rfl | (simp only [cb_um, cb_ur]; repeat rw [cb_u2n (by omega)])) (fun k i h => by first | rfl | (repeat rw [cb_u2n (by omega)])), hC.2.2.1.cg (fun r k h => by first | rfl | (simp only [cb_um, cb_ur]; repeat rw [cb_u2n (by omega)])) (fun k i h => by first | rfl | (repeat rw [cb_u2n (by omega)])), hC.2.2.2.1.tab (by omega) (by omega) m, hC.2.2.2.2.1.cg hI.1.2.2.2.1 (fun r h1 h2 => rfl) (fun r k h => by first | rfl | (simp only [cb_um, cb_ur]; repeat rw [cb_u2n (by omega)])) (fun r k h1 h2 => by first | rfl | (simp only [cb_um, cb_ur]; repeat rw [cb_u2n (by omega)])) (fun k i h => by first | rfl | (repeat rw [cb_u2n (by omega)])), hC.2.2.2.2.2.1.cg hI.1.2.2.2.2.1 (fun r h1 h2 => rfl) (fun k => by first | rfl | (simp only [cb_ur]; repeat rw [cb_u2n (by omega)])) (fun r k h1 h2 => by first | rfl | (simp only [cb_um, cb_ur]; repeat rw [cb_u2n (by omega)])) (fun k i h => by first | rfl | (repeat rw [cb_u2n (by omega)])), hC.2.2.2.2.2.2.1.cg (fun r k h => by first | rfl | (simp only [cb_um, cb_ur]; repeat rw [cb_u2n (by omega)])) (fun k i h => by first | rfl | (repeat rw [cb_u2n (by omega)])), hC.2.2.2.2.2.2.2.1.cg (fun r k h => by first | rfl | (simp only [cb_um, cb_ur]; repeat rw [cb_u2n (by omega)])) (fun k i h => by first | rfl | (repeat rw [cb_u2n (by omega)])), hC.2.2.2.2.2.2.2.2.1, hC.2.2.2.2.2.2.2.2.2⟩)
      · skip
        refine cb_iconst (pc := 21) (v := (-1)) O dX10_table_21 (by decide) ?_
        exact cb_iret (pc := 22) O Rt rfl (Nat.le_of_ble_eq_true rfl) (Nat.le_of_ble_eq_true rfl) dX10_table_22 (by
          have hv : ¬ sv_table i c m := by simp only [sv_table]; simp [*]
          exact ⟨by rw [sr_table, if_neg hv], by rw [sA_table, if_neg hv]; exact hC, cb_M1.rfl'⟩)

theorem m_table (w : cb_W) (A : ca_A) (z : Int32) (hI : ca_I A) (hM : cm_I w A z) (i c m : Int32) : cb_Con yX11_table cX11_table 5 (some .int) 2 42 0 0 (fun _ => true) [.inr (some 1000), .inl i, .inl c, .inl m] w (cb_pi (fun x w' => x = sr_table A i c m ∧ cm_I w' (sA_table A i c m) z ∧ cb_C1 w w')) := by
  refine cb_con (by decide) (Nat.le_of_ble_eq_true rfl) (fun κ O Rt hnm => ?_)
  show cb_X κ w 0 0 0 [some (.inr (some 1000)), some (.inl i), some (.inl c), some (.inl m), none] []
  refine cb_iload_n (pc := 0) O dX11_table_0 rfl ?_
  refine cb_cSp (pc := 1) O (c_X11_isInk _ _) my_X11_isInk mt_X11_isInk ml_X11_103 dX11_table_1 rfl rfl ⟨(Nat.le_of_ble_eq_true rfl), (Nat.le_of_ble_eq_true rfl)⟩ (Nat.le_of_ble_eq_true rfl) rfl ⟨(Nat.le_of_ble_eq_true rfl), (Nat.le_of_ble_eq_true rfl)⟩ ?_
  refine cb_ifp_eq (pc := 4) O 21 dX11_table_4 (by decide) (fun c_4 => ?_) (fun c_4 => ?_)
  · skip
    refine cb_iconst (pc := 21) (v := (-1)) O dX11_table_21 (by decide) ?_
    exact cb_iret (pc := 22) O Rt rfl (Nat.le_of_ble_eq_true rfl) (Nat.le_of_ble_eq_true rfl) dX11_table_22 (by
      have hv : ¬ sv_table i c m := by simp only [sv_table]; simp [*]
      exact ⟨by rw [sr_table, if_neg hv], by rw [sA_table, if_neg hv]; exact hM, cb_C1.rfl'⟩)
  · skip
    refine cb_iload_n (pc := 7) O dX11_table_7 rfl ?_
    refine cb_cSp (pc := 8) O (c_X11_isColour _ _) my_X11_isColour mt_X11_isColour ml_X11_107 dX11_table_8 rfl rfl ⟨(Nat.le_of_ble_eq_true rfl), (Nat.le_of_ble_eq_true rfl)⟩ (Nat.le_of_ble_eq_true rfl) rfl ⟨(Nat.le_of_ble_eq_true rfl), (Nat.le_of_ble_eq_true rfl)⟩ ?_
    refine cb_ifp_eq (pc := 11) O 21 dX11_table_11 (by decide) (fun c_11 => ?_) (fun c_11 => ?_)
    · skip
      refine cb_iconst (pc := 21) (v := (-1)) O dX11_table_21 (by decide) ?_
      exact cb_iret (pc := 22) O Rt rfl (Nat.le_of_ble_eq_true rfl) (Nat.le_of_ble_eq_true rfl) dX11_table_22 (by
        have hv : ¬ sv_table i c m := by simp only [sv_table]; simp [*]
        exact ⟨by rw [sr_table, if_neg hv], by rw [sA_table, if_neg hv]; exact hM, cb_C1.rfl'⟩)
    · skip
      refine cb_iload_n (pc := 14) O dX11_table_14 rfl ?_
      refine cb_cSp (pc := 15) O (c_X11_isColour _ _) my_X11_isColour mt_X11_isColour ml_X11_107 dX11_table_15 rfl rfl ⟨(Nat.le_of_ble_eq_true rfl), (Nat.le_of_ble_eq_true rfl)⟩ (Nat.le_of_ble_eq_true rfl) rfl ⟨(Nat.le_of_ble_eq_true rfl), (Nat.le_of_ble_eq_true rfl)⟩ ?_
      refine cb_ifp_ne (pc := 18) O 23 dX11_table_18 (by decide) (fun c_18 => ?_) (fun c_18 => ?_)
      · skip
        have hv : sv_table i c m := ⟨c_4, c_11, c_18⟩
        obtain ⟨i, hi, rfl⟩ := ci_in (n := 9) c_4 rfl
        obtain ⟨c, hc, rfl⟩ := ci_in (n := 15) c_11 rfl
        obtain ⟨m, hm, rfl⟩ := ci_in (n := 15) c_18 rfl
        refine cb_aload_n (pc := 23) O dX11_table_23 rfl ?_
        refine cb_getR (pc := 24) O fl_X11_9 rfl rfl dX11_table_24 (hM.1.1 _ rfl) (hM.1.2 _ _ _ rfl) ?_
        refine cb_bipush (pc := 27) (v := 16) O dX11_table_27 (by decide) ?_
        refine cb_iload_n (pc := 29) O dX11_table_29 rfl ?_
        refine cb_imul (pc := 30) O dX11_table_30 ?_
        refine cb_iload_n (pc := 31) O dX11_table_31 rfl ?_
        refine cb_iadd (pc := 32) O dX11_table_32 ?_
        refine cb_iald (pc := 33) O (16 * i + c) rfl dX11_table_33 (by decide) (hM.1.1 _ rfl) (ci_m16 i c) (by omega) ?_
        refine cb_istore (pc := 34) O dX11_table_34 (by decide) ?_
        dsimp only [List.set]
        refine cb_aload_n (pc := 36) O dX11_table_36 rfl ?_
        refine cb_getR (pc := 37) O fl_X11_9 rfl rfl dX11_table_37 (hM.1.1 _ rfl) (hM.1.2 _ _ _ rfl) ?_
        refine cb_bipush (pc := 40) (v := 16) O dX11_table_40 (by decide) ?_
        refine cb_iload_n (pc := 42) O dX11_table_42 rfl ?_
        refine cb_imul (pc := 43) O dX11_table_43 ?_
        refine cb_iload_n (pc := 44) O dX11_table_44 rfl ?_
        refine cb_iadd (pc := 45) O dX11_table_45 ?_
        refine cb_iload_n (pc := 46) O dX11_table_46 rfl ?_
        refine cb_iast (pc := 47) O (16 * i + c) rfl dX11_table_47 (by decide) (hM.1.1 _ rfl) (ci_m16 i c) (by omega) ?_
        refine cb_iload (pc := 48) O dX11_table_48 rfl ?_
        exact cb_iret (pc := 50) O Rt rfl (Nat.le_of_ble_eq_true rfl) (Nat.le_of_ble_eq_true rfl) dX11_table_50 (by
          refine ⟨?_, ?_, cb_C1.rfl'.um (by omega)⟩
          · rw [sr_table, if_pos hv, ci_nz (by omega), ci_nz (by omega)]
            exact cm_at hM 3 _ (by simp [ca_R]; omega) (by omega)
          · rw [sA_table, if_pos hv, ci_nz (by omega), ci_nz (by omega), ci_nz (by omega)]
            exact hM.um (k := 3) (by omega) _ (fun _ => rfl))
      · skip
        refine cb_iconst (pc := 21) (v := (-1)) O dX11_table_21 (by decide) ?_
        exact cb_iret (pc := 22) O Rt rfl (Nat.le_of_ble_eq_true rfl) (Nat.le_of_ble_eq_true rfl) dX11_table_22 (by
          have hv : ¬ sv_table i c m := by simp only [sv_table]; simp [*]
          exact ⟨by rw [sr_table, if_neg hv], by rw [sA_table, if_neg hv]; exact hM, cb_C1.rfl'⟩)

theorem k_drying (w : cb_W) (A : ca_A) (z : Int32) (hI : ca_I A) (hC : cc_I w A z) (i m : Int32) : cb_Con yX10_drying cX10_drying 3 (some .int) 2 42 0 0 (fun _ => true) [.inr (some 0), .inl i, .inl m] w (cb_pi (fun x w' => x = sr_drying A i m ∧ cc_I w' (sA_drying A i m) z ∧ cb_M1 w w')) := by
  refine cb_con (by decide) (Nat.le_of_ble_eq_true rfl) (fun κ O Rt hnm => ?_)
  show cb_X κ w 0 0 0 [some (.inr (some 0)), some (.inl i), some (.inl m)] []
  refine cb_iload_n (pc := 0) O dX10_drying_0 rfl ?_
  refine cb_cSp (pc := 1) O (c_X10_isInk _ _) my_X10_isInk mt_X10_isInk ml_X10_89 dX10_drying_1 rfl rfl ⟨(Nat.le_of_ble_eq_true rfl), (Nat.le_of_ble_eq_true rfl)⟩ (Nat.le_of_ble_eq_true rfl) rfl ⟨(Nat.le_of_ble_eq_true rfl), (Nat.le_of_ble_eq_true rfl)⟩ ?_
  refine cb_ifp_eq (pc := 4) O 18 dX10_drying_4 (by decide) (fun c_4 => ?_) (fun c_4 => ?_)
  · skip
    refine cb_iconst (pc := 18) (v := (-1)) O dX10_drying_18 (by decide) ?_
    exact cb_iret (pc := 19) O Rt rfl (Nat.le_of_ble_eq_true rfl) (Nat.le_of_ble_eq_true rfl) dX10_drying_19 (by
      have hv : ¬ sv_drying i m := by simp only [sv_drying]; simp [*]
      exact ⟨by rw [sr_drying, if_neg hv], by rw [sA_drying, if_neg hv]; exact hC, cb_M1.rfl'⟩)
  · skip
    refine cb_iload_n (pc := 7) O dX10_drying_7 rfl ?_
    refine cb_iconst (pc := 8) (v := 0) O dX10_drying_8 (by decide) ?_
    refine cb_sipush (pc := 9) (v := 999) O dX10_drying_9 (by decide) ?_
    refine cb_cSp (pc := 12) O (c_X10_within _ _ _ _) my_X10_within mt_X10_within ml_X10_81 dX10_drying_12 rfl rfl ⟨(Nat.le_of_ble_eq_true rfl), (Nat.le_of_ble_eq_true rfl)⟩ (Nat.le_of_ble_eq_true rfl) rfl ⟨(Nat.le_of_ble_eq_true rfl), (Nat.le_of_ble_eq_true rfl)⟩ ?_
    refine cb_ifp_ne (pc := 15) O 20 dX10_drying_15 (by decide) (fun c_15 => ?_) (fun c_15 => ?_)
    · skip
      have hv : sv_drying i m := ⟨c_4, c_15⟩
      obtain ⟨i, hi, rfl⟩ := ci_in (n := 9) c_4 rfl
      obtain ⟨m, hm, rfl⟩ := ci_in (n := 999) c_15 rfl
      refine cb_aload_n (pc := 20) O dX10_drying_20 rfl ?_
      refine cb_getR (pc := 21) O fl_X10_12 rfl rfl dX10_drying_21 (hC.1.1 _ rfl) (hC.1.2 _ _ _ rfl) ?_
      refine cb_getR (pc := 24) O fl_X10_104 rfl rfl dX10_drying_24 (hC.1.1 _ rfl) (hC.1.2 _ _ _ rfl) ?_
      refine cb_iload_n (pc := 27) O dX10_drying_27 rfl ?_
      refine cb_iload_n (pc := 28) O dX10_drying_28 rfl ?_
      refine cb_cSi (pc := 29) O (c_X10_replace w 9 10 i (nI m) rfl (hC.1.1 _ rfl) (by omega) (by decide)) my_X10_replace mt_X10_replace ml_X10_100 dX10_drying_29 rfl rfl ⟨(Nat.le_of_ble_eq_true rfl), (Nat.le_of_ble_eq_true rfl)⟩ (Nat.le_of_ble_eq_true rfl) rfl ⟨(Nat.le_of_ble_eq_true rfl), (Nat.le_of_ble_eq_true rfl)⟩ (fun _ _ => rfl) (fun x_29 w_29 hp_29 => ?_)
      obtain ⟨rfl, rfl⟩ := hp_29
      exact cb_iret (pc := 32) O Rt rfl (Nat.le_of_ble_eq_true rfl) (Nat.le_of_ble_eq_true rfl) dX10_drying_32 (by
        refine ⟨?_, ?_, cb_M1.rfl'.um (by omega)⟩
        · rw [sr_drying, if_pos hv, ci_nz (by omega)]
          exact hC.2.2.2.1.2.1 i (by omega)
        · rw [sA_drying, if_pos hv, ci_nz (by omega), ci_nz (by omega)]
          exact ⟨hC.1, hC.2.1.cg (fun r k h => by first | rfl | (simp only [cb_um, cb_ur]; repeat rw [cb_u2n (by omega)])) (fun k i h => by first | rfl | (repeat rw [cb_u2n (by omega)])), hC.2.2.1.cg (fun r k h => by first | rfl | (simp only [cb_um, cb_ur]; repeat rw [cb_u2n (by omega)])) (fun k i h => by first | rfl | (repeat rw [cb_u2n (by omega)])), hC.2.2.2.1.dry (by omega) m, hC.2.2.2.2.1.cg hI.1.2.2.2.1 (fun r h1 h2 => rfl) (fun r k h => by first | rfl | (simp only [cb_um, cb_ur]; repeat rw [cb_u2n (by omega)])) (fun r k h1 h2 => by first | rfl | (simp only [cb_um, cb_ur]; repeat rw [cb_u2n (by omega)])) (fun k i h => by first | rfl | (repeat rw [cb_u2n (by omega)])), hC.2.2.2.2.2.1.cg hI.1.2.2.2.2.1 (fun r h1 h2 => rfl) (fun k => by first | rfl | (simp only [cb_ur]; repeat rw [cb_u2n (by omega)])) (fun r k h1 h2 => by first | rfl | (simp only [cb_um, cb_ur]; repeat rw [cb_u2n (by omega)])) (fun k i h => by first | rfl | (repeat rw [cb_u2n (by omega)])), hC.2.2.2.2.2.2.1.cg (fun r k h => by first | rfl | (simp only [cb_um, cb_ur]; repeat rw [cb_u2n (by omega)])) (fun k i h => by first | rfl | (repeat rw [cb_u2n (by omega)])), hC.2.2.2.2.2.2.2.1.cg (fun r k h => by first | rfl | (simp only [cb_um, cb_ur]; repeat rw [cb_u2n (by omega)])) (fun k i h => by first | rfl | (repeat rw [cb_u2n (by omega)])), hC.2.2.2.2.2.2.2.2.1, hC.2.2.2.2.2.2.2.2.2⟩)
    · skip
      refine cb_iconst (pc := 18) (v := (-1)) O dX10_drying_18 (by decide) ?_
      exact cb_iret (pc := 19) O Rt rfl (Nat.le_of_ble_eq_true rfl) (Nat.le_of_ble_eq_true rfl) dX10_drying_19 (by
        have hv : ¬ sv_drying i m := by simp only [sv_drying]; simp [*]
        exact ⟨by rw [sr_drying, if_neg hv], by rw [sA_drying, if_neg hv]; exact hC, cb_M1.rfl'⟩)

theorem m_drying (w : cb_W) (A : ca_A) (z : Int32) (hI : ca_I A) (hM : cm_I w A z) (i m : Int32) : cb_Con yX11_drying cX11_drying 4 (some .int) 2 42 0 0 (fun _ => true) [.inr (some 1000), .inl i, .inl m] w (cb_pi (fun x w' => x = sr_drying A i m ∧ cm_I w' (sA_drying A i m) z ∧ cb_C1 w w')) := by
  refine cb_con (by decide) (Nat.le_of_ble_eq_true rfl) (fun κ O Rt hnm => ?_)
  show cb_X κ w 0 0 0 [some (.inr (some 1000)), some (.inl i), some (.inl m), none] []
  refine cb_iload_n (pc := 0) O dX11_drying_0 rfl ?_
  refine cb_cSp (pc := 1) O (c_X11_isInk _ _) my_X11_isInk mt_X11_isInk ml_X11_103 dX11_drying_1 rfl rfl ⟨(Nat.le_of_ble_eq_true rfl), (Nat.le_of_ble_eq_true rfl)⟩ (Nat.le_of_ble_eq_true rfl) rfl ⟨(Nat.le_of_ble_eq_true rfl), (Nat.le_of_ble_eq_true rfl)⟩ ?_
  refine cb_ifp_eq (pc := 4) O 18 dX11_drying_4 (by decide) (fun c_4 => ?_) (fun c_4 => ?_)
  · skip
    refine cb_iconst (pc := 18) (v := (-1)) O dX11_drying_18 (by decide) ?_
    exact cb_iret (pc := 19) O Rt rfl (Nat.le_of_ble_eq_true rfl) (Nat.le_of_ble_eq_true rfl) dX11_drying_19 (by
      have hv : ¬ sv_drying i m := by simp only [sv_drying]; simp [*]
      exact ⟨by rw [sr_drying, if_neg hv], by rw [sA_drying, if_neg hv]; exact hM, cb_C1.rfl'⟩)
  · skip
    refine cb_iload_n (pc := 7) O dX11_drying_7 rfl ?_
    refine cb_iconst (pc := 8) (v := 0) O dX11_drying_8 (by decide) ?_
    refine cb_sipush (pc := 9) (v := 999) O dX11_drying_9 (by decide) ?_
    refine cb_cSp (pc := 12) O (c_X11_within _ _ _ _) my_X11_within mt_X11_within ml_X11_90 dX11_drying_12 rfl rfl ⟨(Nat.le_of_ble_eq_true rfl), (Nat.le_of_ble_eq_true rfl)⟩ (Nat.le_of_ble_eq_true rfl) rfl ⟨(Nat.le_of_ble_eq_true rfl), (Nat.le_of_ble_eq_true rfl)⟩ ?_
    refine cb_ifp_ne (pc := 15) O 20 dX11_drying_15 (by decide) (fun c_15 => ?_) (fun c_15 => ?_)
    · skip
      have hv : sv_drying i m := ⟨c_4, c_15⟩
      obtain ⟨i, hi, rfl⟩ := ci_in (n := 9) c_4 rfl
      obtain ⟨m, hm, rfl⟩ := ci_in (n := 999) c_15 rfl
      refine cb_aload_n (pc := 20) O dX11_drying_20 rfl ?_
      refine cb_getR (pc := 21) O fl_X11_13 rfl rfl dX11_drying_21 (hM.1.1 _ rfl) (hM.1.2 _ _ _ rfl) ?_
      refine cb_iload_n (pc := 24) O dX11_drying_24 rfl ?_
      refine cb_iald (pc := 25) O i rfl dX11_drying_25 (by decide) (hM.1.1 _ rfl) rfl (by omega) ?_
      refine cb_istore_n (pc := 26) O dX11_drying_26 (by decide) ?_
      dsimp only [List.set]
      refine cb_aload_n (pc := 27) O dX11_drying_27 rfl ?_
      refine cb_getR (pc := 28) O fl_X11_13 rfl rfl dX11_drying_28 (hM.1.1 _ rfl) (hM.1.2 _ _ _ rfl) ?_
      refine cb_iload_n (pc := 31) O dX11_drying_31 rfl ?_
      refine cb_iload_n (pc := 32) O dX11_drying_32 rfl ?_
      refine cb_iast (pc := 33) O i rfl dX11_drying_33 (by decide) (hM.1.1 _ rfl) rfl (by omega) ?_
      refine cb_iload_n (pc := 34) O dX11_drying_34 rfl ?_
      exact cb_iret (pc := 35) O Rt rfl (Nat.le_of_ble_eq_true rfl) (Nat.le_of_ble_eq_true rfl) dX11_drying_35 (by
        refine ⟨?_, ?_, cb_C1.rfl'.um (by omega)⟩
        · rw [sr_drying, if_pos hv, ci_nz (by omega)]
          exact cm_at hM 4 _ (by simp [ca_R]; omega) (by omega)
        · rw [sA_drying, if_pos hv, ci_nz (by omega), ci_nz (by omega)]
          exact hM.um (k := 4) (by omega) _ (fun _ => rfl))
    · skip
      refine cb_iconst (pc := 18) (v := (-1)) O dX11_drying_18 (by decide) ?_
      exact cb_iret (pc := 19) O Rt rfl (Nat.le_of_ble_eq_true rfl) (Nat.le_of_ble_eq_true rfl) dX11_drying_19 (by
        have hv : ¬ sv_drying i m := by simp only [sv_drying]; simp [*]
        exact ⟨by rw [sr_drying, if_neg hv], by rw [sA_drying, if_neg hv]; exact hM, cb_C1.rfl'⟩)

theorem k_against (w : cb_W) (A : ca_A) (z : Int32) (hI : ca_I A) (hC : cc_I w A z) (i j m : Int32) : cb_Con yX10_against cX10_against 4 (some .int) 2 42 0 0 (fun _ => true) [.inr (some 0), .inl i, .inl j, .inl m] w (cb_pi (fun x w' => x = sr_against A i j m ∧ cc_I w' (sA_against A i j m) z ∧ cb_M1 w w')) := by
  refine cb_con (by decide) (Nat.le_of_ble_eq_true rfl) (fun κ O Rt hnm => ?_)
  show cb_X κ w 0 0 0 [some (.inr (some 0)), some (.inl i), some (.inl j), some (.inl m)] []
  refine cb_iload_n (pc := 0) O dX10_against_0 rfl ?_
  refine cb_cSp (pc := 1) O (c_X10_isInk _ _) my_X10_isInk mt_X10_isInk ml_X10_89 dX10_against_1 rfl rfl ⟨(Nat.le_of_ble_eq_true rfl), (Nat.le_of_ble_eq_true rfl)⟩ (Nat.le_of_ble_eq_true rfl) rfl ⟨(Nat.le_of_ble_eq_true rfl), (Nat.le_of_ble_eq_true rfl)⟩ ?_
  refine cb_ifp_eq (pc := 4) O 23 dX10_against_4 (by decide) (fun c_4 => ?_) (fun c_4 => ?_)
  · skip
    refine cb_iconst (pc := 23) (v := (-1)) O dX10_against_23 (by decide) ?_
    exact cb_iret (pc := 24) O Rt rfl (Nat.le_of_ble_eq_true rfl) (Nat.le_of_ble_eq_true rfl) dX10_against_24 (by
      have hv : ¬ sv_against i j m := by simp only [sv_against]; simp [*]
      exact ⟨by rw [sr_against, if_neg hv], by rw [sA_against, if_neg hv]; exact hC, cb_M1.rfl'⟩)
  · skip
    refine cb_iload_n (pc := 7) O dX10_against_7 rfl ?_
    refine cb_cSp (pc := 8) O (c_X10_isInk _ _) my_X10_isInk mt_X10_isInk ml_X10_89 dX10_against_8 rfl rfl ⟨(Nat.le_of_ble_eq_true rfl), (Nat.le_of_ble_eq_true rfl)⟩ (Nat.le_of_ble_eq_true rfl) rfl ⟨(Nat.le_of_ble_eq_true rfl), (Nat.le_of_ble_eq_true rfl)⟩ ?_
    refine cb_ifp_eq (pc := 11) O 23 dX10_against_11 (by decide) (fun c_11 => ?_) (fun c_11 => ?_)
    · skip
      refine cb_iconst (pc := 23) (v := (-1)) O dX10_against_23 (by decide) ?_
      exact cb_iret (pc := 24) O Rt rfl (Nat.le_of_ble_eq_true rfl) (Nat.le_of_ble_eq_true rfl) dX10_against_24 (by
        have hv : ¬ sv_against i j m := by simp only [sv_against]; simp [*]
        exact ⟨by rw [sr_against, if_neg hv], by rw [sA_against, if_neg hv]; exact hC, cb_M1.rfl'⟩)
    · skip
      refine cb_iload_n (pc := 14) O dX10_against_14 rfl ?_
      refine cb_iconst (pc := 15) (v := 0) O dX10_against_15 (by decide) ?_
      refine cb_iconst (pc := 16) (v := 1) O dX10_against_16 (by decide) ?_
      refine cb_cSp (pc := 17) O (c_X10_within _ _ _ _) my_X10_within mt_X10_within ml_X10_81 dX10_against_17 rfl rfl ⟨(Nat.le_of_ble_eq_true rfl), (Nat.le_of_ble_eq_true rfl)⟩ (Nat.le_of_ble_eq_true rfl) rfl ⟨(Nat.le_of_ble_eq_true rfl), (Nat.le_of_ble_eq_true rfl)⟩ ?_
      refine cb_ifp_ne (pc := 20) O 25 dX10_against_20 (by decide) (fun c_20 => ?_) (fun c_20 => ?_)
      · skip
        have hv : sv_against i j m := ⟨c_4, c_11, c_20⟩
        obtain ⟨i, hi, rfl⟩ := ci_in (n := 9) c_4 rfl
        obtain ⟨j, hj, rfl⟩ := ci_in (n := 9) c_11 rfl
        obtain ⟨m, hm, rfl⟩ := ci_in (n := 1) c_20 rfl
        refine cb_aload_n (pc := 25) O dX10_against_25 rfl ?_
        refine cb_getR (pc := 26) O fl_X10_12 rfl rfl dX10_against_26 (hC.1.1 _ rfl) (hC.1.2 _ _ _ rfl) ?_
        refine cb_getR (pc := 29) O fl_X10_107 rfl rfl dX10_against_29 (hC.1.1 _ rfl) (hC.1.2 _ _ _ rfl) ?_
        refine cb_iload_n (pc := 32) O dX10_against_32 rfl ?_
        refine cb_aald (pc := 33) O i rfl (by decide) (by decide) dX10_against_33 (by decide) (hC.1.1 _ rfl) rfl (by omega) (hC.1.2 10 i (110 + i) (by simp [cc_Rf]; omega)) ?_
        refine cb_iload_n (pc := 34) O dX10_against_34 rfl ?_
        refine cb_iload_n (pc := 35) O dX10_against_35 rfl ?_
        refine cb_cSi (pc := 36) O (c_X10_replace w (110 + i) 10 j (nI m) (sh_cl (by omega)) (hC.1.1 _ (lv_f (by omega))) (by omega) (by decide)) my_X10_replace mt_X10_replace ml_X10_100 dX10_against_36 rfl rfl ⟨(Nat.le_of_ble_eq_true rfl), (Nat.le_of_ble_eq_true rfl)⟩ (Nat.le_of_ble_eq_true rfl) rfl ⟨(Nat.le_of_ble_eq_true rfl), (Nat.le_of_ble_eq_true rfl)⟩ (fun _ _ => rfl) (fun x_36 w_36 hp_36 => ?_)
        obtain ⟨rfl, rfl⟩ := hp_36
        exact cb_iret (pc := 39) O Rt rfl (Nat.le_of_ble_eq_true rfl) (Nat.le_of_ble_eq_true rfl) dX10_against_39 (by
          refine ⟨?_, ?_, cb_M1.rfl'.um (by omega)⟩
          · rw [sr_against, if_pos hv, ci_nz (by omega), ci_nz (by omega)]
            exact hC.2.2.2.1.2.2.1 i j (by omega) (by omega)
          · rw [sA_against, if_pos hv, ci_nz (by omega), ci_nz (by omega), ci_nz (by omega)]
            exact ⟨hC.1, hC.2.1.cg (fun r k h => by first | rfl | (simp only [cb_um, cb_ur]; repeat rw [cb_u2n (by omega)])) (fun k i h => by first | rfl | (repeat rw [cb_u2n (by omega)])), hC.2.2.1.cg (fun r k h => by first | rfl | (simp only [cb_um, cb_ur]; repeat rw [cb_u2n (by omega)])) (fun k i h => by first | rfl | (repeat rw [cb_u2n (by omega)])), hC.2.2.2.1.cla (by omega) (by omega) m, hC.2.2.2.2.1.cg hI.1.2.2.2.1 (fun r h1 h2 => rfl) (fun r k h => by first | rfl | (simp only [cb_um, cb_ur]; repeat rw [cb_u2n (by omega)])) (fun r k h1 h2 => by first | rfl | (simp only [cb_um, cb_ur]; repeat rw [cb_u2n (by omega)])) (fun k i h => by first | rfl | (repeat rw [cb_u2n (by omega)])), hC.2.2.2.2.2.1.cg hI.1.2.2.2.2.1 (fun r h1 h2 => rfl) (fun k => by first | rfl | (simp only [cb_ur]; repeat rw [cb_u2n (by omega)])) (fun r k h1 h2 => by first | rfl | (simp only [cb_um, cb_ur]; repeat rw [cb_u2n (by omega)])) (fun k i h => by first | rfl | (repeat rw [cb_u2n (by omega)])), hC.2.2.2.2.2.2.1.cg (fun r k h => by first | rfl | (simp only [cb_um, cb_ur]; repeat rw [cb_u2n (by omega)])) (fun k i h => by first | rfl | (repeat rw [cb_u2n (by omega)])), hC.2.2.2.2.2.2.2.1.cg (fun r k h => by first | rfl | (simp only [cb_um, cb_ur]; repeat rw [cb_u2n (by omega)])) (fun k i h => by first | rfl | (repeat rw [cb_u2n (by omega)])), hC.2.2.2.2.2.2.2.2.1, hC.2.2.2.2.2.2.2.2.2⟩)
      · skip
        refine cb_iconst (pc := 23) (v := (-1)) O dX10_against_23 (by decide) ?_
        exact cb_iret (pc := 24) O Rt rfl (Nat.le_of_ble_eq_true rfl) (Nat.le_of_ble_eq_true rfl) dX10_against_24 (by
          have hv : ¬ sv_against i j m := by simp only [sv_against]; simp [*]
          exact ⟨by rw [sr_against, if_neg hv], by rw [sA_against, if_neg hv]; exact hC, cb_M1.rfl'⟩)

theorem m_against (w : cb_W) (A : ca_A) (z : Int32) (hI : ca_I A) (hM : cm_I w A z) (i j m : Int32) : cb_Con yX11_against cX11_against 5 (some .int) 2 42 0 0 (fun _ => true) [.inr (some 1000), .inl i, .inl j, .inl m] w (cb_pi (fun x w' => x = sr_against A i j m ∧ cm_I w' (sA_against A i j m) z ∧ cb_C1 w w')) := by
  refine cb_con (by decide) (Nat.le_of_ble_eq_true rfl) (fun κ O Rt hnm => ?_)
  show cb_X κ w 0 0 0 [some (.inr (some 1000)), some (.inl i), some (.inl j), some (.inl m), none] []
  refine cb_iload_n (pc := 0) O dX11_against_0 rfl ?_
  refine cb_cSp (pc := 1) O (c_X11_isInk _ _) my_X11_isInk mt_X11_isInk ml_X11_103 dX11_against_1 rfl rfl ⟨(Nat.le_of_ble_eq_true rfl), (Nat.le_of_ble_eq_true rfl)⟩ (Nat.le_of_ble_eq_true rfl) rfl ⟨(Nat.le_of_ble_eq_true rfl), (Nat.le_of_ble_eq_true rfl)⟩ ?_
  refine cb_ifp_eq (pc := 4) O 23 dX11_against_4 (by decide) (fun c_4 => ?_) (fun c_4 => ?_)
  · skip
    refine cb_iconst (pc := 23) (v := (-1)) O dX11_against_23 (by decide) ?_
    exact cb_iret (pc := 24) O Rt rfl (Nat.le_of_ble_eq_true rfl) (Nat.le_of_ble_eq_true rfl) dX11_against_24 (by
      have hv : ¬ sv_against i j m := by simp only [sv_against]; simp [*]
      exact ⟨by rw [sr_against, if_neg hv], by rw [sA_against, if_neg hv]; exact hM, cb_C1.rfl'⟩)
  · skip
    refine cb_iload_n (pc := 7) O dX11_against_7 rfl ?_
    refine cb_cSp (pc := 8) O (c_X11_isInk _ _) my_X11_isInk mt_X11_isInk ml_X11_103 dX11_against_8 rfl rfl ⟨(Nat.le_of_ble_eq_true rfl), (Nat.le_of_ble_eq_true rfl)⟩ (Nat.le_of_ble_eq_true rfl) rfl ⟨(Nat.le_of_ble_eq_true rfl), (Nat.le_of_ble_eq_true rfl)⟩ ?_
    refine cb_ifp_eq (pc := 11) O 23 dX11_against_11 (by decide) (fun c_11 => ?_) (fun c_11 => ?_)
    · skip
      refine cb_iconst (pc := 23) (v := (-1)) O dX11_against_23 (by decide) ?_
      exact cb_iret (pc := 24) O Rt rfl (Nat.le_of_ble_eq_true rfl) (Nat.le_of_ble_eq_true rfl) dX11_against_24 (by
        have hv : ¬ sv_against i j m := by simp only [sv_against]; simp [*]
        exact ⟨by rw [sr_against, if_neg hv], by rw [sA_against, if_neg hv]; exact hM, cb_C1.rfl'⟩)
    · skip
      refine cb_iload_n (pc := 14) O dX11_against_14 rfl ?_
      refine cb_iconst (pc := 15) (v := 0) O dX11_against_15 (by decide) ?_
      refine cb_iconst (pc := 16) (v := 1) O dX11_against_16 (by decide) ?_
      refine cb_cSp (pc := 17) O (c_X11_within _ _ _ _) my_X11_within mt_X11_within ml_X11_90 dX11_against_17 rfl rfl ⟨(Nat.le_of_ble_eq_true rfl), (Nat.le_of_ble_eq_true rfl)⟩ (Nat.le_of_ble_eq_true rfl) rfl ⟨(Nat.le_of_ble_eq_true rfl), (Nat.le_of_ble_eq_true rfl)⟩ ?_
      refine cb_ifp_ne (pc := 20) O 25 dX11_against_20 (by decide) (fun c_20 => ?_) (fun c_20 => ?_)
      · skip
        have hv : sv_against i j m := ⟨c_4, c_11, c_20⟩
        obtain ⟨i, hi, rfl⟩ := ci_in (n := 9) c_4 rfl
        obtain ⟨j, hj, rfl⟩ := ci_in (n := 9) c_11 rfl
        obtain ⟨m, hm, rfl⟩ := ci_in (n := 1) c_20 rfl
        refine cb_aload_n (pc := 25) O dX11_against_25 rfl ?_
        refine cb_getR (pc := 26) O fl_X11_16 rfl rfl dX11_against_26 (hM.1.1 _ rfl) (hM.1.2 _ _ _ rfl) ?_
        refine cb_bipush (pc := 29) (v := 10) O dX11_against_29 (by decide) ?_
        refine cb_iload_n (pc := 31) O dX11_against_31 rfl ?_
        refine cb_imul (pc := 32) O dX11_against_32 ?_
        refine cb_iload_n (pc := 33) O dX11_against_33 rfl ?_
        refine cb_iadd (pc := 34) O dX11_against_34 ?_
        refine cb_zald (pc := 35) O (10 * i + j) rfl dX11_against_35 (by decide) (hM.1.1 _ rfl) (ci_m10 i j) (by omega) ?_
        refine cb_istore (pc := 36) O dX11_against_36 (by decide) ?_
        dsimp only [List.set]
        refine cb_aload_n (pc := 38) O dX11_against_38 rfl ?_
        refine cb_getR (pc := 39) O fl_X11_16 rfl rfl dX11_against_39 (hM.1.1 _ rfl) (hM.1.2 _ _ _ rfl) ?_
        refine cb_bipush (pc := 42) (v := 10) O dX11_against_42 (by decide) ?_
        refine cb_iload_n (pc := 44) O dX11_against_44 rfl ?_
        refine cb_imul (pc := 45) O dX11_against_45 ?_
        refine cb_iload_n (pc := 46) O dX11_against_46 rfl ?_
        refine cb_iadd (pc := 47) O dX11_against_47 ?_
        refine cb_iload_n (pc := 48) O dX11_against_48 rfl ?_
        refine cb_iconst (pc := 49) (v := 1) O dX11_against_49 (by decide) ?_
        refine cb_icmp_ne (pc := 50) O 57 dX11_against_50 (by decide) (fun c_50 => ?_) (fun c_50 => ?_)
        · skip
          refine cb_iconst (pc := 57) (v := 0) O dX11_against_57 (by decide) ?_
          refine cb_zast (pc := 58) O (10 * i + j) rfl dX11_against_58 (by decide) (hM.1.1 _ rfl) (ci_m10 i j) (by omega) (by decide) ?_
          refine cb_iload (pc := 59) O dX11_against_59 rfl ?_
          refine cb_if_eq (pc := 61) O 68 dX11_against_61 (by decide) (fun c_61 => ?_) (fun c_61 => ?_)
          · skip
            refine cb_iconst (pc := 68) (v := 0) O dX11_against_68 (by decide) ?_
            exact cb_iret (pc := 69) O Rt rfl (Nat.le_of_ble_eq_true rfl) (Nat.le_of_ble_eq_true rfl) dX11_against_69 (by
              have hM5 : w.2.1 1005 (10 * i + j) = nI (A 5 (10 * i + j)) := cm_at hM 5 _ (by simp [ca_R]; omega) (by omega)
              have h51 := hI.2.2.1.2.2.1 (10 * i + j)
              rw [hM5] at c_61
              refine ⟨?_, ?_, cb_C1.rfl'.um (by omega)⟩
              · rw [sr_against, if_pos hv, ci_nz (by omega), ci_nz (by omega)]
                rcases (show A 5 (10 * i + j) = 0 ∨ A 5 (10 * i + j) = 1 by omega) with e | e <;> rw [e] at c_61 ⊢ <;> first | rfl | exact absurd rfl c_61 | exact absurd c_61 (by decide)
              · rw [sA_against, if_pos hv, ci_nz (by omega), ci_nz (by omega), ci_nz (by omega)]
                exact hM.um (k := 5) (by omega) _ (fun _ => by
                  rcases (show m = 0 ∨ m = 1 by omega) with e | e <;> subst e <;> first | rfl | exact absurd rfl c_50 | exact absurd c_50 (by decide)))
          · skip
            refine cb_iconst (pc := 64) (v := 1) O dX11_against_64 (by decide) ?_
            refine cb_goto (pc := 65) O 69 dX11_against_65 (by decide) ?_
            exact cb_iret (pc := 69) O Rt rfl (Nat.le_of_ble_eq_true rfl) (Nat.le_of_ble_eq_true rfl) dX11_against_69 (by
              have hM5 : w.2.1 1005 (10 * i + j) = nI (A 5 (10 * i + j)) := cm_at hM 5 _ (by simp [ca_R]; omega) (by omega)
              have h51 := hI.2.2.1.2.2.1 (10 * i + j)
              rw [hM5] at c_61
              refine ⟨?_, ?_, cb_C1.rfl'.um (by omega)⟩
              · rw [sr_against, if_pos hv, ci_nz (by omega), ci_nz (by omega)]
                rcases (show A 5 (10 * i + j) = 0 ∨ A 5 (10 * i + j) = 1 by omega) with e | e <;> rw [e] at c_61 ⊢ <;> first | rfl | exact absurd rfl c_61 | exact absurd c_61 (by decide)
              · rw [sA_against, if_pos hv, ci_nz (by omega), ci_nz (by omega), ci_nz (by omega)]
                exact hM.um (k := 5) (by omega) _ (fun _ => by
                  rcases (show m = 0 ∨ m = 1 by omega) with e | e <;> subst e <;> first | rfl | exact absurd rfl c_50 | exact absurd c_50 (by decide)))
        · skip
          refine cb_iconst (pc := 53) (v := 1) O dX11_against_53 (by decide) ?_
          refine cb_goto (pc := 54) O 58 dX11_against_54 (by decide) ?_
          refine cb_zast (pc := 58) O (10 * i + j) rfl dX11_against_58 (by decide) (hM.1.1 _ rfl) (ci_m10 i j) (by omega) (by decide) ?_
          refine cb_iload (pc := 59) O dX11_against_59 rfl ?_
          refine cb_if_eq (pc := 61) O 68 dX11_against_61 (by decide) (fun c_61 => ?_) (fun c_61 => ?_)
          · skip
            refine cb_iconst (pc := 68) (v := 0) O dX11_against_68 (by decide) ?_
            exact cb_iret (pc := 69) O Rt rfl (Nat.le_of_ble_eq_true rfl) (Nat.le_of_ble_eq_true rfl) dX11_against_69 (by
              have hM5 : w.2.1 1005 (10 * i + j) = nI (A 5 (10 * i + j)) := cm_at hM 5 _ (by simp [ca_R]; omega) (by omega)
              have h51 := hI.2.2.1.2.2.1 (10 * i + j)
              rw [hM5] at c_61
              refine ⟨?_, ?_, cb_C1.rfl'.um (by omega)⟩
              · rw [sr_against, if_pos hv, ci_nz (by omega), ci_nz (by omega)]
                rcases (show A 5 (10 * i + j) = 0 ∨ A 5 (10 * i + j) = 1 by omega) with e | e <;> rw [e] at c_61 ⊢ <;> first | rfl | exact absurd rfl c_61 | exact absurd c_61 (by decide)
              · rw [sA_against, if_pos hv, ci_nz (by omega), ci_nz (by omega), ci_nz (by omega)]
                exact hM.um (k := 5) (by omega) _ (fun _ => by
                  rcases (show m = 0 ∨ m = 1 by omega) with e | e <;> subst e <;> first | rfl | exact absurd rfl c_50 | exact absurd c_50 (by decide)))
          · skip
            refine cb_iconst (pc := 64) (v := 1) O dX11_against_64 (by decide) ?_
            refine cb_goto (pc := 65) O 69 dX11_against_65 (by decide) ?_
            exact cb_iret (pc := 69) O Rt rfl (Nat.le_of_ble_eq_true rfl) (Nat.le_of_ble_eq_true rfl) dX11_against_69 (by
              have hM5 : w.2.1 1005 (10 * i + j) = nI (A 5 (10 * i + j)) := cm_at hM 5 _ (by simp [ca_R]; omega) (by omega)
              have h51 := hI.2.2.1.2.2.1 (10 * i + j)
              rw [hM5] at c_61
              refine ⟨?_, ?_, cb_C1.rfl'.um (by omega)⟩
              · rw [sr_against, if_pos hv, ci_nz (by omega), ci_nz (by omega)]
                rcases (show A 5 (10 * i + j) = 0 ∨ A 5 (10 * i + j) = 1 by omega) with e | e <;> rw [e] at c_61 ⊢ <;> first | rfl | exact absurd rfl c_61 | exact absurd c_61 (by decide)
              · rw [sA_against, if_pos hv, ci_nz (by omega), ci_nz (by omega), ci_nz (by omega)]
                exact hM.um (k := 5) (by omega) _ (fun _ => by
                  rcases (show m = 0 ∨ m = 1 by omega) with e | e <;> subst e <;> first | rfl | exact absurd rfl c_50 | exact absurd c_50 (by decide)))
      · skip
        refine cb_iconst (pc := 23) (v := (-1)) O dX11_against_23 (by decide) ?_
        exact cb_iret (pc := 24) O Rt rfl (Nat.le_of_ble_eq_true rfl) (Nat.le_of_ble_eq_true rfl) dX11_against_24 (by
          have hv : ¬ sv_against i j m := by simp only [sv_against]; simp [*]
          exact ⟨by rw [sr_against, if_neg hv], by rw [sA_against, if_neg hv]; exact hM, cb_C1.rfl'⟩)

theorem k_mixed (w : cb_W) (A : ca_A) (z : Int32) (hI : ca_I A) (hC : cc_I w A z) (p q m : Int32) : cb_Con yX10_mixed cX10_mixed 4 (some .int) 2 42 0 0 (fun _ => true) [.inr (some 0), .inl p, .inl q, .inl m] w (cb_pi (fun x w' => x = sr_mixed A p q m ∧ cc_I w' (sA_mixed A p q m) z ∧ cb_M1 w w')) := by
  refine cb_con (by decide) (Nat.le_of_ble_eq_true rfl) (fun κ O Rt hnm => ?_)
  show cb_X κ w 0 0 0 [some (.inr (some 0)), some (.inl p), some (.inl q), some (.inl m)] []
  refine cb_iload_n (pc := 0) O dX10_mixed_0 rfl ?_
  refine cb_cSp (pc := 1) O (c_X10_isInk _ _) my_X10_isInk mt_X10_isInk ml_X10_89 dX10_mixed_1 rfl rfl ⟨(Nat.le_of_ble_eq_true rfl), (Nat.le_of_ble_eq_true rfl)⟩ (Nat.le_of_ble_eq_true rfl) rfl ⟨(Nat.le_of_ble_eq_true rfl), (Nat.le_of_ble_eq_true rfl)⟩ ?_
  refine cb_ifp_eq (pc := 4) O 26 dX10_mixed_4 (by decide) (fun c_4 => ?_) (fun c_4 => ?_)
  · skip
    refine cb_iconst (pc := 26) (v := (-1)) O dX10_mixed_26 (by decide) ?_
    exact cb_iret (pc := 27) O Rt rfl (Nat.le_of_ble_eq_true rfl) (Nat.le_of_ble_eq_true rfl) dX10_mixed_27 (by
      have hv : ¬ sv_mixed p q m := by simp only [sv_mixed]; simp [*]
      exact ⟨by rw [sr_mixed, if_neg hv], by rw [sA_mixed, if_neg hv]; exact hC, cb_M1.rfl'⟩)
  · skip
    refine cb_iload_n (pc := 7) O dX10_mixed_7 rfl ?_
    refine cb_cSp (pc := 8) O (c_X10_isInk _ _) my_X10_isInk mt_X10_isInk ml_X10_89 dX10_mixed_8 rfl rfl ⟨(Nat.le_of_ble_eq_true rfl), (Nat.le_of_ble_eq_true rfl)⟩ (Nat.le_of_ble_eq_true rfl) rfl ⟨(Nat.le_of_ble_eq_true rfl), (Nat.le_of_ble_eq_true rfl)⟩ ?_
    refine cb_ifp_eq (pc := 11) O 26 dX10_mixed_11 (by decide) (fun c_11 => ?_) (fun c_11 => ?_)
    · skip
      refine cb_iconst (pc := 26) (v := (-1)) O dX10_mixed_26 (by decide) ?_
      exact cb_iret (pc := 27) O Rt rfl (Nat.le_of_ble_eq_true rfl) (Nat.le_of_ble_eq_true rfl) dX10_mixed_27 (by
        have hv : ¬ sv_mixed p q m := by simp only [sv_mixed]; simp [*]
        exact ⟨by rw [sr_mixed, if_neg hv], by rw [sA_mixed, if_neg hv]; exact hC, cb_M1.rfl'⟩)
    · skip
      refine cb_iload_n (pc := 14) O dX10_mixed_14 rfl ?_
      refine cb_iload_n (pc := 15) O dX10_mixed_15 rfl ?_
      refine cb_icmp_eq (pc := 16) O 26 dX10_mixed_16 (by decide) (fun c_16 => ?_) (fun c_16 => ?_)
      · skip
        refine cb_iconst (pc := 26) (v := (-1)) O dX10_mixed_26 (by decide) ?_
        exact cb_iret (pc := 27) O Rt rfl (Nat.le_of_ble_eq_true rfl) (Nat.le_of_ble_eq_true rfl) dX10_mixed_27 (by
          have hv : ¬ sv_mixed p q m := by simp only [sv_mixed]; simp [*]
          exact ⟨by rw [sr_mixed, if_neg hv], by rw [sA_mixed, if_neg hv]; exact hC, cb_M1.rfl'⟩)
      · skip
        refine cb_iload_n (pc := 19) O dX10_mixed_19 rfl ?_
        refine cb_cSp (pc := 20) O (c_X10_isInk _ _) my_X10_isInk mt_X10_isInk ml_X10_89 dX10_mixed_20 rfl rfl ⟨(Nat.le_of_ble_eq_true rfl), (Nat.le_of_ble_eq_true rfl)⟩ (Nat.le_of_ble_eq_true rfl) rfl ⟨(Nat.le_of_ble_eq_true rfl), (Nat.le_of_ble_eq_true rfl)⟩ ?_
        refine cb_ifp_ne (pc := 23) O 28 dX10_mixed_23 (by decide) (fun c_23 => ?_) (fun c_23 => ?_)
        · skip
          have hv : sv_mixed p q m := ⟨c_4, c_11, c_16, c_23⟩
          obtain ⟨p, hp, rfl⟩ := ci_in (n := 9) c_4 rfl
          obtain ⟨q, hq, rfl⟩ := ci_in (n := 9) c_11 rfl
          obtain ⟨m, hm, rfl⟩ := ci_in (n := 9) c_23 rfl
          have hpq : p ≠ q := fun e => c_16 (by rw [e])
          refine cb_aload_n (pc := 28) O dX10_mixed_28 rfl ?_
          refine cb_getR (pc := 29) O fl_X10_12 rfl rfl dX10_mixed_29 (hC.1.1 _ rfl) (hC.1.2 _ _ _ rfl) ?_
          refine cb_getR (pc := 32) O fl_X10_110 rfl rfl dX10_mixed_32 (hC.1.1 _ rfl) (hC.1.2 _ _ _ rfl) ?_
          refine cb_iload_n (pc := 35) O dX10_mixed_35 rfl ?_
          refine cb_aald (pc := 36) O q rfl (by decide) (by decide) dX10_mixed_36 (by decide) (hC.1.1 _ rfl) rfl (by omega) (hC.1.2 11 q (120 + q) (by simp [cc_Rf]; omega)) ?_
          refine cb_iload_n (pc := 37) O dX10_mixed_37 rfl ?_
          refine cb_iload_n (pc := 38) O dX10_mixed_38 rfl ?_
          refine cb_iast (pc := 39) O p (sh_mx (by omega)) dX10_mixed_39 (by decide) (hC.1.1 _ (lv_f (by omega))) rfl (by omega) ?_
          refine cb_aload_n (pc := 40) O dX10_mixed_40 rfl ?_
          refine cb_getR (pc := 41) O fl_X10_12 rfl rfl dX10_mixed_41 (hC.1.1 _ rfl) (hC.1.2 _ _ _ rfl) ?_
          refine cb_getR (pc := 44) O fl_X10_110 rfl rfl dX10_mixed_44 (hC.1.1 _ rfl) (hC.1.2 _ _ _ rfl) ?_
          refine cb_iload_n (pc := 47) O dX10_mixed_47 rfl ?_
          refine cb_aald (pc := 48) O p rfl (by decide) (by decide) dX10_mixed_48 (by decide) (hC.1.1 _ rfl) rfl (by omega) (hC.1.2 11 p (120 + p) (by simp [cc_Rf]; omega)) ?_
          refine cb_iload_n (pc := 49) O dX10_mixed_49 rfl ?_
          refine cb_iload_n (pc := 50) O dX10_mixed_50 rfl ?_
          refine cb_cSi (pc := 51) O (c_X10_replace (cb_um w (120 + q) p (nI m)) (120 + p) 10 q (nI m) (sh_mx (by omega)) (hC.1.1 _ (lv_f (by omega))) (by omega) (by decide)) my_X10_replace mt_X10_replace ml_X10_100 dX10_mixed_51 rfl rfl ⟨(Nat.le_of_ble_eq_true rfl), (Nat.le_of_ble_eq_true rfl)⟩ (Nat.le_of_ble_eq_true rfl) rfl ⟨(Nat.le_of_ble_eq_true rfl), (Nat.le_of_ble_eq_true rfl)⟩ (fun _ _ => rfl) (fun x_51 w_51 hp_51 => ?_)
          obtain ⟨rfl, rfl⟩ := hp_51
          exact cb_iret (pc := 54) O Rt rfl (Nat.le_of_ble_eq_true rfl) (Nat.le_of_ble_eq_true rfl) dX10_mixed_54 (by
            refine ⟨?_, ?_, (cb_M1.rfl'.um (by omega)).um (by omega)⟩
            · rw [sr_mixed, if_pos hv, ci_nz (by omega), ci_nz (by omega)]
              simp only [cb_um]
              rw [cb_u2n (by omega)]
              exact hC.2.2.2.1.2.2.2 p q (by omega) (by omega)
            · rw [sA_mixed, if_pos hv, ci_nz (by omega), ci_nz (by omega), ci_nz (by omega), cb_u2c]
              exact ⟨hC.1, hC.2.1.cg (fun r k h => by first | rfl | (simp only [cb_um, cb_ur]; repeat rw [cb_u2n (by omega)])) (fun k i h => by first | rfl | (repeat rw [cb_u2n (by omega)])), hC.2.2.1.cg (fun r k h => by first | rfl | (simp only [cb_um, cb_ur]; repeat rw [cb_u2n (by omega)])) (fun k i h => by first | rfl | (repeat rw [cb_u2n (by omega)])), (hC.2.2.2.1.mix (i := q) (c := p) (by omega) (by omega) m).mix (i := p) (c := q) (by omega) (by omega) m, hC.2.2.2.2.1.cg hI.1.2.2.2.1 (fun r h1 h2 => rfl) (fun r k h => by first | rfl | (simp only [cb_um, cb_ur]; repeat rw [cb_u2n (by omega)])) (fun r k h1 h2 => by first | rfl | (simp only [cb_um, cb_ur]; repeat rw [cb_u2n (by omega)])) (fun k i h => by first | rfl | (repeat rw [cb_u2n (by omega)])), hC.2.2.2.2.2.1.cg hI.1.2.2.2.2.1 (fun r h1 h2 => rfl) (fun k => by first | rfl | (simp only [cb_ur]; repeat rw [cb_u2n (by omega)])) (fun r k h1 h2 => by first | rfl | (simp only [cb_um, cb_ur]; repeat rw [cb_u2n (by omega)])) (fun k i h => by first | rfl | (repeat rw [cb_u2n (by omega)])), hC.2.2.2.2.2.2.1.cg (fun r k h => by first | rfl | (simp only [cb_um, cb_ur]; repeat rw [cb_u2n (by omega)])) (fun k i h => by first | rfl | (repeat rw [cb_u2n (by omega)])), hC.2.2.2.2.2.2.2.1.cg (fun r k h => by first | rfl | (simp only [cb_um, cb_ur]; repeat rw [cb_u2n (by omega)])) (fun k i h => by first | rfl | (repeat rw [cb_u2n (by omega)])), hC.2.2.2.2.2.2.2.2.1, hC.2.2.2.2.2.2.2.2.2⟩)
        · skip
          refine cb_iconst (pc := 26) (v := (-1)) O dX10_mixed_26 (by decide) ?_
          exact cb_iret (pc := 27) O Rt rfl (Nat.le_of_ble_eq_true rfl) (Nat.le_of_ble_eq_true rfl) dX10_mixed_27 (by
            have hv : ¬ sv_mixed p q m := by simp only [sv_mixed]; simp [*]
            exact ⟨by rw [sr_mixed, if_neg hv], by rw [sA_mixed, if_neg hv]; exact hC, cb_M1.rfl'⟩)

theorem m_mixed (w : cb_W) (A : ca_A) (z : Int32) (hI : ca_I A) (hM : cm_I w A z) (p q m : Int32) : cb_Con yX11_mixed cX11_mixed 5 (some .int) 2 42 0 0 (fun _ => true) [.inr (some 1000), .inl p, .inl q, .inl m] w (cb_pi (fun x w' => x = sr_mixed A p q m ∧ cm_I w' (sA_mixed A p q m) z ∧ cb_C1 w w')) := by
  refine cb_con (by decide) (Nat.le_of_ble_eq_true rfl) (fun κ O Rt hnm => ?_)
  show cb_X κ w 0 0 0 [some (.inr (some 1000)), some (.inl p), some (.inl q), some (.inl m), none] []
  refine cb_iload_n (pc := 0) O dX11_mixed_0 rfl ?_
  refine cb_cSp (pc := 1) O (c_X11_isInk _ _) my_X11_isInk mt_X11_isInk ml_X11_103 dX11_mixed_1 rfl rfl ⟨(Nat.le_of_ble_eq_true rfl), (Nat.le_of_ble_eq_true rfl)⟩ (Nat.le_of_ble_eq_true rfl) rfl ⟨(Nat.le_of_ble_eq_true rfl), (Nat.le_of_ble_eq_true rfl)⟩ ?_
  refine cb_ifp_eq (pc := 4) O 26 dX11_mixed_4 (by decide) (fun c_4 => ?_) (fun c_4 => ?_)
  · skip
    refine cb_iconst (pc := 26) (v := (-1)) O dX11_mixed_26 (by decide) ?_
    exact cb_iret (pc := 27) O Rt rfl (Nat.le_of_ble_eq_true rfl) (Nat.le_of_ble_eq_true rfl) dX11_mixed_27 (by
      have hv : ¬ sv_mixed p q m := by simp only [sv_mixed]; simp [*]
      exact ⟨by rw [sr_mixed, if_neg hv], by rw [sA_mixed, if_neg hv]; exact hM, cb_C1.rfl'⟩)
  · skip
    refine cb_iload_n (pc := 7) O dX11_mixed_7 rfl ?_
    refine cb_cSp (pc := 8) O (c_X11_isInk _ _) my_X11_isInk mt_X11_isInk ml_X11_103 dX11_mixed_8 rfl rfl ⟨(Nat.le_of_ble_eq_true rfl), (Nat.le_of_ble_eq_true rfl)⟩ (Nat.le_of_ble_eq_true rfl) rfl ⟨(Nat.le_of_ble_eq_true rfl), (Nat.le_of_ble_eq_true rfl)⟩ ?_
    refine cb_ifp_eq (pc := 11) O 26 dX11_mixed_11 (by decide) (fun c_11 => ?_) (fun c_11 => ?_)
    · skip
      refine cb_iconst (pc := 26) (v := (-1)) O dX11_mixed_26 (by decide) ?_
      exact cb_iret (pc := 27) O Rt rfl (Nat.le_of_ble_eq_true rfl) (Nat.le_of_ble_eq_true rfl) dX11_mixed_27 (by
        have hv : ¬ sv_mixed p q m := by simp only [sv_mixed]; simp [*]
        exact ⟨by rw [sr_mixed, if_neg hv], by rw [sA_mixed, if_neg hv]; exact hM, cb_C1.rfl'⟩)
    · skip
      refine cb_iload_n (pc := 14) O dX11_mixed_14 rfl ?_
      refine cb_iload_n (pc := 15) O dX11_mixed_15 rfl ?_
      refine cb_icmp_eq (pc := 16) O 26 dX11_mixed_16 (by decide) (fun c_16 => ?_) (fun c_16 => ?_)
      · skip
        refine cb_iconst (pc := 26) (v := (-1)) O dX11_mixed_26 (by decide) ?_
        exact cb_iret (pc := 27) O Rt rfl (Nat.le_of_ble_eq_true rfl) (Nat.le_of_ble_eq_true rfl) dX11_mixed_27 (by
          have hv : ¬ sv_mixed p q m := by simp only [sv_mixed]; simp [*]
          exact ⟨by rw [sr_mixed, if_neg hv], by rw [sA_mixed, if_neg hv]; exact hM, cb_C1.rfl'⟩)
      · skip
        refine cb_iload_n (pc := 19) O dX11_mixed_19 rfl ?_
        refine cb_cSp (pc := 20) O (c_X11_isInk _ _) my_X11_isInk mt_X11_isInk ml_X11_103 dX11_mixed_20 rfl rfl ⟨(Nat.le_of_ble_eq_true rfl), (Nat.le_of_ble_eq_true rfl)⟩ (Nat.le_of_ble_eq_true rfl) rfl ⟨(Nat.le_of_ble_eq_true rfl), (Nat.le_of_ble_eq_true rfl)⟩ ?_
        refine cb_ifp_ne (pc := 23) O 28 dX11_mixed_23 (by decide) (fun c_23 => ?_) (fun c_23 => ?_)
        · skip
          have hv : sv_mixed p q m := ⟨c_4, c_11, c_16, c_23⟩
          obtain ⟨p, hp, rfl⟩ := ci_in (n := 9) c_4 rfl
          obtain ⟨q, hq, rfl⟩ := ci_in (n := 9) c_11 rfl
          obtain ⟨m, hm, rfl⟩ := ci_in (n := 9) c_23 rfl
          have hpq : p ≠ q := fun e => c_16 (by rw [e])
          refine cb_aload_n (pc := 28) O dX11_mixed_28 rfl ?_
          refine cb_getR (pc := 29) O fl_X11_20 rfl rfl dX11_mixed_29 (hM.1.1 _ rfl) (hM.1.2 _ _ _ rfl) ?_
          refine cb_bipush (pc := 32) (v := 10) O dX11_mixed_32 (by decide) ?_
          refine cb_iload_n (pc := 34) O dX11_mixed_34 rfl ?_
          refine cb_imul (pc := 35) O dX11_mixed_35 ?_
          refine cb_iload_n (pc := 36) O dX11_mixed_36 rfl ?_
          refine cb_iadd (pc := 37) O dX11_mixed_37 ?_
          refine cb_iald (pc := 38) O (10 * p + q) rfl dX11_mixed_38 (by decide) (hM.1.1 _ rfl) (ci_m10 p q) (by omega) ?_
          refine cb_istore (pc := 39) O dX11_mixed_39 (by decide) ?_
          dsimp only [List.set]
          refine cb_aload_n (pc := 41) O dX11_mixed_41 rfl ?_
          refine cb_getR (pc := 42) O fl_X11_20 rfl rfl dX11_mixed_42 (hM.1.1 _ rfl) (hM.1.2 _ _ _ rfl) ?_
          refine cb_bipush (pc := 45) (v := 10) O dX11_mixed_45 (by decide) ?_
          refine cb_iload_n (pc := 47) O dX11_mixed_47 rfl ?_
          refine cb_imul (pc := 48) O dX11_mixed_48 ?_
          refine cb_iload_n (pc := 49) O dX11_mixed_49 rfl ?_
          refine cb_iadd (pc := 50) O dX11_mixed_50 ?_
          refine cb_iload_n (pc := 51) O dX11_mixed_51 rfl ?_
          refine cb_iast (pc := 52) O (10 * p + q) rfl dX11_mixed_52 (by decide) (hM.1.1 _ rfl) (ci_m10 p q) (by omega) ?_
          refine cb_aload_n (pc := 53) O dX11_mixed_53 rfl ?_
          refine cb_getR (pc := 54) O fl_X11_20 rfl rfl dX11_mixed_54 (hM.1.1 _ rfl) (hM.1.2 _ _ _ rfl) ?_
          refine cb_bipush (pc := 57) (v := 10) O dX11_mixed_57 (by decide) ?_
          refine cb_iload_n (pc := 59) O dX11_mixed_59 rfl ?_
          refine cb_imul (pc := 60) O dX11_mixed_60 ?_
          refine cb_iload_n (pc := 61) O dX11_mixed_61 rfl ?_
          refine cb_iadd (pc := 62) O dX11_mixed_62 ?_
          refine cb_iload_n (pc := 63) O dX11_mixed_63 rfl ?_
          refine cb_iast (pc := 64) O (10 * q + p) rfl dX11_mixed_64 (by decide) (hM.1.1 _ rfl) (ci_m10 q p) (by omega) ?_
          refine cb_iload (pc := 65) O dX11_mixed_65 rfl ?_
          exact cb_iret (pc := 67) O Rt rfl (Nat.le_of_ble_eq_true rfl) (Nat.le_of_ble_eq_true rfl) dX11_mixed_67 (by
            refine ⟨?_, ?_, (cb_C1.rfl'.um (by omega)).um (by omega)⟩
            · rw [sr_mixed, if_pos hv, ci_nz (by omega), ci_nz (by omega)]
              exact cm_at hM 6 _ (by simp [ca_R]; omega) (by omega)
            · rw [sA_mixed, if_pos hv, ci_nz (by omega), ci_nz (by omega), ci_nz (by omega)]
              exact (hM.um (k := 6) (by omega) _ (fun _ => rfl)).um (k := 6) (by omega) _ (fun _ => rfl))
        · skip
          refine cb_iconst (pc := 26) (v := (-1)) O dX11_mixed_26 (by decide) ?_
          exact cb_iret (pc := 27) O Rt rfl (Nat.le_of_ble_eq_true rfl) (Nat.le_of_ble_eq_true rfl) dX11_mixed_27 (by
            have hv : ¬ sv_mixed p q m := by simp only [sv_mixed]; simp [*]
            exact ⟨by rw [sr_mixed, if_neg hv], by rw [sA_mixed, if_neg hv]; exact hM, cb_C1.rfl'⟩)

abbrev sv_lots (a v : Int32) : Prop := a = 0 ∧ 0 ≤ v ∧ v ≤ 999
def sr_lots (a v : Int32) : Int32 := if sv_lots a v ∨ a = 1 then 1 else -1
def sA_lots (A : ca_A) (a v : Int32) : ca_A := if sv_lots a v then cb_u2 A 0 6 v.toNatClampNeg else A
def sz_lots (z a v : Int32) : Int32 := if a = 1 then v else z
abbrev sv_minutes (A : ca_A) (n : Int32) : Prop := (1 ≤ n ∧ n ≤ 1000) ∧ A 0 8 + n.toNatClampNeg ≤ 99999
def sr_minutes (A : ca_A) (n : Int32) : Int32 := if sv_minutes A n then nI (A 0 8 + n.toNatClampNeg) else -1
def sA_minutes (A : ca_A) (n : Int32) : ca_A := if sv_minutes A n then cb_u2 A 0 8 (A 0 8 + n.toNatClampNeg) else A
theorem cc_N.sl {M : Nat → Nat → Int32} {A : ca_A} {z : Int32} (h : cc_N M A z) (m : Nat) : cc_N (cb_u2 M 2 1 (nI m)) (cb_u2 A 0 6 m) z := by
  obtain ⟨b0, b1, b2, b3, b4⟩ := h
  exact ⟨b0, b1, b2, b3, rfl⟩
theorem cc_N.zz {M : Nat → Nat → Int32} {A : ca_A} {z v : Int32} (h : cc_N M A z) : cc_N (cb_u2 M 2 0 v) A v := by
  obtain ⟨b0, b1, b2, b3, b4⟩ := h
  exact ⟨b0, b1, b2, rfl, b4⟩
theorem cc_N.mi {M : Nat → Nat → Int32} {A : ca_A} {z : Int32} (h : cc_N M A z) (m : Nat) : cc_N (cb_u2 M 0 11 (nI m)) (cb_u2 A 0 8 m) z := by
  obtain ⟨b0, b1, b2, b3, b4⟩ := h
  exact ⟨b0, b1, rfl, b3, b4⟩
theorem cm_I.zz {w : cb_W} {A : ca_A} {z v : Int32} (h : cm_I w A z) : cm_I (cb_um w 1000 7 v) A v := by
  obtain ⟨h1, h2, h3⟩ := h
  refine ⟨h1, fun k i hk => ?_, rfl⟩
  show cb_u2 w.2.1 1000 7 v (1000 + k) i = _
  have e9 : 1000 + k ≠ 1000 ∨ i ≠ 7 := by
    rcases Nat.eq_zero_or_pos k with e | e
    · subst e
      right
      intro e2
      subst e2
      revert hk
      decide
    · omega
  rw [cb_u2n e9]
  exact h2 k i hk
theorem k_lots (w : cb_W) (A : ca_A) (z : Int32) (hI : ca_I A) (hC : cc_I w A z) (a v : Int32) : cb_Con yX10_lots cX10_lots 3 (some .int) 1 22 0 0 (fun _ => true) [.inr (some 0), .inl a, .inl v] w (cb_pi (fun x w' => x = sr_lots a v ∧ cc_I w' (sA_lots A a v) (sz_lots z a v) ∧ cb_M1 w w')) := by
  refine cb_con (by decide) (Nat.le_of_ble_eq_true rfl) (fun κ O Rt hnm => ?_)
  show cb_X κ w 0 0 0 [some (.inr (some 0)), some (.inl a), some (.inl v)] []
  refine cb_iload_n (pc := 0) O dX10_lots_0 rfl ?_
  refine cb_if_ne (pc := 1) O 25 dX10_lots_1 (by decide) (fun c_1 => ?_) (fun c_1 => ?_)
  · skip
    refine cb_iload_n (pc := 25) O dX10_lots_25 rfl ?_
    refine cb_iconst (pc := 26) (v := 1) O dX10_lots_26 (by decide) ?_
    refine cb_icmp_ne (pc := 27) O 40 dX10_lots_27 (by decide) (fun c_27 => ?_) (fun c_27 => ?_)
    · skip
      refine cb_iconst (pc := 40) (v := (-1)) O dX10_lots_40 (by decide) ?_
      exact cb_iret (pc := 41) O Rt rfl (Nat.le_of_ble_eq_true rfl) (Nat.le_of_ble_eq_true rfl) dX10_lots_41 (by
        have h0 : ¬ sv_lots a v := by simp only [sv_lots]; intro h; simp_all
        have h1 : ¬ a = 1 := by intro h; simp_all
        exact ⟨by rw [sr_lots, if_neg (by intro h; rcases h with h | h; exact h0 h; exact h1 h)], by rw [sA_lots, if_neg h0, sz_lots, if_neg h1]; exact hC, cb_M1.rfl'⟩)
    · skip
      have hv : ¬ sv_lots a v := fun h => by rw [h.1] at c_27; exact absurd c_27 (by decide)
      refine cb_aload_n (pc := 30) O dX10_lots_30 rfl ?_
      refine cb_getR (pc := 31) O fl_X10_19 rfl rfl dX10_lots_31 (hC.1.1 _ rfl) (hC.1.2 _ _ _ rfl) ?_
      refine cb_iload_n (pc := 34) O dX10_lots_34 rfl ?_
      refine cb_putIc (pc := 35) O fl_X10_116 (Or.inl rfl) rfl rfl dX10_lots_35 rfl rfl (hC.1.1 _ rfl) ?_
      refine cb_iconst (pc := 38) (v := 1) O dX10_lots_38 (by decide) ?_
      exact cb_iret (pc := 39) O Rt rfl (Nat.le_of_ble_eq_true rfl) (Nat.le_of_ble_eq_true rfl) dX10_lots_39 (by
        refine ⟨by rw [sr_lots, if_pos (Or.inr c_27)], ?_, cb_M1.rfl'.um (by omega)⟩
        rw [sA_lots, if_neg hv, sz_lots, if_pos c_27]
        exact ⟨hC.1, hC.2.1.cg (fun r k h => by first | rfl | (simp only [cb_um, cb_ur]; repeat rw [cb_u2n (by omega)])) (fun k i h => by first | rfl | (repeat rw [cb_u2n (by omega)])), hC.2.2.1.zz, hC.2.2.2.1.cg (fun r k h => by first | rfl | (simp only [cb_um, cb_ur]; repeat rw [cb_u2n (by omega)])) (fun k i h => by first | rfl | (repeat rw [cb_u2n (by omega)])), hC.2.2.2.2.1.cg hI.1.2.2.2.1 (fun r h1 h2 => rfl) (fun r k h => by first | rfl | (simp only [cb_um, cb_ur]; repeat rw [cb_u2n (by omega)])) (fun r k h1 h2 => by first | rfl | (simp only [cb_um, cb_ur]; repeat rw [cb_u2n (by omega)])) (fun k i h => by first | rfl | (repeat rw [cb_u2n (by omega)])), hC.2.2.2.2.2.1.cg hI.1.2.2.2.2.1 (fun r h1 h2 => rfl) (fun k => by first | rfl | (simp only [cb_ur]; repeat rw [cb_u2n (by omega)])) (fun r k h1 h2 => by first | rfl | (simp only [cb_um, cb_ur]; repeat rw [cb_u2n (by omega)])) (fun k i h => by first | rfl | (repeat rw [cb_u2n (by omega)])), hC.2.2.2.2.2.2.1.cg (fun r k h => by first | rfl | (simp only [cb_um, cb_ur]; repeat rw [cb_u2n (by omega)])) (fun k i h => by first | rfl | (repeat rw [cb_u2n (by omega)])), hC.2.2.2.2.2.2.2.1.cg (fun r k h => by first | rfl | (simp only [cb_um, cb_ur]; repeat rw [cb_u2n (by omega)])) (fun k i h => by first | rfl | (repeat rw [cb_u2n (by omega)])), hC.2.2.2.2.2.2.2.2.1, hC.2.2.2.2.2.2.2.2.2⟩)
  · skip
    refine cb_iload_n (pc := 4) O dX10_lots_4 rfl ?_
    refine cb_iconst (pc := 5) (v := 0) O dX10_lots_5 (by decide) ?_
    refine cb_sipush (pc := 6) (v := 999) O dX10_lots_6 (by decide) ?_
    refine cb_cSp (pc := 9) O (c_X10_within _ _ _ _) my_X10_within mt_X10_within ml_X10_81 dX10_lots_9 rfl rfl ⟨(Nat.le_of_ble_eq_true rfl), (Nat.le_of_ble_eq_true rfl)⟩ (Nat.le_of_ble_eq_true rfl) rfl ⟨(Nat.le_of_ble_eq_true rfl), (Nat.le_of_ble_eq_true rfl)⟩ ?_
    refine cb_ifp_eq (pc := 12) O 25 dX10_lots_12 (by decide) (fun c_12 => ?_) (fun c_12 => ?_)
    · skip
      refine cb_iload_n (pc := 25) O dX10_lots_25 rfl ?_
      refine cb_iconst (pc := 26) (v := 1) O dX10_lots_26 (by decide) ?_
      refine cb_icmp_ne (pc := 27) O 40 dX10_lots_27 (by decide) (fun c_27 => ?_) (fun c_27 => ?_)
      · skip
        refine cb_iconst (pc := 40) (v := (-1)) O dX10_lots_40 (by decide) ?_
        exact cb_iret (pc := 41) O Rt rfl (Nat.le_of_ble_eq_true rfl) (Nat.le_of_ble_eq_true rfl) dX10_lots_41 (by
          have h0 : ¬ sv_lots a v := by simp only [sv_lots]; intro h; simp_all
          have h1 : ¬ a = 1 := by intro h; simp_all
          exact ⟨by rw [sr_lots, if_neg (by intro h; rcases h with h | h; exact h0 h; exact h1 h)], by rw [sA_lots, if_neg h0, sz_lots, if_neg h1]; exact hC, cb_M1.rfl'⟩)
      · skip
        have hv : ¬ sv_lots a v := fun h => by rw [h.1] at c_27; exact absurd c_27 (by decide)
        refine cb_aload_n (pc := 30) O dX10_lots_30 rfl ?_
        refine cb_getR (pc := 31) O fl_X10_19 rfl rfl dX10_lots_31 (hC.1.1 _ rfl) (hC.1.2 _ _ _ rfl) ?_
        refine cb_iload_n (pc := 34) O dX10_lots_34 rfl ?_
        refine cb_putIc (pc := 35) O fl_X10_116 (Or.inl rfl) rfl rfl dX10_lots_35 rfl rfl (hC.1.1 _ rfl) ?_
        refine cb_iconst (pc := 38) (v := 1) O dX10_lots_38 (by decide) ?_
        exact cb_iret (pc := 39) O Rt rfl (Nat.le_of_ble_eq_true rfl) (Nat.le_of_ble_eq_true rfl) dX10_lots_39 (by
          refine ⟨by rw [sr_lots, if_pos (Or.inr c_27)], ?_, cb_M1.rfl'.um (by omega)⟩
          rw [sA_lots, if_neg hv, sz_lots, if_pos c_27]
          exact ⟨hC.1, hC.2.1.cg (fun r k h => by first | rfl | (simp only [cb_um, cb_ur]; repeat rw [cb_u2n (by omega)])) (fun k i h => by first | rfl | (repeat rw [cb_u2n (by omega)])), hC.2.2.1.zz, hC.2.2.2.1.cg (fun r k h => by first | rfl | (simp only [cb_um, cb_ur]; repeat rw [cb_u2n (by omega)])) (fun k i h => by first | rfl | (repeat rw [cb_u2n (by omega)])), hC.2.2.2.2.1.cg hI.1.2.2.2.1 (fun r h1 h2 => rfl) (fun r k h => by first | rfl | (simp only [cb_um, cb_ur]; repeat rw [cb_u2n (by omega)])) (fun r k h1 h2 => by first | rfl | (simp only [cb_um, cb_ur]; repeat rw [cb_u2n (by omega)])) (fun k i h => by first | rfl | (repeat rw [cb_u2n (by omega)])), hC.2.2.2.2.2.1.cg hI.1.2.2.2.2.1 (fun r h1 h2 => rfl) (fun k => by first | rfl | (simp only [cb_ur]; repeat rw [cb_u2n (by omega)])) (fun r k h1 h2 => by first | rfl | (simp only [cb_um, cb_ur]; repeat rw [cb_u2n (by omega)])) (fun k i h => by first | rfl | (repeat rw [cb_u2n (by omega)])), hC.2.2.2.2.2.2.1.cg (fun r k h => by first | rfl | (simp only [cb_um, cb_ur]; repeat rw [cb_u2n (by omega)])) (fun k i h => by first | rfl | (repeat rw [cb_u2n (by omega)])), hC.2.2.2.2.2.2.2.1.cg (fun r k h => by first | rfl | (simp only [cb_um, cb_ur]; repeat rw [cb_u2n (by omega)])) (fun k i h => by first | rfl | (repeat rw [cb_u2n (by omega)])), hC.2.2.2.2.2.2.2.2.1, hC.2.2.2.2.2.2.2.2.2⟩)
    · skip
      have hv : sv_lots a v := ⟨c_1, c_12⟩
      obtain ⟨v, hv2, rfl⟩ := ci_in (n := 999) c_12 rfl
      have ha1 : ¬ a = 1 := by rw [c_1]; decide
      refine cb_aload_n (pc := 15) O dX10_lots_15 rfl ?_
      refine cb_getR (pc := 16) O fl_X10_19 rfl rfl dX10_lots_16 (hC.1.1 _ rfl) (hC.1.2 _ _ _ rfl) ?_
      refine cb_iload_n (pc := 19) O dX10_lots_19 rfl ?_
      refine cb_putIc (pc := 20) O fl_X10_113 (Or.inl rfl) rfl rfl dX10_lots_20 rfl rfl (hC.1.1 _ rfl) ?_
      refine cb_iconst (pc := 23) (v := 1) O dX10_lots_23 (by decide) ?_
      exact cb_iret (pc := 24) O Rt rfl (Nat.le_of_ble_eq_true rfl) (Nat.le_of_ble_eq_true rfl) dX10_lots_24 (by
        refine ⟨by rw [sr_lots, if_pos (Or.inl hv)], ?_, cb_M1.rfl'.um (by omega)⟩
        rw [sA_lots, if_pos hv, sz_lots, if_neg ha1, ci_nz (by omega)]
        exact ⟨hC.1, hC.2.1.cg (fun r k h => by first | rfl | (simp only [cb_um, cb_ur]; repeat rw [cb_u2n (by omega)])) (fun k i h => by first | rfl | (repeat rw [cb_u2n (by omega)])), hC.2.2.1.sl v, hC.2.2.2.1.cg (fun r k h => by first | rfl | (simp only [cb_um, cb_ur]; repeat rw [cb_u2n (by omega)])) (fun k i h => by first | rfl | (repeat rw [cb_u2n (by omega)])), hC.2.2.2.2.1.cg hI.1.2.2.2.1 (fun r h1 h2 => rfl) (fun r k h => by first | rfl | (simp only [cb_um, cb_ur]; repeat rw [cb_u2n (by omega)])) (fun r k h1 h2 => by first | rfl | (simp only [cb_um, cb_ur]; repeat rw [cb_u2n (by omega)])) (fun k i h => by first | rfl | (repeat rw [cb_u2n (by omega)])), hC.2.2.2.2.2.1.cg hI.1.2.2.2.2.1 (fun r h1 h2 => rfl) (fun k => by first | rfl | (simp only [cb_ur]; repeat rw [cb_u2n (by omega)])) (fun r k h1 h2 => by first | rfl | (simp only [cb_um, cb_ur]; repeat rw [cb_u2n (by omega)])) (fun k i h => by first | rfl | (repeat rw [cb_u2n (by omega)])), hC.2.2.2.2.2.2.1.cg (fun r k h => by first | rfl | (simp only [cb_um, cb_ur]; repeat rw [cb_u2n (by omega)])) (fun k i h => by first | rfl | (repeat rw [cb_u2n (by omega)])), hC.2.2.2.2.2.2.2.1.cg (fun r k h => by first | rfl | (simp only [cb_um, cb_ur]; repeat rw [cb_u2n (by omega)])) (fun k i h => by first | rfl | (repeat rw [cb_u2n (by omega)])), hC.2.2.2.2.2.2.2.2.1, hC.2.2.2.2.2.2.2.2.2⟩)

theorem m_lots (w : cb_W) (A : ca_A) (z : Int32) (hI : ca_I A) (hM : cm_I w A z) (a v : Int32) : cb_Con yX11_lots cX11_lots 3 (some .int) 1 22 0 0 (fun _ => true) [.inr (some 1000), .inl a, .inl v] w (cb_pi (fun x w' => x = sr_lots a v ∧ cm_I w' (sA_lots A a v) (sz_lots z a v) ∧ cb_C1 w w')) := by
  refine cb_con (by decide) (Nat.le_of_ble_eq_true rfl) (fun κ O Rt hnm => ?_)
  show cb_X κ w 0 0 0 [some (.inr (some 1000)), some (.inl a), some (.inl v)] []
  refine cb_iload_n (pc := 0) O dX11_lots_0 rfl ?_
  refine cb_iconst (pc := 1) (v := 0) O dX11_lots_1 (by decide) ?_
  refine cb_iconst (pc := 2) (v := 1) O dX11_lots_2 (by decide) ?_
  refine cb_cSp (pc := 3) O (c_X11_within _ _ _ _) my_X11_within mt_X11_within ml_X11_90 dX11_lots_3 rfl rfl ⟨(Nat.le_of_ble_eq_true rfl), (Nat.le_of_ble_eq_true rfl)⟩ (Nat.le_of_ble_eq_true rfl) rfl ⟨(Nat.le_of_ble_eq_true rfl), (Nat.le_of_ble_eq_true rfl)⟩ ?_
  refine cb_ifp_eq (pc := 6) O 24 dX11_lots_6 (by decide) (fun c_6 => ?_) (fun c_6 => ?_)
  · skip
    refine cb_iconst (pc := 24) (v := (-1)) O dX11_lots_24 (by decide) ?_
    exact cb_iret (pc := 25) O Rt rfl (Nat.le_of_ble_eq_true rfl) (Nat.le_of_ble_eq_true rfl) dX11_lots_25 (by
      have h0 : ¬ sv_lots a v := by simp only [sv_lots]; intro h; simp_all
      have h1 : ¬ a = 1 := by intro h; simp_all
      exact ⟨by rw [sr_lots, if_neg (by intro h; rcases h with h | h; exact h0 h; exact h1 h)], by rw [sA_lots, if_neg h0, sz_lots, if_neg h1]; exact hM, cb_C1.rfl'⟩)
  · skip
    refine cb_iload_n (pc := 9) O dX11_lots_9 rfl ?_
    refine cb_if_ne (pc := 10) O 26 dX11_lots_10 (by decide) (fun c_10 => ?_) (fun c_10 => ?_)
    · skip
      refine cb_iload_n (pc := 26) O dX11_lots_26 rfl ?_
      refine cb_if_ne (pc := 27) O 38 dX11_lots_27 (by decide) (fun c_27 => ?_) (fun c_27 => ?_)
      · skip
        have ha1 : a = 1 := by
          simp only [ci_le, ci_eq] at *
          have e0 : (0 : Int32).toInt = 0 := rfl
          have e1 : (1 : Int32).toInt = 1 := rfl
          omega
        have hv : ¬ sv_lots a v := fun h => by rw [h.1] at ha1; exact absurd ha1 (by decide)
        refine cb_aload_n (pc := 38) O dX11_lots_38 rfl ?_
        refine cb_iload_n (pc := 39) O dX11_lots_39 rfl ?_
        refine cb_putIc (pc := 40) O fl_X11_113 (Or.inl rfl) rfl rfl dX11_lots_40 rfl rfl (hM.1.1 _ rfl) ?_
        refine cb_iconst (pc := 43) (v := 1) O dX11_lots_43 (by decide) ?_
        exact cb_iret (pc := 44) O Rt rfl (Nat.le_of_ble_eq_true rfl) (Nat.le_of_ble_eq_true rfl) dX11_lots_44 (by
          first
          | (refine ⟨by rw [sr_lots, if_pos (Or.inl hv)], ?_, cb_C1.rfl'.um (by omega)⟩
             rw [sA_lots, if_pos hv, sz_lots, if_neg ha1, ci_nz (by omega)]
             exact hM.um (k := 0) (by omega) _ (fun _ => rfl))
          | (refine ⟨by rw [sr_lots, if_pos (Or.inr ha1)], ?_, cb_C1.rfl'.um (by omega)⟩
             rw [sA_lots, if_neg hv, sz_lots, if_pos ha1]
             exact hM.zz))
      · skip
        have hv : sv_lots a v := ⟨c_27, by first | exact c_21 | exact absurd c_27 c_10⟩
        obtain ⟨v, hv2, rfl⟩ := ci_in (n := 999) hv.2 rfl
        have ha1 : ¬ a = 1 := by rw [c_27]; decide
        refine cb_aload_n (pc := 30) O dX11_lots_30 rfl ?_
        refine cb_iload_n (pc := 31) O dX11_lots_31 rfl ?_
        refine cb_putIc (pc := 32) O fl_X11_110 (Or.inl rfl) rfl rfl dX11_lots_32 rfl rfl (hM.1.1 _ rfl) ?_
        refine cb_goto (pc := 35) O 43 dX11_lots_35 (by decide) ?_
        refine cb_iconst (pc := 43) (v := 1) O dX11_lots_43 (by decide) ?_
        exact cb_iret (pc := 44) O Rt rfl (Nat.le_of_ble_eq_true rfl) (Nat.le_of_ble_eq_true rfl) dX11_lots_44 (by
          first
          | (refine ⟨by rw [sr_lots, if_pos (Or.inl hv)], ?_, cb_C1.rfl'.um (by omega)⟩
             rw [sA_lots, if_pos hv, sz_lots, if_neg ha1, ci_nz (by omega)]
             exact hM.um (k := 0) (by omega) _ (fun _ => rfl))
          | (refine ⟨by rw [sr_lots, if_pos (Or.inr ha1)], ?_, cb_C1.rfl'.um (by omega)⟩
             rw [sA_lots, if_neg hv, sz_lots, if_pos ha1]
             exact hM.zz))
    · skip
      refine cb_iload_n (pc := 13) O dX11_lots_13 rfl ?_
      refine cb_iconst (pc := 14) (v := 0) O dX11_lots_14 (by decide) ?_
      refine cb_sipush (pc := 15) (v := 999) O dX11_lots_15 (by decide) ?_
      refine cb_cSp (pc := 18) O (c_X11_within _ _ _ _) my_X11_within mt_X11_within ml_X11_90 dX11_lots_18 rfl rfl ⟨(Nat.le_of_ble_eq_true rfl), (Nat.le_of_ble_eq_true rfl)⟩ (Nat.le_of_ble_eq_true rfl) rfl ⟨(Nat.le_of_ble_eq_true rfl), (Nat.le_of_ble_eq_true rfl)⟩ ?_
      refine cb_ifp_ne (pc := 21) O 26 dX11_lots_21 (by decide) (fun c_21 => ?_) (fun c_21 => ?_)
      · skip
        refine cb_iload_n (pc := 26) O dX11_lots_26 rfl ?_
        refine cb_if_ne (pc := 27) O 38 dX11_lots_27 (by decide) (fun c_27 => ?_) (fun c_27 => ?_)
        · skip
          have ha1 : a = 1 := by
            simp only [ci_le, ci_eq] at *
            have e0 : (0 : Int32).toInt = 0 := rfl
            have e1 : (1 : Int32).toInt = 1 := rfl
            omega
          have hv : ¬ sv_lots a v := fun h => by rw [h.1] at ha1; exact absurd ha1 (by decide)
          refine cb_aload_n (pc := 38) O dX11_lots_38 rfl ?_
          refine cb_iload_n (pc := 39) O dX11_lots_39 rfl ?_
          refine cb_putIc (pc := 40) O fl_X11_113 (Or.inl rfl) rfl rfl dX11_lots_40 rfl rfl (hM.1.1 _ rfl) ?_
          refine cb_iconst (pc := 43) (v := 1) O dX11_lots_43 (by decide) ?_
          exact cb_iret (pc := 44) O Rt rfl (Nat.le_of_ble_eq_true rfl) (Nat.le_of_ble_eq_true rfl) dX11_lots_44 (by
            first
            | (refine ⟨by rw [sr_lots, if_pos (Or.inl hv)], ?_, cb_C1.rfl'.um (by omega)⟩
               rw [sA_lots, if_pos hv, sz_lots, if_neg ha1, ci_nz (by omega)]
               exact hM.um (k := 0) (by omega) _ (fun _ => rfl))
            | (refine ⟨by rw [sr_lots, if_pos (Or.inr ha1)], ?_, cb_C1.rfl'.um (by omega)⟩
               rw [sA_lots, if_neg hv, sz_lots, if_pos ha1]
               exact hM.zz))
        · skip
          have hv : sv_lots a v := ⟨c_27, by first | exact c_21 | exact absurd c_27 c_10⟩
          obtain ⟨v, hv2, rfl⟩ := ci_in (n := 999) hv.2 rfl
          have ha1 : ¬ a = 1 := by rw [c_27]; decide
          refine cb_aload_n (pc := 30) O dX11_lots_30 rfl ?_
          refine cb_iload_n (pc := 31) O dX11_lots_31 rfl ?_
          refine cb_putIc (pc := 32) O fl_X11_110 (Or.inl rfl) rfl rfl dX11_lots_32 rfl rfl (hM.1.1 _ rfl) ?_
          refine cb_goto (pc := 35) O 43 dX11_lots_35 (by decide) ?_
          refine cb_iconst (pc := 43) (v := 1) O dX11_lots_43 (by decide) ?_
          exact cb_iret (pc := 44) O Rt rfl (Nat.le_of_ble_eq_true rfl) (Nat.le_of_ble_eq_true rfl) dX11_lots_44 (by
            first
            | (refine ⟨by rw [sr_lots, if_pos (Or.inl hv)], ?_, cb_C1.rfl'.um (by omega)⟩
               rw [sA_lots, if_pos hv, sz_lots, if_neg ha1, ci_nz (by omega)]
               exact hM.um (k := 0) (by omega) _ (fun _ => rfl))
            | (refine ⟨by rw [sr_lots, if_pos (Or.inr ha1)], ?_, cb_C1.rfl'.um (by omega)⟩
               rw [sA_lots, if_neg hv, sz_lots, if_pos ha1]
               exact hM.zz))
      · skip
        refine cb_iconst (pc := 24) (v := (-1)) O dX11_lots_24 (by decide) ?_
        exact cb_iret (pc := 25) O Rt rfl (Nat.le_of_ble_eq_true rfl) (Nat.le_of_ble_eq_true rfl) dX11_lots_25 (by
          have h0 : ¬ sv_lots a v := by simp only [sv_lots]; intro h; simp_all
          have h1 : ¬ a = 1 := by intro h; simp_all
          exact ⟨by rw [sr_lots, if_neg (by intro h; rcases h with h | h; exact h0 h; exact h1 h)], by rw [sA_lots, if_neg h0, sz_lots, if_neg h1]; exact hM, cb_C1.rfl'⟩)

theorem k_minutes (w : cb_W) (A : ca_A) (z : Int32) (hI : ca_I A) (hC : cc_I w A z) (n : Int32) : cb_Con yX10_minutes cX10_minutes 2 (some .int) 1 22 0 0 (fun _ => true) [.inr (some 0), .inl n] w (cb_pi (fun x w' => x = sr_minutes A n ∧ cc_I w' (sA_minutes A n) z ∧ cb_M1 w w')) := by
  have hmin : w.2.1 0 11 = nI (A 0 8) := hC.2.2.1.2.2.1
  refine cb_con (by decide) (Nat.le_of_ble_eq_true rfl) (fun κ O Rt hnm => ?_)
  show cb_X κ w 0 0 0 [some (.inr (some 0)), some (.inl n)] []
  refine cb_iload_n (pc := 0) O dX10_minutes_0 rfl ?_
  refine cb_iconst (pc := 1) (v := 1) O dX10_minutes_1 (by decide) ?_
  refine cb_sipush (pc := 2) (v := 1000) O dX10_minutes_2 (by decide) ?_
  refine cb_cSp (pc := 5) O (c_X10_within _ _ _ _) my_X10_within mt_X10_within ml_X10_81 dX10_minutes_5 rfl rfl ⟨(Nat.le_of_ble_eq_true rfl), (Nat.le_of_ble_eq_true rfl)⟩ (Nat.le_of_ble_eq_true rfl) rfl ⟨(Nat.le_of_ble_eq_true rfl), (Nat.le_of_ble_eq_true rfl)⟩ ?_
  refine cb_ifp_eq (pc := 8) O 22 dX10_minutes_8 (by decide) (fun c_8 => ?_) (fun c_8 => ?_)
  · skip
    refine cb_iconst (pc := 22) (v := (-1)) O dX10_minutes_22 (by decide) ?_
    exact cb_iret (pc := 23) O Rt rfl (Nat.le_of_ble_eq_true rfl) (Nat.le_of_ble_eq_true rfl) dX10_minutes_23 (by
      have h0 : ¬ sv_minutes A n := by
        first
        | exact fun h => c_8 h.1
        | (intro h
           apply c_19
           have h2 := h.2
           obtain ⟨n, hn, rfl⟩ := ci_in (x := n) (b := 1000) (n := 1000) ⟨by have := c_8.1; simp only [ci_le] at *; have e0 : (0 : Int32).toInt = 0 := rfl; have e1 : (1 : Int32).toInt = 1 := rfl; omega, c_8.2⟩ rfl
           rw [ci_nz (by omega)] at h2
           rw [hmin, nI_add, show (99999 : Int32) = nI 99999 from rfl]
           exact nI_le (by omega) (by decide))
      exact ⟨by rw [sr_minutes, if_neg h0], by rw [sA_minutes, if_neg h0]; exact hC, cb_M1.rfl'⟩)
  · skip
    refine cb_aload_n (pc := 11) O dX10_minutes_11 rfl ?_
    refine cb_getI (pc := 12) O fl_X10_78 rfl rfl dX10_minutes_12 (hC.1.1 _ rfl) ?_
    refine cb_iload_n (pc := 15) O dX10_minutes_15 rfl ?_
    refine cb_iadd (pc := 16) O dX10_minutes_16 ?_
    refine cb_ldc (pc := 17) O dX10_minutes_17 kc_X10_119 ?_
    refine cb_icmp_le (pc := 19) O 24 dX10_minutes_19 (by decide) (fun c_19 => ?_) (fun c_19 => ?_)
    · skip
      obtain ⟨n, hn, rfl⟩ := ci_in (x := n) (b := 1000) (n := 1000) ⟨by have := c_8.1; simp only [ci_le] at *; have e0 : (0 : Int32).toInt = 0 := rfl; have e1 : (1 : Int32).toInt = 1 := rfl; omega, c_8.2⟩ rfl
      have hv : sv_minutes A (nI n) := ⟨c_8, by
        rw [ci_nz (by omega)]
        rw [hmin, nI_add, show (99999 : Int32) = nI 99999 from rfl, nI_leI (by have := hI.1.2.2.2.2.2.1; omega) (by decide)] at c_19
        exact c_19⟩
      refine cb_aload_n (pc := 24) O dX10_minutes_24 rfl ?_
      refine cb_dup (pc := 25) O dX10_minutes_25 ?_
      refine cb_getI (pc := 26) O fl_X10_78 rfl rfl dX10_minutes_26 (hC.1.1 _ rfl) ?_
      refine cb_iload_n (pc := 29) O dX10_minutes_29 rfl ?_
      refine cb_iadd (pc := 30) O dX10_minutes_30 ?_
      refine cb_putIc (pc := 31) O fl_X10_78 (Or.inl rfl) rfl rfl dX10_minutes_31 rfl rfl (hC.1.1 _ rfl) ?_
      refine cb_aload_n (pc := 34) O dX10_minutes_34 rfl ?_
      refine cb_getI (pc := 35) O fl_X10_78 rfl rfl dX10_minutes_35 (hC.1.1 _ rfl) ?_
      exact cb_iret (pc := 38) O Rt rfl (Nat.le_of_ble_eq_true rfl) (Nat.le_of_ble_eq_true rfl) dX10_minutes_38 (by
        rw [hmin, nI_add]
        refine ⟨by rw [sr_minutes, if_pos hv, ci_nz (by omega)]; rfl, ?_, cb_M1.rfl'.um (by omega)⟩
        rw [sA_minutes, if_pos hv, ci_nz (by omega)]
        exact ⟨hC.1, hC.2.1.cg (fun r k h => by first | rfl | (simp only [cb_um, cb_ur]; repeat rw [cb_u2n (by omega)])) (fun k i h => by first | rfl | (repeat rw [cb_u2n (by omega)])), hC.2.2.1.mi _, hC.2.2.2.1.cg (fun r k h => by first | rfl | (simp only [cb_um, cb_ur]; repeat rw [cb_u2n (by omega)])) (fun k i h => by first | rfl | (repeat rw [cb_u2n (by omega)])), hC.2.2.2.2.1.cg hI.1.2.2.2.1 (fun r h1 h2 => rfl) (fun r k h => by first | rfl | (simp only [cb_um, cb_ur]; repeat rw [cb_u2n (by omega)])) (fun r k h1 h2 => by first | rfl | (simp only [cb_um, cb_ur]; repeat rw [cb_u2n (by omega)])) (fun k i h => by first | rfl | (repeat rw [cb_u2n (by omega)])), hC.2.2.2.2.2.1.cg hI.1.2.2.2.2.1 (fun r h1 h2 => rfl) (fun k => by first | rfl | (simp only [cb_ur]; repeat rw [cb_u2n (by omega)])) (fun r k h1 h2 => by first | rfl | (simp only [cb_um, cb_ur]; repeat rw [cb_u2n (by omega)])) (fun k i h => by first | rfl | (repeat rw [cb_u2n (by omega)])), hC.2.2.2.2.2.2.1.cg (fun r k h => by first | rfl | (simp only [cb_um, cb_ur]; repeat rw [cb_u2n (by omega)])) (fun k i h => by first | rfl | (repeat rw [cb_u2n (by omega)])), hC.2.2.2.2.2.2.2.1.cg (fun r k h => by first | rfl | (simp only [cb_um, cb_ur]; repeat rw [cb_u2n (by omega)])) (fun k i h => by first | rfl | (repeat rw [cb_u2n (by omega)])), hC.2.2.2.2.2.2.2.2.1, hC.2.2.2.2.2.2.2.2.2⟩)
    · skip
      refine cb_iconst (pc := 22) (v := (-1)) O dX10_minutes_22 (by decide) ?_
      exact cb_iret (pc := 23) O Rt rfl (Nat.le_of_ble_eq_true rfl) (Nat.le_of_ble_eq_true rfl) dX10_minutes_23 (by
        have h0 : ¬ sv_minutes A n := by
          first
          | exact fun h => c_8 h.1
          | (intro h
             apply c_19
             have h2 := h.2
             obtain ⟨n, hn, rfl⟩ := ci_in (x := n) (b := 1000) (n := 1000) ⟨by have := c_8.1; simp only [ci_le] at *; have e0 : (0 : Int32).toInt = 0 := rfl; have e1 : (1 : Int32).toInt = 1 := rfl; omega, c_8.2⟩ rfl
             rw [ci_nz (by omega)] at h2
             rw [hmin, nI_add, show (99999 : Int32) = nI 99999 from rfl]
             exact nI_le (by omega) (by decide))
        exact ⟨by rw [sr_minutes, if_neg h0], by rw [sA_minutes, if_neg h0]; exact hC, cb_M1.rfl'⟩)

theorem m_minutes (w : cb_W) (A : ca_A) (z : Int32) (hI : ca_I A) (hM : cm_I w A z) (n : Int32) : cb_Con yX11_minutes cX11_minutes 2 (some .int) 1 22 0 0 (fun _ => true) [.inr (some 1000), .inl n] w (cb_pi (fun x w' => x = sr_minutes A n ∧ cm_I w' (sA_minutes A n) z ∧ cb_C1 w w')) := by
  have hmin : w.2.1 1000 8 = nI (A 0 8) := cm_at hM 0 8 rfl (by omega)
  refine cb_con (by decide) (Nat.le_of_ble_eq_true rfl) (fun κ O Rt hnm => ?_)
  show cb_X κ w 0 0 0 [some (.inr (some 1000)), some (.inl n)] []
  refine cb_iload_n (pc := 0) O dX11_minutes_0 rfl ?_
  refine cb_iconst (pc := 1) (v := 1) O dX11_minutes_1 (by decide) ?_
  refine cb_sipush (pc := 2) (v := 1000) O dX11_minutes_2 (by decide) ?_
  refine cb_cSp (pc := 5) O (c_X11_within _ _ _ _) my_X11_within mt_X11_within ml_X11_90 dX11_minutes_5 rfl rfl ⟨(Nat.le_of_ble_eq_true rfl), (Nat.le_of_ble_eq_true rfl)⟩ (Nat.le_of_ble_eq_true rfl) rfl ⟨(Nat.le_of_ble_eq_true rfl), (Nat.le_of_ble_eq_true rfl)⟩ ?_
  refine cb_ifp_eq (pc := 8) O 22 dX11_minutes_8 (by decide) (fun c_8 => ?_) (fun c_8 => ?_)
  · skip
    refine cb_iconst (pc := 22) (v := (-1)) O dX11_minutes_22 (by decide) ?_
    exact cb_iret (pc := 23) O Rt rfl (Nat.le_of_ble_eq_true rfl) (Nat.le_of_ble_eq_true rfl) dX11_minutes_23 (by
      have h0 : ¬ sv_minutes A n := by
        first
        | exact fun h => c_8 h.1
        | (intro h
           apply c_19
           have h2 := h.2
           obtain ⟨n, hn, rfl⟩ := ci_in (x := n) (b := 1000) (n := 1000) ⟨by have := c_8.1; simp only [ci_le] at *; have e0 : (0 : Int32).toInt = 0 := rfl; have e1 : (1 : Int32).toInt = 1 := rfl; omega, c_8.2⟩ rfl
           rw [ci_nz (by omega)] at h2
           rw [hmin, nI_add, show (99999 : Int32) = nI 99999 from rfl]
           exact nI_le (by omega) (by decide))
      exact ⟨by rw [sr_minutes, if_neg h0], by rw [sA_minutes, if_neg h0]; exact hM, cb_C1.rfl'⟩)
  · skip
    refine cb_aload_n (pc := 11) O dX11_minutes_11 rfl ?_
    refine cb_getI (pc := 12) O fl_X11_116 rfl rfl dX11_minutes_12 (hM.1.1 _ rfl) ?_
    refine cb_iload_n (pc := 15) O dX11_minutes_15 rfl ?_
    refine cb_iadd (pc := 16) O dX11_minutes_16 ?_
    refine cb_ldc (pc := 17) O dX11_minutes_17 kc_X11_119 ?_
    refine cb_icmp_le (pc := 19) O 24 dX11_minutes_19 (by decide) (fun c_19 => ?_) (fun c_19 => ?_)
    · skip
      obtain ⟨n, hn, rfl⟩ := ci_in (x := n) (b := 1000) (n := 1000) ⟨by have := c_8.1; simp only [ci_le] at *; have e0 : (0 : Int32).toInt = 0 := rfl; have e1 : (1 : Int32).toInt = 1 := rfl; omega, c_8.2⟩ rfl
      have hv : sv_minutes A (nI n) := ⟨c_8, by
        rw [ci_nz (by omega)]
        rw [hmin, nI_add, show (99999 : Int32) = nI 99999 from rfl, nI_leI (by have := hI.1.2.2.2.2.2.1; omega) (by decide)] at c_19
        exact c_19⟩
      refine cb_aload_n (pc := 24) O dX11_minutes_24 rfl ?_
      refine cb_dup (pc := 25) O dX11_minutes_25 ?_
      refine cb_getI (pc := 26) O fl_X11_116 rfl rfl dX11_minutes_26 (hM.1.1 _ rfl) ?_
      refine cb_iload_n (pc := 29) O dX11_minutes_29 rfl ?_
      refine cb_iadd (pc := 30) O dX11_minutes_30 ?_
      refine cb_putIc (pc := 31) O fl_X11_116 (Or.inl rfl) rfl rfl dX11_minutes_31 rfl rfl (hM.1.1 _ rfl) ?_
      refine cb_aload_n (pc := 34) O dX11_minutes_34 rfl ?_
      refine cb_getI (pc := 35) O fl_X11_116 rfl rfl dX11_minutes_35 (hM.1.1 _ rfl) ?_
      exact cb_iret (pc := 38) O Rt rfl (Nat.le_of_ble_eq_true rfl) (Nat.le_of_ble_eq_true rfl) dX11_minutes_38 (by
        rw [hmin, nI_add]
        refine ⟨by rw [sr_minutes, if_pos hv, ci_nz (by omega)]; rfl, ?_, cb_C1.rfl'.um (by omega)⟩
        rw [sA_minutes, if_pos hv, ci_nz (by omega)]
        exact hM.um (k := 0) (by omega) _ (fun _ => rfl))
    · skip
      refine cb_iconst (pc := 22) (v := (-1)) O dX11_minutes_22 (by decide) ?_
      exact cb_iret (pc := 23) O Rt rfl (Nat.le_of_ble_eq_true rfl) (Nat.le_of_ble_eq_true rfl) dX11_minutes_23 (by
        have h0 : ¬ sv_minutes A n := by
          first
          | exact fun h => c_8 h.1
          | (intro h
             apply c_19
             have h2 := h.2
             obtain ⟨n, hn, rfl⟩ := ci_in (x := n) (b := 1000) (n := 1000) ⟨by have := c_8.1; simp only [ci_le] at *; have e0 : (0 : Int32).toInt = 0 := rfl; have e1 : (1 : Int32).toInt = 1 := rfl; omega, c_8.2⟩ rfl
             rw [ci_nz (by omega)] at h2
             rw [hmin, nI_add, show (99999 : Int32) = nI 99999 from rfl]
             exact nI_le (by omega) (by decide))
        exact ⟨by rw [sr_minutes, if_neg h0], by rw [sA_minutes, if_neg h0]; exact hM, cb_C1.rfl'⟩)
end
