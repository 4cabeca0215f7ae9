section
-- ===== PART A: goes FIRST, ahead of the names: the tables' words, and 'selects' of the private methods out of them =====
/-- a private method of a class that the tables say can be made, by its rows of tables_1 -/
def lw_okq (q : MethodName × Nat) : Prop := (q.1.cls ≠ "java/lang/invoke/MethodHandle" ∧ q.1.cls ≠ "java/lang/invoke/VarHandle") ∧ Cond.instantiable q.1.cls q.2 ∈ tables_1 ∧ Cond.privateMethod q.1 ∈ tables_1 ∧ Cond.instanceMethod q.1 ∈ tables_1
theorem lw_p0 : lw_okq (⟨"WoodcutPress", "wornCells", "()I"⟩, 5) := ⟨⟨by decide +kernel, by decide +kernel⟩, List.mem_of_getElem? (i := 14) (by decide +kernel), List.mem_of_getElem? (i := 306) (by decide +kernel), List.mem_of_getElem? (i := 307) (by decide +kernel)⟩
theorem lw_p1 : lw_okq (⟨"WoodcutPress", "findInk", "()V"⟩, 5) := ⟨⟨by decide +kernel, by decide +kernel⟩, List.mem_of_getElem? (i := 14) (by decide +kernel), List.mem_of_getElem? (i := 310) (by decide +kernel), List.mem_of_getElem? (i := 311) (by decide +kernel)⟩
theorem lw_p2 : lw_okq (⟨"WoodcutPress", "gapsWith", "(II)I"⟩, 5) := ⟨⟨by decide +kernel, by decide +kernel⟩, List.mem_of_getElem? (i := 14) (by decide +kernel), List.mem_of_getElem? (i := 344) (by decide +kernel), List.mem_of_getElem? (i := 345) (by decide +kernel)⟩
theorem lw_p3 : lw_okq (⟨"WoodcutPress", "makeOnePrint", "()I"⟩, 5) := ⟨⟨by decide +kernel, by decide +kernel⟩, List.mem_of_getElem? (i := 14) (by decide +kernel), List.mem_of_getElem? (i := 369) (by decide +kernel), List.mem_of_getElem? (i := 370) (by decide +kernel)⟩
theorem lw_p4 : lw_okq (⟨"WoodcutPress", "spillsWith", "(II)I"⟩, 5) := ⟨⟨by decide +kernel, by decide +kernel⟩, List.mem_of_getElem? (i := 14) (by decide +kernel), List.mem_of_getElem? (i := 378) (by decide +kernel), List.mem_of_getElem? (i := 379) (by decide +kernel)⟩
theorem lw_p5 : lw_okq (⟨"WoodcutPress$State", "snapshotIn", "(I)LWoodcutPress$Blocks;"⟩, 10) := ⟨⟨by decide +kernel, by decide +kernel⟩, List.mem_of_getElem? (i := 22) (by decide +kernel), List.mem_of_getElem? (i := 422) (by decide +kernel), List.mem_of_getElem? (i := 423) (by decide +kernel)⟩
theorem lw_p6 : lw_okq (⟨"WoodcutPress$Reader", "skipSpaces", "()V"⟩, 6) := ⟨⟨by decide +kernel, by decide +kernel⟩, List.mem_of_getElem? (i := 144) (by decide +kernel), List.mem_of_getElem? (i := 485) (by decide +kernel), List.mem_of_getElem? (i := 486) (by decide +kernel)⟩
theorem lw_p7 : lw_okq (⟨"WoodcutPress$Reader", "here", "()I"⟩, 6) := ⟨⟨by decide +kernel, by decide +kernel⟩, List.mem_of_getElem? (i := 144) (by decide +kernel), List.mem_of_getElem? (i := 489) (by decide +kernel), List.mem_of_getElem? (i := 490) (by decide +kernel)⟩
theorem lw_p8 : lw_okq (⟨"WoodcutPress$Reader", "readItem", "()V"⟩, 6) := ⟨⟨by decide +kernel, by decide +kernel⟩, List.mem_of_getElem? (i := 144) (by decide +kernel), List.mem_of_getElem? (i := 493) (by decide +kernel), List.mem_of_getElem? (i := 494) (by decide +kernel)⟩
theorem lw_p9 : lw_okq (⟨"WoodcutPress$Reader", "readNumber", "(II)I"⟩, 6) := ⟨⟨by decide +kernel, by decide +kernel⟩, List.mem_of_getElem? (i := 144) (by decide +kernel), List.mem_of_getElem? (i := 497) (by decide +kernel), List.mem_of_getElem? (i := 498) (by decide +kernel)⟩
theorem lw_p10 : lw_okq (⟨"WoodcutPress$Reader", "failAt", "(I)V"⟩, 6) := ⟨⟨by decide +kernel, by decide +kernel⟩, List.mem_of_getElem? (i := 144) (by decide +kernel), List.mem_of_getElem? (i := 506) (by decide +kernel), List.mem_of_getElem? (i := 507) (by decide +kernel)⟩
theorem lw_p11 : lw_okq (⟨"WoodcutPress$Reader", "readRuns", "(I)V"⟩, 6) := ⟨⟨by decide +kernel, by decide +kernel⟩, List.mem_of_getElem? (i := 144) (by decide +kernel), List.mem_of_getElem? (i := 510) (by decide +kernel), List.mem_of_getElem? (i := 511) (by decide +kernel)⟩
theorem lw_p12 : lw_okq (⟨"WoodcutPress$Reader", "readKind", "()I"⟩, 6) := ⟨⟨by decide +kernel, by decide +kernel⟩, List.mem_of_getElem? (i := 144) (by decide +kernel), List.mem_of_getElem? (i := 515) (by decide +kernel), List.mem_of_getElem? (i := 516) (by decide +kernel)⟩
theorem lw_p13 : lw_okq (⟨"WoodcutPress", "printsColour", "(IIII)Z"⟩, 5) := ⟨⟨by decide +kernel, by decide +kernel⟩, List.mem_of_getElem? (i := 14) (by decide +kernel), List.mem_of_getElem? (i := 549) (by decide +kernel), List.mem_of_getElem? (i := 550) (by decide +kernel)⟩
theorem lw_p14 : lw_okq (⟨"WoodcutPress", "hasGapsWithin", "(ILWoodcutPress$Cells;LWoodcutPress$Cells;)Z"⟩, 5) := ⟨⟨by decide +kernel, by decide +kernel⟩, List.mem_of_getElem? (i := 14) (by decide +kernel), List.mem_of_getElem? (i := 574) (by decide +kernel), List.mem_of_getElem? (i := 575) (by decide +kernel)⟩
theorem lw_p15 : lw_okq (⟨"WoodcutPressModel", "act", "()V"⟩, 15) := ⟨⟨by decide +kernel, by decide +kernel⟩, List.mem_of_getElem? (i := 598) (by decide +kernel), List.mem_of_getElem? (i := 660) (by decide +kernel), List.mem_of_getElem? (i := 661) (by decide +kernel)⟩
def lw_privs_1 : List (MethodName × Nat) := [(⟨"WoodcutPress", "wornCells", "()I"⟩, 5), (⟨"WoodcutPress", "findInk", "()V"⟩, 5), (⟨"WoodcutPress", "gapsWith", "(II)I"⟩, 5), (⟨"WoodcutPress", "makeOnePrint", "()I"⟩, 5), (⟨"WoodcutPress", "spillsWith", "(II)I"⟩, 5), (⟨"WoodcutPress$State", "snapshotIn", "(I)LWoodcutPress$Blocks;"⟩, 10), (⟨"WoodcutPress$Reader", "skipSpaces", "()V"⟩, 6), (⟨"WoodcutPress$Reader", "here", "()I"⟩, 6), (⟨"WoodcutPress$Reader", "readItem", "()V"⟩, 6), (⟨"WoodcutPress$Reader", "readNumber", "(II)I"⟩, 6), (⟨"WoodcutPress$Reader", "failAt", "(I)V"⟩, 6), (⟨"WoodcutPress$Reader", "readRuns", "(I)V"⟩, 6), (⟨"WoodcutPress$Reader", "readKind", "()I"⟩, 6), (⟨"WoodcutPress", "printsColour", "(IIII)Z"⟩, 5), (⟨"WoodcutPress", "hasGapsWithin", "(ILWoodcutPress$Cells;LWoodcutPress$Cells;)Z"⟩, 5), (⟨"WoodcutPressModel", "act", "()V"⟩, 15)]
theorem lw_r1 : ∀ q ∈ lw_privs_1, lw_okq q := List.forall_mem_cons.mpr ⟨lw_p0, List.forall_mem_cons.mpr ⟨lw_p1, List.forall_mem_cons.mpr ⟨lw_p2, List.forall_mem_cons.mpr ⟨lw_p3, List.forall_mem_cons.mpr ⟨lw_p4, List.forall_mem_cons.mpr ⟨lw_p5, List.forall_mem_cons.mpr ⟨lw_p6, List.forall_mem_cons.mpr ⟨lw_p7, List.forall_mem_cons.mpr ⟨lw_p8, List.forall_mem_cons.mpr ⟨lw_p9, List.forall_mem_cons.mpr ⟨lw_p10, List.forall_mem_cons.mpr ⟨lw_p11, List.forall_mem_cons.mpr ⟨lw_p12, List.forall_mem_cons.mpr ⟨lw_p13, List.forall_mem_cons.mpr ⟨lw_p14, List.forall_mem_cons.mpr ⟨lw_p15, fun _ h => absurd h List.not_mem_nil⟩⟩⟩⟩⟩⟩⟩⟩⟩⟩⟩⟩⟩⟩⟩⟩
theorem lw_p16 : lw_okq (⟨"WoodcutPressModel", "measure", "()V"⟩, 15) := ⟨⟨by decide +kernel, by decide +kernel⟩, List.mem_of_getElem? (i := 598) (by decide +kernel), List.mem_of_getElem? (i := 668) (by decide +kernel), List.mem_of_getElem? (i := 669) (by decide +kernel)⟩
theorem lw_p17 : lw_okq (⟨"WoodcutPressModel", "isNextTo", "(II)Z"⟩, 15) := ⟨⟨by decide +kernel, by decide +kernel⟩, List.mem_of_getElem? (i := 598) (by decide +kernel), List.mem_of_getElem? (i := 672) (by decide +kernel), List.mem_of_getElem? (i := 673) (by decide +kernel)⟩
theorem lw_p18 : lw_okq (⟨"WoodcutPressModel", "layCut", "(I)V"⟩, 15) := ⟨⟨by decide +kernel, by decide +kernel⟩, List.mem_of_getElem? (i := 598) (by decide +kernel), List.mem_of_getElem? (i := 679) (by decide +kernel), List.mem_of_getElem? (i := 680) (by decide +kernel)⟩
theorem lw_p19 : lw_okq (⟨"WoodcutPressModel", "many", "(II)I"⟩, 15) := ⟨⟨by decide +kernel, by decide +kernel⟩, List.mem_of_getElem? (i := 598) (by decide +kernel), List.mem_of_getElem? (i := 683) (by decide +kernel), List.mem_of_getElem? (i := 684) (by decide +kernel)⟩
theorem lw_p20 : lw_okq (⟨"WoodcutPressModel", "isWorn", "(I)Z"⟩, 15) := ⟨⟨by decide +kernel, by decide +kernel⟩, List.mem_of_getElem? (i := 598) (by decide +kernel), List.mem_of_getElem? (i := 695) (by decide +kernel), List.mem_of_getElem? (i := 696) (by decide +kernel)⟩
theorem lw_p21 : lw_okq (⟨"WoodcutPressModel", "wornCells", "()I"⟩, 15) := ⟨⟨by decide +kernel, by decide +kernel⟩, List.mem_of_getElem? (i := 598) (by decide +kernel), List.mem_of_getElem? (i := 699) (by decide +kernel), List.mem_of_getElem? (i := 700) (by decide +kernel)⟩
theorem lw_p22 : lw_okq (⟨"WoodcutPressModel", "checkNow", "()V"⟩, 15) := ⟨⟨by decide +kernel, by decide +kernel⟩, List.mem_of_getElem? (i := 598) (by decide +kernel), List.mem_of_getElem? (i := 707) (by decide +kernel), List.mem_of_getElem? (i := 708) (by decide +kernel)⟩
theorem lw_p23 : lw_okq (⟨"WoodcutPressModel", "lay", "()V"⟩, 15) := ⟨⟨by decide +kernel, by decide +kernel⟩, List.mem_of_getElem? (i := 598) (by decide +kernel), List.mem_of_getElem? (i := 711) (by decide +kernel), List.mem_of_getElem? (i := 712) (by decide +kernel)⟩
theorem lw_p24 : lw_okq (⟨"WoodcutPressModel", "shiftX", "(I)I"⟩, 15) := ⟨⟨by decide +kernel, by decide +kernel⟩, List.mem_of_getElem? (i := 598) (by decide +kernel), List.mem_of_getElem? (i := 715) (by decide +kernel), List.mem_of_getElem? (i := 716) (by decide +kernel)⟩
theorem lw_p25 : lw_okq (⟨"WoodcutPressModel", "shiftY", "(I)I"⟩, 15) := ⟨⟨by decide +kernel, by decide +kernel⟩, List.mem_of_getElem? (i := 598) (by decide +kernel), List.mem_of_getElem? (i := 719) (by decide +kernel), List.mem_of_getElem? (i := 720) (by decide +kernel)⟩
theorem lw_p26 : lw_okq (⟨"WoodcutPressModel", "check", "(II)V"⟩, 15) := ⟨⟨by decide +kernel, by decide +kernel⟩, List.mem_of_getElem? (i := 598) (by decide +kernel), List.mem_of_getElem? (i := 723) (by decide +kernel), List.mem_of_getElem? (i := 724) (by decide +kernel)⟩
theorem lw_p27 : lw_okq (⟨"WoodcutPressModel", "look", "(IIII)I"⟩, 15) := ⟨⟨by decide +kernel, by decide +kernel⟩, List.mem_of_getElem? (i := 598) (by decide +kernel), List.mem_of_getElem? (i := 727) (by decide +kernel), List.mem_of_getElem? (i := 728) (by decide +kernel)⟩
theorem lw_p28 : lw_okq (⟨"WoodcutPressModel", "isTinted", "(IIII)Z"⟩, 15) := ⟨⟨by decide +kernel, by decide +kernel⟩, List.mem_of_getElem? (i := 598) (by decide +kernel), List.mem_of_getElem? (i := 731) (by decide +kernel), List.mem_of_getElem? (i := 732) (by decide +kernel)⟩
theorem lw_p29 : lw_okq (⟨"WoodcutPressModel", "printOne", "()V"⟩, 15) := ⟨⟨by decide +kernel, by decide +kernel⟩, List.mem_of_getElem? (i := 598) (by decide +kernel), List.mem_of_getElem? (i := 746) (by decide +kernel), List.mem_of_getElem? (i := 747) (by decide +kernel)⟩
theorem lw_p30 : lw_okq (⟨"WoodcutPressModel", "rubs", "(I)I"⟩, 15) := ⟨⟨by decide +kernel, by decide +kernel⟩, List.mem_of_getElem? (i := 598) (by decide +kernel), List.mem_of_getElem? (i := 750) (by decide +kernel), List.mem_of_getElem? (i := 751) (by decide +kernel)⟩
theorem lw_p31 : lw_okq (⟨"WoodcutPressModel", "inked", "()I"⟩, 15) := ⟨⟨by decide +kernel, by decide +kernel⟩, List.mem_of_getElem? (i := 598) (by decide +kernel), List.mem_of_getElem? (i := 758) (by decide +kernel), List.mem_of_getElem? (i := 759) (by decide +kernel)⟩
def lw_privs_2 : List (MethodName × Nat) := [(⟨"WoodcutPressModel", "measure", "()V"⟩, 15), (⟨"WoodcutPressModel", "isNextTo", "(II)Z"⟩, 15), (⟨"WoodcutPressModel", "layCut", "(I)V"⟩, 15), (⟨"WoodcutPressModel", "many", "(II)I"⟩, 15), (⟨"WoodcutPressModel", "isWorn", "(I)Z"⟩, 15), (⟨"WoodcutPressModel", "wornCells", "()I"⟩, 15), (⟨"WoodcutPressModel", "checkNow", "()V"⟩, 15), (⟨"WoodcutPressModel", "lay", "()V"⟩, 15), (⟨"WoodcutPressModel", "shiftX", "(I)I"⟩, 15), (⟨"WoodcutPressModel", "shiftY", "(I)I"⟩, 15), (⟨"WoodcutPressModel", "check", "(II)V"⟩, 15), (⟨"WoodcutPressModel", "look", "(IIII)I"⟩, 15), (⟨"WoodcutPressModel", "isTinted", "(IIII)Z"⟩, 15), (⟨"WoodcutPressModel", "printOne", "()V"⟩, 15), (⟨"WoodcutPressModel", "rubs", "(I)I"⟩, 15), (⟨"WoodcutPressModel", "inked", "()I"⟩, 15)]
theorem lw_r2 : ∀ q ∈ lw_privs_2, lw_okq q := List.forall_mem_cons.mpr ⟨lw_p16, List.forall_mem_cons.mpr ⟨lw_p17, List.forall_mem_cons.mpr ⟨lw_p18, List.forall_mem_cons.mpr ⟨lw_p19, List.forall_mem_cons.mpr ⟨lw_p20, List.forall_mem_cons.mpr ⟨lw_p21, List.forall_mem_cons.mpr ⟨lw_p22, List.forall_mem_cons.mpr ⟨lw_p23, List.forall_mem_cons.mpr ⟨lw_p24, List.forall_mem_cons.mpr ⟨lw_p25, List.forall_mem_cons.mpr ⟨lw_p26, List.forall_mem_cons.mpr ⟨lw_p27, List.forall_mem_cons.mpr ⟨lw_p28, List.forall_mem_cons.mpr ⟨lw_p29, List.forall_mem_cons.mpr ⟨lw_p30, List.forall_mem_cons.mpr ⟨lw_p31, fun _ h => absurd h List.not_mem_nil⟩⟩⟩⟩⟩⟩⟩⟩⟩⟩⟩⟩⟩⟩⟩⟩
theorem lw_p32 : lw_okq (⟨"WoodcutPressModel", "skip", "()V"⟩, 15) := ⟨⟨by decide +kernel, by decide +kernel⟩, List.mem_of_getElem? (i := 598) (by decide +kernel), List.mem_of_getElem? (i := 782) (by decide +kernel), List.mem_of_getElem? (i := 783) (by decide +kernel)⟩
theorem lw_p33 : lw_okq (⟨"WoodcutPressModel", "here", "()I"⟩, 15) := ⟨⟨by decide +kernel, by decide +kernel⟩, List.mem_of_getElem? (i := 598) (by decide +kernel), List.mem_of_getElem? (i := 786) (by decide +kernel), List.mem_of_getElem? (i := 787) (by decide +kernel)⟩
theorem lw_p34 : lw_okq (⟨"WoodcutPressModel", "isWell", "()Z"⟩, 15) := ⟨⟨by decide +kernel, by decide +kernel⟩, List.mem_of_getElem? (i := 598) (by decide +kernel), List.mem_of_getElem? (i := 790) (by decide +kernel), List.mem_of_getElem? (i := 791) (by decide +kernel)⟩
theorem lw_p35 : lw_okq (⟨"WoodcutPressModel", "readRow", "()V"⟩, 15) := ⟨⟨by decide +kernel, by decide +kernel⟩, List.mem_of_getElem? (i := 598) (by decide +kernel), List.mem_of_getElem? (i := 794) (by decide +kernel), List.mem_of_getElem? (i := 795) (by decide +kernel)⟩
theorem lw_p36 : lw_okq (⟨"WoodcutPressModel", "number", "(II)I"⟩, 15) := ⟨⟨by decide +kernel, by decide +kernel⟩, List.mem_of_getElem? (i := 598) (by decide +kernel), List.mem_of_getElem? (i := 798) (by decide +kernel), List.mem_of_getElem? (i := 799) (by decide +kernel)⟩
theorem lw_p37 : lw_okq (⟨"WoodcutPressModel", "isDigit", "()Z"⟩, 15) := ⟨⟨by decide +kernel, by decide +kernel⟩, List.mem_of_getElem? (i := 598) (by decide +kernel), List.mem_of_getElem? (i := 802) (by decide +kernel), List.mem_of_getElem? (i := 803) (by decide +kernel)⟩
theorem lw_p38 : lw_okq (⟨"WoodcutPressModel", "fail", "(I)V"⟩, 15) := ⟨⟨by decide +kernel, by decide +kernel⟩, List.mem_of_getElem? (i := 598) (by decide +kernel), List.mem_of_getElem? (i := 806) (by decide +kernel), List.mem_of_getElem? (i := 807) (by decide +kernel)⟩
theorem lw_p39 : lw_okq (⟨"WoodcutPressModel", "expect", "(I)V"⟩, 15) := ⟨⟨by decide +kernel, by decide +kernel⟩, List.mem_of_getElem? (i := 598) (by decide +kernel), List.mem_of_getElem? (i := 810) (by decide +kernel), List.mem_of_getElem? (i := 811) (by decide +kernel)⟩
theorem lw_p40 : lw_okq (⟨"WoodcutPressModel", "readRun", "(II)V"⟩, 15) := ⟨⟨by decide +kernel, by decide +kernel⟩, List.mem_of_getElem? (i := 598) (by decide +kernel), List.mem_of_getElem? (i := 814) (by decide +kernel), List.mem_of_getElem? (i := 815) (by decide +kernel)⟩
theorem lw_p41 : lw_okq (⟨"WoodcutPressModel", "kind", "()I"⟩, 15) := ⟨⟨by decide +kernel, by decide +kernel⟩, List.mem_of_getElem? (i := 598) (by decide +kernel), List.mem_of_getElem? (i := 818) (by decide +kernel), List.mem_of_getElem? (i := 819) (by decide +kernel)⟩
theorem lw_p42 : lw_okq (⟨"WoodcutPressModel", "hasGapsWithin", "(I)Z"⟩, 15) := ⟨⟨by decide +kernel, by decide +kernel⟩, List.mem_of_getElem? (i := 598) (by decide +kernel), List.mem_of_getElem? (i := 853) (by decide +kernel), List.mem_of_getElem? (i := 854) (by decide +kernel)⟩
def lw_privs_3 : List (MethodName × Nat) := [(⟨"WoodcutPressModel", "skip", "()V"⟩, 15), (⟨"WoodcutPressModel", "here", "()I"⟩, 15), (⟨"WoodcutPressModel", "isWell", "()Z"⟩, 15), (⟨"WoodcutPressModel", "readRow", "()V"⟩, 15), (⟨"WoodcutPressModel", "number", "(II)I"⟩, 15), (⟨"WoodcutPressModel", "isDigit", "()Z"⟩, 15), (⟨"WoodcutPressModel", "fail", "(I)V"⟩, 15), (⟨"WoodcutPressModel", "expect", "(I)V"⟩, 15), (⟨"WoodcutPressModel", "readRun", "(II)V"⟩, 15), (⟨"WoodcutPressModel", "kind", "()I"⟩, 15), (⟨"WoodcutPressModel", "hasGapsWithin", "(I)Z"⟩, 15)]
theorem lw_r3 : ∀ q ∈ lw_privs_3, lw_okq q := List.forall_mem_cons.mpr ⟨lw_p32, List.forall_mem_cons.mpr ⟨lw_p33, List.forall_mem_cons.mpr ⟨lw_p34, List.forall_mem_cons.mpr ⟨lw_p35, List.forall_mem_cons.mpr ⟨lw_p36, List.forall_mem_cons.mpr ⟨lw_p37, List.forall_mem_cons.mpr ⟨lw_p38, List.forall_mem_cons.mpr ⟨lw_p39, List.forall_mem_cons.mpr ⟨lw_p40, List.forall_mem_cons.mpr ⟨lw_p41, List.forall_mem_cons.mpr ⟨lw_p42, fun _ h => absurd h List.not_mem_nil⟩⟩⟩⟩⟩⟩⟩⟩⟩⟩⟩
def lw_privs : List (MethodName × Nat) := lw_privs_1 ++ (lw_privs_2 ++ (lw_privs_3))
def lw_tbl : List Cond := k2_sels lw_privs ++ tables_1
theorem lw_privs_ok : ∀ q ∈ lw_privs, lw_okq q := by
  show ∀ q ∈ lw_privs_1 ++ (lw_privs_2 ++ (lw_privs_3)), lw_okq q
  exact List.forall_mem_append.mpr ⟨lw_r1, List.forall_mem_append.mpr ⟨lw_r2, lw_r3⟩⟩
/-! ===== BEGIN words of one list among another's, by their places ===== -/
theorem goodIn_r {big : List Cond} (ws : List Cond) (ps : List Nat) (hp : ws = ps.filterMap (fun i => big[i]?)) (h : ws.all goodWord = true) : GoodIn big ws := by
  intro w hw
  have h1 := List.all_eq_true.mp h w hw
  rw [hp] at hw
  obtain ⟨i, -, hi⟩ := List.mem_filterMap.mp hw
  have hm : w ∈ big := by first | exact List.mem_of_getElem? hi | exact List.getElem?_mem hi
  exact ⟨hm, good_of_word h1⟩
theorem goodIn_app {big a b : List Cond} (ha : GoodIn big a) (hb : GoodIn big b) : GoodIn big (a ++ b) := fun w h => (List.mem_append.mp h).elim (ha w) (hb w)
theorem goodIn_ca {big a b : List Cond} {c : Cond} (ha : GoodIn big (c :: a)) (hb : GoodIn big b) : GoodIn big (c :: (a ++ b)) := fun w h => (List.mem_cons.mp h).elim (fun e => ha w (List.mem_cons.mpr (Or.inl e))) (fun h => (List.mem_append.mp h).elim (fun h => ha w (List.mem_cons.mpr (Or.inr h))) (hb w))
theorem goodIn_sub {big ws : List Cond} (hm : ∀ w ∈ ws, w ∈ big) (h : ws.all goodWord = true) : GoodIn big ws := fun w hw => ⟨hm w hw, good_of_word (List.all_eq_true.mp h w hw)⟩
/-! ===== END ===== -/

/-! ===== BEGIN printed: names, fields, word lists, decode rows ===== -/
def RX0 : String := "WoodcutPress$Blocks"
def TX0 : u_T := fun k => match k with
  | 0 => ("WoodcutPress$Blocks", "colours", "LWoodcutPress$Cells;", true)
  | 1 => ("WoodcutPress$Blocks", "lines", "LWoodcutPress$Cells;", true)
  | 2 => ("WoodcutPress$Blocks", "lineBlock", "LWoodcutPress$Cells;", true)
  | 3 => ("WoodcutPress$Blocks", "colourBlock", "LWoodcutPress$Cells;", true)
  | _ => ("WoodcutPress$Blocks", "wear", "[I", true)
def tyX0 : Nat → FieldType := fun k => match k with
  | 0 => .object "WoodcutPress$Cells"
  | 1 => .object "WoodcutPress$Cells"
  | 2 => .object "WoodcutPress$Cells"
  | 3 => .object "WoodcutPress$Cells"
  | _ => .array .int
abbrev wsX00 : List Cond := u_ws RX0 TX0 5
theorem nmX0 : ∀ a, a < 5 → ∀ b, b < 5 → a ≠ b → (TX0 a).2.1 ≠ (TX0 b).2.1 := by decide +kernel
theorem tyX0_ok : ∀ k, k < 5 → parseFieldDescriptor (TX0 k).2.2.1 = some (tyX0 k) := by decide +kernel
abbrev cX0_init : ByteArray := prog_2_method_1_code
def yX0_init : MethodName := ⟨RX0, "<init>", "()V"⟩
abbrev cX0_becomeLike : ByteArray := prog_2_method_2_code
def yX0_becomeLike : MethodName := ⟨RX0, "becomeLike", "(LWoodcutPress$Blocks;)V"⟩
abbrev cX0_kindAt : ByteArray := prog_2_method_3_code
def yX0_kindAt : MethodName := ⟨RX0, "kindAt", "(II)I"⟩
abbrev cX0_paintedCells : ByteArray := prog_2_method_4_code
def yX0_paintedCells : MethodName := ⟨RX0, "paintedCells", "()I"⟩
abbrev cX0_fillArea : ByteArray := prog_2_method_5_code
def yX0_fillArea : MethodName := ⟨RX0, "fillArea", "(IIIII)I"⟩
abbrev cX0_cutAnew : ByteArray := prog_2_method_6_code
def yX0_cutAnew : MethodName := ⟨RX0, "cutAnew", "(I)V"⟩
abbrev cX0_cutColour : ByteArray := prog_2_method_7_code
def yX0_cutColour : MethodName := ⟨RX0, "cutColour", "(LWoodcutPress$Cells;I)V"⟩
abbrev cX0_wearAt : ByteArray := prog_2_method_8_code
def yX0_wearAt : MethodName := ⟨RX0, "wearAt", "(II)I"⟩
abbrev cX0_clearWear : ByteArray := prog_2_method_9_code
def yX0_clearWear : MethodName := ⟨RX0, "clearWear", "(II)V"⟩
abbrev cX0_isWorn : ByteArray := prog_2_method_10_code
def yX0_isWorn : MethodName := ⟨RX0, "isWorn", "(III)Z"⟩
abbrev cX0_findInk : ByteArray := prog_2_method_11_code
def yX0_findInk : MethodName := ⟨RX0, "findInk", "(LWoodcutPress$Cells;I)V"⟩
abbrev cX0_gaps : ByteArray := prog_2_method_12_code
def yX0_gaps : MethodName := ⟨RX0, "gaps", "(LWoodcutPress$Cells;LWoodcutPress$Cells;II)I"⟩
abbrev cX0_spills : ByteArray := prog_2_method_13_code
def yX0_spills : MethodName := ⟨RX0, "spills", "(LWoodcutPress$Cells;II)I"⟩
abbrev cX0_lostLines : ByteArray := prog_2_method_14_code
def yX0_lostLines : MethodName := ⟨RX0, "lostLines", "(LWoodcutPress$Cells;)I"⟩
abbrev cX0_wearDown : ByteArray := prog_2_method_15_code
def yX0_wearDown : MethodName := ⟨RX0, "wearDown", "(LWoodcutPress$Cells;)V"⟩
abbrev cX0_printsUntilWorn : ByteArray := prog_2_method_16_code
def yX0_printsUntilWorn : MethodName := ⟨RX0, "printsUntilWorn", "(LWoodcutPress$Cells;I)I"⟩
abbrev cX0_wearOfPrint : ByteArray := prog_2_method_17_code
def yX0_wearOfPrint : MethodName := ⟨RX0, "wearOfPrint", "(LWoodcutPress$Cells;II)I"⟩
def RX1 : String := "WoodcutPress$Cells"
def TX1 : u_T := fun k => match k with
  | _ => ("WoodcutPress$Cells", "rows", "[I", true)
def tyX1 : Nat → FieldType := fun k => match k with
  | _ => .array .int
abbrev wsX10 : List Cond := u_ws RX1 TX1 1
theorem nmX1 : ∀ a, a < 1 → ∀ b, b < 1 → a ≠ b → (TX1 a).2.1 ≠ (TX1 b).2.1 := by decide +kernel
theorem tyX1_ok : ∀ k, k < 1 → parseFieldDescriptor (TX1 k).2.2.1 = some (tyX1 k) := by decide +kernel
abbrev cX1_init : ByteArray := prog_3_method_1_code
def yX1_init : MethodName := ⟨RX1, "<init>", "()V"⟩
abbrev cX1_becomeLike : ByteArray := prog_3_method_2_code
def yX1_becomeLike : MethodName := ⟨RX1, "becomeLike", "(LWoodcutPress$Cells;)V"⟩
abbrev cX1_row : ByteArray := prog_3_method_3_code
def yX1_row : MethodName := ⟨RX1, "row", "(I)I"⟩
abbrev cX1_putRow : ByteArray := prog_3_method_4_code
def yX1_putRow : MethodName := ⟨RX1, "putRow", "(II)V"⟩
abbrev cX1_has : ByteArray := prog_3_method_5_code
def yX1_has : MethodName := ⟨RX1, "has", "(II)Z"⟩
abbrev cX1_put : ByteArray := prog_3_method_6_code
def yX1_put : MethodName := ⟨RX1, "put", "(IIZ)V"⟩
abbrev cX1_size : ByteArray := prog_3_method_7_code
def yX1_size : MethodName := ⟨RX1, "size", "()I"⟩
abbrev cX1_shiftedRow : ByteArray := prog_3_method_8_code
def yX1_shiftedRow : MethodName := ⟨RX1, "shiftedRow", "(III)I"⟩
abbrev cX1_growInto : ByteArray := prog_3_method_9_code
def yX1_growInto : MethodName := ⟨RX1, "growInto", "(LWoodcutPress$Cells;)V"⟩
abbrev cX1_neighbors : ByteArray := prog_3_method_10_code
def yX1_neighbors : MethodName := ⟨RX1, "neighbors", "(II)I"⟩
def RX2 : String := "WoodcutPress$History"
def TX2 : u_T := fun k => match k with
  | 0 => ("WoodcutPress$History", "states", "[LWoodcutPress$State;", true)
  | 1 => ("WoodcutPress$History", "size", "I", false)
  | _ => ("WoodcutPress$History", "next", "I", false)
def tyX2 : Nat → FieldType := fun k => match k with
  | 0 => .array (.object "WoodcutPress$State")
  | 1 => .int
  | _ => .int
abbrev wsX20 : List Cond := u_ws RX2 TX2 3
theorem nmX2 : ∀ a, a < 3 → ∀ b, b < 3 → a ≠ b → (TX2 a).2.1 ≠ (TX2 b).2.1 := by decide +kernel
theorem tyX2_ok : ∀ k, k < 3 → parseFieldDescriptor (TX2 k).2.2.1 = some (tyX2 k) := by decide +kernel
abbrev cX2_init : ByteArray := prog_4_method_1_code
def yX2_init : MethodName := ⟨RX2, "<init>", "()V"⟩
abbrev cX2_size : ByteArray := prog_4_method_2_code
def yX2_size : MethodName := ⟨RX2, "size", "()I"⟩
abbrev cX2_keep : ByteArray := prog_4_method_3_code
def yX2_keep : MethodName := ⟨RX2, "keep", "(LWoodcutPress$State;)V"⟩
abbrev cX2_giveBack : ByteArray := prog_4_method_4_code
def yX2_giveBack : MethodName := ⟨RX2, "giveBack", "(LWoodcutPress$State;)V"⟩
def RX3 : String := "WoodcutPress$Log"
def TX3 : u_T := fun k => match k with
  | 0 => ("WoodcutPress$Log", "parts", "[I", true)
  | 1 => ("WoodcutPress$Log", "size", "I", false)
  | _ => ("WoodcutPress$Log", "latest", "I", false)
def tyX3 : Nat → FieldType := fun k => match k with
  | 0 => .array .int
  | 1 => .int
  | _ => .int
abbrev wsX30 : List Cond := u_ws RX3 TX3 3
theorem nmX3 : ∀ a, a < 3 → ∀ b, b < 3 → a ≠ b → (TX3 a).2.1 ≠ (TX3 b).2.1 := by decide +kernel
theorem tyX3_ok : ∀ k, k < 3 → parseFieldDescriptor (TX3 k).2.2.1 = some (tyX3 k) := by decide +kernel
abbrev cX3_init : ByteArray := prog_5_method_1_code
def yX3_init : MethodName := ⟨RX3, "<init>", "()V"⟩
abbrev cX3_becomeLike : ByteArray := prog_5_method_2_code
def yX3_becomeLike : MethodName := ⟨RX3, "becomeLike", "(LWoodcutPress$Log;)V"⟩
abbrev cX3_size : ByteArray := prog_5_method_3_code
def yX3_size : MethodName := ⟨RX3, "size", "()I"⟩
abbrev cX3_addProof : ByteArray := prog_5_method_4_code
def yX3_addProof : MethodName := ⟨RX3, "addProof", "(III)V"⟩
abbrev cX3_addFaults : ByteArray := prog_5_method_5_code
def yX3_addFaults : MethodName := ⟨RX3, "addFaults", "(III)V"⟩
abbrev cX3_partOf : ByteArray := prog_5_method_6_code
def yX3_partOf : MethodName := ⟨RX3, "partOf", "(II)I"⟩
def RX4 : String := "WoodcutPress$Reader"
def TX4 : u_T := fun k => match k with
  | 0 => ("WoodcutPress$Reader", "text", "[I", true)
  | 1 => ("WoodcutPress$Reader", "length", "I", false)
  | 2 => ("WoodcutPress$Reader", "at", "I", false)
  | 3 => ("WoodcutPress$Reader", "error", "I", false)
  | 4 => ("WoodcutPress$Reader", "colours", "LWoodcutPress$Cells;", true)
  | _ => ("WoodcutPress$Reader", "lines", "LWoodcutPress$Cells;", true)
def tyX4 : Nat → FieldType := fun k => match k with
  | 0 => .array .int
  | 1 => .int
  | 2 => .int
  | 3 => .int
  | 4 => .object "WoodcutPress$Cells"
  | _ => .object "WoodcutPress$Cells"
abbrev wsX40 : List Cond := u_ws RX4 TX4 6
theorem nmX4 : ∀ a, a < 6 → ∀ b, b < 6 → a ≠ b → (TX4 a).2.1 ≠ (TX4 b).2.1 := by decide +kernel
theorem tyX4_ok : ∀ k, k < 6 → parseFieldDescriptor (TX4 k).2.2.1 = some (tyX4 k) := by decide +kernel
abbrev cX4_init : ByteArray := prog_6_method_1_code
def yX4_init : MethodName := ⟨RX4, "<init>", "()V"⟩
abbrev cX4_length : ByteArray := prog_6_method_2_code
def yX4_length : MethodName := ⟨RX4, "length", "()I"⟩
abbrev cX4_addCharacter : ByteArray := prog_6_method_3_code
def yX4_addCharacter : MethodName := ⟨RX4, "addCharacter", "(I)V"⟩
abbrev cX4_forgetText : ByteArray := prog_6_method_4_code
def yX4_forgetText : MethodName := ⟨RX4, "forgetText", "()V"⟩
abbrev cX4_handPictureTo : ByteArray := prog_6_method_5_code
def yX4_handPictureTo : MethodName := ⟨RX4, "handPictureTo", "(LWoodcutPress$Blocks;)V"⟩
abbrev cX4_readText : ByteArray := prog_6_method_6_code
def yX4_readText : MethodName := ⟨RX4, "readText", "(LWoodcutPress$Blocks;)I"⟩
abbrev cX4_readItem : ByteArray := prog_6_method_7_code
def yX4_readItem : MethodName := ⟨RX4, "readItem", "()V"⟩
abbrev cX4_readRuns : ByteArray := prog_6_method_8_code
def yX4_readRuns : MethodName := ⟨RX4, "readRuns", "(I)V"⟩
abbrev cX4_readKind : ByteArray := prog_6_method_9_code
def yX4_readKind : MethodName := ⟨RX4, "readKind", "()I"⟩
abbrev cX4_readNumber : ByteArray := prog_6_method_10_code
def yX4_readNumber : MethodName := ⟨RX4, "readNumber", "(II)I"⟩
abbrev cX4_isDigit : ByteArray := prog_6_method_11_code
def yX4_isDigit : MethodName := ⟨RX4, "isDigit", "(I)Z"⟩
abbrev cX4_skipSpaces : ByteArray := prog_6_method_12_code
def yX4_skipSpaces : MethodName := ⟨RX4, "skipSpaces", "()V"⟩
abbrev cX4_here : ByteArray := prog_6_method_13_code
def yX4_here : MethodName := ⟨RX4, "here", "()I"⟩
abbrev cX4_failAt : ByteArray := prog_6_method_14_code
def yX4_failAt : MethodName := ⟨RX4, "failAt", "(I)V"⟩
def RX5 : String := "WoodcutPress$State"
def TX5 : u_T := fun k => match k with
  | 0 => ("WoodcutPress$State", "blocks", "LWoodcutPress$Blocks;", true)
  | 1 => ("WoodcutPress$State", "settings", "[I", true)
  | 2 => ("WoodcutPress$State", "log", "LWoodcutPress$Log;", true)
  | 3 => ("WoodcutPress$State", "pinX", "I", false)
  | 4 => ("WoodcutPress$State", "pinY", "I", false)
  | 5 => ("WoodcutPress$State", "prints", "I", false)
  | 6 => ("WoodcutPress$State", "firstSnapshot", "LWoodcutPress$Blocks;", true)
  | 7 => ("WoodcutPress$State", "secondSnapshot", "LWoodcutPress$Blocks;", true)
  | 8 => ("WoodcutPress$State", "firstTaken", "Z", false)
  | _ => ("WoodcutPress$State", "secondTaken", "Z", false)
def tyX5 : Nat → FieldType := fun k => match k with
  | 0 => .object "WoodcutPress$Blocks"
  | 1 => .array .int
  | 2 => .object "WoodcutPress$Log"
  | 3 => .int
  | 4 => .int
  | 5 => .int
  | 6 => .object "WoodcutPress$Blocks"
  | 7 => .object "WoodcutPress$Blocks"
  | 8 => .boolean
  | _ => .boolean
abbrev wsX50 : List Cond := u_ws RX5 TX5 10
theorem nmX5 : ∀ a, a < 10 → ∀ b, b < 10 → a ≠ b → (TX5 a).2.1 ≠ (TX5 b).2.1 := by decide +kernel
theorem tyX5_ok : ∀ k, k < 10 → parseFieldDescriptor (TX5 k).2.2.1 = some (tyX5 k) := by decide +kernel
abbrev cX5_init : ByteArray := prog_7_method_1_code
def yX5_init : MethodName := ⟨RX5, "<init>", "()V"⟩
abbrev cX5_becomeLike : ByteArray := prog_7_method_2_code
def yX5_becomeLike : MethodName := ⟨RX5, "becomeLike", "(LWoodcutPress$State;)V"⟩
abbrev cX5_hardness : ByteArray := prog_7_method_3_code
def yX5_hardness : MethodName := ⟨RX5, "hardness", "()I"⟩
abbrev cX5_driftX : ByteArray := prog_7_method_4_code
def yX5_driftX : MethodName := ⟨RX5, "driftX", "()I"⟩
abbrev cX5_driftY : ByteArray := prog_7_method_5_code
def yX5_driftY : MethodName := ⟨RX5, "driftY", "()I"⟩
abbrev cX5_shiftX : ByteArray := prog_7_method_6_code
def yX5_shiftX : MethodName := ⟨RX5, "shiftX", "()I"⟩
abbrev cX5_shiftY : ByteArray := prog_7_method_7_code
def yX5_shiftY : MethodName := ⟨RX5, "shiftY", "()I"⟩
abbrev cX5_dry : ByteArray := prog_7_method_8_code
def yX5_dry : MethodName := ⟨RX5, "dry", "()V"⟩
abbrev cX5_isTaken : ByteArray := prog_7_method_9_code
def yX5_isTaken : MethodName := ⟨RX5, "isTaken", "(I)Z"⟩
abbrev cX5_snapshots : ByteArray := prog_7_method_10_code
def yX5_snapshots : MethodName := ⟨RX5, "snapshots", "()I"⟩
abbrev cX5_takeSnapshot : ByteArray := prog_7_method_11_code
def yX5_takeSnapshot : MethodName := ⟨RX5, "takeSnapshot", "(I)V"⟩
abbrev cX5_restoreSnapshot : ByteArray := prog_7_method_12_code
def yX5_restoreSnapshot : MethodName := ⟨RX5, "restoreSnapshot", "(I)V"⟩
abbrev cX5_snapshotIn : ByteArray := prog_7_method_13_code
def yX5_snapshotIn : MethodName := ⟨RX5, "snapshotIn", "(I)LWoodcutPress$Blocks;"⟩
def RX6 : String := "WoodcutPress"
def TX6 : u_T := fun k => match k with
  | 0 => ("WoodcutPress", "now", "LWoodcutPress$State;", true)
  | 1 => ("WoodcutPress", "history", "LWoodcutPress$History;", true)
  | 2 => ("WoodcutPress", "reader", "LWoodcutPress$Reader;", true)
  | 3 => ("WoodcutPress", "ink", "LWoodcutPress$Cells;", true)
  | _ => ("WoodcutPress", "trial", "LWoodcutPress$Cells;", true)
def tyX6 : Nat → FieldType := fun k => match k with
  | 0 => .object "WoodcutPress$State"
  | 1 => .object "WoodcutPress$History"
  | 2 => .object "WoodcutPress$Reader"
  | 3 => .object "WoodcutPress$Cells"
  | _ => .object "WoodcutPress$Cells"
abbrev wsX60 : List Cond := u_ws RX6 TX6 5
theorem nmX6 : ∀ a, a < 5 → ∀ b, b < 5 → a ≠ b → (TX6 a).2.1 ≠ (TX6 b).2.1 := by decide +kernel
theorem tyX6_ok : ∀ k, k < 5 → parseFieldDescriptor (TX6 k).2.2.1 = some (tyX6 k) := by decide +kernel
abbrev cX6_init : ByteArray := prog_1_method_1_code
def yX6_init : MethodName := ⟨RX6, "<init>", "()V"⟩
abbrev cX6_paint : ByteArray := prog_1_method_2_code
def yX6_paint : MethodName := ⟨RX6, "paint", "(IIIII)I"⟩
abbrev cX6_cut : ByteArray := prog_1_method_3_code
def yX6_cut : MethodName := ⟨RX6, "cut", "(I)I"⟩
abbrev cX6_carve : ByteArray := prog_1_method_4_code
def yX6_carve : MethodName := ⟨RX6, "carve", "(IIII)I"⟩
abbrev cX6_plug : ByteArray := prog_1_method_5_code
def yX6_plug : MethodName := ⟨RX6, "plug", "(II)I"⟩
abbrev cX6_setPins : ByteArray := prog_1_method_6_code
def yX6_setPins : MethodName := ⟨RX6, "setPins", "(II)I"⟩
abbrev cX6_set : ByteArray := prog_1_method_7_code
def yX6_set : MethodName := ⟨RX6, "set", "(II)I"⟩
abbrev cX6_print : ByteArray := prog_1_method_8_code
def yX6_print : MethodName := ⟨RX6, "print", "(I)I"⟩
abbrev cX6_take : ByteArray := prog_1_method_9_code
def yX6_take : MethodName := ⟨RX6, "take", "(I)I"⟩
abbrev cX6_restore : ByteArray := prog_1_method_10_code
def yX6_restore : MethodName := ⟨RX6, "restore", "(I)I"⟩
abbrev cX6_undo : ByteArray := prog_1_method_11_code
def yX6_undo : MethodName := ⟨RX6, "undo", "()I"⟩
abbrev cX6_append : ByteArray := prog_1_method_12_code
def yX6_append : MethodName := ⟨RX6, "append", "(I)I"⟩
abbrev cX6_clearText : ByteArray := prog_1_method_13_code
def yX6_clearText : MethodName := ⟨RX6, "clearText", "()I"⟩
abbrev cX6_load : ByteArray := prog_1_method_14_code
def yX6_load : MethodName := ⟨RX6, "load", "()I"⟩
abbrev cX6_count : ByteArray := prog_1_method_15_code
def yX6_count : MethodName := ⟨RX6, "count", "(I)I"⟩
abbrev cX6_cell : ByteArray := prog_1_method_16_code
def yX6_cell : MethodName := ⟨RX6, "cell", "(III)I"⟩
abbrev cX6_printed : ByteArray := prog_1_method_17_code
def yX6_printed : MethodName := ⟨RX6, "printed", "(IIII)I"⟩
abbrev cX6_proof : ByteArray := prog_1_method_18_code
def yX6_proof : MethodName := ⟨RX6, "proof", "(II)I"⟩
abbrev cX6_faults : ByteArray := prog_1_method_19_code
def yX6_faults : MethodName := ⟨RX6, "faults", "(III)I"⟩
abbrev cX6_why : ByteArray := prog_1_method_20_code
def yX6_why : MethodName := ⟨RX6, "why", "(II)I"⟩
abbrev cX6_tolerance : ByteArray := prog_1_method_21_code
def yX6_tolerance : MethodName := ⟨RX6, "tolerance", "()I"⟩
abbrev cX6_trapFor : ByteArray := prog_1_method_22_code
def yX6_trapFor : MethodName := ⟨RX6, "trapFor", "(I)I"⟩
abbrev cX6_bestPins : ByteArray := prog_1_method_23_code
def yX6_bestPins : MethodName := ⟨RX6, "bestPins", "(I)I"⟩
abbrev cX6_printsLeft : ByteArray := prog_1_method_24_code
def yX6_printsLeft : MethodName := ⟨RX6, "printsLeft", "()I"⟩
abbrev cX6_isWithin : ByteArray := prog_1_method_25_code
def yX6_isWithin : MethodName := ⟨RX6, "isWithin", "(III)Z"⟩
abbrev cX6_isPlace : ByteArray := prog_1_method_26_code
def yX6_isPlace : MethodName := ⟨RX6, "isPlace", "(II)Z"⟩
abbrev cX6_isShift : ByteArray := prog_1_method_27_code
def yX6_isShift : MethodName := ⟨RX6, "isShift", "(II)Z"⟩
abbrev cX6_oneIf : ByteArray := prog_1_method_28_code
def yX6_oneIf : MethodName := ⟨RX6, "oneIf", "(Z)I"⟩
abbrev cX6_findInk : ByteArray := prog_1_method_29_code
def yX6_findInk : MethodName := ⟨RX6, "findInk", "()V"⟩
abbrev cX6_wornCells : ByteArray := prog_1_method_30_code
def yX6_wornCells : MethodName := ⟨RX6, "wornCells", "()I"⟩
abbrev cX6_printsColour : ByteArray := prog_1_method_31_code
def yX6_printsColour : MethodName := ⟨RX6, "printsColour", "(IIII)Z"⟩
abbrev cX6_gapsWith : ByteArray := prog_1_method_32_code
def yX6_gapsWith : MethodName := ⟨RX6, "gapsWith", "(II)I"⟩
abbrev cX6_spillsWith : ByteArray := prog_1_method_33_code
def yX6_spillsWith : MethodName := ⟨RX6, "spillsWith", "(II)I"⟩
abbrev cX6_hasGapsWithin : ByteArray := prog_1_method_34_code
def yX6_hasGapsWithin : MethodName := ⟨RX6, "hasGapsWithin", "(ILWoodcutPress$Cells;LWoodcutPress$Cells;)Z"⟩
abbrev cX6_makeOnePrint : ByteArray := prog_1_method_35_code
def yX6_makeOnePrint : MethodName := ⟨RX6, "makeOnePrint", "()I"⟩
def RX7 : String := "WoodcutPressModel"
def TX7 : u_T := fun k => match k with
  | 0 => ("WoodcutPressModel", "thrown", "I", false)
  | 1 => ("WoodcutPressModel", "s", "[I", true)
  | 2 => ("WoodcutPressModel", "saved", "[I", true)
  | 3 => ("WoodcutPressModel", "savedMany", "I", false)
  | 4 => ("WoodcutPressModel", "text", "[I", true)
  | 5 => ("WoodcutPressModel", "length", "I", false)
  | 6 => ("WoodcutPressModel", "plate", "[I", true)
  | 7 => ("WoodcutPressModel", "steps", "[I", true)
  | 8 => ("WoodcutPressModel", "gaps", "I", false)
  | 9 => ("WoodcutPressModel", "spills", "I", false)
  | 10 => ("WoodcutPressModel", "lost", "I", false)
  | 11 => ("WoodcutPressModel", "draft", "[I", true)
  | 12 => ("WoodcutPressModel", "at", "I", false)
  | 13 => ("WoodcutPressModel", "wrong", "I", false)
  | _ => ("WoodcutPressModel", "read", "I", false)
def tyX7 : Nat → FieldType := fun k => match k with
  | 0 => .int
  | 1 => .array .int
  | 2 => .array .int
  | 3 => .int
  | 4 => .array .int
  | 5 => .int
  | 6 => .array .int
  | 7 => .array .int
  | 8 => .int
  | 9 => .int
  | 10 => .int
  | 11 => .array .int
  | 12 => .int
  | 13 => .int
  | _ => .int
abbrev wsX70 : List Cond := u_ws RX7 TX7 15
theorem nmX7 : ∀ a, a < 15 → ∀ b, b < 15 → a ≠ b → (TX7 a).2.1 ≠ (TX7 b).2.1 := by decide +kernel
theorem tyX7_ok : ∀ k, k < 15 → parseFieldDescriptor (TX7 k).2.2.1 = some (tyX7 k) := by decide +kernel
abbrev cX7_init : ByteArray := prog_9_method_1_code
def yX7_init : MethodName := ⟨RX7, "<init>", "()V"⟩
abbrev cX7_in : ByteArray := prog_9_method_3_code
def yX7_in : MethodName := ⟨RX7, "in", "(III)Z"⟩
abbrev cX7_isCell : ByteArray := prog_9_method_4_code
def yX7_isCell : MethodName := ⟨RX7, "isCell", "(II)Z"⟩
abbrev cX7_isShift : ByteArray := prog_9_method_5_code
def yX7_isShift : MethodName := ⟨RX7, "isShift", "(II)Z"⟩
abbrev cX7_act : ByteArray := prog_9_method_6_code
def yX7_act : MethodName := ⟨RX7, "act", "()V"⟩
abbrev cX7_many : ByteArray := prog_9_method_7_code
def yX7_many : MethodName := ⟨RX7, "many", "(II)I"⟩
abbrev cX7_inked : ByteArray := prog_9_method_8_code
def yX7_inked : MethodName := ⟨RX7, "inked", "()I"⟩
abbrev cX7_isWorn : ByteArray := prog_9_method_9_code
def yX7_isWorn : MethodName := ⟨RX7, "isWorn", "(I)Z"⟩
abbrev cX7_wornCells : ByteArray := prog_9_method_10_code
def yX7_wornCells : MethodName := ⟨RX7, "wornCells", "()I"⟩
abbrev cX7_beside : ByteArray := prog_9_method_11_code
def yX7_beside : MethodName := ⟨RX7, "beside", "(II)I"⟩
abbrev cX7_isNextTo : ByteArray := prog_9_method_12_code
def yX7_isNextTo : MethodName := ⟨RX7, "isNextTo", "(II)Z"⟩
abbrev cX7_measure : ByteArray := prog_9_method_13_code
def yX7_measure : MethodName := ⟨RX7, "measure", "()V"⟩
abbrev cX7_lay : ByteArray := prog_9_method_14_code
def yX7_lay : MethodName := ⟨RX7, "lay", "()V"⟩
abbrev cX7_layCut : ByteArray := prog_9_method_15_code
def yX7_layCut : MethodName := ⟨RX7, "layCut", "(I)V"⟩
abbrev cX7_isTinted : ByteArray := prog_9_method_16_code
def yX7_isTinted : MethodName := ⟨RX7, "isTinted", "(IIII)Z"⟩
abbrev cX7_look : ByteArray := prog_9_method_17_code
def yX7_look : MethodName := ⟨RX7, "look", "(IIII)I"⟩
abbrev cX7_check : ByteArray := prog_9_method_18_code
def yX7_check : MethodName := ⟨RX7, "check", "(II)V"⟩
abbrev cX7_hasGapsWithin : ByteArray := prog_9_method_19_code
def yX7_hasGapsWithin : MethodName := ⟨RX7, "hasGapsWithin", "(I)Z"⟩
abbrev cX7_shiftX : ByteArray := prog_9_method_20_code
def yX7_shiftX : MethodName := ⟨RX7, "shiftX", "(I)I"⟩
abbrev cX7_shiftY : ByteArray := prog_9_method_21_code
def yX7_shiftY : MethodName := ⟨RX7, "shiftY", "(I)I"⟩
abbrev cX7_checkNow : ByteArray := prog_9_method_22_code
def yX7_checkNow : MethodName := ⟨RX7, "checkNow", "()V"⟩
abbrev cX7_paint : ByteArray := prog_9_method_23_code
def yX7_paint : MethodName := ⟨RX7, "paint", "(IIIII)I"⟩
abbrev cX7_cut : ByteArray := prog_9_method_24_code
def yX7_cut : MethodName := ⟨RX7, "cut", "(I)I"⟩
abbrev cX7_carve : ByteArray := prog_9_method_25_code
def yX7_carve : MethodName := ⟨RX7, "carve", "(IIII)I"⟩
abbrev cX7_plug : ByteArray := prog_9_method_26_code
def yX7_plug : MethodName := ⟨RX7, "plug", "(II)I"⟩
abbrev cX7_setPins : ByteArray := prog_9_method_27_code
def yX7_setPins : MethodName := ⟨RX7, "setPins", "(II)I"⟩
abbrev cX7_isSetting : ByteArray := prog_9_method_28_code
def yX7_isSetting : MethodName := ⟨RX7, "isSetting", "(II)Z"⟩
abbrev cX7_set : ByteArray := prog_9_method_29_code
def yX7_set : MethodName := ⟨RX7, "set", "(II)I"⟩
abbrev cX7_rubs : ByteArray := prog_9_method_30_code
def yX7_rubs : MethodName := ⟨RX7, "rubs", "(I)I"⟩
abbrev cX7_printOne : ByteArray := prog_9_method_31_code
def yX7_printOne : MethodName := ⟨RX7, "printOne", "()V"⟩
abbrev cX7_print : ByteArray := prog_9_method_32_code
def yX7_print : MethodName := ⟨RX7, "print", "(I)I"⟩
abbrev cX7_take : ByteArray := prog_9_method_33_code
def yX7_take : MethodName := ⟨RX7, "take", "(I)I"⟩
abbrev cX7_restore : ByteArray := prog_9_method_34_code
def yX7_restore : MethodName := ⟨RX7, "restore", "(I)I"⟩
abbrev cX7_undo : ByteArray := prog_9_method_35_code
def yX7_undo : MethodName := ⟨RX7, "undo", "()I"⟩
abbrev cX7_append : ByteArray := prog_9_method_36_code
def yX7_append : MethodName := ⟨RX7, "append", "(I)I"⟩
abbrev cX7_clearText : ByteArray := prog_9_method_37_code
def yX7_clearText : MethodName := ⟨RX7, "clearText", "()I"⟩
abbrev cX7_here : ByteArray := prog_9_method_38_code
def yX7_here : MethodName := ⟨RX7, "here", "()I"⟩
abbrev cX7_isDigit : ByteArray := prog_9_method_39_code
def yX7_isDigit : MethodName := ⟨RX7, "isDigit", "()Z"⟩
abbrev cX7_isWell : ByteArray := prog_9_method_40_code
def yX7_isWell : MethodName := ⟨RX7, "isWell", "()Z"⟩
abbrev cX7_skip : ByteArray := prog_9_method_41_code
def yX7_skip : MethodName := ⟨RX7, "skip", "()V"⟩
abbrev cX7_fail : ByteArray := prog_9_method_42_code
def yX7_fail : MethodName := ⟨RX7, "fail", "(I)V"⟩
abbrev cX7_number : ByteArray := prog_9_method_43_code
def yX7_number : MethodName := ⟨RX7, "number", "(II)I"⟩
abbrev cX7_expect : ByteArray := prog_9_method_44_code
def yX7_expect : MethodName := ⟨RX7, "expect", "(I)V"⟩
abbrev cX7_kind : ByteArray := prog_9_method_45_code
def yX7_kind : MethodName := ⟨RX7, "kind", "()I"⟩
abbrev cX7_readRun : ByteArray := prog_9_method_46_code
def yX7_readRun : MethodName := ⟨RX7, "readRun", "(II)V"⟩
abbrev cX7_readRow : ByteArray := prog_9_method_47_code
def yX7_readRow : MethodName := ⟨RX7, "readRow", "()V"⟩
abbrev cX7_load : ByteArray := prog_9_method_48_code
def yX7_load : MethodName := ⟨RX7, "load", "()I"⟩
abbrev cX7_count : ByteArray := prog_9_method_49_code
def yX7_count : MethodName := ⟨RX7, "count", "(I)I"⟩
abbrev cX7_cell : ByteArray := prog_9_method_50_code
def yX7_cell : MethodName := ⟨RX7, "cell", "(III)I"⟩
abbrev cX7_printed : ByteArray := prog_9_method_51_code
def yX7_printed : MethodName := ⟨RX7, "printed", "(IIII)I"⟩
abbrev cX7_proof : ByteArray := prog_9_method_52_code
def yX7_proof : MethodName := ⟨RX7, "proof", "(II)I"⟩
abbrev cX7_faults : ByteArray := prog_9_method_53_code
def yX7_faults : MethodName := ⟨RX7, "faults", "(III)I"⟩
abbrev cX7_why : ByteArray := prog_9_method_54_code
def yX7_why : MethodName := ⟨RX7, "why", "(II)I"⟩
abbrev cX7_tolerance : ByteArray := prog_9_method_55_code
def yX7_tolerance : MethodName := ⟨RX7, "tolerance", "()I"⟩
abbrev cX7_trapFor : ByteArray := prog_9_method_56_code
def yX7_trapFor : MethodName := ⟨RX7, "trapFor", "(I)I"⟩
abbrev cX7_bestPins : ByteArray := prog_9_method_57_code
def yX7_bestPins : MethodName := ⟨RX7, "bestPins", "(I)I"⟩
abbrev cX7_printsLeft : ByteArray := prog_9_method_58_code
def yX7_printsLeft : MethodName := ⟨RX7, "printsLeft", "()I"⟩
def RJ6 : String := "java/lang/Integer"
def TJ6 : u_T := fun k => match k with
  | _ => ("", "", "", false)
def tyJ6 : Nat → FieldType := fun k => match k with
  | _ => .int
abbrev wsJ60 : List Cond := u_ws RJ6 TJ6 0
theorem nmJ6 : ∀ a, a < 0 → ∀ b, b < 0 → a ≠ b → (TJ6 a).2.1 ≠ (TJ6 b).2.1 := by decide +kernel
theorem tyJ6_ok : ∀ k, k < 0 → parseFieldDescriptor (TJ6 k).2.2.1 = some (tyJ6 k) := by decide +kernel
abbrev cJ6_bitCount_0f7a4 : ByteArray := prog_10_method_49_code
def yJ6_bitCount_0f7a4 : MethodName := ⟨RJ6, "bitCount", "(I)I"⟩
def RJ9 : String := "java/lang/Math"
def TJ9 : u_T := fun k => match k with
  | _ => ("", "", "", false)
def tyJ9 : Nat → FieldType := fun k => match k with
  | _ => .int
abbrev wsJ90 : List Cond := u_ws RJ9 TJ9 0
theorem nmJ9 : ∀ a, a < 0 → ∀ b, b < 0 → a ≠ b → (TJ9 a).2.1 ≠ (TJ9 b).2.1 := by decide +kernel
theorem tyJ9_ok : ∀ k, k < 0 → parseFieldDescriptor (TJ9 k).2.2.1 = some (tyJ9 k) := by decide +kernel
abbrev cJ9_max_7cf53 : ByteArray := prog_11_method_65_code
def yJ9_max_7cf53 : MethodName := ⟨RJ9, "max", "(II)I"⟩
abbrev cJ9_min_7cf53 : ByteArray := prog_11_method_69_code
def yJ9_min_7cf53 : MethodName := ⟨RJ9, "min", "(II)I"⟩
def RJ10 : String := "java/lang/System"
def TJ10 : u_T := fun k => match k with
  | _ => ("", "", "", false)
def tyJ10 : Nat → FieldType := fun k => match k with
  | _ => .int
abbrev wsJ100 : List Cond := u_ws RJ10 TJ10 0
theorem nmJ10 : ∀ a, a < 0 → ∀ b, b < 0 → a ≠ b → (TJ10 a).2.1 ≠ (TJ10 b).2.1 := by decide +kernel
theorem tyJ10_ok : ∀ k, k < 0 → parseFieldDescriptor (TJ10 k).2.2.1 = some (tyJ10 k) := by decide +kernel
def RJ7 : String := "java/util/Arrays"
def TJ7 : u_T := fun k => match k with
  | _ => ("", "", "", false)
def tyJ7 : Nat → FieldType := fun k => match k with
  | _ => .int
abbrev wsJ70 : List Cond := u_ws RJ7 TJ7 0
theorem nmJ7 : ∀ a, a < 0 → ∀ b, b < 0 → a ≠ b → (TJ7 a).2.1 ≠ (TJ7 b).2.1 := by decide +kernel
theorem tyJ7_ok : ∀ k, k < 0 → parseFieldDescriptor (TJ7 k).2.2.1 = some (tyJ7 k) := by decide +kernel
abbrev cJ7_fill_53178 : ByteArray := prog_13_method_103_code
def yJ7_fill_53178 : MethodName := ⟨RJ7, "fill", "([II)V"⟩
def RL : String := "WoodcutPressLaw"
abbrev cL_law : ByteArray := code
def yL_law : MethodName := ⟨RL, "law", "([I)Z"⟩
def wsX1_init : List Cond := .code yX1_init cX1_init 1 none :: ([.methodLink RX1 3 objectInit, .instanceMethod objectInit, .code objectInit ⟨#[0xb1]⟩ 1 none, .arrayClass .int, .fieldLink RX1 9 "WoodcutPress$Cells" "rows" "[I"] ++ wsX10)
def wsX0_init : List Cond := .code yX0_init cX0_init 1 none :: ([.methodLink RX0 3 objectInit, .instanceMethod objectInit, .code objectInit ⟨#[0xb1]⟩ 1 none, .classLink RX0 9 RX1, .instantiable RX1 1, .initialized RX1, .fieldLink RX0 12 "WoodcutPress$Blocks" "colours" "LWoodcutPress$Cells;", .fieldLink RX0 18 "WoodcutPress$Blocks" "lines" "LWoodcutPress$Cells;", .fieldLink RX0 21 "WoodcutPress$Blocks" "lineBlock" "LWoodcutPress$Cells;", .fieldLink RX0 24 "WoodcutPress$Blocks" "colourBlock" "LWoodcutPress$Cells;", .arrayClass .int, .fieldLink RX0 27 "WoodcutPress$Blocks" "wear" "[I", .methodLink RX0 11 yX1_init, .instanceMethod yX1_init, .code yX1_init cX1_init 1 none, .methodLink RX1 3 objectInit, .fieldLink RX1 9 "WoodcutPress$Cells" "rows" "[I"] ++ wsX10 ++ wsX00)
def wsX1_becomeLike : List Cond := .code yX1_becomeLike cX1_becomeLike 2 none :: ([.fieldLink RX1 9 "WoodcutPress$Cells" "rows" "[I", .methodLink RX1 15 arraycopyName, .native arraycopyName, .static arraycopyName, .initialized "java/lang/System"] ++ wsX10)
def wsX0_becomeLike : List Cond := .code yX0_becomeLike cX0_becomeLike 2 none :: ([.fieldLink RX0 12 "WoodcutPress$Blocks" "colours" "LWoodcutPress$Cells;", .fieldLink RX0 18 "WoodcutPress$Blocks" "lines" "LWoodcutPress$Cells;", .fieldLink RX0 21 "WoodcutPress$Blocks" "lineBlock" "LWoodcutPress$Cells;", .fieldLink RX0 24 "WoodcutPress$Blocks" "colourBlock" "LWoodcutPress$Cells;", .fieldLink RX0 27 "WoodcutPress$Blocks" "wear" "[I", .methodLink RX0 35 arraycopyName, .native arraycopyName, .static arraycopyName, .initialized "java/lang/System", .methodLink RX0 31 yX1_becomeLike, .instanceMethod yX1_becomeLike, .selects RX1 yX1_becomeLike yX1_becomeLike, .initialized RX1, .code yX1_becomeLike cX1_becomeLike 2 none, .fieldLink RX1 9 "WoodcutPress$Cells" "rows" "[I", .methodLink RX1 15 arraycopyName] ++ wsX00 ++ wsX10)
def wsX6_isPlace : List Cond := .code yX6_isPlace cX6_isPlace 2 (some .boolean) :: ([])
def wsX1_has : List Cond := .code yX1_has cX1_has 3 (some .boolean) :: ([.fieldLink RX1 9 "WoodcutPress$Cells" "rows" "[I", .static yX6_isPlace, .initialized RX6, .code yX6_isPlace cX6_isPlace 2 (some .boolean)] ++ wsX10)
def wsX0_kindAt : List Cond := .code yX0_kindAt cX0_kindAt 3 (some .int) :: ([.fieldLink RX0 18 "WoodcutPress$Blocks" "lines" "LWoodcutPress$Cells;", .fieldLink RX0 12 "WoodcutPress$Blocks" "colours" "LWoodcutPress$Cells;", .methodLink RX0 41 yX1_has, .instanceMethod yX1_has, .selects RX1 yX1_has yX1_has, .initialized RX1, .code yX1_has cX1_has 3 (some .boolean), .fieldLink RX1 9 "WoodcutPress$Cells" "rows" "[I", .static yX6_isPlace, .initialized RX6, .code yX6_isPlace cX6_isPlace 2 (some .boolean)] ++ wsX00 ++ wsX10)
def wsJ6_bitCount_0f7a4 : List Cond := .code yJ6_bitCount_0f7a4 cJ6_bitCount_0f7a4 1 (some .int) :: ([.constant RJ6 265 (1431655765), .constant RJ6 266 (858993459), .constant RJ6 267 (252645135)])
def wsX1_size : List Cond := .code yX1_size cX1_size 3 (some .int) :: ([.fieldLink RX1 9 "WoodcutPress$Cells" "rows" "[I", .methodLink RX1 26 yJ6_bitCount_0f7a4, .static yJ6_bitCount_0f7a4, .initialized RJ6, .code yJ6_bitCount_0f7a4 cJ6_bitCount_0f7a4 1 (some .int), .constant RJ6 265 (1431655765), .constant RJ6 266 (858993459), .constant RJ6 267 (252645135)] ++ wsX10)
def wsX0_paintedCells : List Cond := .code yX0_paintedCells cX0_paintedCells 1 (some .int) :: ([.fieldLink RX0 12 "WoodcutPress$Blocks" "colours" "LWoodcutPress$Cells;", .fieldLink RX0 18 "WoodcutPress$Blocks" "lines" "LWoodcutPress$Cells;", .methodLink RX0 45 yX1_size, .instanceMethod yX1_size, .selects RX1 yX1_size yX1_size, .initialized RX1, .code yX1_size cX1_size 3 (some .int), .fieldLink RX1 9 "WoodcutPress$Cells" "rows" "[I", .methodLink RX1 26 yJ6_bitCount_0f7a4, .static yJ6_bitCount_0f7a4, .initialized RJ6, .code yJ6_bitCount_0f7a4 cJ6_bitCount_0f7a4 1 (some .int), .constant RJ6 265 (1431655765), .constant RJ6 266 (858993459), .constant RJ6 267 (252645135)] ++ wsX00 ++ wsX10)
def wsX6_oneIf : List Cond := .code yX6_oneIf cX6_oneIf 1 (some .int) :: ([])
def wsX1_put : List Cond := .code yX1_put cX1_put 4 none :: ([.fieldLink RX1 9 "WoodcutPress$Cells" "rows" "[I", .static yX6_isPlace, .initialized RX6, .code yX6_isPlace cX6_isPlace 2 (some .boolean)] ++ wsX10)
def wsX0_fillArea : List Cond := .code yX0_fillArea cX0_fillArea 9 (some .int) :: ([.fieldLink RX0 12 "WoodcutPress$Blocks" "colours" "LWoodcutPress$Cells;", .fieldLink RX0 18 "WoodcutPress$Blocks" "lines" "LWoodcutPress$Cells;", .methodLink RX0 49 yX0_kindAt, .instanceMethod yX0_kindAt, .selects RX0 yX0_kindAt yX0_kindAt, .initialized RX0, .code yX0_kindAt cX0_kindAt 3 (some .int), .methodLink RX0 41 yX1_has, .instanceMethod yX1_has, .selects RX1 yX1_has yX1_has, .initialized RX1, .code yX1_has cX1_has 3 (some .boolean), .fieldLink RX1 9 "WoodcutPress$Cells" "rows" "[I", .static yX6_isPlace, .initialized RX6, .code yX6_isPlace cX6_isPlace 2 (some .boolean), .static yX6_oneIf, .code yX6_oneIf cX6_oneIf 1 (some .int), .methodLink RX0 57 yX1_put, .instanceMethod yX1_put, .selects RX1 yX1_put yX1_put, .code yX1_put cX1_put 4 none] ++ wsX00 ++ wsX10)
def wsJ7_fill_53178 : List Cond := .code yJ7_fill_53178 cJ7_fill_53178 4 none :: ([])
def wsX1_row : List Cond := .code yX1_row cX1_row 2 (some .int) :: ([.fieldLink RX1 9 "WoodcutPress$Cells" "rows" "[I"] ++ wsX10)
def wsX1_growInto : List Cond := .code yX1_growInto cX1_growInto 6 none :: ([.fieldLink RX1 9 "WoodcutPress$Cells" "rows" "[I", .methodLink RX1 32 yX1_row, .instanceMethod yX1_row, .selects RX1 yX1_row yX1_row, .initialized RX1, .code yX1_row cX1_row 2 (some .int)] ++ wsX10)
def wsX0_cutColour : List Cond := .code yX0_cutColour cX0_cutColour 4 none :: ([.fieldLink RX0 12 "WoodcutPress$Blocks" "colours" "LWoodcutPress$Cells;", .fieldLink RX0 18 "WoodcutPress$Blocks" "lines" "LWoodcutPress$Cells;", .methodLink RX0 31 yX1_becomeLike, .instanceMethod yX1_becomeLike, .selects RX1 yX1_becomeLike yX1_becomeLike, .initialized RX1, .code yX1_becomeLike cX1_becomeLike 2 none, .fieldLink RX1 9 "WoodcutPress$Cells" "rows" "[I", .methodLink RX1 15 arraycopyName, .native arraycopyName, .static arraycopyName, .initialized "java/lang/System", .methodLink RX0 71 yX1_growInto, .instanceMethod yX1_growInto, .selects RX1 yX1_growInto yX1_growInto, .code yX1_growInto cX1_growInto 6 none, .methodLink RX1 32 yX1_row, .instanceMethod yX1_row, .selects RX1 yX1_row yX1_row, .code yX1_row cX1_row 2 (some .int)] ++ wsX00 ++ wsX10)
def wsX0_cutAnew_r1 : List Cond := [Cond.fieldLink RX0 21 "WoodcutPress$Blocks" "lineBlock" "LWoodcutPress$Cells;", Cond.fieldLink RX0 18 "WoodcutPress$Blocks" "lines" "LWoodcutPress$Cells;", Cond.fieldLink RX0 27 "WoodcutPress$Blocks" "wear" "[I", Cond.fieldLink RX0 24 "WoodcutPress$Blocks" "colourBlock" "LWoodcutPress$Cells;", Cond.methodLink RX0 31 yX1_becomeLike, Cond.instanceMethod yX1_becomeLike, Cond.selects RX1 yX1_becomeLike yX1_becomeLike, Cond.initialized RX1, Cond.code yX1_becomeLike cX1_becomeLike 2 none, Cond.fieldLink RX1 9 "WoodcutPress$Cells" "rows" "[I", Cond.methodLink RX1 15 arraycopyName, Cond.native arraycopyName, Cond.static arraycopyName, Cond.initialized "java/lang/System", Cond.methodLink RX0 61 yJ7_fill_53178, Cond.static yJ7_fill_53178, Cond.initialized RJ7, Cond.code yJ7_fill_53178 cJ7_fill_53178 4 none, Cond.methodLink RX0 67 yX0_cutColour, Cond.instanceMethod yX0_cutColour, Cond.selects RX0 yX0_cutColour yX0_cutColour, Cond.initialized RX0, Cond.code yX0_cutColour cX0_cutColour 4 none, Cond.fieldLink RX0 12 "WoodcutPress$Blocks" "colours" "LWoodcutPress$Cells;"]
def wsX0_cutAnew_r2 : List Cond := [Cond.methodLink RX0 71 yX1_growInto, Cond.instanceMethod yX1_growInto, Cond.selects RX1 yX1_growInto yX1_growInto, Cond.code yX1_growInto cX1_growInto 6 none, Cond.methodLink RX1 32 yX1_row, Cond.instanceMethod yX1_row, Cond.selects RX1 yX1_row yX1_row, Cond.code yX1_row cX1_row 2 (some .int)]
def wsX0_cutAnew : List Cond := .code yX0_cutAnew cX0_cutAnew 2 none :: ((wsX0_cutAnew_r1 ++ wsX0_cutAnew_r2) ++ wsX00 ++ wsX10)
def wsX0_wearAt : List Cond := .code yX0_wearAt cX0_wearAt 3 (some .int) :: ([.fieldLink RX0 27 "WoodcutPress$Blocks" "wear" "[I", .static yX6_isPlace, .initialized RX6, .code yX6_isPlace cX6_isPlace 2 (some .boolean)] ++ wsX00)
def wsX0_clearWear : List Cond := .code yX0_clearWear cX0_clearWear 3 none :: ([.fieldLink RX0 27 "WoodcutPress$Blocks" "wear" "[I", .static yX6_isPlace, .initialized RX6, .code yX6_isPlace cX6_isPlace 2 (some .boolean)] ++ wsX00)
def wsX0_isWorn : List Cond := .code yX0_isWorn cX0_isWorn 4 (some .boolean) :: ([.fieldLink RX0 21 "WoodcutPress$Blocks" "lineBlock" "LWoodcutPress$Cells;", .methodLink RX0 41 yX1_has, .instanceMethod yX1_has, .selects RX1 yX1_has yX1_has, .initialized RX1, .code yX1_has cX1_has 3 (some .boolean), .fieldLink RX1 9 "WoodcutPress$Cells" "rows" "[I", .static yX6_isPlace, .initialized RX6, .code yX6_isPlace cX6_isPlace 2 (some .boolean), .methodLink RX0 77 yX0_wearAt, .instanceMethod yX0_wearAt, .selects RX0 yX0_wearAt yX0_wearAt, .initialized RX0, .code yX0_wearAt cX0_wearAt 3 (some .int), .fieldLink RX0 27 "WoodcutPress$Blocks" "wear" "[I"] ++ wsX00 ++ wsX10)
def wsX1_putRow : List Cond := .code yX1_putRow cX1_putRow 3 none :: ([.fieldLink RX1 9 "WoodcutPress$Cells" "rows" "[I", .constant RX1 21 (65535)] ++ wsX10)
def wsX0_findInk : List Cond := .code yX0_findInk cX0_findInk 6 none :: ([.fieldLink RX0 27 "WoodcutPress$Blocks" "wear" "[I", .fieldLink RX0 21 "WoodcutPress$Blocks" "lineBlock" "LWoodcutPress$Cells;", .static yX6_oneIf, .initialized RX6, .code yX6_oneIf cX6_oneIf 1 (some .int), .methodLink RX0 80 yX1_row, .instanceMethod yX1_row, .selects RX1 yX1_row yX1_row, .initialized RX1, .code yX1_row cX1_row 2 (some .int), .fieldLink RX1 9 "WoodcutPress$Cells" "rows" "[I", .methodLink RX0 84 yX1_putRow, .instanceMethod yX1_putRow, .selects RX1 yX1_putRow yX1_putRow, .code yX1_putRow cX1_putRow 3 none, .constant RX1 21 (65535)] ++ wsX00 ++ wsX10)
def wsX1_shiftedRow : List Cond := .code yX1_shiftedRow cX1_shiftedRow 5 (some .int) :: ([.constant RX1 21 (65535), .methodLink RX1 32 yX1_row, .instanceMethod yX1_row, .selects RX1 yX1_row yX1_row, .initialized RX1, .code yX1_row cX1_row 2 (some .int), .fieldLink RX1 9 "WoodcutPress$Cells" "rows" "[I"] ++ wsX10)
def wsX0_gaps : List Cond := .code yX0_gaps cX0_gaps 8 (some .int) :: ([.fieldLink RX0 12 "WoodcutPress$Blocks" "colours" "LWoodcutPress$Cells;", .fieldLink RX0 18 "WoodcutPress$Blocks" "lines" "LWoodcutPress$Cells;", .methodLink RX0 80 yX1_row, .instanceMethod yX1_row, .selects RX1 yX1_row yX1_row, .initialized RX1, .code yX1_row cX1_row 2 (some .int), .fieldLink RX1 9 "WoodcutPress$Cells" "rows" "[I", .methodLink RX0 88 yX1_shiftedRow, .instanceMethod yX1_shiftedRow, .selects RX1 yX1_shiftedRow yX1_shiftedRow, .code yX1_shiftedRow cX1_shiftedRow 5 (some .int), .constant RX1 21 (65535), .methodLink RX1 32 yX1_row, .methodLink RX0 92 yJ6_bitCount_0f7a4, .static yJ6_bitCount_0f7a4, .initialized RJ6, .code yJ6_bitCount_0f7a4 cJ6_bitCount_0f7a4 1 (some .int), .constant RJ6 265 (1431655765), .constant RJ6 266 (858993459), .constant RJ6 267 (252645135)] ++ wsX00 ++ wsX10)
def wsX0_spills : List Cond := .code yX0_spills cX0_spills 7 (some .int) :: ([.fieldLink RX0 12 "WoodcutPress$Blocks" "colours" "LWoodcutPress$Cells;", .fieldLink RX0 18 "WoodcutPress$Blocks" "lines" "LWoodcutPress$Cells;", .methodLink RX0 80 yX1_row, .instanceMethod yX1_row, .selects RX1 yX1_row yX1_row, .initialized RX1, .code yX1_row cX1_row 2 (some .int), .fieldLink RX1 9 "WoodcutPress$Cells" "rows" "[I", .methodLink RX0 88 yX1_shiftedRow, .instanceMethod yX1_shiftedRow, .selects RX1 yX1_shiftedRow yX1_shiftedRow, .code yX1_shiftedRow cX1_shiftedRow 5 (some .int), .constant RX1 21 (65535), .methodLink RX1 32 yX1_row, .methodLink RX0 92 yJ6_bitCount_0f7a4, .static yJ6_bitCount_0f7a4, .initialized RJ6, .code yJ6_bitCount_0f7a4 cJ6_bitCount_0f7a4 1 (some .int), .constant RJ6 265 (1431655765), .constant RJ6 266 (858993459), .constant RJ6 267 (252645135)] ++ wsX00 ++ wsX10)
def wsX0_lostLines : List Cond := .code yX0_lostLines cX0_lostLines 4 (some .int) :: ([.fieldLink RX0 18 "WoodcutPress$Blocks" "lines" "LWoodcutPress$Cells;", .methodLink RX0 80 yX1_row, .instanceMethod yX1_row, .selects RX1 yX1_row yX1_row, .initialized RX1, .code yX1_row cX1_row 2 (some .int), .fieldLink RX1 9 "WoodcutPress$Cells" "rows" "[I", .methodLink RX0 92 yJ6_bitCount_0f7a4, .static yJ6_bitCount_0f7a4, .initialized RJ6, .code yJ6_bitCount_0f7a4 cJ6_bitCount_0f7a4 1 (some .int), .constant RJ6 265 (1431655765), .constant RJ6 266 (858993459), .constant RJ6 267 (252645135)] ++ wsX00 ++ wsX10)
def wsX1_neighbors : List Cond := .code yX1_neighbors cX1_neighbors 3 (some .int) :: ([.methodLink RX1 35 yX1_has, .instanceMethod yX1_has, .selects RX1 yX1_has yX1_has, .initialized RX1, .code yX1_has cX1_has 3 (some .boolean), .fieldLink RX1 9 "WoodcutPress$Cells" "rows" "[I", .static yX6_isPlace, .initialized RX6, .code yX6_isPlace cX6_isPlace 2 (some .boolean), .static yX6_oneIf, .code yX6_oneIf cX6_oneIf 1 (some .int)] ++ wsX10)
def wsX0_wearOfPrint : List Cond := .code yX0_wearOfPrint cX0_wearOfPrint 3 (some .int) :: ([.methodLink RX0 106 yX1_neighbors, .instanceMethod yX1_neighbors, .selects RX1 yX1_neighbors yX1_neighbors, .initialized RX1, .code yX1_neighbors cX1_neighbors 3 (some .int), .methodLink RX1 35 yX1_has, .instanceMethod yX1_has, .selects RX1 yX1_has yX1_has, .code yX1_has cX1_has 3 (some .boolean), .fieldLink RX1 9 "WoodcutPress$Cells" "rows" "[I", .static yX6_isPlace, .initialized RX6, .code yX6_isPlace cX6_isPlace 2 (some .boolean), .static yX6_oneIf, .code yX6_oneIf cX6_oneIf 1 (some .int)] ++ wsX10)
def wsX0_wearDown : List Cond := .code yX0_wearDown cX0_wearDown 4 none :: ([.fieldLink RX0 27 "WoodcutPress$Blocks" "wear" "[I", .methodLink RX0 41 yX1_has, .instanceMethod yX1_has, .selects RX1 yX1_has yX1_has, .initialized RX1, .code yX1_has cX1_has 3 (some .boolean), .fieldLink RX1 9 "WoodcutPress$Cells" "rows" "[I", .static yX6_isPlace, .initialized RX6, .code yX6_isPlace cX6_isPlace 2 (some .boolean), .methodLink RX0 97 yX0_wearOfPrint, .static yX0_wearOfPrint, .initialized RX0, .code yX0_wearOfPrint cX0_wearOfPrint 3 (some .int), .methodLink RX0 106 yX1_neighbors, .instanceMethod yX1_neighbors, .selects RX1 yX1_neighbors yX1_neighbors, .code yX1_neighbors cX1_neighbors 3 (some .int), .methodLink RX1 35 yX1_has, .static yX6_oneIf, .code yX6_oneIf cX6_oneIf 1 (some .int)] ++ wsX00 ++ wsX10)
def wsX0_printsUntilWorn_r1 : List Cond := [Cond.fieldLink RX0 27 "WoodcutPress$Blocks" "wear" "[I", Cond.methodLink RX0 101 Lib.Math.min.name, Cond.static Lib.Math.min.name, Cond.initialized "java/lang/Math", Cond.code Lib.Math.min.name Lib.Math.min.code 2 (some .int), Cond.methodLink RX0 97 yX0_wearOfPrint, Cond.static yX0_wearOfPrint, Cond.initialized RX0, Cond.code yX0_wearOfPrint cX0_wearOfPrint 3 (some .int), Cond.methodLink RX0 106 yX1_neighbors, Cond.instanceMethod yX1_neighbors, Cond.selects RX1 yX1_neighbors yX1_neighbors, Cond.initialized RX1, Cond.code yX1_neighbors cX1_neighbors 3 (some .int), Cond.methodLink RX1 35 yX1_has, Cond.instanceMethod yX1_has, Cond.selects RX1 yX1_has yX1_has, Cond.code yX1_has cX1_has 3 (some .boolean), Cond.fieldLink RX1 9 "WoodcutPress$Cells" "rows" "[I", Cond.static yX6_isPlace, Cond.initialized RX6, Cond.code yX6_isPlace cX6_isPlace 2 (some .boolean), Cond.static yX6_oneIf, Cond.code yX6_oneIf cX6_oneIf 1 (some .int)]
def wsX0_printsUntilWorn_r2 : List Cond := [Cond.methodLink RX0 41 yX1_has]
def wsX0_printsUntilWorn : List Cond := .code yX0_printsUntilWorn cX0_printsUntilWorn 7 (some .int) :: ((wsX0_printsUntilWorn_r1 ++ wsX0_printsUntilWorn_r2) ++ wsX00 ++ wsX10)
def wsX3_init : List Cond := .code yX3_init cX3_init 1 none :: ([.methodLink RX3 3 objectInit, .instanceMethod objectInit, .code objectInit ⟨#[0xb1]⟩ 1 none, .arrayClass .int, .fieldLink RX3 9 "WoodcutPress$Log" "parts" "[I", .fieldLink RX3 15 "WoodcutPress$Log" "size" "I", .fieldLink RX3 19 "WoodcutPress$Log" "latest" "I"] ++ wsX30)
def wsX5_init_r1 : List Cond := [Cond.methodLink RX5 3 objectInit, Cond.instanceMethod objectInit, Cond.code objectInit ⟨#[0xb1]⟩ 1 none, Cond.classLink RX5 9 RX0, Cond.instantiable RX0 5, Cond.initialized RX0, Cond.fieldLink RX5 12 "WoodcutPress$State" "blocks" "LWoodcutPress$Blocks;", Cond.arrayClass .int, Cond.fieldLink RX5 18 "WoodcutPress$State" "settings" "[I", Cond.methodLink RX5 25 arraycopyName, Cond.native arraycopyName, Cond.static arraycopyName, Cond.initialized "java/lang/System", Cond.classLink RX5 31 RX3, Cond.instantiable RX3 3, Cond.initialized RX3, Cond.fieldLink RX5 34 "WoodcutPress$State" "log" "LWoodcutPress$Log;", Cond.fieldLink RX5 38 "WoodcutPress$State" "pinX" "I", Cond.fieldLink RX5 42 "WoodcutPress$State" "pinY" "I", Cond.fieldLink RX5 45 "WoodcutPress$State" "prints" "I", Cond.fieldLink RX5 48 "WoodcutPress$State" "firstSnapshot" "LWoodcutPress$Blocks;", Cond.fieldLink RX5 51 "WoodcutPress$State" "secondSnapshot" "LWoodcutPress$Blocks;", Cond.fieldLink RX5 54 "WoodcutPress$State" "firstTaken" "Z", Cond.fieldLink RX5 58 "WoodcutPress$State" "secondTaken" "Z"]
def wsX5_init_r2 : List Cond := [Cond.methodLink RX5 11 yX0_init, Cond.instanceMethod yX0_init, Cond.code yX0_init cX0_init 1 none, Cond.methodLink RX0 3 objectInit, Cond.classLink RX0 9 RX1, Cond.instantiable RX1 1, Cond.initialized RX1, Cond.fieldLink RX0 12 "WoodcutPress$Blocks" "colours" "LWoodcutPress$Cells;", Cond.fieldLink RX0 18 "WoodcutPress$Blocks" "lines" "LWoodcutPress$Cells;", Cond.fieldLink RX0 21 "WoodcutPress$Blocks" "lineBlock" "LWoodcutPress$Cells;", Cond.fieldLink RX0 24 "WoodcutPress$Blocks" "colourBlock" "LWoodcutPress$Cells;", Cond.fieldLink RX0 27 "WoodcutPress$Blocks" "wear" "[I", Cond.methodLink RX0 11 yX1_init, Cond.instanceMethod yX1_init, Cond.code yX1_init cX1_init 1 none, Cond.methodLink RX1 3 objectInit, Cond.fieldLink RX1 9 "WoodcutPress$Cells" "rows" "[I", Cond.methodLink RX5 33 yX3_init, Cond.instanceMethod yX3_init, Cond.code yX3_init cX3_init 1 none, Cond.methodLink RX3 3 objectInit, Cond.fieldLink RX3 9 "WoodcutPress$Log" "parts" "[I", Cond.fieldLink RX3 15 "WoodcutPress$Log" "size" "I", Cond.fieldLink RX3 19 "WoodcutPress$Log" "latest" "I"]
def wsX5_init : List Cond := .code yX5_init cX5_init 1 none :: ((wsX5_init_r1 ++ wsX5_init_r2) ++ wsX00 ++ wsX50 ++ wsX30 ++ wsX10)
def wsX2_init_r1 : List Cond := [Cond.methodLink RX2 3 objectInit, Cond.instanceMethod objectInit, Cond.code objectInit ⟨#[0xb1]⟩ 1 none, Cond.classLink RX2 9 RX5, Cond.fieldLink RX2 11 "WoodcutPress$History" "states" "[LWoodcutPress$State;", Cond.instantiable RX5 10, Cond.initialized RX5, Cond.fieldLink RX2 18 "WoodcutPress$History" "size" "I", Cond.fieldLink RX2 22 "WoodcutPress$History" "next" "I", Cond.methodLink RX2 17 yX5_init, Cond.instanceMethod yX5_init, Cond.code yX5_init cX5_init 1 none, Cond.methodLink RX5 3 objectInit, Cond.classLink RX5 9 RX0, Cond.instantiable RX0 5, Cond.initialized RX0, Cond.fieldLink RX5 12 "WoodcutPress$State" "blocks" "LWoodcutPress$Blocks;", Cond.arrayClass .int, Cond.fieldLink RX5 18 "WoodcutPress$State" "settings" "[I", Cond.methodLink RX5 25 arraycopyName, Cond.native arraycopyName, Cond.static arraycopyName, Cond.initialized "java/lang/System", Cond.classLink RX5 31 RX3]
def wsX2_init_r2 : List Cond := [Cond.instantiable RX3 3, Cond.initialized RX3, Cond.fieldLink RX5 34 "WoodcutPress$State" "log" "LWoodcutPress$Log;", Cond.fieldLink RX5 38 "WoodcutPress$State" "pinX" "I", Cond.fieldLink RX5 42 "WoodcutPress$State" "pinY" "I", Cond.fieldLink RX5 45 "WoodcutPress$State" "prints" "I", Cond.fieldLink RX5 48 "WoodcutPress$State" "firstSnapshot" "LWoodcutPress$Blocks;", Cond.fieldLink RX5 51 "WoodcutPress$State" "secondSnapshot" "LWoodcutPress$Blocks;", Cond.fieldLink RX5 54 "WoodcutPress$State" "firstTaken" "Z", Cond.fieldLink RX5 58 "WoodcutPress$State" "secondTaken" "Z", Cond.methodLink RX5 11 yX0_init, Cond.instanceMethod yX0_init, Cond.code yX0_init cX0_init 1 none, Cond.methodLink RX0 3 objectInit, Cond.classLink RX0 9 RX1, Cond.instantiable RX1 1, Cond.initialized RX1, Cond.fieldLink RX0 12 "WoodcutPress$Blocks" "colours" "LWoodcutPress$Cells;", Cond.fieldLink RX0 18 "WoodcutPress$Blocks" "lines" "LWoodcutPress$Cells;", Cond.fieldLink RX0 21 "WoodcutPress$Blocks" "lineBlock" "LWoodcutPress$Cells;", Cond.fieldLink RX0 24 "WoodcutPress$Blocks" "colourBlock" "LWoodcutPress$Cells;", Cond.fieldLink RX0 27 "WoodcutPress$Blocks" "wear" "[I", Cond.methodLink RX0 11 yX1_init, Cond.instanceMethod yX1_init]
def wsX2_init_r3 : List Cond := [Cond.code yX1_init cX1_init 1 none, Cond.methodLink RX1 3 objectInit, Cond.fieldLink RX1 9 "WoodcutPress$Cells" "rows" "[I", Cond.methodLink RX5 33 yX3_init, Cond.instanceMethod yX3_init, Cond.code yX3_init cX3_init 1 none, Cond.methodLink RX3 3 objectInit, Cond.fieldLink RX3 9 "WoodcutPress$Log" "parts" "[I", Cond.fieldLink RX3 15 "WoodcutPress$Log" "size" "I", Cond.fieldLink RX3 19 "WoodcutPress$Log" "latest" "I"]
def wsX2_init : List Cond := .code yX2_init cX2_init 2 none :: ((wsX2_init_r1 ++ (wsX2_init_r2 ++ wsX2_init_r3)) ++ wsX20 ++ wsX50 ++ wsX00 ++ wsX30 ++ wsX10)
def wsX2_size : List Cond := .code yX2_size cX2_size 1 (some .int) :: ([.fieldLink RX2 18 "WoodcutPress$History" "size" "I"] ++ wsX20)
def wsX3_becomeLike : List Cond := .code yX3_becomeLike cX3_becomeLike 2 none :: ([.fieldLink RX3 9 "WoodcutPress$Log" "parts" "[I", .methodLink RX3 22 arraycopyName, .native arraycopyName, .static arraycopyName, .initialized "java/lang/System", .fieldLink RX3 15 "WoodcutPress$Log" "size" "I", .fieldLink RX3 19 "WoodcutPress$Log" "latest" "I"] ++ wsX30)
def wsX5_becomeLike_r1 : List Cond := [Cond.fieldLink RX5 12 "WoodcutPress$State" "blocks" "LWoodcutPress$Blocks;", Cond.fieldLink RX5 18 "WoodcutPress$State" "settings" "[I", Cond.methodLink RX5 25 arraycopyName, Cond.native arraycopyName, Cond.static arraycopyName, Cond.initialized "java/lang/System", Cond.fieldLink RX5 34 "WoodcutPress$State" "log" "LWoodcutPress$Log;", Cond.fieldLink RX5 38 "WoodcutPress$State" "pinX" "I", Cond.fieldLink RX5 42 "WoodcutPress$State" "pinY" "I", Cond.fieldLink RX5 45 "WoodcutPress$State" "prints" "I", Cond.fieldLink RX5 48 "WoodcutPress$State" "firstSnapshot" "LWoodcutPress$Blocks;", Cond.fieldLink RX5 51 "WoodcutPress$State" "secondSnapshot" "LWoodcutPress$Blocks;", Cond.fieldLink RX5 54 "WoodcutPress$State" "firstTaken" "Z", Cond.fieldLink RX5 58 "WoodcutPress$State" "secondTaken" "Z", Cond.methodLink RX5 61 yX0_becomeLike, Cond.instanceMethod yX0_becomeLike, Cond.selects RX0 yX0_becomeLike yX0_becomeLike, Cond.initialized RX0, Cond.code yX0_becomeLike cX0_becomeLike 2 none, Cond.fieldLink RX0 12 "WoodcutPress$Blocks" "colours" "LWoodcutPress$Cells;", Cond.fieldLink RX0 18 "WoodcutPress$Blocks" "lines" "LWoodcutPress$Cells;", Cond.fieldLink RX0 21 "WoodcutPress$Blocks" "lineBlock" "LWoodcutPress$Cells;", Cond.fieldLink RX0 24 "WoodcutPress$Blocks" "colourBlock" "LWoodcutPress$Cells;", Cond.fieldLink RX0 27 "WoodcutPress$Blocks" "wear" "[I"]
def wsX5_becomeLike_r2 : List Cond := [Cond.methodLink RX0 35 arraycopyName, Cond.methodLink RX0 31 yX1_becomeLike, Cond.instanceMethod yX1_becomeLike, Cond.selects RX1 yX1_becomeLike yX1_becomeLike, Cond.initialized RX1, Cond.code yX1_becomeLike cX1_becomeLike 2 none, Cond.fieldLink RX1 9 "WoodcutPress$Cells" "rows" "[I", Cond.methodLink RX1 15 arraycopyName, Cond.methodLink RX5 65 yX3_becomeLike, Cond.instanceMethod yX3_becomeLike, Cond.selects RX3 yX3_becomeLike yX3_becomeLike, Cond.initialized RX3, Cond.code yX3_becomeLike cX3_becomeLike 2 none, Cond.fieldLink RX3 9 "WoodcutPress$Log" "parts" "[I", Cond.methodLink RX3 22 arraycopyName, Cond.fieldLink RX3 15 "WoodcutPress$Log" "size" "I", Cond.fieldLink RX3 19 "WoodcutPress$Log" "latest" "I"]
def wsX5_becomeLike : List Cond := .code yX5_becomeLike cX5_becomeLike 2 none :: ((wsX5_becomeLike_r1 ++ wsX5_becomeLike_r2) ++ wsX50 ++ wsX00 ++ wsX10 ++ wsX30)
def wsX2_keep_r1 : List Cond := [Cond.fieldLink RX2 11 "WoodcutPress$History" "states" "[LWoodcutPress$State;", Cond.fieldLink RX2 22 "WoodcutPress$History" "next" "I", Cond.fieldLink RX2 18 "WoodcutPress$History" "size" "I", Cond.methodLink RX2 29 Lib.Math.min.name, Cond.static Lib.Math.min.name, Cond.initialized "java/lang/Math", Cond.code Lib.Math.min.name Lib.Math.min.code 2 (some .int), Cond.methodLink RX2 25 yX5_becomeLike, Cond.instanceMethod yX5_becomeLike, Cond.selects RX5 yX5_becomeLike yX5_becomeLike, Cond.initialized RX5, Cond.code yX5_becomeLike cX5_becomeLike 2 none, Cond.fieldLink RX5 12 "WoodcutPress$State" "blocks" "LWoodcutPress$Blocks;", Cond.fieldLink RX5 18 "WoodcutPress$State" "settings" "[I", Cond.methodLink RX5 25 arraycopyName, Cond.native arraycopyName, Cond.static arraycopyName, Cond.initialized "java/lang/System", Cond.fieldLink RX5 34 "WoodcutPress$State" "log" "LWoodcutPress$Log;", Cond.fieldLink RX5 38 "WoodcutPress$State" "pinX" "I", Cond.fieldLink RX5 42 "WoodcutPress$State" "pinY" "I", Cond.fieldLink RX5 45 "WoodcutPress$State" "prints" "I", Cond.fieldLink RX5 48 "WoodcutPress$State" "firstSnapshot" "LWoodcutPress$Blocks;", Cond.fieldLink RX5 51 "WoodcutPress$State" "secondSnapshot" "LWoodcutPress$Blocks;"]
def wsX2_keep_r2 : List Cond := [Cond.fieldLink RX5 54 "WoodcutPress$State" "firstTaken" "Z", Cond.fieldLink RX5 58 "WoodcutPress$State" "secondTaken" "Z", Cond.methodLink RX5 61 yX0_becomeLike, Cond.instanceMethod yX0_becomeLike, Cond.selects RX0 yX0_becomeLike yX0_becomeLike, Cond.initialized RX0, Cond.code yX0_becomeLike cX0_becomeLike 2 none, Cond.fieldLink RX0 12 "WoodcutPress$Blocks" "colours" "LWoodcutPress$Cells;", Cond.fieldLink RX0 18 "WoodcutPress$Blocks" "lines" "LWoodcutPress$Cells;", Cond.fieldLink RX0 21 "WoodcutPress$Blocks" "lineBlock" "LWoodcutPress$Cells;", Cond.fieldLink RX0 24 "WoodcutPress$Blocks" "colourBlock" "LWoodcutPress$Cells;", Cond.fieldLink RX0 27 "WoodcutPress$Blocks" "wear" "[I", Cond.methodLink RX0 35 arraycopyName, Cond.methodLink RX0 31 yX1_becomeLike, Cond.instanceMethod yX1_becomeLike, Cond.selects RX1 yX1_becomeLike yX1_becomeLike, Cond.initialized RX1, Cond.code yX1_becomeLike cX1_becomeLike 2 none, Cond.fieldLink RX1 9 "WoodcutPress$Cells" "rows" "[I", Cond.methodLink RX1 15 arraycopyName, Cond.methodLink RX5 65 yX3_becomeLike, Cond.instanceMethod yX3_becomeLike, Cond.selects RX3 yX3_becomeLike yX3_becomeLike, Cond.initialized RX3]
def wsX2_keep_r3 : List Cond := [Cond.code yX3_becomeLike cX3_becomeLike 2 none, Cond.fieldLink RX3 9 "WoodcutPress$Log" "parts" "[I", Cond.methodLink RX3 22 arraycopyName, Cond.fieldLink RX3 15 "WoodcutPress$Log" "size" "I", Cond.fieldLink RX3 19 "WoodcutPress$Log" "latest" "I"]
def wsX2_keep : List Cond := .code yX2_keep cX2_keep 3 none :: ((wsX2_keep_r1 ++ (wsX2_keep_r2 ++ wsX2_keep_r3)) ++ wsX20 ++ wsX50 ++ wsX00 ++ wsX10 ++ wsX30)
def wsX2_giveBack_r1 : List Cond := [Cond.fieldLink RX2 22 "WoodcutPress$History" "next" "I", Cond.fieldLink RX2 18 "WoodcutPress$History" "size" "I", Cond.methodLink RX2 35 Lib.Math.max.name, Cond.static Lib.Math.max.name, Cond.initialized "java/lang/Math", Cond.code Lib.Math.max.name Lib.Math.max.code 2 (some .int), Cond.fieldLink RX2 11 "WoodcutPress$History" "states" "[LWoodcutPress$State;", Cond.methodLink RX2 25 yX5_becomeLike, Cond.instanceMethod yX5_becomeLike, Cond.selects RX5 yX5_becomeLike yX5_becomeLike, Cond.initialized RX5, Cond.code yX5_becomeLike cX5_becomeLike 2 none, Cond.fieldLink RX5 12 "WoodcutPress$State" "blocks" "LWoodcutPress$Blocks;", Cond.fieldLink RX5 18 "WoodcutPress$State" "settings" "[I", Cond.methodLink RX5 25 arraycopyName, Cond.native arraycopyName, Cond.static arraycopyName, Cond.initialized "java/lang/System", Cond.fieldLink RX5 34 "WoodcutPress$State" "log" "LWoodcutPress$Log;", Cond.fieldLink RX5 38 "WoodcutPress$State" "pinX" "I", Cond.fieldLink RX5 42 "WoodcutPress$State" "pinY" "I", Cond.fieldLink RX5 45 "WoodcutPress$State" "prints" "I", Cond.fieldLink RX5 48 "WoodcutPress$State" "firstSnapshot" "LWoodcutPress$Blocks;", Cond.fieldLink RX5 51 "WoodcutPress$State" "secondSnapshot" "LWoodcutPress$Blocks;"]
def wsX2_giveBack_r2 : List Cond := [Cond.fieldLink RX5 54 "WoodcutPress$State" "firstTaken" "Z", Cond.fieldLink RX5 58 "WoodcutPress$State" "secondTaken" "Z", Cond.methodLink RX5 61 yX0_becomeLike, Cond.instanceMethod yX0_becomeLike, Cond.selects RX0 yX0_becomeLike yX0_becomeLike, Cond.initialized RX0, Cond.code yX0_becomeLike cX0_becomeLike 2 none, Cond.fieldLink RX0 12 "WoodcutPress$Blocks" "colours" "LWoodcutPress$Cells;", Cond.fieldLink RX0 18 "WoodcutPress$Blocks" "lines" "LWoodcutPress$Cells;", Cond.fieldLink RX0 21 "WoodcutPress$Blocks" "lineBlock" "LWoodcutPress$Cells;", Cond.fieldLink RX0 24 "WoodcutPress$Blocks" "colourBlock" "LWoodcutPress$Cells;", Cond.fieldLink RX0 27 "WoodcutPress$Blocks" "wear" "[I", Cond.methodLink RX0 35 arraycopyName, Cond.methodLink RX0 31 yX1_becomeLike, Cond.instanceMethod yX1_becomeLike, Cond.selects RX1 yX1_becomeLike yX1_becomeLike, Cond.initialized RX1, Cond.code yX1_becomeLike cX1_becomeLike 2 none, Cond.fieldLink RX1 9 "WoodcutPress$Cells" "rows" "[I", Cond.methodLink RX1 15 arraycopyName, Cond.methodLink RX5 65 yX3_becomeLike, Cond.instanceMethod yX3_becomeLike, Cond.selects RX3 yX3_becomeLike yX3_becomeLike, Cond.initialized RX3]
def wsX2_giveBack_r3 : List Cond := [Cond.code yX3_becomeLike cX3_becomeLike 2 none, Cond.fieldLink RX3 9 "WoodcutPress$Log" "parts" "[I", Cond.methodLink RX3 22 arraycopyName, Cond.fieldLink RX3 15 "WoodcutPress$Log" "size" "I", Cond.fieldLink RX3 19 "WoodcutPress$Log" "latest" "I"]
def wsX2_giveBack : List Cond := .code yX2_giveBack cX2_giveBack 3 none :: ((wsX2_giveBack_r1 ++ (wsX2_giveBack_r2 ++ wsX2_giveBack_r3)) ++ wsX20 ++ wsX50 ++ wsX00 ++ wsX10 ++ wsX30)
def wsX3_size : List Cond := .code yX3_size cX3_size 1 (some .int) :: ([.fieldLink RX3 15 "WoodcutPress$Log" "size" "I"] ++ wsX30)
def wsX3_addProof : List Cond := .code yX3_addProof cX3_addProof 4 none :: ([.fieldLink RX3 19 "WoodcutPress$Log" "latest" "I", .fieldLink RX3 15 "WoodcutPress$Log" "size" "I", .methodLink RX3 28 Lib.Math.min.name, .static Lib.Math.min.name, .initialized "java/lang/Math", .code Lib.Math.min.name Lib.Math.min.code 2 (some .int), .fieldLink RX3 9 "WoodcutPress$Log" "parts" "[I"] ++ wsX30)
def wsX3_addFaults : List Cond := .code yX3_addFaults cX3_addFaults 4 none :: ([.fieldLink RX3 9 "WoodcutPress$Log" "parts" "[I", .fieldLink RX3 19 "WoodcutPress$Log" "latest" "I"] ++ wsX30)
def wsX6_isWithin : List Cond := .code yX6_isWithin cX6_isWithin 3 (some .boolean) :: ([])
def wsX3_partOf : List Cond := .code yX3_partOf cX3_partOf 4 (some .int) :: ([.fieldLink RX3 19 "WoodcutPress$Log" "latest" "I", .fieldLink RX3 9 "WoodcutPress$Log" "parts" "[I", .static yX6_isWithin, .initialized RX6, .code yX6_isWithin cX6_isWithin 3 (some .boolean)] ++ wsX30)
def wsX4_init : List Cond := .code yX4_init cX4_init 1 none :: ([.methodLink RX4 3 objectInit, .instanceMethod objectInit, .code objectInit ⟨#[0xb1]⟩ 1 none, .arrayClass .int, .fieldLink RX4 9 "WoodcutPress$Reader" "text" "[I", .fieldLink RX4 15 "WoodcutPress$Reader" "length" "I", .fieldLink RX4 19 "WoodcutPress$Reader" "at" "I", .fieldLink RX4 22 "WoodcutPress$Reader" "error" "I", .classLink RX4 25 RX1, .instantiable RX1 1, .initialized RX1, .fieldLink RX4 28 "WoodcutPress$Reader" "colours" "LWoodcutPress$Cells;", .fieldLink RX4 32 "WoodcutPress$Reader" "lines" "LWoodcutPress$Cells;", .methodLink RX4 27 yX1_init, .instanceMethod yX1_init, .code yX1_init cX1_init 1 none, .methodLink RX1 3 objectInit, .fieldLink RX1 9 "WoodcutPress$Cells" "rows" "[I"] ++ wsX40 ++ wsX10)
def wsX4_length : List Cond := .code yX4_length cX4_length 1 (some .int) :: ([.fieldLink RX4 15 "WoodcutPress$Reader" "length" "I"] ++ wsX40)
def wsX4_addCharacter : List Cond := .code yX4_addCharacter cX4_addCharacter 2 none :: ([.fieldLink RX4 15 "WoodcutPress$Reader" "length" "I", .fieldLink RX4 9 "WoodcutPress$Reader" "text" "[I"] ++ wsX40)
def wsX4_forgetText : List Cond := .code yX4_forgetText cX4_forgetText 1 none :: ([.fieldLink RX4 15 "WoodcutPress$Reader" "length" "I"] ++ wsX40)
def wsX4_handPictureTo : List Cond := .code yX4_handPictureTo cX4_handPictureTo 2 none :: ([.fieldLink RX4 35 "WoodcutPress$Blocks" "colours" "LWoodcutPress$Cells;", .fieldLink RX4 28 "WoodcutPress$Reader" "colours" "LWoodcutPress$Cells;", .fieldLink RX4 42 "WoodcutPress$Blocks" "lines" "LWoodcutPress$Cells;", .fieldLink RX4 32 "WoodcutPress$Reader" "lines" "LWoodcutPress$Cells;", .methodLink RX4 38 yX1_becomeLike, .instanceMethod yX1_becomeLike, .selects RX1 yX1_becomeLike yX1_becomeLike, .initialized RX1, .code yX1_becomeLike cX1_becomeLike 2 none, .fieldLink RX1 9 "WoodcutPress$Cells" "rows" "[I", .methodLink RX1 15 arraycopyName, .native arraycopyName, .static arraycopyName, .initialized "java/lang/System"] ++ wsX00 ++ wsX40 ++ wsX10)
def wsX4_here : List Cond := .code yX4_here cX4_here 1 (some .int) :: ([.fieldLink RX4 19 "WoodcutPress$Reader" "at" "I", .fieldLink RX4 15 "WoodcutPress$Reader" "length" "I", .fieldLink RX4 9 "WoodcutPress$Reader" "text" "[I"] ++ wsX40)
def wsX4_skipSpaces : List Cond := .code yX4_skipSpaces cX4_skipSpaces 1 none :: ([.fieldLink RX4 19 "WoodcutPress$Reader" "at" "I", .fieldLink RX4 15 "WoodcutPress$Reader" "length" "I", .methodLink RX4 53 yX4_here, .instanceMethod yX4_here, .selects RX4 yX4_here yX4_here, .initialized RX4, .code yX4_here cX4_here 1 (some .int), .fieldLink RX4 9 "WoodcutPress$Reader" "text" "[I"] ++ wsX40)
def wsX4_isDigit : List Cond := .code yX4_isDigit cX4_isDigit 1 (some .boolean) :: ([])
def wsX4_failAt : List Cond := .code yX4_failAt cX4_failAt 2 none :: ([.fieldLink RX4 22 "WoodcutPress$Reader" "error" "I"] ++ wsX40)
def wsX4_readNumber : List Cond := .code yX4_readNumber cX4_readNumber 7 (some .int) :: ([.fieldLink RX4 19 "WoodcutPress$Reader" "at" "I", .fieldLink RX4 15 "WoodcutPress$Reader" "length" "I", .methodLink RX4 75 Lib.Math.min.name, .static Lib.Math.min.name, .initialized "java/lang/Math", .code Lib.Math.min.name Lib.Math.min.code 2 (some .int), .methodLink RX4 53 yX4_here, .instanceMethod yX4_here, .selects RX4 yX4_here yX4_here, .initialized RX4, .code yX4_here cX4_here 1 (some .int), .fieldLink RX4 9 "WoodcutPress$Reader" "text" "[I", .methodLink RX4 71 yX4_isDigit, .static yX4_isDigit, .code yX4_isDigit cX4_isDigit 1 (some .boolean), .static yX6_isWithin, .initialized RX6, .code yX6_isWithin cX6_isWithin 3 (some .boolean), .methodLink RX4 57 yX4_failAt, .instanceMethod yX4_failAt, .selects RX4 yX4_failAt yX4_failAt, .code yX4_failAt cX4_failAt 2 none, .fieldLink RX4 22 "WoodcutPress$Reader" "error" "I"] ++ wsX40)
def wsX4_readKind : List Cond := .code yX4_readKind cX4_readKind 2 (some .int) :: ([.fieldLink RX4 19 "WoodcutPress$Reader" "at" "I", .methodLink RX4 43 yX4_skipSpaces, .instanceMethod yX4_skipSpaces, .selects RX4 yX4_skipSpaces yX4_skipSpaces, .initialized RX4, .code yX4_skipSpaces cX4_skipSpaces 1 none, .fieldLink RX4 15 "WoodcutPress$Reader" "length" "I", .methodLink RX4 53 yX4_here, .instanceMethod yX4_here, .selects RX4 yX4_here yX4_here, .code yX4_here cX4_here 1 (some .int), .fieldLink RX4 9 "WoodcutPress$Reader" "text" "[I", .methodLink RX4 57 yX4_failAt, .instanceMethod yX4_failAt, .selects RX4 yX4_failAt yX4_failAt, .code yX4_failAt cX4_failAt 2 none, .fieldLink RX4 22 "WoodcutPress$Reader" "error" "I"] ++ wsX40)
def wsX4_readRuns_r1 : List Cond := [Cond.fieldLink RX4 19 "WoodcutPress$Reader" "at" "I", Cond.fieldLink RX4 28 "WoodcutPress$Reader" "colours" "LWoodcutPress$Cells;", Cond.fieldLink RX4 32 "WoodcutPress$Reader" "lines" "LWoodcutPress$Cells;", Cond.fieldLink RX4 22 "WoodcutPress$Reader" "error" "I", Cond.methodLink RX4 43 yX4_skipSpaces, Cond.instanceMethod yX4_skipSpaces, Cond.selects RX4 yX4_skipSpaces yX4_skipSpaces, Cond.initialized RX4, Cond.code yX4_skipSpaces cX4_skipSpaces 1 none, Cond.fieldLink RX4 15 "WoodcutPress$Reader" "length" "I", Cond.methodLink RX4 53 yX4_here, Cond.instanceMethod yX4_here, Cond.selects RX4 yX4_here yX4_here, Cond.code yX4_here cX4_here 1 (some .int), Cond.fieldLink RX4 9 "WoodcutPress$Reader" "text" "[I", Cond.methodLink RX4 64 yX1_putRow, Cond.instanceMethod yX1_putRow, Cond.selects RX1 yX1_putRow yX1_putRow, Cond.initialized RX1, Cond.code yX1_putRow cX1_putRow 3 none, Cond.fieldLink RX1 9 "WoodcutPress$Cells" "rows" "[I", Cond.constant RX1 21 (65535), Cond.methodLink RX4 49 yX4_readNumber, Cond.instanceMethod yX4_readNumber]
def wsX4_readRuns_r2 : List Cond := [Cond.selects RX4 yX4_readNumber yX4_readNumber, Cond.code yX4_readNumber cX4_readNumber 7 (some .int), Cond.methodLink RX4 75 Lib.Math.min.name, Cond.static Lib.Math.min.name, Cond.initialized "java/lang/Math", Cond.code Lib.Math.min.name Lib.Math.min.code 2 (some .int), Cond.methodLink RX4 71 yX4_isDigit, Cond.static yX4_isDigit, Cond.code yX4_isDigit cX4_isDigit 1 (some .boolean), Cond.static yX6_isWithin, Cond.initialized RX6, Cond.code yX6_isWithin cX6_isWithin 3 (some .boolean), Cond.methodLink RX4 57 yX4_failAt, Cond.instanceMethod yX4_failAt, Cond.selects RX4 yX4_failAt yX4_failAt, Cond.code yX4_failAt cX4_failAt 2 none, Cond.methodLink RX4 68 yX4_readKind, Cond.instanceMethod yX4_readKind, Cond.selects RX4 yX4_readKind yX4_readKind, Cond.code yX4_readKind cX4_readKind 2 (some .int)]
def wsX4_readRuns : List Cond := .code yX4_readRuns cX4_readRuns 9 none :: ((wsX4_readRuns_r1 ++ wsX4_readRuns_r2) ++ wsX40 ++ wsX10)
def wsX4_readItem_r1 : List Cond := [Cond.fieldLink RX4 19 "WoodcutPress$Reader" "at" "I", Cond.methodLink RX4 49 yX4_readNumber, Cond.instanceMethod yX4_readNumber, Cond.selects RX4 yX4_readNumber yX4_readNumber, Cond.initialized RX4, Cond.code yX4_readNumber cX4_readNumber 7 (some .int), Cond.fieldLink RX4 15 "WoodcutPress$Reader" "length" "I", Cond.methodLink RX4 75 Lib.Math.min.name, Cond.static Lib.Math.min.name, Cond.initialized "java/lang/Math", Cond.code Lib.Math.min.name Lib.Math.min.code 2 (some .int), Cond.methodLink RX4 53 yX4_here, Cond.instanceMethod yX4_here, Cond.selects RX4 yX4_here yX4_here, Cond.code yX4_here cX4_here 1 (some .int), Cond.fieldLink RX4 9 "WoodcutPress$Reader" "text" "[I", Cond.methodLink RX4 71 yX4_isDigit, Cond.static yX4_isDigit, Cond.code yX4_isDigit cX4_isDigit 1 (some .boolean), Cond.static yX6_isWithin, Cond.initialized RX6, Cond.code yX6_isWithin cX6_isWithin 3 (some .boolean), Cond.methodLink RX4 57 yX4_failAt, Cond.instanceMethod yX4_failAt]
def wsX4_readItem_r2 : List Cond := [Cond.selects RX4 yX4_failAt yX4_failAt, Cond.code yX4_failAt cX4_failAt 2 none, Cond.fieldLink RX4 22 "WoodcutPress$Reader" "error" "I", Cond.methodLink RX4 43 yX4_skipSpaces, Cond.instanceMethod yX4_skipSpaces, Cond.selects RX4 yX4_skipSpaces yX4_skipSpaces, Cond.code yX4_skipSpaces cX4_skipSpaces 1 none, Cond.methodLink RX4 61 yX4_readRuns, Cond.instanceMethod yX4_readRuns, Cond.selects RX4 yX4_readRuns yX4_readRuns, Cond.code yX4_readRuns cX4_readRuns 9 none, Cond.fieldLink RX4 28 "WoodcutPress$Reader" "colours" "LWoodcutPress$Cells;", Cond.fieldLink RX4 32 "WoodcutPress$Reader" "lines" "LWoodcutPress$Cells;", Cond.methodLink RX4 64 yX1_putRow, Cond.instanceMethod yX1_putRow, Cond.selects RX1 yX1_putRow yX1_putRow, Cond.initialized RX1, Cond.code yX1_putRow cX1_putRow 3 none, Cond.fieldLink RX1 9 "WoodcutPress$Cells" "rows" "[I", Cond.constant RX1 21 (65535), Cond.methodLink RX4 68 yX4_readKind, Cond.instanceMethod yX4_readKind, Cond.selects RX4 yX4_readKind yX4_readKind, Cond.code yX4_readKind cX4_readKind 2 (some .int)]
def wsX4_readItem : List Cond := .code yX4_readItem cX4_readItem 2 none :: ((wsX4_readItem_r1 ++ wsX4_readItem_r2) ++ wsX40 ++ wsX10)
def wsX4_readText_r1 : List Cond := [Cond.fieldLink RX4 28 "WoodcutPress$Reader" "colours" "LWoodcutPress$Cells;", Cond.fieldLink RX4 35 "WoodcutPress$Blocks" "colours" "LWoodcutPress$Cells;", Cond.fieldLink RX4 32 "WoodcutPress$Reader" "lines" "LWoodcutPress$Cells;", Cond.fieldLink RX4 42 "WoodcutPress$Blocks" "lines" "LWoodcutPress$Cells;", Cond.fieldLink RX4 19 "WoodcutPress$Reader" "at" "I", Cond.fieldLink RX4 22 "WoodcutPress$Reader" "error" "I", Cond.fieldLink RX4 15 "WoodcutPress$Reader" "length" "I", Cond.methodLink RX4 38 yX1_becomeLike, Cond.instanceMethod yX1_becomeLike, Cond.selects RX1 yX1_becomeLike yX1_becomeLike, Cond.initialized RX1, Cond.code yX1_becomeLike cX1_becomeLike 2 none, Cond.fieldLink RX1 9 "WoodcutPress$Cells" "rows" "[I", Cond.methodLink RX1 15 arraycopyName, Cond.native arraycopyName, Cond.static arraycopyName, Cond.initialized "java/lang/System", Cond.methodLink RX4 43 yX4_skipSpaces, Cond.instanceMethod yX4_skipSpaces, Cond.selects RX4 yX4_skipSpaces yX4_skipSpaces, Cond.initialized RX4, Cond.code yX4_skipSpaces cX4_skipSpaces 1 none, Cond.methodLink RX4 53 yX4_here, Cond.instanceMethod yX4_here]
def wsX4_readText_r2 : List Cond := [Cond.selects RX4 yX4_here yX4_here, Cond.code yX4_here cX4_here 1 (some .int), Cond.fieldLink RX4 9 "WoodcutPress$Reader" "text" "[I", Cond.methodLink RX4 46 yX4_readItem, Cond.instanceMethod yX4_readItem, Cond.selects RX4 yX4_readItem yX4_readItem, Cond.code yX4_readItem cX4_readItem 2 none, Cond.methodLink RX4 49 yX4_readNumber, Cond.instanceMethod yX4_readNumber, Cond.selects RX4 yX4_readNumber yX4_readNumber, Cond.code yX4_readNumber cX4_readNumber 7 (some .int), Cond.methodLink RX4 75 Lib.Math.min.name, Cond.static Lib.Math.min.name, Cond.initialized "java/lang/Math", Cond.code Lib.Math.min.name Lib.Math.min.code 2 (some .int), Cond.methodLink RX4 71 yX4_isDigit, Cond.static yX4_isDigit, Cond.code yX4_isDigit cX4_isDigit 1 (some .boolean), Cond.static yX6_isWithin, Cond.initialized RX6, Cond.code yX6_isWithin cX6_isWithin 3 (some .boolean), Cond.methodLink RX4 57 yX4_failAt, Cond.instanceMethod yX4_failAt, Cond.selects RX4 yX4_failAt yX4_failAt]
def wsX4_readText_r3 : List Cond := [Cond.code yX4_failAt cX4_failAt 2 none, Cond.methodLink RX4 61 yX4_readRuns, Cond.instanceMethod yX4_readRuns, Cond.selects RX4 yX4_readRuns yX4_readRuns, Cond.code yX4_readRuns cX4_readRuns 9 none, Cond.methodLink RX4 64 yX1_putRow, Cond.instanceMethod yX1_putRow, Cond.selects RX1 yX1_putRow yX1_putRow, Cond.code yX1_putRow cX1_putRow 3 none, Cond.constant RX1 21 (65535), Cond.methodLink RX4 68 yX4_readKind, Cond.instanceMethod yX4_readKind, Cond.selects RX4 yX4_readKind yX4_readKind, Cond.code yX4_readKind cX4_readKind 2 (some .int)]
def wsX4_readText : List Cond := .code yX4_readText cX4_readText 3 (some .int) :: ((wsX4_readText_r1 ++ (wsX4_readText_r2 ++ wsX4_readText_r3)) ++ wsX40 ++ wsX00 ++ wsX10)
def wsX5_hardness : List Cond := .code yX5_hardness cX5_hardness 1 (some .int) :: ([.fieldLink RX5 18 "WoodcutPress$State" "settings" "[I"] ++ wsX50)
def wsX5_driftX : List Cond := .code yX5_driftX cX5_driftX 1 (some .int) :: ([.fieldLink RX5 18 "WoodcutPress$State" "settings" "[I"] ++ wsX50)
def wsX5_driftY : List Cond := .code yX5_driftY cX5_driftY 1 (some .int) :: ([.fieldLink RX5 18 "WoodcutPress$State" "settings" "[I"] ++ wsX50)
def wsX5_shiftX : List Cond := .code yX5_shiftX cX5_shiftX 1 (some .int) :: ([.fieldLink RX5 38 "WoodcutPress$State" "pinX" "I", .methodLink RX5 68 yX5_driftX, .instanceMethod yX5_driftX, .selects RX5 yX5_driftX yX5_driftX, .initialized RX5, .code yX5_driftX cX5_driftX 1 (some .int), .fieldLink RX5 18 "WoodcutPress$State" "settings" "[I"] ++ wsX50)
def wsX5_shiftY : List Cond := .code yX5_shiftY cX5_shiftY 1 (some .int) :: ([.fieldLink RX5 42 "WoodcutPress$State" "pinY" "I", .methodLink RX5 72 yX5_driftY, .instanceMethod yX5_driftY, .selects RX5 yX5_driftY yX5_driftY, .initialized RX5, .code yX5_driftY cX5_driftY 1 (some .int), .fieldLink RX5 18 "WoodcutPress$State" "settings" "[I"] ++ wsX50)
def wsX5_dry : List Cond := .code yX5_dry cX5_dry 1 none :: ([.fieldLink RX5 18 "WoodcutPress$State" "settings" "[I", .methodLink RX5 75 Lib.Math.max.name, .static Lib.Math.max.name, .initialized "java/lang/Math", .code Lib.Math.max.name Lib.Math.max.code 2 (some .int)] ++ wsX50)
def wsX5_isTaken : List Cond := .code yX5_isTaken cX5_isTaken 2 (some .boolean) :: ([.fieldLink RX5 54 "WoodcutPress$State" "firstTaken" "Z", .fieldLink RX5 58 "WoodcutPress$State" "secondTaken" "Z"] ++ wsX50)
def wsX5_snapshots : List Cond := .code yX5_snapshots cX5_snapshots 1 (some .int) :: ([.fieldLink RX5 54 "WoodcutPress$State" "firstTaken" "Z", .fieldLink RX5 58 "WoodcutPress$State" "secondTaken" "Z", .static yX6_oneIf, .initialized RX6, .code yX6_oneIf cX6_oneIf 1 (some .int)] ++ wsX50)
def wsX5_snapshotIn : List Cond := .code yX5_snapshotIn cX5_snapshotIn 2 (some (.object "WoodcutPress$Blocks")) :: ([.fieldLink RX5 48 "WoodcutPress$State" "firstSnapshot" "LWoodcutPress$Blocks;", .fieldLink RX5 51 "WoodcutPress$State" "secondSnapshot" "LWoodcutPress$Blocks;"] ++ wsX50)
def wsX5_takeSnapshot_r1 : List Cond := [Cond.fieldLink RX5 12 "WoodcutPress$State" "blocks" "LWoodcutPress$Blocks;", Cond.fieldLink RX5 54 "WoodcutPress$State" "firstTaken" "Z", Cond.fieldLink RX5 58 "WoodcutPress$State" "secondTaken" "Z", Cond.methodLink RX5 85 yX5_snapshotIn, Cond.instanceMethod yX5_snapshotIn, Cond.selects RX5 yX5_snapshotIn yX5_snapshotIn, Cond.initialized RX5, Cond.code yX5_snapshotIn cX5_snapshotIn 2 (some (.object "WoodcutPress$Blocks")), Cond.fieldLink RX5 48 "WoodcutPress$State" "firstSnapshot" "LWoodcutPress$Blocks;", Cond.fieldLink RX5 51 "WoodcutPress$State" "secondSnapshot" "LWoodcutPress$Blocks;", Cond.methodLink RX5 61 yX0_becomeLike, Cond.instanceMethod yX0_becomeLike, Cond.selects RX0 yX0_becomeLike yX0_becomeLike, Cond.initialized RX0, Cond.code yX0_becomeLike cX0_becomeLike 2 none, Cond.fieldLink RX0 12 "WoodcutPress$Blocks" "colours" "LWoodcutPress$Cells;", Cond.fieldLink RX0 18 "WoodcutPress$Blocks" "lines" "LWoodcutPress$Cells;", Cond.fieldLink RX0 21 "WoodcutPress$Blocks" "lineBlock" "LWoodcutPress$Cells;", Cond.fieldLink RX0 24 "WoodcutPress$Blocks" "colourBlock" "LWoodcutPress$Cells;", Cond.fieldLink RX0 27 "WoodcutPress$Blocks" "wear" "[I", Cond.methodLink RX0 35 arraycopyName, Cond.native arraycopyName, Cond.static arraycopyName, Cond.initialized "java/lang/System"]
def wsX5_takeSnapshot_r2 : List Cond := [Cond.methodLink RX0 31 yX1_becomeLike, Cond.instanceMethod yX1_becomeLike, Cond.selects RX1 yX1_becomeLike yX1_becomeLike, Cond.initialized RX1, Cond.code yX1_becomeLike cX1_becomeLike 2 none, Cond.fieldLink RX1 9 "WoodcutPress$Cells" "rows" "[I", Cond.methodLink RX1 15 arraycopyName]
def wsX5_takeSnapshot : List Cond := .code yX5_takeSnapshot cX5_takeSnapshot 2 none :: ((wsX5_takeSnapshot_r1 ++ wsX5_takeSnapshot_r2) ++ wsX50 ++ wsX00 ++ wsX10)
def wsX5_restoreSnapshot_r1 : List Cond := [Cond.fieldLink RX5 12 "WoodcutPress$State" "blocks" "LWoodcutPress$Blocks;", Cond.methodLink RX5 85 yX5_snapshotIn, Cond.instanceMethod yX5_snapshotIn, Cond.selects RX5 yX5_snapshotIn yX5_snapshotIn, Cond.initialized RX5, Cond.code yX5_snapshotIn cX5_snapshotIn 2 (some (.object "WoodcutPress$Blocks")), Cond.fieldLink RX5 48 "WoodcutPress$State" "firstSnapshot" "LWoodcutPress$Blocks;", Cond.fieldLink RX5 51 "WoodcutPress$State" "secondSnapshot" "LWoodcutPress$Blocks;", Cond.methodLink RX5 61 yX0_becomeLike, Cond.instanceMethod yX0_becomeLike, Cond.selects RX0 yX0_becomeLike yX0_becomeLike, Cond.initialized RX0, Cond.code yX0_becomeLike cX0_becomeLike 2 none, Cond.fieldLink RX0 12 "WoodcutPress$Blocks" "colours" "LWoodcutPress$Cells;", Cond.fieldLink RX0 18 "WoodcutPress$Blocks" "lines" "LWoodcutPress$Cells;", Cond.fieldLink RX0 21 "WoodcutPress$Blocks" "lineBlock" "LWoodcutPress$Cells;", Cond.fieldLink RX0 24 "WoodcutPress$Blocks" "colourBlock" "LWoodcutPress$Cells;", Cond.fieldLink RX0 27 "WoodcutPress$Blocks" "wear" "[I", Cond.methodLink RX0 35 arraycopyName, Cond.native arraycopyName, Cond.static arraycopyName, Cond.initialized "java/lang/System", Cond.methodLink RX0 31 yX1_becomeLike, Cond.instanceMethod yX1_becomeLike]
def wsX5_restoreSnapshot_r2 : List Cond := [Cond.selects RX1 yX1_becomeLike yX1_becomeLike, Cond.initialized RX1, Cond.code yX1_becomeLike cX1_becomeLike 2 none, Cond.fieldLink RX1 9 "WoodcutPress$Cells" "rows" "[I", Cond.methodLink RX1 15 arraycopyName]
def wsX5_restoreSnapshot : List Cond := .code yX5_restoreSnapshot cX5_restoreSnapshot 2 none :: ((wsX5_restoreSnapshot_r1 ++ wsX5_restoreSnapshot_r2) ++ wsX50 ++ wsX00 ++ wsX10)
def wsX6_init_r1 : List Cond := [Cond.methodLink RX6 1 objectInit, Cond.instanceMethod objectInit, Cond.code objectInit ⟨#[0xb1]⟩ 1 none, Cond.classLink RX6 7 RX5, Cond.instantiable RX5 10, Cond.initialized RX5, Cond.fieldLink RX6 10 "WoodcutPress" "now" "LWoodcutPress$State;", Cond.classLink RX6 16 RX2, Cond.instantiable RX2 3, Cond.initialized RX2, Cond.fieldLink RX6 19 "WoodcutPress" "history" "LWoodcutPress$History;", Cond.classLink RX6 23 RX4, Cond.instantiable RX4 6, Cond.initialized RX4, Cond.fieldLink RX6 26 "WoodcutPress" "reader" "LWoodcutPress$Reader;", Cond.classLink RX6 30 RX1, Cond.instantiable RX1 1, Cond.initialized RX1, Cond.fieldLink RX6 33 "WoodcutPress" "ink" "LWoodcutPress$Cells;", Cond.fieldLink RX6 37 "WoodcutPress" "trial" "LWoodcutPress$Cells;", Cond.methodLink RX6 9 yX5_init, Cond.instanceMethod yX5_init, Cond.code yX5_init cX5_init 1 none, Cond.methodLink RX5 3 objectInit]
def wsX6_init_r2 : List Cond := [Cond.classLink RX5 9 RX0, Cond.instantiable RX0 5, Cond.initialized RX0, Cond.fieldLink RX5 12 "WoodcutPress$State" "blocks" "LWoodcutPress$Blocks;", Cond.arrayClass .int, Cond.fieldLink RX5 18 "WoodcutPress$State" "settings" "[I", Cond.methodLink RX5 25 arraycopyName, Cond.native arraycopyName, Cond.static arraycopyName, Cond.initialized "java/lang/System", Cond.classLink RX5 31 RX3, Cond.instantiable RX3 3, Cond.initialized RX3, Cond.fieldLink RX5 34 "WoodcutPress$State" "log" "LWoodcutPress$Log;", Cond.fieldLink RX5 38 "WoodcutPress$State" "pinX" "I", Cond.fieldLink RX5 42 "WoodcutPress$State" "pinY" "I", Cond.fieldLink RX5 45 "WoodcutPress$State" "prints" "I", Cond.fieldLink RX5 48 "WoodcutPress$State" "firstSnapshot" "LWoodcutPress$Blocks;", Cond.fieldLink RX5 51 "WoodcutPress$State" "secondSnapshot" "LWoodcutPress$Blocks;", Cond.fieldLink RX5 54 "WoodcutPress$State" "firstTaken" "Z", Cond.fieldLink RX5 58 "WoodcutPress$State" "secondTaken" "Z", Cond.methodLink RX5 11 yX0_init, Cond.instanceMethod yX0_init, Cond.code yX0_init cX0_init 1 none]
def wsX6_init_r3 : List Cond := [Cond.methodLink RX0 3 objectInit, Cond.classLink RX0 9 RX1, Cond.fieldLink RX0 12 "WoodcutPress$Blocks" "colours" "LWoodcutPress$Cells;", Cond.fieldLink RX0 18 "WoodcutPress$Blocks" "lines" "LWoodcutPress$Cells;", Cond.fieldLink RX0 21 "WoodcutPress$Blocks" "lineBlock" "LWoodcutPress$Cells;", Cond.fieldLink RX0 24 "WoodcutPress$Blocks" "colourBlock" "LWoodcutPress$Cells;", Cond.fieldLink RX0 27 "WoodcutPress$Blocks" "wear" "[I", Cond.methodLink RX0 11 yX1_init, Cond.instanceMethod yX1_init, Cond.code yX1_init cX1_init 1 none, Cond.methodLink RX1 3 objectInit, Cond.fieldLink RX1 9 "WoodcutPress$Cells" "rows" "[I", Cond.methodLink RX5 33 yX3_init, Cond.instanceMethod yX3_init, Cond.code yX3_init cX3_init 1 none, Cond.methodLink RX3 3 objectInit, Cond.fieldLink RX3 9 "WoodcutPress$Log" "parts" "[I", Cond.fieldLink RX3 15 "WoodcutPress$Log" "size" "I", Cond.fieldLink RX3 19 "WoodcutPress$Log" "latest" "I", Cond.methodLink RX6 18 yX2_init, Cond.instanceMethod yX2_init, Cond.code yX2_init cX2_init 2 none, Cond.methodLink RX2 3 objectInit, Cond.classLink RX2 9 RX5]
def wsX6_init_r4 : List Cond := [Cond.fieldLink RX2 11 "WoodcutPress$History" "states" "[LWoodcutPress$State;", Cond.fieldLink RX2 18 "WoodcutPress$History" "size" "I", Cond.fieldLink RX2 22 "WoodcutPress$History" "next" "I", Cond.methodLink RX2 17 yX5_init, Cond.methodLink RX6 25 yX4_init, Cond.instanceMethod yX4_init, Cond.code yX4_init cX4_init 1 none, Cond.methodLink RX4 3 objectInit, Cond.fieldLink RX4 9 "WoodcutPress$Reader" "text" "[I", Cond.fieldLink RX4 15 "WoodcutPress$Reader" "length" "I", Cond.fieldLink RX4 19 "WoodcutPress$Reader" "at" "I", Cond.fieldLink RX4 22 "WoodcutPress$Reader" "error" "I", Cond.classLink RX4 25 RX1, Cond.fieldLink RX4 28 "WoodcutPress$Reader" "colours" "LWoodcutPress$Cells;", Cond.fieldLink RX4 32 "WoodcutPress$Reader" "lines" "LWoodcutPress$Cells;", Cond.methodLink RX4 27 yX1_init, Cond.methodLink RX6 32 yX1_init]
def wsX6_init : List Cond := .code yX6_init cX6_init 1 none :: ((wsX6_init_r1 ++ (wsX6_init_r2 ++ (wsX6_init_r3 ++ wsX6_init_r4))) ++ wsX50 ++ wsX60 ++ wsX20 ++ wsX40 ++ wsX10 ++ wsX00 ++ wsX30)
def wsX6_paint_r1 : List Cond := [Cond.fieldLink RX6 19 "WoodcutPress" "history" "LWoodcutPress$History;", Cond.fieldLink RX6 10 "WoodcutPress" "now" "LWoodcutPress$State;", Cond.fieldLink RX6 52 "WoodcutPress$State" "blocks" "LWoodcutPress$Blocks;", Cond.methodLink RX6 40 yX6_isPlace, Cond.static yX6_isPlace, Cond.initialized RX6, Cond.code yX6_isPlace cX6_isPlace 2 (some .boolean), Cond.methodLink RX6 44 yX6_isWithin, Cond.static yX6_isWithin, Cond.code yX6_isWithin cX6_isWithin 3 (some .boolean), Cond.methodLink RX6 48 yX2_keep, Cond.instanceMethod yX2_keep, Cond.selects RX2 yX2_keep yX2_keep, Cond.initialized RX2, Cond.code yX2_keep cX2_keep 3 none, Cond.fieldLink RX2 11 "WoodcutPress$History" "states" "[LWoodcutPress$State;", Cond.fieldLink RX2 22 "WoodcutPress$History" "next" "I", Cond.fieldLink RX2 18 "WoodcutPress$History" "size" "I", Cond.methodLink RX2 29 Lib.Math.min.name, Cond.static Lib.Math.min.name, Cond.initialized "java/lang/Math", Cond.code Lib.Math.min.name Lib.Math.min.code 2 (some .int), Cond.methodLink RX2 25 yX5_becomeLike, Cond.instanceMethod yX5_becomeLike]
def wsX6_paint_r2 : List Cond := [Cond.selects RX5 yX5_becomeLike yX5_becomeLike, Cond.initialized RX5, Cond.code yX5_becomeLike cX5_becomeLike 2 none, Cond.fieldLink RX5 12 "WoodcutPress$State" "blocks" "LWoodcutPress$Blocks;", Cond.fieldLink RX5 18 "WoodcutPress$State" "settings" "[I", Cond.methodLink RX5 25 arraycopyName, Cond.native arraycopyName, Cond.static arraycopyName, Cond.initialized "java/lang/System", Cond.fieldLink RX5 34 "WoodcutPress$State" "log" "LWoodcutPress$Log;", Cond.fieldLink RX5 38 "WoodcutPress$State" "pinX" "I", Cond.fieldLink RX5 42 "WoodcutPress$State" "pinY" "I", Cond.fieldLink RX5 45 "WoodcutPress$State" "prints" "I", Cond.fieldLink RX5 48 "WoodcutPress$State" "firstSnapshot" "LWoodcutPress$Blocks;", Cond.fieldLink RX5 51 "WoodcutPress$State" "secondSnapshot" "LWoodcutPress$Blocks;", Cond.fieldLink RX5 54 "WoodcutPress$State" "firstTaken" "Z", Cond.fieldLink RX5 58 "WoodcutPress$State" "secondTaken" "Z", Cond.methodLink RX5 61 yX0_becomeLike, Cond.instanceMethod yX0_becomeLike, Cond.selects RX0 yX0_becomeLike yX0_becomeLike, Cond.initialized RX0, Cond.code yX0_becomeLike cX0_becomeLike 2 none, Cond.fieldLink RX0 12 "WoodcutPress$Blocks" "colours" "LWoodcutPress$Cells;", Cond.fieldLink RX0 18 "WoodcutPress$Blocks" "lines" "LWoodcutPress$Cells;"]
def wsX6_paint_r3 : List Cond := [Cond.fieldLink RX0 21 "WoodcutPress$Blocks" "lineBlock" "LWoodcutPress$Cells;", Cond.fieldLink RX0 24 "WoodcutPress$Blocks" "colourBlock" "LWoodcutPress$Cells;", Cond.fieldLink RX0 27 "WoodcutPress$Blocks" "wear" "[I", Cond.methodLink RX0 35 arraycopyName, Cond.methodLink RX0 31 yX1_becomeLike, Cond.instanceMethod yX1_becomeLike, Cond.selects RX1 yX1_becomeLike yX1_becomeLike, Cond.initialized RX1, Cond.code yX1_becomeLike cX1_becomeLike 2 none, Cond.fieldLink RX1 9 "WoodcutPress$Cells" "rows" "[I", Cond.methodLink RX1 15 arraycopyName, Cond.methodLink RX5 65 yX3_becomeLike, Cond.instanceMethod yX3_becomeLike, Cond.selects RX3 yX3_becomeLike yX3_becomeLike, Cond.initialized RX3, Cond.code yX3_becomeLike cX3_becomeLike 2 none, Cond.fieldLink RX3 9 "WoodcutPress$Log" "parts" "[I", Cond.methodLink RX3 22 arraycopyName, Cond.fieldLink RX3 15 "WoodcutPress$Log" "size" "I", Cond.fieldLink RX3 19 "WoodcutPress$Log" "latest" "I", Cond.methodLink RX6 56 yX0_fillArea, Cond.instanceMethod yX0_fillArea, Cond.selects RX0 yX0_fillArea yX0_fillArea, Cond.code yX0_fillArea cX0_fillArea 9 (some .int)]
def wsX6_paint_r4 : List Cond := [Cond.methodLink RX0 49 yX0_kindAt, Cond.instanceMethod yX0_kindAt, Cond.selects RX0 yX0_kindAt yX0_kindAt, Cond.code yX0_kindAt cX0_kindAt 3 (some .int), Cond.methodLink RX0 41 yX1_has, Cond.instanceMethod yX1_has, Cond.selects RX1 yX1_has yX1_has, Cond.code yX1_has cX1_has 3 (some .boolean), Cond.static yX6_oneIf, Cond.code yX6_oneIf cX6_oneIf 1 (some .int), Cond.methodLink RX0 57 yX1_put, Cond.instanceMethod yX1_put, Cond.selects RX1 yX1_put yX1_put, Cond.code yX1_put cX1_put 4 none]
def wsX6_paint : List Cond := .code yX6_paint cX6_paint 6 (some .int) :: ((wsX6_paint_r1 ++ (wsX6_paint_r2 ++ (wsX6_paint_r3 ++ wsX6_paint_r4))) ++ wsX60 ++ wsX50 ++ wsX20 ++ wsX00 ++ wsX10 ++ wsX30)
def wsX6_cut_r1 : List Cond := [Cond.fieldLink RX6 19 "WoodcutPress" "history" "LWoodcutPress$History;", Cond.fieldLink RX6 10 "WoodcutPress" "now" "LWoodcutPress$State;", Cond.fieldLink RX6 52 "WoodcutPress$State" "blocks" "LWoodcutPress$Blocks;", Cond.fieldLink RX6 66 "WoodcutPress$Blocks" "colourBlock" "LWoodcutPress$Cells;", Cond.methodLink RX6 44 yX6_isWithin, Cond.static yX6_isWithin, Cond.initialized RX6, Cond.code yX6_isWithin cX6_isWithin 3 (some .boolean), Cond.methodLink RX6 48 yX2_keep, Cond.instanceMethod yX2_keep, Cond.selects RX2 yX2_keep yX2_keep, Cond.initialized RX2, Cond.code yX2_keep cX2_keep 3 none, Cond.fieldLink RX2 11 "WoodcutPress$History" "states" "[LWoodcutPress$State;", Cond.fieldLink RX2 22 "WoodcutPress$History" "next" "I", Cond.fieldLink RX2 18 "WoodcutPress$History" "size" "I", Cond.methodLink RX2 29 Lib.Math.min.name, Cond.static Lib.Math.min.name, Cond.initialized "java/lang/Math", Cond.code Lib.Math.min.name Lib.Math.min.code 2 (some .int), Cond.methodLink RX2 25 yX5_becomeLike, Cond.instanceMethod yX5_becomeLike, Cond.selects RX5 yX5_becomeLike yX5_becomeLike, Cond.initialized RX5]
def wsX6_cut_r2 : List Cond := [Cond.code yX5_becomeLike cX5_becomeLike 2 none, Cond.fieldLink RX5 12 "WoodcutPress$State" "blocks" "LWoodcutPress$Blocks;", Cond.fieldLink RX5 18 "WoodcutPress$State" "settings" "[I", Cond.methodLink RX5 25 arraycopyName, Cond.native arraycopyName, Cond.static arraycopyName, Cond.initialized "java/lang/System", Cond.fieldLink RX5 34 "WoodcutPress$State" "log" "LWoodcutPress$Log;", Cond.fieldLink RX5 38 "WoodcutPress$State" "pinX" "I", Cond.fieldLink RX5 42 "WoodcutPress$State" "pinY" "I", Cond.fieldLink RX5 45 "WoodcutPress$State" "prints" "I", Cond.fieldLink RX5 48 "WoodcutPress$State" "firstSnapshot" "LWoodcutPress$Blocks;", Cond.fieldLink RX5 51 "WoodcutPress$State" "secondSnapshot" "LWoodcutPress$Blocks;", Cond.fieldLink RX5 54 "WoodcutPress$State" "firstTaken" "Z", Cond.fieldLink RX5 58 "WoodcutPress$State" "secondTaken" "Z", Cond.methodLink RX5 61 yX0_becomeLike, Cond.instanceMethod yX0_becomeLike, Cond.selects RX0 yX0_becomeLike yX0_becomeLike, Cond.initialized RX0, Cond.code yX0_becomeLike cX0_becomeLike 2 none, Cond.fieldLink RX0 12 "WoodcutPress$Blocks" "colours" "LWoodcutPress$Cells;", Cond.fieldLink RX0 18 "WoodcutPress$Blocks" "lines" "LWoodcutPress$Cells;", Cond.fieldLink RX0 21 "WoodcutPress$Blocks" "lineBlock" "LWoodcutPress$Cells;", Cond.fieldLink RX0 24 "WoodcutPress$Blocks" "colourBlock" "LWoodcutPress$Cells;"]
def wsX6_cut_r3 : List Cond := [Cond.fieldLink RX0 27 "WoodcutPress$Blocks" "wear" "[I", Cond.methodLink RX0 35 arraycopyName, Cond.methodLink RX0 31 yX1_becomeLike, Cond.instanceMethod yX1_becomeLike, Cond.selects RX1 yX1_becomeLike yX1_becomeLike, Cond.initialized RX1, Cond.code yX1_becomeLike cX1_becomeLike 2 none, Cond.fieldLink RX1 9 "WoodcutPress$Cells" "rows" "[I", Cond.methodLink RX1 15 arraycopyName, Cond.methodLink RX5 65 yX3_becomeLike, Cond.instanceMethod yX3_becomeLike, Cond.selects RX3 yX3_becomeLike yX3_becomeLike, Cond.initialized RX3, Cond.code yX3_becomeLike cX3_becomeLike 2 none, Cond.fieldLink RX3 9 "WoodcutPress$Log" "parts" "[I", Cond.methodLink RX3 22 arraycopyName, Cond.fieldLink RX3 15 "WoodcutPress$Log" "size" "I", Cond.fieldLink RX3 19 "WoodcutPress$Log" "latest" "I", Cond.methodLink RX6 62 yX0_cutAnew, Cond.instanceMethod yX0_cutAnew, Cond.selects RX0 yX0_cutAnew yX0_cutAnew, Cond.code yX0_cutAnew cX0_cutAnew 2 none, Cond.methodLink RX0 61 yJ7_fill_53178, Cond.static yJ7_fill_53178]
def wsX6_cut_r4 : List Cond := [Cond.initialized RJ7, Cond.code yJ7_fill_53178 cJ7_fill_53178 4 none, Cond.methodLink RX0 67 yX0_cutColour, Cond.instanceMethod yX0_cutColour, Cond.selects RX0 yX0_cutColour yX0_cutColour, Cond.code yX0_cutColour cX0_cutColour 4 none, Cond.methodLink RX0 71 yX1_growInto, Cond.instanceMethod yX1_growInto, Cond.selects RX1 yX1_growInto yX1_growInto, Cond.code yX1_growInto cX1_growInto 6 none, Cond.methodLink RX1 32 yX1_row, Cond.instanceMethod yX1_row, Cond.selects RX1 yX1_row yX1_row, Cond.code yX1_row cX1_row 2 (some .int), Cond.methodLink RX6 69 yX1_size, Cond.instanceMethod yX1_size, Cond.selects RX1 yX1_size yX1_size, Cond.code yX1_size cX1_size 3 (some .int), Cond.methodLink RX1 26 yJ6_bitCount_0f7a4, Cond.static yJ6_bitCount_0f7a4, Cond.initialized RJ6, Cond.code yJ6_bitCount_0f7a4 cJ6_bitCount_0f7a4 1 (some .int), Cond.constant RJ6 265 (1431655765), Cond.constant RJ6 266 (858993459)]
def wsX6_cut_r5 : List Cond := [Cond.constant RJ6 267 (252645135)]
def wsX6_cut : List Cond := .code yX6_cut cX6_cut 2 (some .int) :: ((wsX6_cut_r1 ++ (wsX6_cut_r2 ++ (wsX6_cut_r3 ++ (wsX6_cut_r4 ++ wsX6_cut_r5)))) ++ wsX60 ++ wsX50 ++ wsX00 ++ wsX20 ++ wsX10 ++ wsX30)
def wsX6_carve_r1 : List Cond := [Cond.fieldLink RX6 19 "WoodcutPress" "history" "LWoodcutPress$History;", Cond.fieldLink RX6 10 "WoodcutPress" "now" "LWoodcutPress$State;", Cond.fieldLink RX6 52 "WoodcutPress$State" "blocks" "LWoodcutPress$Blocks;", Cond.fieldLink RX6 73 "WoodcutPress$Blocks" "lineBlock" "LWoodcutPress$Cells;", Cond.fieldLink RX6 66 "WoodcutPress$Blocks" "colourBlock" "LWoodcutPress$Cells;", Cond.methodLink RX6 44 yX6_isWithin, Cond.static yX6_isWithin, Cond.initialized RX6, Cond.code yX6_isWithin cX6_isWithin 3 (some .boolean), Cond.methodLink RX6 40 yX6_isPlace, Cond.static yX6_isPlace, Cond.code yX6_isPlace cX6_isPlace 2 (some .boolean), Cond.methodLink RX6 48 yX2_keep, Cond.instanceMethod yX2_keep, Cond.selects RX2 yX2_keep yX2_keep, Cond.initialized RX2, Cond.code yX2_keep cX2_keep 3 none, Cond.fieldLink RX2 11 "WoodcutPress$History" "states" "[LWoodcutPress$State;", Cond.fieldLink RX2 22 "WoodcutPress$History" "next" "I", Cond.fieldLink RX2 18 "WoodcutPress$History" "size" "I", Cond.methodLink RX2 29 Lib.Math.min.name, Cond.static Lib.Math.min.name, Cond.initialized "java/lang/Math", Cond.code Lib.Math.min.name Lib.Math.min.code 2 (some .int)]
def wsX6_carve_r2 : List Cond := [Cond.methodLink RX2 25 yX5_becomeLike, Cond.instanceMethod yX5_becomeLike, Cond.selects RX5 yX5_becomeLike yX5_becomeLike, Cond.initialized RX5, Cond.code yX5_becomeLike cX5_becomeLike 2 none, Cond.fieldLink RX5 12 "WoodcutPress$State" "blocks" "LWoodcutPress$Blocks;", Cond.fieldLink RX5 18 "WoodcutPress$State" "settings" "[I", Cond.methodLink RX5 25 arraycopyName, Cond.native arraycopyName, Cond.static arraycopyName, Cond.initialized "java/lang/System", Cond.fieldLink RX5 34 "WoodcutPress$State" "log" "LWoodcutPress$Log;", Cond.fieldLink RX5 38 "WoodcutPress$State" "pinX" "I", Cond.fieldLink RX5 42 "WoodcutPress$State" "pinY" "I", Cond.fieldLink RX5 45 "WoodcutPress$State" "prints" "I", Cond.fieldLink RX5 48 "WoodcutPress$State" "firstSnapshot" "LWoodcutPress$Blocks;", Cond.fieldLink RX5 51 "WoodcutPress$State" "secondSnapshot" "LWoodcutPress$Blocks;", Cond.fieldLink RX5 54 "WoodcutPress$State" "firstTaken" "Z", Cond.fieldLink RX5 58 "WoodcutPress$State" "secondTaken" "Z", Cond.methodLink RX5 61 yX0_becomeLike, Cond.instanceMethod yX0_becomeLike, Cond.selects RX0 yX0_becomeLike yX0_becomeLike, Cond.initialized RX0, Cond.code yX0_becomeLike cX0_becomeLike 2 none]
def wsX6_carve_r3 : List Cond := [Cond.fieldLink RX0 12 "WoodcutPress$Blocks" "colours" "LWoodcutPress$Cells;", Cond.fieldLink RX0 18 "WoodcutPress$Blocks" "lines" "LWoodcutPress$Cells;", Cond.fieldLink RX0 21 "WoodcutPress$Blocks" "lineBlock" "LWoodcutPress$Cells;", Cond.fieldLink RX0 24 "WoodcutPress$Blocks" "colourBlock" "LWoodcutPress$Cells;", Cond.fieldLink RX0 27 "WoodcutPress$Blocks" "wear" "[I", Cond.methodLink RX0 35 arraycopyName, Cond.methodLink RX0 31 yX1_becomeLike, Cond.instanceMethod yX1_becomeLike, Cond.selects RX1 yX1_becomeLike yX1_becomeLike, Cond.initialized RX1, Cond.code yX1_becomeLike cX1_becomeLike 2 none, Cond.fieldLink RX1 9 "WoodcutPress$Cells" "rows" "[I", Cond.methodLink RX1 15 arraycopyName, Cond.methodLink RX5 65 yX3_becomeLike, Cond.instanceMethod yX3_becomeLike, Cond.selects RX3 yX3_becomeLike yX3_becomeLike, Cond.initialized RX3, Cond.code yX3_becomeLike cX3_becomeLike 2 none, Cond.fieldLink RX3 9 "WoodcutPress$Log" "parts" "[I", Cond.methodLink RX3 22 arraycopyName, Cond.fieldLink RX3 15 "WoodcutPress$Log" "size" "I", Cond.fieldLink RX3 19 "WoodcutPress$Log" "latest" "I", Cond.methodLink RX6 76 yX1_has, Cond.instanceMethod yX1_has]
def wsX6_carve_r4 : List Cond := [Cond.selects RX1 yX1_has yX1_has, Cond.code yX1_has cX1_has 3 (some .boolean), Cond.methodLink RX6 79 yX6_oneIf, Cond.static yX6_oneIf, Cond.code yX6_oneIf cX6_oneIf 1 (some .int), Cond.methodLink RX6 83 yX1_put, Cond.instanceMethod yX1_put, Cond.selects RX1 yX1_put yX1_put, Cond.code yX1_put cX1_put 4 none, Cond.methodLink RX6 87 yX0_clearWear, Cond.instanceMethod yX0_clearWear, Cond.selects RX0 yX0_clearWear yX0_clearWear, Cond.code yX0_clearWear cX0_clearWear 3 none]
def wsX6_carve : List Cond := .code yX6_carve cX6_carve 7 (some .int) :: ((wsX6_carve_r1 ++ (wsX6_carve_r2 ++ (wsX6_carve_r3 ++ wsX6_carve_r4))) ++ wsX60 ++ wsX50 ++ wsX00 ++ wsX20 ++ wsX10 ++ wsX30)
def wsX6_findInk_r1 : List Cond := [Cond.fieldLink RX6 10 "WoodcutPress" "now" "LWoodcutPress$State;", Cond.fieldLink RX6 52 "WoodcutPress$State" "blocks" "LWoodcutPress$Blocks;", Cond.fieldLink RX6 33 "WoodcutPress" "ink" "LWoodcutPress$Cells;", Cond.methodLink RX6 91 yX5_hardness, Cond.instanceMethod yX5_hardness, Cond.selects RX5 yX5_hardness yX5_hardness, Cond.initialized RX5, Cond.code yX5_hardness cX5_hardness 1 (some .int), Cond.fieldLink RX5 18 "WoodcutPress$State" "settings" "[I", Cond.methodLink RX6 227 yX0_findInk, Cond.instanceMethod yX0_findInk, Cond.selects RX0 yX0_findInk yX0_findInk, Cond.initialized RX0, Cond.code yX0_findInk cX0_findInk 6 none, Cond.fieldLink RX0 27 "WoodcutPress$Blocks" "wear" "[I", Cond.fieldLink RX0 21 "WoodcutPress$Blocks" "lineBlock" "LWoodcutPress$Cells;", Cond.static yX6_oneIf, Cond.initialized RX6, Cond.code yX6_oneIf cX6_oneIf 1 (some .int), Cond.methodLink RX0 80 yX1_row, Cond.instanceMethod yX1_row, Cond.selects RX1 yX1_row yX1_row, Cond.initialized RX1, Cond.code yX1_row cX1_row 2 (some .int)]
def wsX6_findInk_r2 : List Cond := [Cond.fieldLink RX1 9 "WoodcutPress$Cells" "rows" "[I", Cond.methodLink RX0 84 yX1_putRow, Cond.instanceMethod yX1_putRow, Cond.selects RX1 yX1_putRow yX1_putRow, Cond.code yX1_putRow cX1_putRow 3 none, Cond.constant RX1 21 (65535)]
def wsX6_findInk : List Cond := .code yX6_findInk cX6_findInk 1 none :: ((wsX6_findInk_r1 ++ wsX6_findInk_r2) ++ wsX60 ++ wsX50 ++ wsX00 ++ wsX10)
def wsX6_wornCells_r1 : List Cond := [Cond.fieldLink RX6 10 "WoodcutPress" "now" "LWoodcutPress$State;", Cond.fieldLink RX6 52 "WoodcutPress$State" "blocks" "LWoodcutPress$Blocks;", Cond.fieldLink RX6 73 "WoodcutPress$Blocks" "lineBlock" "LWoodcutPress$Cells;", Cond.fieldLink RX6 33 "WoodcutPress" "ink" "LWoodcutPress$Cells;", Cond.methodLink RX6 107 yX6_findInk, Cond.instanceMethod yX6_findInk, Cond.selects RX6 yX6_findInk yX6_findInk, Cond.initialized RX6, Cond.code yX6_findInk cX6_findInk 1 none, Cond.methodLink RX6 91 yX5_hardness, Cond.instanceMethod yX5_hardness, Cond.selects RX5 yX5_hardness yX5_hardness, Cond.initialized RX5, Cond.code yX5_hardness cX5_hardness 1 (some .int), Cond.fieldLink RX5 18 "WoodcutPress$State" "settings" "[I", Cond.methodLink RX6 227 yX0_findInk, Cond.instanceMethod yX0_findInk, Cond.selects RX0 yX0_findInk yX0_findInk, Cond.initialized RX0, Cond.code yX0_findInk cX0_findInk 6 none, Cond.fieldLink RX0 27 "WoodcutPress$Blocks" "wear" "[I", Cond.fieldLink RX0 21 "WoodcutPress$Blocks" "lineBlock" "LWoodcutPress$Cells;", Cond.static yX6_oneIf, Cond.code yX6_oneIf cX6_oneIf 1 (some .int)]
def wsX6_wornCells_r2 : List Cond := [Cond.methodLink RX0 80 yX1_row, Cond.instanceMethod yX1_row, Cond.selects RX1 yX1_row yX1_row, Cond.initialized RX1, Cond.code yX1_row cX1_row 2 (some .int), Cond.fieldLink RX1 9 "WoodcutPress$Cells" "rows" "[I", Cond.methodLink RX0 84 yX1_putRow, Cond.instanceMethod yX1_putRow, Cond.selects RX1 yX1_putRow yX1_putRow, Cond.code yX1_putRow cX1_putRow 3 none, Cond.constant RX1 21 (65535), Cond.methodLink RX6 69 yX1_size, Cond.instanceMethod yX1_size, Cond.selects RX1 yX1_size yX1_size, Cond.code yX1_size cX1_size 3 (some .int), Cond.methodLink RX1 26 yJ6_bitCount_0f7a4, Cond.static yJ6_bitCount_0f7a4, Cond.initialized RJ6, Cond.code yJ6_bitCount_0f7a4 cJ6_bitCount_0f7a4 1 (some .int), Cond.constant RJ6 265 (1431655765), Cond.constant RJ6 266 (858993459), Cond.constant RJ6 267 (252645135)]
def wsX6_wornCells : List Cond := .code yX6_wornCells cX6_wornCells 1 (some .int) :: ((wsX6_wornCells_r1 ++ wsX6_wornCells_r2) ++ wsX60 ++ wsX50 ++ wsX00 ++ wsX10)
def wsX6_plug_r1 : List Cond := [Cond.fieldLink RX6 10 "WoodcutPress" "now" "LWoodcutPress$State;", Cond.fieldLink RX6 52 "WoodcutPress$State" "blocks" "LWoodcutPress$Blocks;", Cond.fieldLink RX6 19 "WoodcutPress" "history" "LWoodcutPress$History;", Cond.methodLink RX6 40 yX6_isPlace, Cond.static yX6_isPlace, Cond.initialized RX6, Cond.code yX6_isPlace cX6_isPlace 2 (some .boolean), Cond.methodLink RX6 91 yX5_hardness, Cond.instanceMethod yX5_hardness, Cond.selects RX5 yX5_hardness yX5_hardness, Cond.initialized RX5, Cond.code yX5_hardness cX5_hardness 1 (some .int), Cond.fieldLink RX5 18 "WoodcutPress$State" "settings" "[I", Cond.methodLink RX6 94 yX0_isWorn, Cond.instanceMethod yX0_isWorn, Cond.selects RX0 yX0_isWorn yX0_isWorn, Cond.initialized RX0, Cond.code yX0_isWorn cX0_isWorn 4 (some .boolean), Cond.fieldLink RX0 21 "WoodcutPress$Blocks" "lineBlock" "LWoodcutPress$Cells;", Cond.methodLink RX0 41 yX1_has, Cond.instanceMethod yX1_has, Cond.selects RX1 yX1_has yX1_has, Cond.initialized RX1, Cond.code yX1_has cX1_has 3 (some .boolean)]
def wsX6_plug_r2 : List Cond := [Cond.fieldLink RX1 9 "WoodcutPress$Cells" "rows" "[I", Cond.methodLink RX0 77 yX0_wearAt, Cond.instanceMethod yX0_wearAt, Cond.selects RX0 yX0_wearAt yX0_wearAt, Cond.code yX0_wearAt cX0_wearAt 3 (some .int), Cond.fieldLink RX0 27 "WoodcutPress$Blocks" "wear" "[I", Cond.methodLink RX6 48 yX2_keep, Cond.instanceMethod yX2_keep, Cond.selects RX2 yX2_keep yX2_keep, Cond.initialized RX2, Cond.code yX2_keep cX2_keep 3 none, Cond.fieldLink RX2 11 "WoodcutPress$History" "states" "[LWoodcutPress$State;", Cond.fieldLink RX2 22 "WoodcutPress$History" "next" "I", Cond.fieldLink RX2 18 "WoodcutPress$History" "size" "I", Cond.methodLink RX2 29 Lib.Math.min.name, Cond.static Lib.Math.min.name, Cond.initialized "java/lang/Math", Cond.code Lib.Math.min.name Lib.Math.min.code 2 (some .int), Cond.methodLink RX2 25 yX5_becomeLike, Cond.instanceMethod yX5_becomeLike, Cond.selects RX5 yX5_becomeLike yX5_becomeLike, Cond.code yX5_becomeLike cX5_becomeLike 2 none, Cond.fieldLink RX5 12 "WoodcutPress$State" "blocks" "LWoodcutPress$Blocks;", Cond.methodLink RX5 25 arraycopyName]
def wsX6_plug_r3 : List Cond := [Cond.native arraycopyName, Cond.static arraycopyName, Cond.initialized "java/lang/System", Cond.fieldLink RX5 34 "WoodcutPress$State" "log" "LWoodcutPress$Log;", Cond.fieldLink RX5 38 "WoodcutPress$State" "pinX" "I", Cond.fieldLink RX5 42 "WoodcutPress$State" "pinY" "I", Cond.fieldLink RX5 45 "WoodcutPress$State" "prints" "I", Cond.fieldLink RX5 48 "WoodcutPress$State" "firstSnapshot" "LWoodcutPress$Blocks;", Cond.fieldLink RX5 51 "WoodcutPress$State" "secondSnapshot" "LWoodcutPress$Blocks;", Cond.fieldLink RX5 54 "WoodcutPress$State" "firstTaken" "Z", Cond.fieldLink RX5 58 "WoodcutPress$State" "secondTaken" "Z", Cond.methodLink RX5 61 yX0_becomeLike, Cond.instanceMethod yX0_becomeLike, Cond.selects RX0 yX0_becomeLike yX0_becomeLike, Cond.code yX0_becomeLike cX0_becomeLike 2 none, Cond.fieldLink RX0 12 "WoodcutPress$Blocks" "colours" "LWoodcutPress$Cells;", Cond.fieldLink RX0 18 "WoodcutPress$Blocks" "lines" "LWoodcutPress$Cells;", Cond.fieldLink RX0 24 "WoodcutPress$Blocks" "colourBlock" "LWoodcutPress$Cells;", Cond.methodLink RX0 35 arraycopyName, Cond.methodLink RX0 31 yX1_becomeLike, Cond.instanceMethod yX1_becomeLike, Cond.selects RX1 yX1_becomeLike yX1_becomeLike, Cond.code yX1_becomeLike cX1_becomeLike 2 none, Cond.methodLink RX1 15 arraycopyName]
def wsX6_plug_r4 : List Cond := [Cond.methodLink RX5 65 yX3_becomeLike, Cond.instanceMethod yX3_becomeLike, Cond.selects RX3 yX3_becomeLike yX3_becomeLike, Cond.initialized RX3, Cond.code yX3_becomeLike cX3_becomeLike 2 none, Cond.fieldLink RX3 9 "WoodcutPress$Log" "parts" "[I", Cond.methodLink RX3 22 arraycopyName, Cond.fieldLink RX3 15 "WoodcutPress$Log" "size" "I", Cond.fieldLink RX3 19 "WoodcutPress$Log" "latest" "I", Cond.methodLink RX6 87 yX0_clearWear, Cond.instanceMethod yX0_clearWear, Cond.selects RX0 yX0_clearWear yX0_clearWear, Cond.code yX0_clearWear cX0_clearWear 3 none, Cond.methodLink RX6 97 yX6_wornCells, Cond.instanceMethod yX6_wornCells, Cond.selects RX6 yX6_wornCells yX6_wornCells, Cond.code yX6_wornCells cX6_wornCells 1 (some .int), Cond.fieldLink RX6 73 "WoodcutPress$Blocks" "lineBlock" "LWoodcutPress$Cells;", Cond.fieldLink RX6 33 "WoodcutPress" "ink" "LWoodcutPress$Cells;", Cond.methodLink RX6 107 yX6_findInk, Cond.instanceMethod yX6_findInk, Cond.selects RX6 yX6_findInk yX6_findInk, Cond.code yX6_findInk cX6_findInk 1 none, Cond.methodLink RX6 227 yX0_findInk]
def wsX6_plug_r5 : List Cond := [Cond.instanceMethod yX0_findInk, Cond.selects RX0 yX0_findInk yX0_findInk, Cond.code yX0_findInk cX0_findInk 6 none, Cond.static yX6_oneIf, Cond.code yX6_oneIf cX6_oneIf 1 (some .int), Cond.methodLink RX0 80 yX1_row, Cond.instanceMethod yX1_row, Cond.selects RX1 yX1_row yX1_row, Cond.code yX1_row cX1_row 2 (some .int), Cond.methodLink RX0 84 yX1_putRow, Cond.instanceMethod yX1_putRow, Cond.selects RX1 yX1_putRow yX1_putRow, Cond.code yX1_putRow cX1_putRow 3 none, Cond.constant RX1 21 (65535), Cond.methodLink RX6 69 yX1_size, Cond.instanceMethod yX1_size, Cond.selects RX1 yX1_size yX1_size, Cond.code yX1_size cX1_size 3 (some .int), Cond.methodLink RX1 26 yJ6_bitCount_0f7a4, Cond.static yJ6_bitCount_0f7a4, Cond.initialized RJ6, Cond.code yJ6_bitCount_0f7a4 cJ6_bitCount_0f7a4 1 (some .int), Cond.constant RJ6 265 (1431655765), Cond.constant RJ6 266 (858993459)]
def wsX6_plug_r6 : List Cond := [Cond.constant RJ6 267 (252645135)]
def wsX6_plug : List Cond := .code yX6_plug cX6_plug 3 (some .int) :: ((wsX6_plug_r1 ++ (wsX6_plug_r2 ++ (wsX6_plug_r3 ++ (wsX6_plug_r4 ++ (wsX6_plug_r5 ++ wsX6_plug_r6))))) ++ wsX60 ++ wsX50 ++ wsX00 ++ wsX10 ++ wsX20 ++ wsX30)
def wsX6_gapsWith_r1 : List Cond := [Cond.fieldLink RX6 10 "WoodcutPress" "now" "LWoodcutPress$State;", Cond.fieldLink RX6 52 "WoodcutPress$State" "blocks" "LWoodcutPress$Blocks;", Cond.fieldLink RX6 33 "WoodcutPress" "ink" "LWoodcutPress$Cells;", Cond.fieldLink RX6 66 "WoodcutPress$Blocks" "colourBlock" "LWoodcutPress$Cells;", Cond.methodLink RX6 229 yX0_gaps, Cond.instanceMethod yX0_gaps, Cond.selects RX0 yX0_gaps yX0_gaps, Cond.initialized RX0, Cond.code yX0_gaps cX0_gaps 8 (some .int), Cond.fieldLink RX0 12 "WoodcutPress$Blocks" "colours" "LWoodcutPress$Cells;", Cond.fieldLink RX0 18 "WoodcutPress$Blocks" "lines" "LWoodcutPress$Cells;", Cond.methodLink RX0 80 yX1_row, Cond.instanceMethod yX1_row, Cond.selects RX1 yX1_row yX1_row, Cond.initialized RX1, Cond.code yX1_row cX1_row 2 (some .int), Cond.fieldLink RX1 9 "WoodcutPress$Cells" "rows" "[I", Cond.methodLink RX0 88 yX1_shiftedRow, Cond.instanceMethod yX1_shiftedRow, Cond.selects RX1 yX1_shiftedRow yX1_shiftedRow, Cond.code yX1_shiftedRow cX1_shiftedRow 5 (some .int), Cond.constant RX1 21 (65535), Cond.methodLink RX1 32 yX1_row, Cond.methodLink RX0 92 yJ6_bitCount_0f7a4]
def wsX6_gapsWith_r2 : List Cond := [Cond.static yJ6_bitCount_0f7a4, Cond.initialized RJ6, Cond.code yJ6_bitCount_0f7a4 cJ6_bitCount_0f7a4 1 (some .int), Cond.constant RJ6 265 (1431655765), Cond.constant RJ6 266 (858993459), Cond.constant RJ6 267 (252645135)]
def wsX6_gapsWith : List Cond := .code yX6_gapsWith cX6_gapsWith 3 (some .int) :: ((wsX6_gapsWith_r1 ++ wsX6_gapsWith_r2) ++ wsX60 ++ wsX50 ++ wsX00 ++ wsX10)
def wsX6_setPins_r1 : List Cond := [Cond.fieldLink RX6 19 "WoodcutPress" "history" "LWoodcutPress$History;", Cond.fieldLink RX6 10 "WoodcutPress" "now" "LWoodcutPress$State;", Cond.fieldLink RX6 100 "WoodcutPress$State" "pinX" "I", Cond.fieldLink RX6 104 "WoodcutPress$State" "pinY" "I", Cond.methodLink RX6 44 yX6_isWithin, Cond.static yX6_isWithin, Cond.initialized RX6, Cond.code yX6_isWithin cX6_isWithin 3 (some .boolean), Cond.methodLink RX6 48 yX2_keep, Cond.instanceMethod yX2_keep, Cond.selects RX2 yX2_keep yX2_keep, Cond.initialized RX2, Cond.code yX2_keep cX2_keep 3 none, Cond.fieldLink RX2 11 "WoodcutPress$History" "states" "[LWoodcutPress$State;", Cond.fieldLink RX2 22 "WoodcutPress$History" "next" "I", Cond.fieldLink RX2 18 "WoodcutPress$History" "size" "I", Cond.methodLink RX2 29 Lib.Math.min.name, Cond.static Lib.Math.min.name, Cond.initialized "java/lang/Math", Cond.code Lib.Math.min.name Lib.Math.min.code 2 (some .int), Cond.methodLink RX2 25 yX5_becomeLike, Cond.instanceMethod yX5_becomeLike, Cond.selects RX5 yX5_becomeLike yX5_becomeLike, Cond.initialized RX5]
def wsX6_setPins_r2 : List Cond := [Cond.code yX5_becomeLike cX5_becomeLike 2 none, Cond.fieldLink RX5 12 "WoodcutPress$State" "blocks" "LWoodcutPress$Blocks;", Cond.fieldLink RX5 18 "WoodcutPress$State" "settings" "[I", Cond.methodLink RX5 25 arraycopyName, Cond.native arraycopyName, Cond.static arraycopyName, Cond.initialized "java/lang/System", Cond.fieldLink RX5 34 "WoodcutPress$State" "log" "LWoodcutPress$Log;", Cond.fieldLink RX5 38 "WoodcutPress$State" "pinX" "I", Cond.fieldLink RX5 42 "WoodcutPress$State" "pinY" "I", Cond.fieldLink RX5 45 "WoodcutPress$State" "prints" "I", Cond.fieldLink RX5 48 "WoodcutPress$State" "firstSnapshot" "LWoodcutPress$Blocks;", Cond.fieldLink RX5 51 "WoodcutPress$State" "secondSnapshot" "LWoodcutPress$Blocks;", Cond.fieldLink RX5 54 "WoodcutPress$State" "firstTaken" "Z", Cond.fieldLink RX5 58 "WoodcutPress$State" "secondTaken" "Z", Cond.methodLink RX5 61 yX0_becomeLike, Cond.instanceMethod yX0_becomeLike, Cond.selects RX0 yX0_becomeLike yX0_becomeLike, Cond.initialized RX0, Cond.code yX0_becomeLike cX0_becomeLike 2 none, Cond.fieldLink RX0 12 "WoodcutPress$Blocks" "colours" "LWoodcutPress$Cells;", Cond.fieldLink RX0 18 "WoodcutPress$Blocks" "lines" "LWoodcutPress$Cells;", Cond.fieldLink RX0 21 "WoodcutPress$Blocks" "lineBlock" "LWoodcutPress$Cells;", Cond.fieldLink RX0 24 "WoodcutPress$Blocks" "colourBlock" "LWoodcutPress$Cells;"]
def wsX6_setPins_r3 : List Cond := [Cond.fieldLink RX0 27 "WoodcutPress$Blocks" "wear" "[I", Cond.methodLink RX0 35 arraycopyName, Cond.methodLink RX0 31 yX1_becomeLike, Cond.instanceMethod yX1_becomeLike, Cond.selects RX1 yX1_becomeLike yX1_becomeLike, Cond.initialized RX1, Cond.code yX1_becomeLike cX1_becomeLike 2 none, Cond.fieldLink RX1 9 "WoodcutPress$Cells" "rows" "[I", Cond.methodLink RX1 15 arraycopyName, Cond.methodLink RX5 65 yX3_becomeLike, Cond.instanceMethod yX3_becomeLike, Cond.selects RX3 yX3_becomeLike yX3_becomeLike, Cond.initialized RX3, Cond.code yX3_becomeLike cX3_becomeLike 2 none, Cond.fieldLink RX3 9 "WoodcutPress$Log" "parts" "[I", Cond.methodLink RX3 22 arraycopyName, Cond.fieldLink RX3 15 "WoodcutPress$Log" "size" "I", Cond.fieldLink RX3 19 "WoodcutPress$Log" "latest" "I", Cond.methodLink RX6 107 yX6_findInk, Cond.instanceMethod yX6_findInk, Cond.selects RX6 yX6_findInk yX6_findInk, Cond.code yX6_findInk cX6_findInk 1 none, Cond.fieldLink RX6 52 "WoodcutPress$State" "blocks" "LWoodcutPress$Blocks;", Cond.fieldLink RX6 33 "WoodcutPress" "ink" "LWoodcutPress$Cells;"]
def wsX6_setPins_r4 : List Cond := [Cond.methodLink RX6 91 yX5_hardness, Cond.instanceMethod yX5_hardness, Cond.selects RX5 yX5_hardness yX5_hardness, Cond.code yX5_hardness cX5_hardness 1 (some .int), Cond.methodLink RX6 227 yX0_findInk, Cond.instanceMethod yX0_findInk, Cond.selects RX0 yX0_findInk yX0_findInk, Cond.code yX0_findInk cX0_findInk 6 none, Cond.static yX6_oneIf, Cond.code yX6_oneIf cX6_oneIf 1 (some .int), Cond.methodLink RX0 80 yX1_row, Cond.instanceMethod yX1_row, Cond.selects RX1 yX1_row yX1_row, Cond.code yX1_row cX1_row 2 (some .int), Cond.methodLink RX0 84 yX1_putRow, Cond.instanceMethod yX1_putRow, Cond.selects RX1 yX1_putRow yX1_putRow, Cond.code yX1_putRow cX1_putRow 3 none, Cond.constant RX1 21 (65535), Cond.methodLink RX6 110 yX5_shiftX, Cond.instanceMethod yX5_shiftX, Cond.selects RX5 yX5_shiftX yX5_shiftX, Cond.code yX5_shiftX cX5_shiftX 1 (some .int), Cond.methodLink RX5 68 yX5_driftX]
def wsX6_setPins_r5 : List Cond := [Cond.instanceMethod yX5_driftX, Cond.selects RX5 yX5_driftX yX5_driftX, Cond.code yX5_driftX cX5_driftX 1 (some .int), Cond.methodLink RX6 113 yX5_shiftY, Cond.instanceMethod yX5_shiftY, Cond.selects RX5 yX5_shiftY yX5_shiftY, Cond.code yX5_shiftY cX5_shiftY 1 (some .int), Cond.methodLink RX5 72 yX5_driftY, Cond.instanceMethod yX5_driftY, Cond.selects RX5 yX5_driftY yX5_driftY, Cond.code yX5_driftY cX5_driftY 1 (some .int), Cond.methodLink RX6 116 yX6_gapsWith, Cond.instanceMethod yX6_gapsWith, Cond.selects RX6 yX6_gapsWith yX6_gapsWith, Cond.code yX6_gapsWith cX6_gapsWith 3 (some .int), Cond.fieldLink RX6 66 "WoodcutPress$Blocks" "colourBlock" "LWoodcutPress$Cells;", Cond.methodLink RX6 229 yX0_gaps, Cond.instanceMethod yX0_gaps, Cond.selects RX0 yX0_gaps yX0_gaps, Cond.code yX0_gaps cX0_gaps 8 (some .int), Cond.methodLink RX0 88 yX1_shiftedRow, Cond.instanceMethod yX1_shiftedRow, Cond.selects RX1 yX1_shiftedRow yX1_shiftedRow, Cond.code yX1_shiftedRow cX1_shiftedRow 5 (some .int)]
def wsX6_setPins_r6 : List Cond := [Cond.methodLink RX1 32 yX1_row, Cond.methodLink RX0 92 yJ6_bitCount_0f7a4, Cond.static yJ6_bitCount_0f7a4, Cond.initialized RJ6, Cond.code yJ6_bitCount_0f7a4 cJ6_bitCount_0f7a4 1 (some .int), Cond.constant RJ6 265 (1431655765), Cond.constant RJ6 266 (858993459), Cond.constant RJ6 267 (252645135)]
def wsX6_setPins : List Cond := .code yX6_setPins cX6_setPins 3 (some .int) :: ((wsX6_setPins_r1 ++ (wsX6_setPins_r2 ++ (wsX6_setPins_r3 ++ (wsX6_setPins_r4 ++ (wsX6_setPins_r5 ++ wsX6_setPins_r6))))) ++ wsX60 ++ wsX50 ++ wsX20 ++ wsX00 ++ wsX10 ++ wsX30)
def wsX6_set_r1 : List Cond := [Cond.fieldLink RX6 120 "WoodcutPress" "LEAST_SETTINGS" "[I", Cond.fieldLink RX6 124 "WoodcutPress" "GREATEST_SETTINGS" "[I", Cond.fieldLink RX6 19 "WoodcutPress" "history" "LWoodcutPress$History;", Cond.fieldLink RX6 10 "WoodcutPress" "now" "LWoodcutPress$State;", Cond.fieldLink RX6 127 "WoodcutPress$State" "settings" "[I", Cond.methodLink RX6 44 yX6_isWithin, Cond.static yX6_isWithin, Cond.initialized RX6, Cond.code yX6_isWithin cX6_isWithin 3 (some .boolean), Cond.methodLink RX6 48 yX2_keep, Cond.instanceMethod yX2_keep, Cond.selects RX2 yX2_keep yX2_keep, Cond.initialized RX2, Cond.code yX2_keep cX2_keep 3 none, Cond.fieldLink RX2 11 "WoodcutPress$History" "states" "[LWoodcutPress$State;", Cond.fieldLink RX2 22 "WoodcutPress$History" "next" "I", Cond.fieldLink RX2 18 "WoodcutPress$History" "size" "I", Cond.methodLink RX2 29 Lib.Math.min.name, Cond.static Lib.Math.min.name, Cond.initialized "java/lang/Math", Cond.code Lib.Math.min.name Lib.Math.min.code 2 (some .int), Cond.methodLink RX2 25 yX5_becomeLike, Cond.instanceMethod yX5_becomeLike, Cond.selects RX5 yX5_becomeLike yX5_becomeLike]
def wsX6_set_r2 : List Cond := [Cond.initialized RX5, Cond.code yX5_becomeLike cX5_becomeLike 2 none, Cond.fieldLink RX5 12 "WoodcutPress$State" "blocks" "LWoodcutPress$Blocks;", Cond.fieldLink RX5 18 "WoodcutPress$State" "settings" "[I", Cond.methodLink RX5 25 arraycopyName, Cond.native arraycopyName, Cond.static arraycopyName, Cond.initialized "java/lang/System", Cond.fieldLink RX5 34 "WoodcutPress$State" "log" "LWoodcutPress$Log;", Cond.fieldLink RX5 38 "WoodcutPress$State" "pinX" "I", Cond.fieldLink RX5 42 "WoodcutPress$State" "pinY" "I", Cond.fieldLink RX5 45 "WoodcutPress$State" "prints" "I", Cond.fieldLink RX5 48 "WoodcutPress$State" "firstSnapshot" "LWoodcutPress$Blocks;", Cond.fieldLink RX5 51 "WoodcutPress$State" "secondSnapshot" "LWoodcutPress$Blocks;", Cond.fieldLink RX5 54 "WoodcutPress$State" "firstTaken" "Z", Cond.fieldLink RX5 58 "WoodcutPress$State" "secondTaken" "Z", Cond.methodLink RX5 61 yX0_becomeLike, Cond.instanceMethod yX0_becomeLike, Cond.selects RX0 yX0_becomeLike yX0_becomeLike, Cond.initialized RX0, Cond.code yX0_becomeLike cX0_becomeLike 2 none, Cond.fieldLink RX0 12 "WoodcutPress$Blocks" "colours" "LWoodcutPress$Cells;", Cond.fieldLink RX0 18 "WoodcutPress$Blocks" "lines" "LWoodcutPress$Cells;", Cond.fieldLink RX0 21 "WoodcutPress$Blocks" "lineBlock" "LWoodcutPress$Cells;"]
def wsX6_set_r3 : List Cond := [Cond.fieldLink RX0 24 "WoodcutPress$Blocks" "colourBlock" "LWoodcutPress$Cells;", Cond.fieldLink RX0 27 "WoodcutPress$Blocks" "wear" "[I", Cond.methodLink RX0 35 arraycopyName, Cond.methodLink RX0 31 yX1_becomeLike, Cond.instanceMethod yX1_becomeLike, Cond.selects RX1 yX1_becomeLike yX1_becomeLike, Cond.initialized RX1, Cond.code yX1_becomeLike cX1_becomeLike 2 none, Cond.fieldLink RX1 9 "WoodcutPress$Cells" "rows" "[I", Cond.methodLink RX1 15 arraycopyName, Cond.methodLink RX5 65 yX3_becomeLike, Cond.instanceMethod yX3_becomeLike, Cond.selects RX3 yX3_becomeLike yX3_becomeLike, Cond.initialized RX3, Cond.code yX3_becomeLike cX3_becomeLike 2 none, Cond.fieldLink RX3 9 "WoodcutPress$Log" "parts" "[I", Cond.methodLink RX3 22 arraycopyName, Cond.fieldLink RX3 15 "WoodcutPress$Log" "size" "I", Cond.fieldLink RX3 19 "WoodcutPress$Log" "latest" "I"]
def wsX6_set : List Cond := .code yX6_set cX6_set 4 (some .int) :: ((wsX6_set_r1 ++ (wsX6_set_r2 ++ wsX6_set_r3)) ++ wsX60 ++ wsX50 ++ wsX20 ++ wsX00 ++ wsX10 ++ wsX30)
def wsX6_spillsWith_r1 : List Cond := [Cond.fieldLink RX6 10 "WoodcutPress" "now" "LWoodcutPress$State;", Cond.fieldLink RX6 52 "WoodcutPress$State" "blocks" "LWoodcutPress$Blocks;", Cond.fieldLink RX6 66 "WoodcutPress$Blocks" "colourBlock" "LWoodcutPress$Cells;", Cond.methodLink RX6 233 yX0_spills, Cond.instanceMethod yX0_spills, Cond.selects RX0 yX0_spills yX0_spills, Cond.initialized RX0, Cond.code yX0_spills cX0_spills 7 (some .int), Cond.fieldLink RX0 12 "WoodcutPress$Blocks" "colours" "LWoodcutPress$Cells;", Cond.fieldLink RX0 18 "WoodcutPress$Blocks" "lines" "LWoodcutPress$Cells;", Cond.methodLink RX0 80 yX1_row, Cond.instanceMethod yX1_row, Cond.selects RX1 yX1_row yX1_row, Cond.initialized RX1, Cond.code yX1_row cX1_row 2 (some .int), Cond.fieldLink RX1 9 "WoodcutPress$Cells" "rows" "[I", Cond.methodLink RX0 88 yX1_shiftedRow, Cond.instanceMethod yX1_shiftedRow, Cond.selects RX1 yX1_shiftedRow yX1_shiftedRow, Cond.code yX1_shiftedRow cX1_shiftedRow 5 (some .int), Cond.constant RX1 21 (65535), Cond.methodLink RX1 32 yX1_row, Cond.methodLink RX0 92 yJ6_bitCount_0f7a4, Cond.static yJ6_bitCount_0f7a4]
def wsX6_spillsWith_r2 : List Cond := [Cond.initialized RJ6, Cond.code yJ6_bitCount_0f7a4 cJ6_bitCount_0f7a4 1 (some .int), Cond.constant RJ6 265 (1431655765), Cond.constant RJ6 266 (858993459), Cond.constant RJ6 267 (252645135)]
def wsX6_spillsWith : List Cond := .code yX6_spillsWith cX6_spillsWith 3 (some .int) :: ((wsX6_spillsWith_r1 ++ wsX6_spillsWith_r2) ++ wsX60 ++ wsX50 ++ wsX00 ++ wsX10)
def wsX6_makeOnePrint_r1 : List Cond := [Cond.fieldLink RX6 10 "WoodcutPress" "now" "LWoodcutPress$State;", Cond.fieldLink RX6 130 "WoodcutPress$State" "prints" "I", Cond.fieldLink RX6 176 "WoodcutPress$State" "log" "LWoodcutPress$Log;", Cond.fieldLink RX6 52 "WoodcutPress$State" "blocks" "LWoodcutPress$Blocks;", Cond.fieldLink RX6 33 "WoodcutPress" "ink" "LWoodcutPress$Cells;", Cond.methodLink RX6 107 yX6_findInk, Cond.instanceMethod yX6_findInk, Cond.selects RX6 yX6_findInk yX6_findInk, Cond.initialized RX6, Cond.code yX6_findInk cX6_findInk 1 none, Cond.methodLink RX6 91 yX5_hardness, Cond.instanceMethod yX5_hardness, Cond.selects RX5 yX5_hardness yX5_hardness, Cond.initialized RX5, Cond.code yX5_hardness cX5_hardness 1 (some .int), Cond.fieldLink RX5 18 "WoodcutPress$State" "settings" "[I", Cond.methodLink RX6 227 yX0_findInk, Cond.instanceMethod yX0_findInk, Cond.selects RX0 yX0_findInk yX0_findInk, Cond.initialized RX0, Cond.code yX0_findInk cX0_findInk 6 none, Cond.fieldLink RX0 27 "WoodcutPress$Blocks" "wear" "[I", Cond.fieldLink RX0 21 "WoodcutPress$Blocks" "lineBlock" "LWoodcutPress$Cells;", Cond.static yX6_oneIf]
def wsX6_makeOnePrint_r2 : List Cond := [Cond.code yX6_oneIf cX6_oneIf 1 (some .int), Cond.methodLink RX0 80 yX1_row, Cond.instanceMethod yX1_row, Cond.selects RX1 yX1_row yX1_row, Cond.initialized RX1, Cond.code yX1_row cX1_row 2 (some .int), Cond.fieldLink RX1 9 "WoodcutPress$Cells" "rows" "[I", Cond.methodLink RX0 84 yX1_putRow, Cond.instanceMethod yX1_putRow, Cond.selects RX1 yX1_putRow yX1_putRow, Cond.code yX1_putRow cX1_putRow 3 none, Cond.constant RX1 21 (65535), Cond.methodLink RX6 110 yX5_shiftX, Cond.instanceMethod yX5_shiftX, Cond.selects RX5 yX5_shiftX yX5_shiftX, Cond.code yX5_shiftX cX5_shiftX 1 (some .int), Cond.fieldLink RX5 38 "WoodcutPress$State" "pinX" "I", Cond.methodLink RX5 68 yX5_driftX, Cond.instanceMethod yX5_driftX, Cond.selects RX5 yX5_driftX yX5_driftX, Cond.code yX5_driftX cX5_driftX 1 (some .int), Cond.methodLink RX6 113 yX5_shiftY, Cond.instanceMethod yX5_shiftY, Cond.selects RX5 yX5_shiftY yX5_shiftY]
def wsX6_makeOnePrint_r3 : List Cond := [Cond.code yX5_shiftY cX5_shiftY 1 (some .int), Cond.fieldLink RX5 42 "WoodcutPress$State" "pinY" "I", Cond.methodLink RX5 72 yX5_driftY, Cond.instanceMethod yX5_driftY, Cond.selects RX5 yX5_driftY yX5_driftY, Cond.code yX5_driftY cX5_driftY 1 (some .int), Cond.methodLink RX6 116 yX6_gapsWith, Cond.instanceMethod yX6_gapsWith, Cond.selects RX6 yX6_gapsWith yX6_gapsWith, Cond.code yX6_gapsWith cX6_gapsWith 3 (some .int), Cond.fieldLink RX6 66 "WoodcutPress$Blocks" "colourBlock" "LWoodcutPress$Cells;", Cond.methodLink RX6 229 yX0_gaps, Cond.instanceMethod yX0_gaps, Cond.selects RX0 yX0_gaps yX0_gaps, Cond.code yX0_gaps cX0_gaps 8 (some .int), Cond.fieldLink RX0 12 "WoodcutPress$Blocks" "colours" "LWoodcutPress$Cells;", Cond.fieldLink RX0 18 "WoodcutPress$Blocks" "lines" "LWoodcutPress$Cells;", Cond.methodLink RX0 88 yX1_shiftedRow, Cond.instanceMethod yX1_shiftedRow, Cond.selects RX1 yX1_shiftedRow yX1_shiftedRow, Cond.code yX1_shiftedRow cX1_shiftedRow 5 (some .int), Cond.methodLink RX1 32 yX1_row, Cond.methodLink RX0 92 yJ6_bitCount_0f7a4, Cond.static yJ6_bitCount_0f7a4]
def wsX6_makeOnePrint_r4 : List Cond := [Cond.initialized RJ6, Cond.code yJ6_bitCount_0f7a4 cJ6_bitCount_0f7a4 1 (some .int), Cond.constant RJ6 265 (1431655765), Cond.constant RJ6 266 (858993459), Cond.constant RJ6 267 (252645135), Cond.methodLink RX6 237 yX3_addProof, Cond.instanceMethod yX3_addProof, Cond.selects RX3 yX3_addProof yX3_addProof, Cond.initialized RX3, Cond.code yX3_addProof cX3_addProof 4 none, Cond.fieldLink RX3 19 "WoodcutPress$Log" "latest" "I", Cond.fieldLink RX3 15 "WoodcutPress$Log" "size" "I", Cond.methodLink RX3 28 Lib.Math.min.name, Cond.static Lib.Math.min.name, Cond.initialized "java/lang/Math", Cond.code Lib.Math.min.name Lib.Math.min.code 2 (some .int), Cond.fieldLink RX3 9 "WoodcutPress$Log" "parts" "[I", Cond.methodLink RX6 202 yX6_spillsWith, Cond.instanceMethod yX6_spillsWith, Cond.selects RX6 yX6_spillsWith yX6_spillsWith, Cond.code yX6_spillsWith cX6_spillsWith 3 (some .int), Cond.methodLink RX6 233 yX0_spills, Cond.instanceMethod yX0_spills, Cond.selects RX0 yX0_spills yX0_spills]
def wsX6_makeOnePrint_r5 : List Cond := [Cond.code yX0_spills cX0_spills 7 (some .int), Cond.methodLink RX6 205 yX0_lostLines, Cond.instanceMethod yX0_lostLines, Cond.selects RX0 yX0_lostLines yX0_lostLines, Cond.code yX0_lostLines cX0_lostLines 4 (some .int), Cond.methodLink RX6 241 yX3_addFaults, Cond.instanceMethod yX3_addFaults, Cond.selects RX3 yX3_addFaults yX3_addFaults, Cond.code yX3_addFaults cX3_addFaults 4 none, Cond.methodLink RX6 244 yX0_wearDown, Cond.instanceMethod yX0_wearDown, Cond.selects RX0 yX0_wearDown yX0_wearDown, Cond.code yX0_wearDown cX0_wearDown 4 none, Cond.methodLink RX0 41 yX1_has, Cond.instanceMethod yX1_has, Cond.selects RX1 yX1_has yX1_has, Cond.code yX1_has cX1_has 3 (some .boolean), Cond.static yX6_isPlace, Cond.code yX6_isPlace cX6_isPlace 2 (some .boolean), Cond.methodLink RX0 97 yX0_wearOfPrint, Cond.static yX0_wearOfPrint, Cond.code yX0_wearOfPrint cX0_wearOfPrint 3 (some .int), Cond.methodLink RX0 106 yX1_neighbors, Cond.instanceMethod yX1_neighbors]
def wsX6_makeOnePrint_r6 : List Cond := [Cond.selects RX1 yX1_neighbors yX1_neighbors, Cond.code yX1_neighbors cX1_neighbors 3 (some .int), Cond.methodLink RX1 35 yX1_has, Cond.methodLink RX6 248 yX5_dry, Cond.instanceMethod yX5_dry, Cond.selects RX5 yX5_dry yX5_dry, Cond.code yX5_dry cX5_dry 1 none, Cond.methodLink RX5 75 Lib.Math.max.name, Cond.static Lib.Math.max.name, Cond.code Lib.Math.max.name Lib.Math.max.code 2 (some .int)]
def wsX6_makeOnePrint : List Cond := .code yX6_makeOnePrint cX6_makeOnePrint 4 (some .int) :: ((wsX6_makeOnePrint_r1 ++ (wsX6_makeOnePrint_r2 ++ (wsX6_makeOnePrint_r3 ++ (wsX6_makeOnePrint_r4 ++ (wsX6_makeOnePrint_r5 ++ wsX6_makeOnePrint_r6))))) ++ wsX60 ++ wsX50 ++ wsX00 ++ wsX10 ++ wsX30)
def wsX6_print_r1 : List Cond := [Cond.fieldLink RX6 10 "WoodcutPress" "now" "LWoodcutPress$State;", Cond.fieldLink RX6 130 "WoodcutPress$State" "prints" "I", Cond.fieldLink RX6 19 "WoodcutPress" "history" "LWoodcutPress$History;", Cond.methodLink RX6 44 yX6_isWithin, Cond.static yX6_isWithin, Cond.initialized RX6, Cond.code yX6_isWithin cX6_isWithin 3 (some .boolean), Cond.methodLink RX6 48 yX2_keep, Cond.instanceMethod yX2_keep, Cond.selects RX2 yX2_keep yX2_keep, Cond.initialized RX2, Cond.code yX2_keep cX2_keep 3 none, Cond.fieldLink RX2 11 "WoodcutPress$History" "states" "[LWoodcutPress$State;", Cond.fieldLink RX2 22 "WoodcutPress$History" "next" "I", Cond.fieldLink RX2 18 "WoodcutPress$History" "size" "I", Cond.methodLink RX2 29 Lib.Math.min.name, Cond.static Lib.Math.min.name, Cond.initialized "java/lang/Math", Cond.code Lib.Math.min.name Lib.Math.min.code 2 (some .int), Cond.methodLink RX2 25 yX5_becomeLike, Cond.instanceMethod yX5_becomeLike, Cond.selects RX5 yX5_becomeLike yX5_becomeLike, Cond.initialized RX5, Cond.code yX5_becomeLike cX5_becomeLike 2 none]
def wsX6_print_r2 : List Cond := [Cond.fieldLink RX5 12 "WoodcutPress$State" "blocks" "LWoodcutPress$Blocks;", Cond.fieldLink RX5 18 "WoodcutPress$State" "settings" "[I", Cond.methodLink RX5 25 arraycopyName, Cond.native arraycopyName, Cond.static arraycopyName, Cond.initialized "java/lang/System", Cond.fieldLink RX5 34 "WoodcutPress$State" "log" "LWoodcutPress$Log;", Cond.fieldLink RX5 38 "WoodcutPress$State" "pinX" "I", Cond.fieldLink RX5 42 "WoodcutPress$State" "pinY" "I", Cond.fieldLink RX5 45 "WoodcutPress$State" "prints" "I", Cond.fieldLink RX5 48 "WoodcutPress$State" "firstSnapshot" "LWoodcutPress$Blocks;", Cond.fieldLink RX5 51 "WoodcutPress$State" "secondSnapshot" "LWoodcutPress$Blocks;", Cond.fieldLink RX5 54 "WoodcutPress$State" "firstTaken" "Z", Cond.fieldLink RX5 58 "WoodcutPress$State" "secondTaken" "Z", Cond.methodLink RX5 61 yX0_becomeLike, Cond.instanceMethod yX0_becomeLike, Cond.selects RX0 yX0_becomeLike yX0_becomeLike, Cond.initialized RX0, Cond.code yX0_becomeLike cX0_becomeLike 2 none, Cond.fieldLink RX0 12 "WoodcutPress$Blocks" "colours" "LWoodcutPress$Cells;", Cond.fieldLink RX0 18 "WoodcutPress$Blocks" "lines" "LWoodcutPress$Cells;", Cond.fieldLink RX0 21 "WoodcutPress$Blocks" "lineBlock" "LWoodcutPress$Cells;", Cond.fieldLink RX0 24 "WoodcutPress$Blocks" "colourBlock" "LWoodcutPress$Cells;", Cond.fieldLink RX0 27 "WoodcutPress$Blocks" "wear" "[I"]
def wsX6_print_r3 : List Cond := [Cond.methodLink RX0 35 arraycopyName, Cond.methodLink RX0 31 yX1_becomeLike, Cond.instanceMethod yX1_becomeLike, Cond.selects RX1 yX1_becomeLike yX1_becomeLike, Cond.initialized RX1, Cond.code yX1_becomeLike cX1_becomeLike 2 none, Cond.fieldLink RX1 9 "WoodcutPress$Cells" "rows" "[I", Cond.methodLink RX1 15 arraycopyName, Cond.methodLink RX5 65 yX3_becomeLike, Cond.instanceMethod yX3_becomeLike, Cond.selects RX3 yX3_becomeLike yX3_becomeLike, Cond.initialized RX3, Cond.code yX3_becomeLike cX3_becomeLike 2 none, Cond.fieldLink RX3 9 "WoodcutPress$Log" "parts" "[I", Cond.methodLink RX3 22 arraycopyName, Cond.fieldLink RX3 15 "WoodcutPress$Log" "size" "I", Cond.fieldLink RX3 19 "WoodcutPress$Log" "latest" "I", Cond.methodLink RX6 133 yX6_makeOnePrint, Cond.instanceMethod yX6_makeOnePrint, Cond.selects RX6 yX6_makeOnePrint yX6_makeOnePrint, Cond.code yX6_makeOnePrint cX6_makeOnePrint 4 (some .int), Cond.fieldLink RX6 176 "WoodcutPress$State" "log" "LWoodcutPress$Log;", Cond.fieldLink RX6 52 "WoodcutPress$State" "blocks" "LWoodcutPress$Blocks;", Cond.fieldLink RX6 33 "WoodcutPress" "ink" "LWoodcutPress$Cells;"]
def wsX6_print_r4 : List Cond := [Cond.methodLink RX6 107 yX6_findInk, Cond.instanceMethod yX6_findInk, Cond.selects RX6 yX6_findInk yX6_findInk, Cond.code yX6_findInk cX6_findInk 1 none, Cond.methodLink RX6 91 yX5_hardness, Cond.instanceMethod yX5_hardness, Cond.selects RX5 yX5_hardness yX5_hardness, Cond.code yX5_hardness cX5_hardness 1 (some .int), Cond.methodLink RX6 227 yX0_findInk, Cond.instanceMethod yX0_findInk, Cond.selects RX0 yX0_findInk yX0_findInk, Cond.code yX0_findInk cX0_findInk 6 none, Cond.static yX6_oneIf, Cond.code yX6_oneIf cX6_oneIf 1 (some .int), Cond.methodLink RX0 80 yX1_row, Cond.instanceMethod yX1_row, Cond.selects RX1 yX1_row yX1_row, Cond.code yX1_row cX1_row 2 (some .int), Cond.methodLink RX0 84 yX1_putRow, Cond.instanceMethod yX1_putRow, Cond.selects RX1 yX1_putRow yX1_putRow, Cond.code yX1_putRow cX1_putRow 3 none, Cond.constant RX1 21 (65535), Cond.methodLink RX6 110 yX5_shiftX]
def wsX6_print_r5 : List Cond := [Cond.instanceMethod yX5_shiftX, Cond.selects RX5 yX5_shiftX yX5_shiftX, Cond.code yX5_shiftX cX5_shiftX 1 (some .int), Cond.methodLink RX5 68 yX5_driftX, Cond.instanceMethod yX5_driftX, Cond.selects RX5 yX5_driftX yX5_driftX, Cond.code yX5_driftX cX5_driftX 1 (some .int), Cond.methodLink RX6 113 yX5_shiftY, Cond.instanceMethod yX5_shiftY, Cond.selects RX5 yX5_shiftY yX5_shiftY, Cond.code yX5_shiftY cX5_shiftY 1 (some .int), Cond.methodLink RX5 72 yX5_driftY, Cond.instanceMethod yX5_driftY, Cond.selects RX5 yX5_driftY yX5_driftY, Cond.code yX5_driftY cX5_driftY 1 (some .int), Cond.methodLink RX6 116 yX6_gapsWith, Cond.instanceMethod yX6_gapsWith, Cond.selects RX6 yX6_gapsWith yX6_gapsWith, Cond.code yX6_gapsWith cX6_gapsWith 3 (some .int), Cond.fieldLink RX6 66 "WoodcutPress$Blocks" "colourBlock" "LWoodcutPress$Cells;", Cond.methodLink RX6 229 yX0_gaps, Cond.instanceMethod yX0_gaps, Cond.selects RX0 yX0_gaps yX0_gaps, Cond.code yX0_gaps cX0_gaps 8 (some .int)]
def wsX6_print_r6 : List Cond := [Cond.methodLink RX0 88 yX1_shiftedRow, Cond.instanceMethod yX1_shiftedRow, Cond.selects RX1 yX1_shiftedRow yX1_shiftedRow, Cond.code yX1_shiftedRow cX1_shiftedRow 5 (some .int), Cond.methodLink RX1 32 yX1_row, Cond.methodLink RX0 92 yJ6_bitCount_0f7a4, Cond.static yJ6_bitCount_0f7a4, Cond.initialized RJ6, Cond.code yJ6_bitCount_0f7a4 cJ6_bitCount_0f7a4 1 (some .int), Cond.constant RJ6 265 (1431655765), Cond.constant RJ6 266 (858993459), Cond.constant RJ6 267 (252645135), Cond.methodLink RX6 237 yX3_addProof, Cond.instanceMethod yX3_addProof, Cond.selects RX3 yX3_addProof yX3_addProof, Cond.code yX3_addProof cX3_addProof 4 none, Cond.methodLink RX3 28 Lib.Math.min.name, Cond.methodLink RX6 202 yX6_spillsWith, Cond.instanceMethod yX6_spillsWith, Cond.selects RX6 yX6_spillsWith yX6_spillsWith, Cond.code yX6_spillsWith cX6_spillsWith 3 (some .int), Cond.methodLink RX6 233 yX0_spills, Cond.instanceMethod yX0_spills, Cond.selects RX0 yX0_spills yX0_spills]
def wsX6_print_r7 : List Cond := [Cond.code yX0_spills cX0_spills 7 (some .int), Cond.methodLink RX6 205 yX0_lostLines, Cond.instanceMethod yX0_lostLines, Cond.selects RX0 yX0_lostLines yX0_lostLines, Cond.code yX0_lostLines cX0_lostLines 4 (some .int), Cond.methodLink RX6 241 yX3_addFaults, Cond.instanceMethod yX3_addFaults, Cond.selects RX3 yX3_addFaults yX3_addFaults, Cond.code yX3_addFaults cX3_addFaults 4 none, Cond.methodLink RX6 244 yX0_wearDown, Cond.instanceMethod yX0_wearDown, Cond.selects RX0 yX0_wearDown yX0_wearDown, Cond.code yX0_wearDown cX0_wearDown 4 none, Cond.methodLink RX0 41 yX1_has, Cond.instanceMethod yX1_has, Cond.selects RX1 yX1_has yX1_has, Cond.code yX1_has cX1_has 3 (some .boolean), Cond.static yX6_isPlace, Cond.code yX6_isPlace cX6_isPlace 2 (some .boolean), Cond.methodLink RX0 97 yX0_wearOfPrint, Cond.static yX0_wearOfPrint, Cond.code yX0_wearOfPrint cX0_wearOfPrint 3 (some .int), Cond.methodLink RX0 106 yX1_neighbors, Cond.instanceMethod yX1_neighbors]
def wsX6_print_r8 : List Cond := [Cond.selects RX1 yX1_neighbors yX1_neighbors, Cond.code yX1_neighbors cX1_neighbors 3 (some .int), Cond.methodLink RX1 35 yX1_has, Cond.methodLink RX6 248 yX5_dry, Cond.instanceMethod yX5_dry, Cond.selects RX5 yX5_dry yX5_dry, Cond.code yX5_dry cX5_dry 1 none, Cond.methodLink RX5 75 Lib.Math.max.name, Cond.static Lib.Math.max.name, Cond.code Lib.Math.max.name Lib.Math.max.code 2 (some .int)]
def wsX6_print : List Cond := .code yX6_print cX6_print 4 (some .int) :: ((wsX6_print_r1 ++ (wsX6_print_r2 ++ (wsX6_print_r3 ++ (wsX6_print_r4 ++ (wsX6_print_r5 ++ (wsX6_print_r6 ++ (wsX6_print_r7 ++ wsX6_print_r8))))))) ++ wsX60 ++ wsX50 ++ wsX20 ++ wsX00 ++ wsX10 ++ wsX30)
def wsX6_take_r1 : List Cond := [Cond.fieldLink RX6 19 "WoodcutPress" "history" "LWoodcutPress$History;", Cond.fieldLink RX6 10 "WoodcutPress" "now" "LWoodcutPress$State;", Cond.fieldLink RX6 52 "WoodcutPress$State" "blocks" "LWoodcutPress$Blocks;", Cond.methodLink RX6 44 yX6_isWithin, Cond.static yX6_isWithin, Cond.initialized RX6, Cond.code yX6_isWithin cX6_isWithin 3 (some .boolean), Cond.methodLink RX6 48 yX2_keep, Cond.instanceMethod yX2_keep, Cond.selects RX2 yX2_keep yX2_keep, Cond.initialized RX2, Cond.code yX2_keep cX2_keep 3 none, Cond.fieldLink RX2 11 "WoodcutPress$History" "states" "[LWoodcutPress$State;", Cond.fieldLink RX2 22 "WoodcutPress$History" "next" "I", Cond.fieldLink RX2 18 "WoodcutPress$History" "size" "I", Cond.methodLink RX2 29 Lib.Math.min.name, Cond.static Lib.Math.min.name, Cond.initialized "java/lang/Math", Cond.code Lib.Math.min.name Lib.Math.min.code 2 (some .int), Cond.methodLink RX2 25 yX5_becomeLike, Cond.instanceMethod yX5_becomeLike, Cond.selects RX5 yX5_becomeLike yX5_becomeLike, Cond.initialized RX5, Cond.code yX5_becomeLike cX5_becomeLike 2 none]
def wsX6_take_r2 : List Cond := [Cond.fieldLink RX5 12 "WoodcutPress$State" "blocks" "LWoodcutPress$Blocks;", Cond.fieldLink RX5 18 "WoodcutPress$State" "settings" "[I", Cond.methodLink RX5 25 arraycopyName, Cond.native arraycopyName, Cond.static arraycopyName, Cond.initialized "java/lang/System", Cond.fieldLink RX5 34 "WoodcutPress$State" "log" "LWoodcutPress$Log;", Cond.fieldLink RX5 38 "WoodcutPress$State" "pinX" "I", Cond.fieldLink RX5 42 "WoodcutPress$State" "pinY" "I", Cond.fieldLink RX5 45 "WoodcutPress$State" "prints" "I", Cond.fieldLink RX5 48 "WoodcutPress$State" "firstSnapshot" "LWoodcutPress$Blocks;", Cond.fieldLink RX5 51 "WoodcutPress$State" "secondSnapshot" "LWoodcutPress$Blocks;", Cond.fieldLink RX5 54 "WoodcutPress$State" "firstTaken" "Z", Cond.fieldLink RX5 58 "WoodcutPress$State" "secondTaken" "Z", Cond.methodLink RX5 61 yX0_becomeLike, Cond.instanceMethod yX0_becomeLike, Cond.selects RX0 yX0_becomeLike yX0_becomeLike, Cond.initialized RX0, Cond.code yX0_becomeLike cX0_becomeLike 2 none, Cond.fieldLink RX0 12 "WoodcutPress$Blocks" "colours" "LWoodcutPress$Cells;", Cond.fieldLink RX0 18 "WoodcutPress$Blocks" "lines" "LWoodcutPress$Cells;", Cond.fieldLink RX0 21 "WoodcutPress$Blocks" "lineBlock" "LWoodcutPress$Cells;", Cond.fieldLink RX0 24 "WoodcutPress$Blocks" "colourBlock" "LWoodcutPress$Cells;", Cond.fieldLink RX0 27 "WoodcutPress$Blocks" "wear" "[I"]
def wsX6_take_r3 : List Cond := [Cond.methodLink RX0 35 arraycopyName, Cond.methodLink RX0 31 yX1_becomeLike, Cond.instanceMethod yX1_becomeLike, Cond.selects RX1 yX1_becomeLike yX1_becomeLike, Cond.initialized RX1, Cond.code yX1_becomeLike cX1_becomeLike 2 none, Cond.fieldLink RX1 9 "WoodcutPress$Cells" "rows" "[I", Cond.methodLink RX1 15 arraycopyName, Cond.methodLink RX5 65 yX3_becomeLike, Cond.instanceMethod yX3_becomeLike, Cond.selects RX3 yX3_becomeLike yX3_becomeLike, Cond.initialized RX3, Cond.code yX3_becomeLike cX3_becomeLike 2 none, Cond.fieldLink RX3 9 "WoodcutPress$Log" "parts" "[I", Cond.methodLink RX3 22 arraycopyName, Cond.fieldLink RX3 15 "WoodcutPress$Log" "size" "I", Cond.fieldLink RX3 19 "WoodcutPress$Log" "latest" "I", Cond.methodLink RX6 136 yX5_takeSnapshot, Cond.instanceMethod yX5_takeSnapshot, Cond.selects RX5 yX5_takeSnapshot yX5_takeSnapshot, Cond.code yX5_takeSnapshot cX5_takeSnapshot 2 none, Cond.methodLink RX5 85 yX5_snapshotIn, Cond.instanceMethod yX5_snapshotIn, Cond.selects RX5 yX5_snapshotIn yX5_snapshotIn]
def wsX6_take_r4 : List Cond := [Cond.code yX5_snapshotIn cX5_snapshotIn 2 (some (.object "WoodcutPress$Blocks")), Cond.methodLink RX6 139 yX0_paintedCells, Cond.instanceMethod yX0_paintedCells, Cond.selects RX0 yX0_paintedCells yX0_paintedCells, Cond.code yX0_paintedCells cX0_paintedCells 1 (some .int), Cond.methodLink RX0 45 yX1_size, Cond.instanceMethod yX1_size, Cond.selects RX1 yX1_size yX1_size, Cond.code yX1_size cX1_size 3 (some .int), Cond.methodLink RX1 26 yJ6_bitCount_0f7a4, Cond.static yJ6_bitCount_0f7a4, Cond.initialized RJ6, Cond.code yJ6_bitCount_0f7a4 cJ6_bitCount_0f7a4 1 (some .int), Cond.constant RJ6 265 (1431655765), Cond.constant RJ6 266 (858993459), Cond.constant RJ6 267 (252645135)]
def wsX6_take : List Cond := .code yX6_take cX6_take 2 (some .int) :: ((wsX6_take_r1 ++ (wsX6_take_r2 ++ (wsX6_take_r3 ++ wsX6_take_r4))) ++ wsX60 ++ wsX50 ++ wsX20 ++ wsX00 ++ wsX10 ++ wsX30)
def wsX6_restore_r1 : List Cond := [Cond.fieldLink RX6 10 "WoodcutPress" "now" "LWoodcutPress$State;", Cond.fieldLink RX6 19 "WoodcutPress" "history" "LWoodcutPress$History;", Cond.fieldLink RX6 52 "WoodcutPress$State" "blocks" "LWoodcutPress$Blocks;", Cond.methodLink RX6 44 yX6_isWithin, Cond.static yX6_isWithin, Cond.initialized RX6, Cond.code yX6_isWithin cX6_isWithin 3 (some .boolean), Cond.methodLink RX6 142 yX5_isTaken, Cond.instanceMethod yX5_isTaken, Cond.selects RX5 yX5_isTaken yX5_isTaken, Cond.initialized RX5, Cond.code yX5_isTaken cX5_isTaken 2 (some .boolean), Cond.fieldLink RX5 54 "WoodcutPress$State" "firstTaken" "Z", Cond.fieldLink RX5 58 "WoodcutPress$State" "secondTaken" "Z", Cond.methodLink RX6 48 yX2_keep, Cond.instanceMethod yX2_keep, Cond.selects RX2 yX2_keep yX2_keep, Cond.initialized RX2, Cond.code yX2_keep cX2_keep 3 none, Cond.fieldLink RX2 11 "WoodcutPress$History" "states" "[LWoodcutPress$State;", Cond.fieldLink RX2 22 "WoodcutPress$History" "next" "I", Cond.fieldLink RX2 18 "WoodcutPress$History" "size" "I", Cond.methodLink RX2 29 Lib.Math.min.name, Cond.static Lib.Math.min.name]
def wsX6_restore_r2 : List Cond := [Cond.initialized "java/lang/Math", Cond.code Lib.Math.min.name Lib.Math.min.code 2 (some .int), Cond.methodLink RX2 25 yX5_becomeLike, Cond.instanceMethod yX5_becomeLike, Cond.selects RX5 yX5_becomeLike yX5_becomeLike, Cond.code yX5_becomeLike cX5_becomeLike 2 none, Cond.fieldLink RX5 12 "WoodcutPress$State" "blocks" "LWoodcutPress$Blocks;", Cond.fieldLink RX5 18 "WoodcutPress$State" "settings" "[I", Cond.methodLink RX5 25 arraycopyName, Cond.native arraycopyName, Cond.static arraycopyName, Cond.initialized "java/lang/System", Cond.fieldLink RX5 34 "WoodcutPress$State" "log" "LWoodcutPress$Log;", Cond.fieldLink RX5 38 "WoodcutPress$State" "pinX" "I", Cond.fieldLink RX5 42 "WoodcutPress$State" "pinY" "I", Cond.fieldLink RX5 45 "WoodcutPress$State" "prints" "I", Cond.fieldLink RX5 48 "WoodcutPress$State" "firstSnapshot" "LWoodcutPress$Blocks;", Cond.fieldLink RX5 51 "WoodcutPress$State" "secondSnapshot" "LWoodcutPress$Blocks;", Cond.methodLink RX5 61 yX0_becomeLike, Cond.instanceMethod yX0_becomeLike, Cond.selects RX0 yX0_becomeLike yX0_becomeLike, Cond.initialized RX0, Cond.code yX0_becomeLike cX0_becomeLike 2 none, Cond.fieldLink RX0 12 "WoodcutPress$Blocks" "colours" "LWoodcutPress$Cells;"]
def wsX6_restore_r3 : List Cond := [Cond.fieldLink RX0 18 "WoodcutPress$Blocks" "lines" "LWoodcutPress$Cells;", Cond.fieldLink RX0 21 "WoodcutPress$Blocks" "lineBlock" "LWoodcutPress$Cells;", Cond.fieldLink RX0 24 "WoodcutPress$Blocks" "colourBlock" "LWoodcutPress$Cells;", Cond.fieldLink RX0 27 "WoodcutPress$Blocks" "wear" "[I", Cond.methodLink RX0 35 arraycopyName, Cond.methodLink RX0 31 yX1_becomeLike, Cond.instanceMethod yX1_becomeLike, Cond.selects RX1 yX1_becomeLike yX1_becomeLike, Cond.initialized RX1, Cond.code yX1_becomeLike cX1_becomeLike 2 none, Cond.fieldLink RX1 9 "WoodcutPress$Cells" "rows" "[I", Cond.methodLink RX1 15 arraycopyName, Cond.methodLink RX5 65 yX3_becomeLike, Cond.instanceMethod yX3_becomeLike, Cond.selects RX3 yX3_becomeLike yX3_becomeLike, Cond.initialized RX3, Cond.code yX3_becomeLike cX3_becomeLike 2 none, Cond.fieldLink RX3 9 "WoodcutPress$Log" "parts" "[I", Cond.methodLink RX3 22 arraycopyName, Cond.fieldLink RX3 15 "WoodcutPress$Log" "size" "I", Cond.fieldLink RX3 19 "WoodcutPress$Log" "latest" "I", Cond.methodLink RX6 146 yX5_restoreSnapshot, Cond.instanceMethod yX5_restoreSnapshot, Cond.selects RX5 yX5_restoreSnapshot yX5_restoreSnapshot]
def wsX6_restore_r4 : List Cond := [Cond.code yX5_restoreSnapshot cX5_restoreSnapshot 2 none, Cond.methodLink RX5 85 yX5_snapshotIn, Cond.instanceMethod yX5_snapshotIn, Cond.selects RX5 yX5_snapshotIn yX5_snapshotIn, Cond.code yX5_snapshotIn cX5_snapshotIn 2 (some (.object "WoodcutPress$Blocks")), Cond.methodLink RX6 139 yX0_paintedCells, Cond.instanceMethod yX0_paintedCells, Cond.selects RX0 yX0_paintedCells yX0_paintedCells, Cond.code yX0_paintedCells cX0_paintedCells 1 (some .int), Cond.methodLink RX0 45 yX1_size, Cond.instanceMethod yX1_size, Cond.selects RX1 yX1_size yX1_size, Cond.code yX1_size cX1_size 3 (some .int), Cond.methodLink RX1 26 yJ6_bitCount_0f7a4, Cond.static yJ6_bitCount_0f7a4, Cond.initialized RJ6, Cond.code yJ6_bitCount_0f7a4 cJ6_bitCount_0f7a4 1 (some .int), Cond.constant RJ6 265 (1431655765), Cond.constant RJ6 266 (858993459), Cond.constant RJ6 267 (252645135)]
def wsX6_restore : List Cond := .code yX6_restore cX6_restore 2 (some .int) :: ((wsX6_restore_r1 ++ (wsX6_restore_r2 ++ (wsX6_restore_r3 ++ wsX6_restore_r4))) ++ wsX60 ++ wsX50 ++ wsX20 ++ wsX00 ++ wsX10 ++ wsX30)
def wsX6_undo_r1 : List Cond := [Cond.fieldLink RX6 19 "WoodcutPress" "history" "LWoodcutPress$History;", Cond.fieldLink RX6 10 "WoodcutPress" "now" "LWoodcutPress$State;", Cond.methodLink RX6 149 yX2_size, Cond.instanceMethod yX2_size, Cond.selects RX2 yX2_size yX2_size, Cond.initialized RX2, Cond.code yX2_size cX2_size 1 (some .int), Cond.fieldLink RX2 18 "WoodcutPress$History" "size" "I", Cond.methodLink RX6 150 yX2_giveBack, Cond.instanceMethod yX2_giveBack, Cond.selects RX2 yX2_giveBack yX2_giveBack, Cond.code yX2_giveBack cX2_giveBack 3 none, Cond.fieldLink RX2 22 "WoodcutPress$History" "next" "I", Cond.methodLink RX2 35 Lib.Math.max.name, Cond.static Lib.Math.max.name, Cond.initialized "java/lang/Math", Cond.code Lib.Math.max.name Lib.Math.max.code 2 (some .int), Cond.fieldLink RX2 11 "WoodcutPress$History" "states" "[LWoodcutPress$State;", Cond.methodLink RX2 25 yX5_becomeLike, Cond.instanceMethod yX5_becomeLike, Cond.selects RX5 yX5_becomeLike yX5_becomeLike, Cond.initialized RX5, Cond.code yX5_becomeLike cX5_becomeLike 2 none, Cond.fieldLink RX5 12 "WoodcutPress$State" "blocks" "LWoodcutPress$Blocks;"]
def wsX6_undo_r2 : List Cond := [Cond.fieldLink RX5 18 "WoodcutPress$State" "settings" "[I", Cond.methodLink RX5 25 arraycopyName, Cond.native arraycopyName, Cond.static arraycopyName, Cond.initialized "java/lang/System", Cond.fieldLink RX5 34 "WoodcutPress$State" "log" "LWoodcutPress$Log;", Cond.fieldLink RX5 38 "WoodcutPress$State" "pinX" "I", Cond.fieldLink RX5 42 "WoodcutPress$State" "pinY" "I", Cond.fieldLink RX5 45 "WoodcutPress$State" "prints" "I", Cond.fieldLink RX5 48 "WoodcutPress$State" "firstSnapshot" "LWoodcutPress$Blocks;", Cond.fieldLink RX5 51 "WoodcutPress$State" "secondSnapshot" "LWoodcutPress$Blocks;", Cond.fieldLink RX5 54 "WoodcutPress$State" "firstTaken" "Z", Cond.fieldLink RX5 58 "WoodcutPress$State" "secondTaken" "Z", Cond.methodLink RX5 61 yX0_becomeLike, Cond.instanceMethod yX0_becomeLike, Cond.selects RX0 yX0_becomeLike yX0_becomeLike, Cond.initialized RX0, Cond.code yX0_becomeLike cX0_becomeLike 2 none, Cond.fieldLink RX0 12 "WoodcutPress$Blocks" "colours" "LWoodcutPress$Cells;", Cond.fieldLink RX0 18 "WoodcutPress$Blocks" "lines" "LWoodcutPress$Cells;", Cond.fieldLink RX0 21 "WoodcutPress$Blocks" "lineBlock" "LWoodcutPress$Cells;", Cond.fieldLink RX0 24 "WoodcutPress$Blocks" "colourBlock" "LWoodcutPress$Cells;", Cond.fieldLink RX0 27 "WoodcutPress$Blocks" "wear" "[I", Cond.methodLink RX0 35 arraycopyName]
def wsX6_undo_r3 : List Cond := [Cond.methodLink RX0 31 yX1_becomeLike, Cond.instanceMethod yX1_becomeLike, Cond.selects RX1 yX1_becomeLike yX1_becomeLike, Cond.initialized RX1, Cond.code yX1_becomeLike cX1_becomeLike 2 none, Cond.fieldLink RX1 9 "WoodcutPress$Cells" "rows" "[I", Cond.methodLink RX1 15 arraycopyName, Cond.methodLink RX5 65 yX3_becomeLike, Cond.instanceMethod yX3_becomeLike, Cond.selects RX3 yX3_becomeLike yX3_becomeLike, Cond.initialized RX3, Cond.code yX3_becomeLike cX3_becomeLike 2 none, Cond.fieldLink RX3 9 "WoodcutPress$Log" "parts" "[I", Cond.methodLink RX3 22 arraycopyName, Cond.fieldLink RX3 15 "WoodcutPress$Log" "size" "I", Cond.fieldLink RX3 19 "WoodcutPress$Log" "latest" "I"]
def wsX6_undo : List Cond := .code yX6_undo cX6_undo 1 (some .int) :: ((wsX6_undo_r1 ++ (wsX6_undo_r2 ++ wsX6_undo_r3)) ++ wsX60 ++ wsX20 ++ wsX50 ++ wsX00 ++ wsX10 ++ wsX30)
def wsX6_append : List Cond := .code yX6_append cX6_append 2 (some .int) :: ([.fieldLink RX6 26 "WoodcutPress" "reader" "LWoodcutPress$Reader;", .methodLink RX6 44 yX6_isWithin, .static yX6_isWithin, .initialized RX6, .code yX6_isWithin cX6_isWithin 3 (some .boolean), .methodLink RX6 153 yX4_length, .instanceMethod yX4_length, .selects RX4 yX4_length yX4_length, .initialized RX4, .code yX4_length cX4_length 1 (some .int), .fieldLink RX4 15 "WoodcutPress$Reader" "length" "I", .methodLink RX6 156 yX4_addCharacter, .instanceMethod yX4_addCharacter, .selects RX4 yX4_addCharacter yX4_addCharacter, .code yX4_addCharacter cX4_addCharacter 2 none, .fieldLink RX4 9 "WoodcutPress$Reader" "text" "[I"] ++ wsX60 ++ wsX40)
def wsX6_clearText : List Cond := .code yX6_clearText cX6_clearText 2 (some .int) :: ([.fieldLink RX6 26 "WoodcutPress" "reader" "LWoodcutPress$Reader;", .methodLink RX6 153 yX4_length, .instanceMethod yX4_length, .selects RX4 yX4_length yX4_length, .initialized RX4, .code yX4_length cX4_length 1 (some .int), .fieldLink RX4 15 "WoodcutPress$Reader" "length" "I", .methodLink RX6 159 yX4_forgetText, .instanceMethod yX4_forgetText, .selects RX4 yX4_forgetText yX4_forgetText, .code yX4_forgetText cX4_forgetText 1 none] ++ wsX60 ++ wsX40)
def wsX6_load_r1 : List Cond := [Cond.fieldLink RX6 26 "WoodcutPress" "reader" "LWoodcutPress$Reader;", Cond.fieldLink RX6 10 "WoodcutPress" "now" "LWoodcutPress$State;", Cond.fieldLink RX6 52 "WoodcutPress$State" "blocks" "LWoodcutPress$Blocks;", Cond.fieldLink RX6 19 "WoodcutPress" "history" "LWoodcutPress$History;", Cond.methodLink RX6 162 yX4_readText, Cond.instanceMethod yX4_readText, Cond.selects RX4 yX4_readText yX4_readText, Cond.initialized RX4, Cond.code yX4_readText cX4_readText 3 (some .int), Cond.fieldLink RX4 28 "WoodcutPress$Reader" "colours" "LWoodcutPress$Cells;", Cond.fieldLink RX4 35 "WoodcutPress$Blocks" "colours" "LWoodcutPress$Cells;", Cond.fieldLink RX4 32 "WoodcutPress$Reader" "lines" "LWoodcutPress$Cells;", Cond.fieldLink RX4 42 "WoodcutPress$Blocks" "lines" "LWoodcutPress$Cells;", Cond.fieldLink RX4 19 "WoodcutPress$Reader" "at" "I", Cond.fieldLink RX4 22 "WoodcutPress$Reader" "error" "I", Cond.fieldLink RX4 15 "WoodcutPress$Reader" "length" "I", Cond.methodLink RX4 38 yX1_becomeLike, Cond.instanceMethod yX1_becomeLike, Cond.selects RX1 yX1_becomeLike yX1_becomeLike, Cond.initialized RX1, Cond.code yX1_becomeLike cX1_becomeLike 2 none, Cond.fieldLink RX1 9 "WoodcutPress$Cells" "rows" "[I", Cond.methodLink RX1 15 arraycopyName, Cond.native arraycopyName]
def wsX6_load_r2 : List Cond := [Cond.static arraycopyName, Cond.initialized "java/lang/System", Cond.methodLink RX4 43 yX4_skipSpaces, Cond.instanceMethod yX4_skipSpaces, Cond.selects RX4 yX4_skipSpaces yX4_skipSpaces, Cond.code yX4_skipSpaces cX4_skipSpaces 1 none, Cond.methodLink RX4 53 yX4_here, Cond.instanceMethod yX4_here, Cond.selects RX4 yX4_here yX4_here, Cond.code yX4_here cX4_here 1 (some .int), Cond.fieldLink RX4 9 "WoodcutPress$Reader" "text" "[I", Cond.methodLink RX4 46 yX4_readItem, Cond.instanceMethod yX4_readItem, Cond.selects RX4 yX4_readItem yX4_readItem, Cond.code yX4_readItem cX4_readItem 2 none, Cond.methodLink RX4 49 yX4_readNumber, Cond.instanceMethod yX4_readNumber, Cond.selects RX4 yX4_readNumber yX4_readNumber, Cond.code yX4_readNumber cX4_readNumber 7 (some .int), Cond.methodLink RX4 75 Lib.Math.min.name, Cond.static Lib.Math.min.name, Cond.initialized "java/lang/Math", Cond.code Lib.Math.min.name Lib.Math.min.code 2 (some .int), Cond.methodLink RX4 71 yX4_isDigit]
def wsX6_load_r3 : List Cond := [Cond.static yX4_isDigit, Cond.code yX4_isDigit cX4_isDigit 1 (some .boolean), Cond.static yX6_isWithin, Cond.initialized RX6, Cond.code yX6_isWithin cX6_isWithin 3 (some .boolean), Cond.methodLink RX4 57 yX4_failAt, Cond.instanceMethod yX4_failAt, Cond.selects RX4 yX4_failAt yX4_failAt, Cond.code yX4_failAt cX4_failAt 2 none, Cond.methodLink RX4 61 yX4_readRuns, Cond.instanceMethod yX4_readRuns, Cond.selects RX4 yX4_readRuns yX4_readRuns, Cond.code yX4_readRuns cX4_readRuns 9 none, Cond.methodLink RX4 64 yX1_putRow, Cond.instanceMethod yX1_putRow, Cond.selects RX1 yX1_putRow yX1_putRow, Cond.code yX1_putRow cX1_putRow 3 none, Cond.constant RX1 21 (65535), Cond.methodLink RX4 68 yX4_readKind, Cond.instanceMethod yX4_readKind, Cond.selects RX4 yX4_readKind yX4_readKind, Cond.code yX4_readKind cX4_readKind 2 (some .int), Cond.methodLink RX6 48 yX2_keep, Cond.instanceMethod yX2_keep]
def wsX6_load_r4 : List Cond := [Cond.selects RX2 yX2_keep yX2_keep, Cond.initialized RX2, Cond.code yX2_keep cX2_keep 3 none, Cond.fieldLink RX2 11 "WoodcutPress$History" "states" "[LWoodcutPress$State;", Cond.fieldLink RX2 22 "WoodcutPress$History" "next" "I", Cond.fieldLink RX2 18 "WoodcutPress$History" "size" "I", Cond.methodLink RX2 29 Lib.Math.min.name, Cond.methodLink RX2 25 yX5_becomeLike, Cond.instanceMethod yX5_becomeLike, Cond.selects RX5 yX5_becomeLike yX5_becomeLike, Cond.initialized RX5, Cond.code yX5_becomeLike cX5_becomeLike 2 none, Cond.fieldLink RX5 12 "WoodcutPress$State" "blocks" "LWoodcutPress$Blocks;", Cond.fieldLink RX5 18 "WoodcutPress$State" "settings" "[I", Cond.methodLink RX5 25 arraycopyName, Cond.fieldLink RX5 34 "WoodcutPress$State" "log" "LWoodcutPress$Log;", Cond.fieldLink RX5 38 "WoodcutPress$State" "pinX" "I", Cond.fieldLink RX5 42 "WoodcutPress$State" "pinY" "I", Cond.fieldLink RX5 45 "WoodcutPress$State" "prints" "I", Cond.fieldLink RX5 48 "WoodcutPress$State" "firstSnapshot" "LWoodcutPress$Blocks;", Cond.fieldLink RX5 51 "WoodcutPress$State" "secondSnapshot" "LWoodcutPress$Blocks;", Cond.fieldLink RX5 54 "WoodcutPress$State" "firstTaken" "Z", Cond.fieldLink RX5 58 "WoodcutPress$State" "secondTaken" "Z", Cond.methodLink RX5 61 yX0_becomeLike]
def wsX6_load_r5 : List Cond := [Cond.instanceMethod yX0_becomeLike, Cond.selects RX0 yX0_becomeLike yX0_becomeLike, Cond.initialized RX0, Cond.code yX0_becomeLike cX0_becomeLike 2 none, Cond.fieldLink RX0 12 "WoodcutPress$Blocks" "colours" "LWoodcutPress$Cells;", Cond.fieldLink RX0 18 "WoodcutPress$Blocks" "lines" "LWoodcutPress$Cells;", Cond.fieldLink RX0 21 "WoodcutPress$Blocks" "lineBlock" "LWoodcutPress$Cells;", Cond.fieldLink RX0 24 "WoodcutPress$Blocks" "colourBlock" "LWoodcutPress$Cells;", Cond.fieldLink RX0 27 "WoodcutPress$Blocks" "wear" "[I", Cond.methodLink RX0 35 arraycopyName, Cond.methodLink RX0 31 yX1_becomeLike, Cond.methodLink RX5 65 yX3_becomeLike, Cond.instanceMethod yX3_becomeLike, Cond.selects RX3 yX3_becomeLike yX3_becomeLike, Cond.initialized RX3, Cond.code yX3_becomeLike cX3_becomeLike 2 none, Cond.fieldLink RX3 9 "WoodcutPress$Log" "parts" "[I", Cond.methodLink RX3 22 arraycopyName, Cond.fieldLink RX3 15 "WoodcutPress$Log" "size" "I", Cond.fieldLink RX3 19 "WoodcutPress$Log" "latest" "I", Cond.methodLink RX6 166 yX4_handPictureTo, Cond.instanceMethod yX4_handPictureTo, Cond.selects RX4 yX4_handPictureTo yX4_handPictureTo, Cond.code yX4_handPictureTo cX4_handPictureTo 2 none]
def wsX6_load_r6 : List Cond := [Cond.methodLink RX6 159 yX4_forgetText, Cond.instanceMethod yX4_forgetText, Cond.selects RX4 yX4_forgetText yX4_forgetText, Cond.code yX4_forgetText cX4_forgetText 1 none]
def wsX6_load : List Cond := .code yX6_load cX6_load 2 (some .int) :: ((wsX6_load_r1 ++ (wsX6_load_r2 ++ (wsX6_load_r3 ++ (wsX6_load_r4 ++ (wsX6_load_r5 ++ wsX6_load_r6))))) ++ wsX60 ++ wsX50 ++ wsX40 ++ wsX00 ++ wsX10 ++ wsX20 ++ wsX30)
def wsX6_count_r1 : List Cond := [Cond.fieldLink RX6 10 "WoodcutPress" "now" "LWoodcutPress$State;", Cond.fieldLink RX6 130 "WoodcutPress$State" "prints" "I", Cond.fieldLink RX6 127 "WoodcutPress$State" "settings" "[I", Cond.fieldLink RX6 100 "WoodcutPress$State" "pinX" "I", Cond.fieldLink RX6 104 "WoodcutPress$State" "pinY" "I", Cond.fieldLink RX6 52 "WoodcutPress$State" "blocks" "LWoodcutPress$Blocks;", Cond.fieldLink RX6 170 "WoodcutPress$Blocks" "colours" "LWoodcutPress$Cells;", Cond.fieldLink RX6 173 "WoodcutPress$Blocks" "lines" "LWoodcutPress$Cells;", Cond.fieldLink RX6 73 "WoodcutPress$Blocks" "lineBlock" "LWoodcutPress$Cells;", Cond.fieldLink RX6 66 "WoodcutPress$Blocks" "colourBlock" "LWoodcutPress$Cells;", Cond.fieldLink RX6 176 "WoodcutPress$State" "log" "LWoodcutPress$Log;", Cond.fieldLink RX6 19 "WoodcutPress" "history" "LWoodcutPress$History;", Cond.fieldLink RX6 26 "WoodcutPress" "reader" "LWoodcutPress$Reader;", Cond.methodLink RX6 110 yX5_shiftX, Cond.instanceMethod yX5_shiftX, Cond.selects RX5 yX5_shiftX yX5_shiftX, Cond.initialized RX5, Cond.code yX5_shiftX cX5_shiftX 1 (some .int), Cond.fieldLink RX5 38 "WoodcutPress$State" "pinX" "I", Cond.methodLink RX5 68 yX5_driftX, Cond.instanceMethod yX5_driftX, Cond.selects RX5 yX5_driftX yX5_driftX, Cond.code yX5_driftX cX5_driftX 1 (some .int), Cond.fieldLink RX5 18 "WoodcutPress$State" "settings" "[I"]
def wsX6_count_r2 : List Cond := [Cond.methodLink RX6 113 yX5_shiftY, Cond.instanceMethod yX5_shiftY, Cond.selects RX5 yX5_shiftY yX5_shiftY, Cond.code yX5_shiftY cX5_shiftY 1 (some .int), Cond.fieldLink RX5 42 "WoodcutPress$State" "pinY" "I", Cond.methodLink RX5 72 yX5_driftY, Cond.instanceMethod yX5_driftY, Cond.selects RX5 yX5_driftY yX5_driftY, Cond.code yX5_driftY cX5_driftY 1 (some .int), Cond.methodLink RX6 139 yX0_paintedCells, Cond.instanceMethod yX0_paintedCells, Cond.selects RX0 yX0_paintedCells yX0_paintedCells, Cond.initialized RX0, Cond.code yX0_paintedCells cX0_paintedCells 1 (some .int), Cond.fieldLink RX0 12 "WoodcutPress$Blocks" "colours" "LWoodcutPress$Cells;", Cond.fieldLink RX0 18 "WoodcutPress$Blocks" "lines" "LWoodcutPress$Cells;", Cond.methodLink RX0 45 yX1_size, Cond.instanceMethod yX1_size, Cond.selects RX1 yX1_size yX1_size, Cond.initialized RX1, Cond.code yX1_size cX1_size 3 (some .int), Cond.fieldLink RX1 9 "WoodcutPress$Cells" "rows" "[I", Cond.methodLink RX1 26 yJ6_bitCount_0f7a4, Cond.static yJ6_bitCount_0f7a4]
def wsX6_count_r3 : List Cond := [Cond.initialized RJ6, Cond.code yJ6_bitCount_0f7a4 cJ6_bitCount_0f7a4 1 (some .int), Cond.constant RJ6 265 (1431655765), Cond.constant RJ6 266 (858993459), Cond.constant RJ6 267 (252645135), Cond.methodLink RX6 69 yX1_size, Cond.methodLink RX6 97 yX6_wornCells, Cond.instanceMethod yX6_wornCells, Cond.selects RX6 yX6_wornCells yX6_wornCells, Cond.initialized RX6, Cond.code yX6_wornCells cX6_wornCells 1 (some .int), Cond.fieldLink RX6 33 "WoodcutPress" "ink" "LWoodcutPress$Cells;", Cond.methodLink RX6 107 yX6_findInk, Cond.instanceMethod yX6_findInk, Cond.selects RX6 yX6_findInk yX6_findInk, Cond.code yX6_findInk cX6_findInk 1 none, Cond.methodLink RX6 91 yX5_hardness, Cond.instanceMethod yX5_hardness, Cond.selects RX5 yX5_hardness yX5_hardness, Cond.code yX5_hardness cX5_hardness 1 (some .int), Cond.methodLink RX6 227 yX0_findInk, Cond.instanceMethod yX0_findInk, Cond.selects RX0 yX0_findInk yX0_findInk, Cond.code yX0_findInk cX0_findInk 6 none]
def wsX6_count_r4 : List Cond := [Cond.fieldLink RX0 27 "WoodcutPress$Blocks" "wear" "[I", Cond.fieldLink RX0 21 "WoodcutPress$Blocks" "lineBlock" "LWoodcutPress$Cells;", Cond.static yX6_oneIf, Cond.code yX6_oneIf cX6_oneIf 1 (some .int), Cond.methodLink RX0 80 yX1_row, Cond.instanceMethod yX1_row, Cond.selects RX1 yX1_row yX1_row, Cond.code yX1_row cX1_row 2 (some .int), Cond.methodLink RX0 84 yX1_putRow, Cond.instanceMethod yX1_putRow, Cond.selects RX1 yX1_putRow yX1_putRow, Cond.code yX1_putRow cX1_putRow 3 none, Cond.constant RX1 21 (65535), Cond.methodLink RX6 180 yX3_size, Cond.instanceMethod yX3_size, Cond.selects RX3 yX3_size yX3_size, Cond.initialized RX3, Cond.code yX3_size cX3_size 1 (some .int), Cond.fieldLink RX3 15 "WoodcutPress$Log" "size" "I", Cond.methodLink RX6 183 yX5_snapshots, Cond.instanceMethod yX5_snapshots, Cond.selects RX5 yX5_snapshots yX5_snapshots, Cond.code yX5_snapshots cX5_snapshots 1 (some .int), Cond.fieldLink RX5 54 "WoodcutPress$State" "firstTaken" "Z"]
def wsX6_count_r5 : List Cond := [Cond.fieldLink RX5 58 "WoodcutPress$State" "secondTaken" "Z", Cond.methodLink RX6 149 yX2_size, Cond.instanceMethod yX2_size, Cond.selects RX2 yX2_size yX2_size, Cond.initialized RX2, Cond.code yX2_size cX2_size 1 (some .int), Cond.fieldLink RX2 18 "WoodcutPress$History" "size" "I", Cond.methodLink RX6 153 yX4_length, Cond.instanceMethod yX4_length, Cond.selects RX4 yX4_length yX4_length, Cond.initialized RX4, Cond.code yX4_length cX4_length 1 (some .int), Cond.fieldLink RX4 15 "WoodcutPress$Reader" "length" "I"]
def wsX6_count : List Cond := .code yX6_count cX6_count 2 (some .int) :: ((wsX6_count_r1 ++ (wsX6_count_r2 ++ (wsX6_count_r3 ++ (wsX6_count_r4 ++ wsX6_count_r5)))) ++ wsX60 ++ wsX50 ++ wsX00 ++ wsX10 ++ wsX30 ++ wsX20 ++ wsX40)
def wsX6_cell_r1 : List Cond := [Cond.fieldLink RX6 10 "WoodcutPress" "now" "LWoodcutPress$State;", Cond.fieldLink RX6 52 "WoodcutPress$State" "blocks" "LWoodcutPress$Blocks;", Cond.fieldLink RX6 73 "WoodcutPress$Blocks" "lineBlock" "LWoodcutPress$Cells;", Cond.fieldLink RX6 66 "WoodcutPress$Blocks" "colourBlock" "LWoodcutPress$Cells;", Cond.methodLink RX6 40 yX6_isPlace, Cond.static yX6_isPlace, Cond.initialized RX6, Cond.code yX6_isPlace cX6_isPlace 2 (some .boolean), Cond.methodLink RX6 186 yX0_kindAt, Cond.instanceMethod yX0_kindAt, Cond.selects RX0 yX0_kindAt yX0_kindAt, Cond.initialized RX0, Cond.code yX0_kindAt cX0_kindAt 3 (some .int), Cond.fieldLink RX0 18 "WoodcutPress$Blocks" "lines" "LWoodcutPress$Cells;", Cond.fieldLink RX0 12 "WoodcutPress$Blocks" "colours" "LWoodcutPress$Cells;", Cond.methodLink RX0 41 yX1_has, Cond.instanceMethod yX1_has, Cond.selects RX1 yX1_has yX1_has, Cond.initialized RX1, Cond.code yX1_has cX1_has 3 (some .boolean), Cond.fieldLink RX1 9 "WoodcutPress$Cells" "rows" "[I", Cond.methodLink RX6 76 yX1_has, Cond.methodLink RX6 79 yX6_oneIf, Cond.static yX6_oneIf]
def wsX6_cell_r2 : List Cond := [Cond.code yX6_oneIf cX6_oneIf 1 (some .int), Cond.methodLink RX6 189 yX0_wearAt, Cond.instanceMethod yX0_wearAt, Cond.selects RX0 yX0_wearAt yX0_wearAt, Cond.code yX0_wearAt cX0_wearAt 3 (some .int), Cond.fieldLink RX0 27 "WoodcutPress$Blocks" "wear" "[I", Cond.methodLink RX6 91 yX5_hardness, Cond.instanceMethod yX5_hardness, Cond.selects RX5 yX5_hardness yX5_hardness, Cond.initialized RX5, Cond.code yX5_hardness cX5_hardness 1 (some .int), Cond.fieldLink RX5 18 "WoodcutPress$State" "settings" "[I", Cond.methodLink RX6 94 yX0_isWorn, Cond.instanceMethod yX0_isWorn, Cond.selects RX0 yX0_isWorn yX0_isWorn, Cond.code yX0_isWorn cX0_isWorn 4 (some .boolean), Cond.fieldLink RX0 21 "WoodcutPress$Blocks" "lineBlock" "LWoodcutPress$Cells;", Cond.methodLink RX0 77 yX0_wearAt]
def wsX6_cell : List Cond := .code yX6_cell cX6_cell 4 (some .int) :: ((wsX6_cell_r1 ++ wsX6_cell_r2) ++ wsX60 ++ wsX50 ++ wsX00 ++ wsX10)
def wsX6_isShift : List Cond := .code yX6_isShift cX6_isShift 2 (some .boolean) :: ([.methodLink RX6 44 yX6_isWithin, .static yX6_isWithin, .initialized RX6, .code yX6_isWithin cX6_isWithin 3 (some .boolean)])
def wsX6_printsColour : List Cond := .code yX6_printsColour cX6_printsColour 5 (some .boolean) :: ([.fieldLink RX6 10 "WoodcutPress" "now" "LWoodcutPress$State;", .fieldLink RX6 52 "WoodcutPress$State" "blocks" "LWoodcutPress$Blocks;", .fieldLink RX6 66 "WoodcutPress$Blocks" "colourBlock" "LWoodcutPress$Cells;", .methodLink RX6 76 yX1_has, .instanceMethod yX1_has, .selects RX1 yX1_has yX1_has, .initialized RX1, .code yX1_has cX1_has 3 (some .boolean), .fieldLink RX1 9 "WoodcutPress$Cells" "rows" "[I", .static yX6_isPlace, .initialized RX6, .code yX6_isPlace cX6_isPlace 2 (some .boolean)] ++ wsX60 ++ wsX50 ++ wsX00 ++ wsX10)
def wsX6_printed_r1 : List Cond := [Cond.fieldLink RX6 33 "WoodcutPress" "ink" "LWoodcutPress$Cells;", Cond.methodLink RX6 40 yX6_isPlace, Cond.static yX6_isPlace, Cond.initialized RX6, Cond.code yX6_isPlace cX6_isPlace 2 (some .boolean), Cond.methodLink RX6 192 yX6_isShift, Cond.static yX6_isShift, Cond.code yX6_isShift cX6_isShift 2 (some .boolean), Cond.methodLink RX6 44 yX6_isWithin, Cond.static yX6_isWithin, Cond.code yX6_isWithin cX6_isWithin 3 (some .boolean), Cond.methodLink RX6 107 yX6_findInk, Cond.instanceMethod yX6_findInk, Cond.selects RX6 yX6_findInk yX6_findInk, Cond.code yX6_findInk cX6_findInk 1 none, Cond.fieldLink RX6 10 "WoodcutPress" "now" "LWoodcutPress$State;", Cond.fieldLink RX6 52 "WoodcutPress$State" "blocks" "LWoodcutPress$Blocks;", Cond.methodLink RX6 91 yX5_hardness, Cond.instanceMethod yX5_hardness, Cond.selects RX5 yX5_hardness yX5_hardness, Cond.initialized RX5, Cond.code yX5_hardness cX5_hardness 1 (some .int), Cond.fieldLink RX5 18 "WoodcutPress$State" "settings" "[I", Cond.methodLink RX6 227 yX0_findInk]
def wsX6_printed_r2 : List Cond := [Cond.instanceMethod yX0_findInk, Cond.selects RX0 yX0_findInk yX0_findInk, Cond.initialized RX0, Cond.code yX0_findInk cX0_findInk 6 none, Cond.fieldLink RX0 27 "WoodcutPress$Blocks" "wear" "[I", Cond.fieldLink RX0 21 "WoodcutPress$Blocks" "lineBlock" "LWoodcutPress$Cells;", Cond.static yX6_oneIf, Cond.code yX6_oneIf cX6_oneIf 1 (some .int), Cond.methodLink RX0 80 yX1_row, Cond.instanceMethod yX1_row, Cond.selects RX1 yX1_row yX1_row, Cond.initialized RX1, Cond.code yX1_row cX1_row 2 (some .int), Cond.fieldLink RX1 9 "WoodcutPress$Cells" "rows" "[I", Cond.methodLink RX0 84 yX1_putRow, Cond.instanceMethod yX1_putRow, Cond.selects RX1 yX1_putRow yX1_putRow, Cond.code yX1_putRow cX1_putRow 3 none, Cond.constant RX1 21 (65535), Cond.methodLink RX6 195 yX6_printsColour, Cond.instanceMethod yX6_printsColour, Cond.selects RX6 yX6_printsColour yX6_printsColour, Cond.code yX6_printsColour cX6_printsColour 5 (some .boolean), Cond.fieldLink RX6 66 "WoodcutPress$Blocks" "colourBlock" "LWoodcutPress$Cells;"]
def wsX6_printed_r3 : List Cond := [Cond.methodLink RX6 76 yX1_has, Cond.instanceMethod yX1_has, Cond.selects RX1 yX1_has yX1_has, Cond.code yX1_has cX1_has 3 (some .boolean), Cond.methodLink RX6 79 yX6_oneIf]
def wsX6_printed : List Cond := .code yX6_printed cX6_printed 5 (some .int) :: ((wsX6_printed_r1 ++ (wsX6_printed_r2 ++ wsX6_printed_r3)) ++ wsX60 ++ wsX50 ++ wsX00 ++ wsX10)
def wsX6_proof : List Cond := .code yX6_proof cX6_proof 3 (some .int) :: ([.fieldLink RX6 10 "WoodcutPress" "now" "LWoodcutPress$State;", .fieldLink RX6 176 "WoodcutPress$State" "log" "LWoodcutPress$Log;", .methodLink RX6 44 yX6_isWithin, .static yX6_isWithin, .initialized RX6, .code yX6_isWithin cX6_isWithin 3 (some .boolean), .methodLink RX6 180 yX3_size, .instanceMethod yX3_size, .selects RX3 yX3_size yX3_size, .initialized RX3, .code yX3_size cX3_size 1 (some .int), .fieldLink RX3 15 "WoodcutPress$Log" "size" "I", .methodLink RX6 199 yX3_partOf, .instanceMethod yX3_partOf, .selects RX3 yX3_partOf yX3_partOf, .code yX3_partOf cX3_partOf 4 (some .int), .fieldLink RX3 19 "WoodcutPress$Log" "latest" "I", .fieldLink RX3 9 "WoodcutPress$Log" "parts" "[I"] ++ wsX60 ++ wsX50 ++ wsX30)
def wsX6_faults_r1 : List Cond := [Cond.fieldLink RX6 10 "WoodcutPress" "now" "LWoodcutPress$State;", Cond.fieldLink RX6 52 "WoodcutPress$State" "blocks" "LWoodcutPress$Blocks;", Cond.fieldLink RX6 33 "WoodcutPress" "ink" "LWoodcutPress$Cells;", Cond.methodLink RX6 192 yX6_isShift, Cond.static yX6_isShift, Cond.initialized RX6, Cond.code yX6_isShift cX6_isShift 2 (some .boolean), Cond.methodLink RX6 44 yX6_isWithin, Cond.static yX6_isWithin, Cond.code yX6_isWithin cX6_isWithin 3 (some .boolean), Cond.methodLink RX6 107 yX6_findInk, Cond.instanceMethod yX6_findInk, Cond.selects RX6 yX6_findInk yX6_findInk, Cond.code yX6_findInk cX6_findInk 1 none, Cond.methodLink RX6 91 yX5_hardness, Cond.instanceMethod yX5_hardness, Cond.selects RX5 yX5_hardness yX5_hardness, Cond.initialized RX5, Cond.code yX5_hardness cX5_hardness 1 (some .int), Cond.fieldLink RX5 18 "WoodcutPress$State" "settings" "[I", Cond.methodLink RX6 227 yX0_findInk, Cond.instanceMethod yX0_findInk, Cond.selects RX0 yX0_findInk yX0_findInk, Cond.initialized RX0]
def wsX6_faults_r2 : List Cond := [Cond.code yX0_findInk cX0_findInk 6 none, Cond.fieldLink RX0 27 "WoodcutPress$Blocks" "wear" "[I", Cond.fieldLink RX0 21 "WoodcutPress$Blocks" "lineBlock" "LWoodcutPress$Cells;", Cond.static yX6_oneIf, Cond.code yX6_oneIf cX6_oneIf 1 (some .int), Cond.methodLink RX0 80 yX1_row, Cond.instanceMethod yX1_row, Cond.selects RX1 yX1_row yX1_row, Cond.initialized RX1, Cond.code yX1_row cX1_row 2 (some .int), Cond.fieldLink RX1 9 "WoodcutPress$Cells" "rows" "[I", Cond.methodLink RX0 84 yX1_putRow, Cond.instanceMethod yX1_putRow, Cond.selects RX1 yX1_putRow yX1_putRow, Cond.code yX1_putRow cX1_putRow 3 none, Cond.constant RX1 21 (65535), Cond.methodLink RX6 116 yX6_gapsWith, Cond.instanceMethod yX6_gapsWith, Cond.selects RX6 yX6_gapsWith yX6_gapsWith, Cond.code yX6_gapsWith cX6_gapsWith 3 (some .int), Cond.fieldLink RX6 66 "WoodcutPress$Blocks" "colourBlock" "LWoodcutPress$Cells;", Cond.methodLink RX6 229 yX0_gaps, Cond.instanceMethod yX0_gaps, Cond.selects RX0 yX0_gaps yX0_gaps]
def wsX6_faults_r3 : List Cond := [Cond.code yX0_gaps cX0_gaps 8 (some .int), Cond.fieldLink RX0 12 "WoodcutPress$Blocks" "colours" "LWoodcutPress$Cells;", Cond.fieldLink RX0 18 "WoodcutPress$Blocks" "lines" "LWoodcutPress$Cells;", Cond.methodLink RX0 88 yX1_shiftedRow, Cond.instanceMethod yX1_shiftedRow, Cond.selects RX1 yX1_shiftedRow yX1_shiftedRow, Cond.code yX1_shiftedRow cX1_shiftedRow 5 (some .int), Cond.methodLink RX1 32 yX1_row, Cond.methodLink RX0 92 yJ6_bitCount_0f7a4, Cond.static yJ6_bitCount_0f7a4, Cond.initialized RJ6, Cond.code yJ6_bitCount_0f7a4 cJ6_bitCount_0f7a4 1 (some .int), Cond.constant RJ6 265 (1431655765), Cond.constant RJ6 266 (858993459), Cond.constant RJ6 267 (252645135), Cond.methodLink RX6 202 yX6_spillsWith, Cond.instanceMethod yX6_spillsWith, Cond.selects RX6 yX6_spillsWith yX6_spillsWith, Cond.code yX6_spillsWith cX6_spillsWith 3 (some .int), Cond.methodLink RX6 233 yX0_spills, Cond.instanceMethod yX0_spills, Cond.selects RX0 yX0_spills yX0_spills, Cond.code yX0_spills cX0_spills 7 (some .int), Cond.methodLink RX6 205 yX0_lostLines]
def wsX6_faults_r4 : List Cond := [Cond.instanceMethod yX0_lostLines, Cond.selects RX0 yX0_lostLines yX0_lostLines, Cond.code yX0_lostLines cX0_lostLines 4 (some .int)]
def wsX6_faults : List Cond := .code yX6_faults cX6_faults 4 (some .int) :: ((wsX6_faults_r1 ++ (wsX6_faults_r2 ++ (wsX6_faults_r3 ++ wsX6_faults_r4))) ++ wsX60 ++ wsX50 ++ wsX00 ++ wsX10)
def wsX6_why_r1 : List Cond := [Cond.fieldLink RX6 10 "WoodcutPress" "now" "LWoodcutPress$State;", Cond.fieldLink RX6 52 "WoodcutPress$State" "blocks" "LWoodcutPress$Blocks;", Cond.fieldLink RX6 33 "WoodcutPress" "ink" "LWoodcutPress$Cells;", Cond.methodLink RX6 40 yX6_isPlace, Cond.static yX6_isPlace, Cond.initialized RX6, Cond.code yX6_isPlace cX6_isPlace 2 (some .boolean), Cond.methodLink RX6 107 yX6_findInk, Cond.instanceMethod yX6_findInk, Cond.selects RX6 yX6_findInk yX6_findInk, Cond.code yX6_findInk cX6_findInk 1 none, Cond.methodLink RX6 91 yX5_hardness, Cond.instanceMethod yX5_hardness, Cond.selects RX5 yX5_hardness yX5_hardness, Cond.initialized RX5, Cond.code yX5_hardness cX5_hardness 1 (some .int), Cond.fieldLink RX5 18 "WoodcutPress$State" "settings" "[I", Cond.methodLink RX6 227 yX0_findInk, Cond.instanceMethod yX0_findInk, Cond.selects RX0 yX0_findInk yX0_findInk, Cond.initialized RX0, Cond.code yX0_findInk cX0_findInk 6 none, Cond.fieldLink RX0 27 "WoodcutPress$Blocks" "wear" "[I", Cond.fieldLink RX0 21 "WoodcutPress$Blocks" "lineBlock" "LWoodcutPress$Cells;"]
def wsX6_why_r2 : List Cond := [Cond.static yX6_oneIf, Cond.code yX6_oneIf cX6_oneIf 1 (some .int), Cond.methodLink RX0 80 yX1_row, Cond.instanceMethod yX1_row, Cond.selects RX1 yX1_row yX1_row, Cond.initialized RX1, Cond.code yX1_row cX1_row 2 (some .int), Cond.fieldLink RX1 9 "WoodcutPress$Cells" "rows" "[I", Cond.methodLink RX0 84 yX1_putRow, Cond.instanceMethod yX1_putRow, Cond.selects RX1 yX1_putRow yX1_putRow, Cond.code yX1_putRow cX1_putRow 3 none, Cond.constant RX1 21 (65535), Cond.methodLink RX6 186 yX0_kindAt, Cond.instanceMethod yX0_kindAt, Cond.selects RX0 yX0_kindAt yX0_kindAt, Cond.code yX0_kindAt cX0_kindAt 3 (some .int), Cond.fieldLink RX0 18 "WoodcutPress$Blocks" "lines" "LWoodcutPress$Cells;", Cond.fieldLink RX0 12 "WoodcutPress$Blocks" "colours" "LWoodcutPress$Cells;", Cond.methodLink RX0 41 yX1_has, Cond.instanceMethod yX1_has, Cond.selects RX1 yX1_has yX1_has, Cond.code yX1_has cX1_has 3 (some .boolean), Cond.methodLink RX6 76 yX1_has]
def wsX6_why_r3 : List Cond := [Cond.methodLink RX6 110 yX5_shiftX, Cond.instanceMethod yX5_shiftX, Cond.selects RX5 yX5_shiftX yX5_shiftX, Cond.code yX5_shiftX cX5_shiftX 1 (some .int), Cond.fieldLink RX5 38 "WoodcutPress$State" "pinX" "I", Cond.methodLink RX5 68 yX5_driftX, Cond.instanceMethod yX5_driftX, Cond.selects RX5 yX5_driftX yX5_driftX, Cond.code yX5_driftX cX5_driftX 1 (some .int), Cond.methodLink RX6 113 yX5_shiftY, Cond.instanceMethod yX5_shiftY, Cond.selects RX5 yX5_shiftY yX5_shiftY, Cond.code yX5_shiftY cX5_shiftY 1 (some .int), Cond.fieldLink RX5 42 "WoodcutPress$State" "pinY" "I", Cond.methodLink RX5 72 yX5_driftY, Cond.instanceMethod yX5_driftY, Cond.selects RX5 yX5_driftY yX5_driftY, Cond.code yX5_driftY cX5_driftY 1 (some .int), Cond.methodLink RX6 195 yX6_printsColour, Cond.instanceMethod yX6_printsColour, Cond.selects RX6 yX6_printsColour yX6_printsColour, Cond.code yX6_printsColour cX6_printsColour 5 (some .boolean), Cond.fieldLink RX6 66 "WoodcutPress$Blocks" "colourBlock" "LWoodcutPress$Cells;", Cond.methodLink RX6 94 yX0_isWorn]
def wsX6_why_r4 : List Cond := [Cond.instanceMethod yX0_isWorn, Cond.selects RX0 yX0_isWorn yX0_isWorn, Cond.code yX0_isWorn cX0_isWorn 4 (some .boolean), Cond.methodLink RX0 77 yX0_wearAt, Cond.instanceMethod yX0_wearAt, Cond.selects RX0 yX0_wearAt yX0_wearAt, Cond.code yX0_wearAt cX0_wearAt 3 (some .int)]
def wsX6_why : List Cond := .code yX6_why cX6_why 6 (some .int) :: ((wsX6_why_r1 ++ (wsX6_why_r2 ++ (wsX6_why_r3 ++ wsX6_why_r4))) ++ wsX60 ++ wsX50 ++ wsX00 ++ wsX10)
def wsX6_hasGapsWithin_r1 : List Cond := [Cond.fieldLink RX6 10 "WoodcutPress" "now" "LWoodcutPress$State;", Cond.fieldLink RX6 52 "WoodcutPress$State" "blocks" "LWoodcutPress$Blocks;", Cond.methodLink RX6 229 yX0_gaps, Cond.instanceMethod yX0_gaps, Cond.selects RX0 yX0_gaps yX0_gaps, Cond.initialized RX0, Cond.code yX0_gaps cX0_gaps 8 (some .int), Cond.fieldLink RX0 12 "WoodcutPress$Blocks" "colours" "LWoodcutPress$Cells;", Cond.fieldLink RX0 18 "WoodcutPress$Blocks" "lines" "LWoodcutPress$Cells;", Cond.methodLink RX0 80 yX1_row, Cond.instanceMethod yX1_row, Cond.selects RX1 yX1_row yX1_row, Cond.initialized RX1, Cond.code yX1_row cX1_row 2 (some .int), Cond.fieldLink RX1 9 "WoodcutPress$Cells" "rows" "[I", Cond.methodLink RX0 88 yX1_shiftedRow, Cond.instanceMethod yX1_shiftedRow, Cond.selects RX1 yX1_shiftedRow yX1_shiftedRow, Cond.code yX1_shiftedRow cX1_shiftedRow 5 (some .int), Cond.constant RX1 21 (65535), Cond.methodLink RX1 32 yX1_row, Cond.methodLink RX0 92 yJ6_bitCount_0f7a4, Cond.static yJ6_bitCount_0f7a4, Cond.initialized RJ6]
def wsX6_hasGapsWithin_r2 : List Cond := [Cond.code yJ6_bitCount_0f7a4 cJ6_bitCount_0f7a4 1 (some .int), Cond.constant RJ6 265 (1431655765), Cond.constant RJ6 266 (858993459), Cond.constant RJ6 267 (252645135)]
def wsX6_hasGapsWithin : List Cond := .code yX6_hasGapsWithin cX6_hasGapsWithin 6 (some .boolean) :: ((wsX6_hasGapsWithin_r1 ++ wsX6_hasGapsWithin_r2) ++ wsX60 ++ wsX50 ++ wsX00 ++ wsX10)
def wsX6_tolerance_r1 : List Cond := [Cond.fieldLink RX6 33 "WoodcutPress" "ink" "LWoodcutPress$Cells;", Cond.fieldLink RX6 10 "WoodcutPress" "now" "LWoodcutPress$State;", Cond.fieldLink RX6 52 "WoodcutPress$State" "blocks" "LWoodcutPress$Blocks;", Cond.fieldLink RX6 66 "WoodcutPress$Blocks" "colourBlock" "LWoodcutPress$Cells;", Cond.methodLink RX6 107 yX6_findInk, Cond.instanceMethod yX6_findInk, Cond.selects RX6 yX6_findInk yX6_findInk, Cond.initialized RX6, Cond.code yX6_findInk cX6_findInk 1 none, Cond.methodLink RX6 91 yX5_hardness, Cond.instanceMethod yX5_hardness, Cond.selects RX5 yX5_hardness yX5_hardness, Cond.initialized RX5, Cond.code yX5_hardness cX5_hardness 1 (some .int), Cond.fieldLink RX5 18 "WoodcutPress$State" "settings" "[I", Cond.methodLink RX6 227 yX0_findInk, Cond.instanceMethod yX0_findInk, Cond.selects RX0 yX0_findInk yX0_findInk, Cond.initialized RX0, Cond.code yX0_findInk cX0_findInk 6 none, Cond.fieldLink RX0 27 "WoodcutPress$Blocks" "wear" "[I", Cond.fieldLink RX0 21 "WoodcutPress$Blocks" "lineBlock" "LWoodcutPress$Cells;", Cond.static yX6_oneIf, Cond.code yX6_oneIf cX6_oneIf 1 (some .int)]
def wsX6_tolerance_r2 : List Cond := [Cond.methodLink RX0 80 yX1_row, Cond.instanceMethod yX1_row, Cond.selects RX1 yX1_row yX1_row, Cond.initialized RX1, Cond.code yX1_row cX1_row 2 (some .int), Cond.fieldLink RX1 9 "WoodcutPress$Cells" "rows" "[I", Cond.methodLink RX0 84 yX1_putRow, Cond.instanceMethod yX1_putRow, Cond.selects RX1 yX1_putRow yX1_putRow, Cond.code yX1_putRow cX1_putRow 3 none, Cond.constant RX1 21 (65535), Cond.methodLink RX6 209 yX6_hasGapsWithin, Cond.instanceMethod yX6_hasGapsWithin, Cond.selects RX6 yX6_hasGapsWithin yX6_hasGapsWithin, Cond.code yX6_hasGapsWithin cX6_hasGapsWithin 6 (some .boolean), Cond.methodLink RX6 229 yX0_gaps, Cond.instanceMethod yX0_gaps, Cond.selects RX0 yX0_gaps yX0_gaps, Cond.code yX0_gaps cX0_gaps 8 (some .int), Cond.fieldLink RX0 12 "WoodcutPress$Blocks" "colours" "LWoodcutPress$Cells;", Cond.fieldLink RX0 18 "WoodcutPress$Blocks" "lines" "LWoodcutPress$Cells;", Cond.methodLink RX0 88 yX1_shiftedRow, Cond.instanceMethod yX1_shiftedRow, Cond.selects RX1 yX1_shiftedRow yX1_shiftedRow]
def wsX6_tolerance_r3 : List Cond := [Cond.code yX1_shiftedRow cX1_shiftedRow 5 (some .int), Cond.methodLink RX1 32 yX1_row, Cond.methodLink RX0 92 yJ6_bitCount_0f7a4, Cond.static yJ6_bitCount_0f7a4, Cond.initialized RJ6, Cond.code yJ6_bitCount_0f7a4 cJ6_bitCount_0f7a4 1 (some .int), Cond.constant RJ6 265 (1431655765), Cond.constant RJ6 266 (858993459), Cond.constant RJ6 267 (252645135)]
def wsX6_tolerance : List Cond := .code yX6_tolerance cX6_tolerance 2 (some .int) :: ((wsX6_tolerance_r1 ++ (wsX6_tolerance_r2 ++ wsX6_tolerance_r3)) ++ wsX60 ++ wsX50 ++ wsX00 ++ wsX10)
def wsX6_trapFor_r1 : List Cond := [Cond.fieldLink RX6 10 "WoodcutPress" "now" "LWoodcutPress$State;", Cond.fieldLink RX6 52 "WoodcutPress$State" "blocks" "LWoodcutPress$Blocks;", Cond.fieldLink RX6 37 "WoodcutPress" "trial" "LWoodcutPress$Cells;", Cond.fieldLink RX6 173 "WoodcutPress$Blocks" "lines" "LWoodcutPress$Cells;", Cond.methodLink RX6 44 yX6_isWithin, Cond.static yX6_isWithin, Cond.initialized RX6, Cond.code yX6_isWithin cX6_isWithin 3 (some .boolean), Cond.methodLink RX6 213 yX0_cutColour, Cond.instanceMethod yX0_cutColour, Cond.selects RX0 yX0_cutColour yX0_cutColour, Cond.initialized RX0, Cond.code yX0_cutColour cX0_cutColour 4 none, Cond.fieldLink RX0 12 "WoodcutPress$Blocks" "colours" "LWoodcutPress$Cells;", Cond.fieldLink RX0 18 "WoodcutPress$Blocks" "lines" "LWoodcutPress$Cells;", Cond.methodLink RX0 31 yX1_becomeLike, Cond.instanceMethod yX1_becomeLike, Cond.selects RX1 yX1_becomeLike yX1_becomeLike, Cond.initialized RX1, Cond.code yX1_becomeLike cX1_becomeLike 2 none, Cond.fieldLink RX1 9 "WoodcutPress$Cells" "rows" "[I", Cond.methodLink RX1 15 arraycopyName, Cond.native arraycopyName, Cond.static arraycopyName]
def wsX6_trapFor_r2 : List Cond := [Cond.initialized "java/lang/System", Cond.methodLink RX0 71 yX1_growInto, Cond.instanceMethod yX1_growInto, Cond.selects RX1 yX1_growInto yX1_growInto, Cond.code yX1_growInto cX1_growInto 6 none, Cond.methodLink RX1 32 yX1_row, Cond.instanceMethod yX1_row, Cond.selects RX1 yX1_row yX1_row, Cond.code yX1_row cX1_row 2 (some .int), Cond.methodLink RX6 209 yX6_hasGapsWithin, Cond.instanceMethod yX6_hasGapsWithin, Cond.selects RX6 yX6_hasGapsWithin yX6_hasGapsWithin, Cond.code yX6_hasGapsWithin cX6_hasGapsWithin 6 (some .boolean), Cond.methodLink RX6 229 yX0_gaps, Cond.instanceMethod yX0_gaps, Cond.selects RX0 yX0_gaps yX0_gaps, Cond.code yX0_gaps cX0_gaps 8 (some .int), Cond.methodLink RX0 80 yX1_row, Cond.methodLink RX0 88 yX1_shiftedRow, Cond.instanceMethod yX1_shiftedRow, Cond.selects RX1 yX1_shiftedRow yX1_shiftedRow, Cond.code yX1_shiftedRow cX1_shiftedRow 5 (some .int), Cond.constant RX1 21 (65535), Cond.methodLink RX0 92 yJ6_bitCount_0f7a4]
def wsX6_trapFor_r3 : List Cond := [Cond.static yJ6_bitCount_0f7a4, Cond.initialized RJ6, Cond.code yJ6_bitCount_0f7a4 cJ6_bitCount_0f7a4 1 (some .int), Cond.constant RJ6 265 (1431655765), Cond.constant RJ6 266 (858993459), Cond.constant RJ6 267 (252645135)]
def wsX6_trapFor : List Cond := .code yX6_trapFor cX6_trapFor 4 (some .int) :: ((wsX6_trapFor_r1 ++ (wsX6_trapFor_r2 ++ wsX6_trapFor_r3)) ++ wsX60 ++ wsX50 ++ wsX00 ++ wsX10)
def wsX6_bestPins_r1 : List Cond := [Cond.fieldLink RX6 10 "WoodcutPress" "now" "LWoodcutPress$State;", Cond.methodLink RX6 44 yX6_isWithin, Cond.static yX6_isWithin, Cond.initialized RX6, Cond.code yX6_isWithin cX6_isWithin 3 (some .boolean), Cond.methodLink RX6 107 yX6_findInk, Cond.instanceMethod yX6_findInk, Cond.selects RX6 yX6_findInk yX6_findInk, Cond.code yX6_findInk cX6_findInk 1 none, Cond.fieldLink RX6 52 "WoodcutPress$State" "blocks" "LWoodcutPress$Blocks;", Cond.fieldLink RX6 33 "WoodcutPress" "ink" "LWoodcutPress$Cells;", Cond.methodLink RX6 91 yX5_hardness, Cond.instanceMethod yX5_hardness, Cond.selects RX5 yX5_hardness yX5_hardness, Cond.initialized RX5, Cond.code yX5_hardness cX5_hardness 1 (some .int), Cond.fieldLink RX5 18 "WoodcutPress$State" "settings" "[I", Cond.methodLink RX6 227 yX0_findInk, Cond.instanceMethod yX0_findInk, Cond.selects RX0 yX0_findInk yX0_findInk, Cond.initialized RX0, Cond.code yX0_findInk cX0_findInk 6 none, Cond.fieldLink RX0 27 "WoodcutPress$Blocks" "wear" "[I", Cond.fieldLink RX0 21 "WoodcutPress$Blocks" "lineBlock" "LWoodcutPress$Cells;"]
def wsX6_bestPins_r2 : List Cond := [Cond.static yX6_oneIf, Cond.code yX6_oneIf cX6_oneIf 1 (some .int), Cond.methodLink RX0 80 yX1_row, Cond.instanceMethod yX1_row, Cond.selects RX1 yX1_row yX1_row, Cond.initialized RX1, Cond.code yX1_row cX1_row 2 (some .int), Cond.fieldLink RX1 9 "WoodcutPress$Cells" "rows" "[I", Cond.methodLink RX0 84 yX1_putRow, Cond.instanceMethod yX1_putRow, Cond.selects RX1 yX1_putRow yX1_putRow, Cond.code yX1_putRow cX1_putRow 3 none, Cond.constant RX1 21 (65535), Cond.methodLink RX6 217 yX5_driftX, Cond.instanceMethod yX5_driftX, Cond.selects RX5 yX5_driftX yX5_driftX, Cond.code yX5_driftX cX5_driftX 1 (some .int), Cond.methodLink RX6 220 yX5_driftY, Cond.instanceMethod yX5_driftY, Cond.selects RX5 yX5_driftY yX5_driftY, Cond.code yX5_driftY cX5_driftY 1 (some .int), Cond.methodLink RX6 116 yX6_gapsWith, Cond.instanceMethod yX6_gapsWith, Cond.selects RX6 yX6_gapsWith yX6_gapsWith]
def wsX6_bestPins_r3 : List Cond := [Cond.code yX6_gapsWith cX6_gapsWith 3 (some .int), Cond.fieldLink RX6 66 "WoodcutPress$Blocks" "colourBlock" "LWoodcutPress$Cells;", Cond.methodLink RX6 229 yX0_gaps, Cond.instanceMethod yX0_gaps, Cond.selects RX0 yX0_gaps yX0_gaps, Cond.code yX0_gaps cX0_gaps 8 (some .int), Cond.fieldLink RX0 12 "WoodcutPress$Blocks" "colours" "LWoodcutPress$Cells;", Cond.fieldLink RX0 18 "WoodcutPress$Blocks" "lines" "LWoodcutPress$Cells;", Cond.methodLink RX0 88 yX1_shiftedRow, Cond.instanceMethod yX1_shiftedRow, Cond.selects RX1 yX1_shiftedRow yX1_shiftedRow, Cond.code yX1_shiftedRow cX1_shiftedRow 5 (some .int), Cond.methodLink RX1 32 yX1_row, Cond.methodLink RX0 92 yJ6_bitCount_0f7a4, Cond.static yJ6_bitCount_0f7a4, Cond.initialized RJ6, Cond.code yJ6_bitCount_0f7a4 cJ6_bitCount_0f7a4 1 (some .int), Cond.constant RJ6 265 (1431655765), Cond.constant RJ6 266 (858993459), Cond.constant RJ6 267 (252645135), Cond.methodLink RX6 202 yX6_spillsWith, Cond.instanceMethod yX6_spillsWith, Cond.selects RX6 yX6_spillsWith yX6_spillsWith, Cond.code yX6_spillsWith cX6_spillsWith 3 (some .int)]
def wsX6_bestPins_r4 : List Cond := [Cond.methodLink RX6 233 yX0_spills, Cond.instanceMethod yX0_spills, Cond.selects RX0 yX0_spills yX0_spills, Cond.code yX0_spills cX0_spills 7 (some .int)]
def wsX6_bestPins : List Cond := .code yX6_bestPins cX6_bestPins 10 (some .int) :: ((wsX6_bestPins_r1 ++ (wsX6_bestPins_r2 ++ (wsX6_bestPins_r3 ++ wsX6_bestPins_r4))) ++ wsX60 ++ wsX50 ++ wsX00 ++ wsX10)
def wsX6_printsLeft_r1 : List Cond := [Cond.fieldLink RX6 10 "WoodcutPress" "now" "LWoodcutPress$State;", Cond.fieldLink RX6 52 "WoodcutPress$State" "blocks" "LWoodcutPress$Blocks;", Cond.fieldLink RX6 33 "WoodcutPress" "ink" "LWoodcutPress$Cells;", Cond.methodLink RX6 107 yX6_findInk, Cond.instanceMethod yX6_findInk, Cond.selects RX6 yX6_findInk yX6_findInk, Cond.initialized RX6, Cond.code yX6_findInk cX6_findInk 1 none, Cond.methodLink RX6 91 yX5_hardness, Cond.instanceMethod yX5_hardness, Cond.selects RX5 yX5_hardness yX5_hardness, Cond.initialized RX5, Cond.code yX5_hardness cX5_hardness 1 (some .int), Cond.fieldLink RX5 18 "WoodcutPress$State" "settings" "[I", Cond.methodLink RX6 227 yX0_findInk, Cond.instanceMethod yX0_findInk, Cond.selects RX0 yX0_findInk yX0_findInk, Cond.initialized RX0, Cond.code yX0_findInk cX0_findInk 6 none, Cond.fieldLink RX0 27 "WoodcutPress$Blocks" "wear" "[I", Cond.fieldLink RX0 21 "WoodcutPress$Blocks" "lineBlock" "LWoodcutPress$Cells;", Cond.static yX6_oneIf, Cond.code yX6_oneIf cX6_oneIf 1 (some .int), Cond.methodLink RX0 80 yX1_row]
def wsX6_printsLeft_r2 : List Cond := [Cond.instanceMethod yX1_row, Cond.selects RX1 yX1_row yX1_row, Cond.initialized RX1, Cond.code yX1_row cX1_row 2 (some .int), Cond.fieldLink RX1 9 "WoodcutPress$Cells" "rows" "[I", Cond.methodLink RX0 84 yX1_putRow, Cond.instanceMethod yX1_putRow, Cond.selects RX1 yX1_putRow yX1_putRow, Cond.code yX1_putRow cX1_putRow 3 none, Cond.constant RX1 21 (65535), Cond.methodLink RX6 223 yX0_printsUntilWorn, Cond.instanceMethod yX0_printsUntilWorn, Cond.selects RX0 yX0_printsUntilWorn yX0_printsUntilWorn, Cond.code yX0_printsUntilWorn cX0_printsUntilWorn 7 (some .int), Cond.methodLink RX0 101 Lib.Math.min.name, Cond.static Lib.Math.min.name, Cond.initialized "java/lang/Math", Cond.code Lib.Math.min.name Lib.Math.min.code 2 (some .int), Cond.methodLink RX0 97 yX0_wearOfPrint, Cond.static yX0_wearOfPrint, Cond.code yX0_wearOfPrint cX0_wearOfPrint 3 (some .int), Cond.methodLink RX0 106 yX1_neighbors, Cond.instanceMethod yX1_neighbors, Cond.selects RX1 yX1_neighbors yX1_neighbors]
def wsX6_printsLeft_r3 : List Cond := [Cond.code yX1_neighbors cX1_neighbors 3 (some .int), Cond.methodLink RX1 35 yX1_has, Cond.instanceMethod yX1_has, Cond.selects RX1 yX1_has yX1_has, Cond.code yX1_has cX1_has 3 (some .boolean), Cond.static yX6_isPlace, Cond.code yX6_isPlace cX6_isPlace 2 (some .boolean), Cond.methodLink RX0 41 yX1_has]
def wsX6_printsLeft : List Cond := .code yX6_printsLeft cX6_printsLeft 2 (some .int) :: ((wsX6_printsLeft_r1 ++ (wsX6_printsLeft_r2 ++ wsX6_printsLeft_r3)) ++ wsX60 ++ wsX50 ++ wsX00 ++ wsX10)
def wsX7_init : List Cond := .code yX7_init cX7_init 1 none :: ([.methodLink RX7 1 objectInit, .instanceMethod objectInit, .code objectInit ⟨#[0xb1]⟩ 1 none, .arrayClass .int, .fieldLink RX7 7 "WoodcutPressModel" "s" "[I", .fieldLink RX7 13 "WoodcutPressModel" "saved" "[I", .fieldLink RX7 16 "WoodcutPressModel" "text" "[I", .fieldLink RX7 19 "WoodcutPressModel" "plate" "[I", .fieldLink RX7 22 "WoodcutPressModel" "steps" "[I", .fieldLink RX7 25 "WoodcutPressModel" "draft" "[I", .fieldLink RX7 28 "WoodcutPressModel" "thrown" "I"] ++ wsX70)
def wsX7_in : List Cond := .code yX7_in cX7_in 3 (some .boolean) :: ([])
def wsX7_isCell : List Cond := .code yX7_isCell cX7_isCell 2 (some .boolean) :: ([.methodLink RX7 32 yX7_in, .static yX7_in, .initialized RX7, .code yX7_in cX7_in 3 (some .boolean)])
def wsX7_isShift : List Cond := .code yX7_isShift cX7_isShift 2 (some .boolean) :: ([.methodLink RX7 32 yX7_in, .static yX7_in, .initialized RX7, .code yX7_in cX7_in 3 (some .boolean)])
def wsX7_act : List Cond := .code yX7_act cX7_act 2 none :: ([.fieldLink RX7 36 "WoodcutPressModel" "savedMany" "I", .fieldLink RX7 13 "WoodcutPressModel" "saved" "[I", .fieldLink RX7 7 "WoodcutPressModel" "s" "[I"] ++ wsX70)
def wsX7_many : List Cond := .code yX7_many cX7_many 5 (some .int) :: ([.fieldLink RX7 7 "WoodcutPressModel" "s" "[I"] ++ wsX70)
def wsX7_inked : List Cond := .code yX7_inked cX7_inked 1 (some .int) :: ([.methodLink RX7 39 yX7_many, .instanceMethod yX7_many, .selects RX7 yX7_many yX7_many, .initialized RX7, .code yX7_many cX7_many 5 (some .int), .fieldLink RX7 7 "WoodcutPressModel" "s" "[I"] ++ wsX70)
def wsX7_isWorn : List Cond := .code yX7_isWorn cX7_isWorn 2 (some .boolean) :: ([.fieldLink RX7 7 "WoodcutPressModel" "s" "[I"] ++ wsX70)
def wsX7_wornCells : List Cond := .code yX7_wornCells cX7_wornCells 3 (some .int) :: ([.methodLink RX7 43 yX7_isWorn, .instanceMethod yX7_isWorn, .selects RX7 yX7_isWorn yX7_isWorn, .initialized RX7, .code yX7_isWorn cX7_isWorn 2 (some .boolean), .fieldLink RX7 7 "WoodcutPressModel" "s" "[I"] ++ wsX70)
def wsX7_beside : List Cond := .code yX7_beside cX7_beside 4 (some .int) :: ([.methodLink RX7 47 yX7_isCell, .static yX7_isCell, .initialized RX7, .code yX7_isCell cX7_isCell 2 (some .boolean), .methodLink RX7 32 yX7_in, .static yX7_in, .code yX7_in cX7_in 3 (some .boolean)])
def wsX7_isNextTo : List Cond := .code yX7_isNextTo cX7_isNextTo 6 (some .boolean) :: ([.fieldLink RX7 22 "WoodcutPressModel" "steps" "[I", .methodLink RX7 51 yX7_beside, .static yX7_beside, .initialized RX7, .code yX7_beside cX7_beside 4 (some .int), .methodLink RX7 47 yX7_isCell, .static yX7_isCell, .code yX7_isCell cX7_isCell 2 (some .boolean), .methodLink RX7 32 yX7_in, .static yX7_in, .code yX7_in cX7_in 3 (some .boolean)] ++ wsX70)
def wsX7_measure : List Cond := .code yX7_measure cX7_measure 4 none :: ([.fieldLink RX7 22 "WoodcutPressModel" "steps" "[I", .fieldLink RX7 7 "WoodcutPressModel" "s" "[I", .methodLink RX7 54 yX7_isNextTo, .instanceMethod yX7_isNextTo, .selects RX7 yX7_isNextTo yX7_isNextTo, .initialized RX7, .code yX7_isNextTo cX7_isNextTo 6 (some .boolean), .methodLink RX7 51 yX7_beside, .static yX7_beside, .code yX7_beside cX7_beside 4 (some .int), .methodLink RX7 47 yX7_isCell, .static yX7_isCell, .code yX7_isCell cX7_isCell 2 (some .boolean), .methodLink RX7 32 yX7_in, .static yX7_in, .code yX7_in cX7_in 3 (some .boolean)] ++ wsX70)
def wsX7_lay : List Cond := .code yX7_lay cX7_lay 2 none :: ([.fieldLink RX7 19 "WoodcutPressModel" "plate" "[I", .fieldLink RX7 7 "WoodcutPressModel" "s" "[I", .methodLink RX7 43 yX7_isWorn, .instanceMethod yX7_isWorn, .selects RX7 yX7_isWorn yX7_isWorn, .initialized RX7, .code yX7_isWorn cX7_isWorn 2 (some .boolean)] ++ wsX70)
def wsX7_layCut : List Cond := .code yX7_layCut cX7_layCut 3 none :: ([.fieldLink RX7 19 "WoodcutPressModel" "plate" "[I", .fieldLink RX7 7 "WoodcutPressModel" "s" "[I", .fieldLink RX7 22 "WoodcutPressModel" "steps" "[I"] ++ wsX70)
def wsX7_isTinted : List Cond := .code yX7_isTinted cX7_isTinted 5 (some .boolean) :: ([.fieldLink RX7 19 "WoodcutPressModel" "plate" "[I", .methodLink RX7 47 yX7_isCell, .static yX7_isCell, .initialized RX7, .code yX7_isCell cX7_isCell 2 (some .boolean), .methodLink RX7 32 yX7_in, .static yX7_in, .code yX7_in cX7_in 3 (some .boolean)] ++ wsX70)
def wsX7_look : List Cond := .code yX7_look cX7_look 5 (some .int) :: ([.fieldLink RX7 19 "WoodcutPressModel" "plate" "[I", .methodLink RX7 57 yX7_isTinted, .instanceMethod yX7_isTinted, .selects RX7 yX7_isTinted yX7_isTinted, .initialized RX7, .code yX7_isTinted cX7_isTinted 5 (some .boolean), .methodLink RX7 47 yX7_isCell, .static yX7_isCell, .code yX7_isCell cX7_isCell 2 (some .boolean), .methodLink RX7 32 yX7_in, .static yX7_in, .code yX7_in cX7_in 3 (some .boolean)] ++ wsX70)
def wsX7_check : List Cond := .code yX7_check cX7_check 7 none :: ([.fieldLink RX7 61 "WoodcutPressModel" "gaps" "I", .fieldLink RX7 64 "WoodcutPressModel" "spills" "I", .fieldLink RX7 67 "WoodcutPressModel" "lost" "I", .fieldLink RX7 7 "WoodcutPressModel" "s" "[I", .methodLink RX7 70 yX7_look, .instanceMethod yX7_look, .selects RX7 yX7_look yX7_look, .initialized RX7, .code yX7_look cX7_look 5 (some .int), .fieldLink RX7 19 "WoodcutPressModel" "plate" "[I", .methodLink RX7 57 yX7_isTinted, .instanceMethod yX7_isTinted, .selects RX7 yX7_isTinted yX7_isTinted, .code yX7_isTinted cX7_isTinted 5 (some .boolean), .methodLink RX7 47 yX7_isCell, .static yX7_isCell, .code yX7_isCell cX7_isCell 2 (some .boolean), .methodLink RX7 32 yX7_in, .static yX7_in, .code yX7_in cX7_in 3 (some .boolean)] ++ wsX70)
def wsX7_hasGapsWithin : List Cond := .code yX7_hasGapsWithin cX7_hasGapsWithin 4 (some .boolean) :: ([.fieldLink RX7 61 "WoodcutPressModel" "gaps" "I", .methodLink RX7 74 yX7_check, .instanceMethod yX7_check, .selects RX7 yX7_check yX7_check, .initialized RX7, .code yX7_check cX7_check 7 none, .fieldLink RX7 64 "WoodcutPressModel" "spills" "I", .fieldLink RX7 67 "WoodcutPressModel" "lost" "I", .fieldLink RX7 7 "WoodcutPressModel" "s" "[I", .methodLink RX7 70 yX7_look, .instanceMethod yX7_look, .selects RX7 yX7_look yX7_look, .code yX7_look cX7_look 5 (some .int), .fieldLink RX7 19 "WoodcutPressModel" "plate" "[I", .methodLink RX7 57 yX7_isTinted, .instanceMethod yX7_isTinted, .selects RX7 yX7_isTinted yX7_isTinted, .code yX7_isTinted cX7_isTinted 5 (some .boolean), .methodLink RX7 47 yX7_isCell, .static yX7_isCell, .code yX7_isCell cX7_isCell 2 (some .boolean), .methodLink RX7 32 yX7_in, .static yX7_in, .code yX7_in cX7_in 3 (some .boolean)] ++ wsX70)
def wsX7_shiftX : List Cond := .code yX7_shiftX cX7_shiftX 2 (some .int) :: ([.fieldLink RX7 7 "WoodcutPressModel" "s" "[I"] ++ wsX70)
def wsX7_shiftY : List Cond := .code yX7_shiftY cX7_shiftY 2 (some .int) :: ([.fieldLink RX7 7 "WoodcutPressModel" "s" "[I"] ++ wsX70)
def wsX7_checkNow_r1 : List Cond := [Cond.fieldLink RX7 7 "WoodcutPressModel" "s" "[I", Cond.methodLink RX7 78 yX7_lay, Cond.instanceMethod yX7_lay, Cond.selects RX7 yX7_lay yX7_lay, Cond.initialized RX7, Cond.code yX7_lay cX7_lay 2 none, Cond.fieldLink RX7 19 "WoodcutPressModel" "plate" "[I", Cond.methodLink RX7 43 yX7_isWorn, Cond.instanceMethod yX7_isWorn, Cond.selects RX7 yX7_isWorn yX7_isWorn, Cond.code yX7_isWorn cX7_isWorn 2 (some .boolean), Cond.methodLink RX7 81 yX7_shiftX, Cond.instanceMethod yX7_shiftX, Cond.selects RX7 yX7_shiftX yX7_shiftX, Cond.code yX7_shiftX cX7_shiftX 2 (some .int), Cond.methodLink RX7 85 yX7_shiftY, Cond.instanceMethod yX7_shiftY, Cond.selects RX7 yX7_shiftY yX7_shiftY, Cond.code yX7_shiftY cX7_shiftY 2 (some .int), Cond.methodLink RX7 74 yX7_check, Cond.instanceMethod yX7_check, Cond.selects RX7 yX7_check yX7_check, Cond.code yX7_check cX7_check 7 none, Cond.fieldLink RX7 61 "WoodcutPressModel" "gaps" "I"]
def wsX7_checkNow_r2 : List Cond := [Cond.fieldLink RX7 64 "WoodcutPressModel" "spills" "I", Cond.fieldLink RX7 67 "WoodcutPressModel" "lost" "I", Cond.methodLink RX7 70 yX7_look, Cond.instanceMethod yX7_look, Cond.selects RX7 yX7_look yX7_look, Cond.code yX7_look cX7_look 5 (some .int), Cond.methodLink RX7 57 yX7_isTinted, Cond.instanceMethod yX7_isTinted, Cond.selects RX7 yX7_isTinted yX7_isTinted, Cond.code yX7_isTinted cX7_isTinted 5 (some .boolean), Cond.methodLink RX7 47 yX7_isCell, Cond.static yX7_isCell, Cond.code yX7_isCell cX7_isCell 2 (some .boolean), Cond.methodLink RX7 32 yX7_in, Cond.static yX7_in, Cond.code yX7_in cX7_in 3 (some .boolean)]
def wsX7_checkNow : List Cond := .code yX7_checkNow cX7_checkNow 1 none :: ((wsX7_checkNow_r1 ++ wsX7_checkNow_r2) ++ wsX70)
def wsX7_paint : List Cond := .code yX7_paint cX7_paint 10 (some .int) :: ([.fieldLink RX7 28 "WoodcutPressModel" "thrown" "I", .fieldLink RX7 7 "WoodcutPressModel" "s" "[I", .methodLink RX7 47 yX7_isCell, .static yX7_isCell, .initialized RX7, .code yX7_isCell cX7_isCell 2 (some .boolean), .methodLink RX7 32 yX7_in, .static yX7_in, .code yX7_in cX7_in 3 (some .boolean), .methodLink RX7 88 yX7_act, .instanceMethod yX7_act, .selects RX7 yX7_act yX7_act, .code yX7_act cX7_act 2 none, .fieldLink RX7 36 "WoodcutPressModel" "savedMany" "I", .fieldLink RX7 13 "WoodcutPressModel" "saved" "[I"] ++ wsX70)
def wsX7_cut_r1 : List Cond := [Cond.fieldLink RX7 28 "WoodcutPressModel" "thrown" "I", Cond.fieldLink RX7 7 "WoodcutPressModel" "s" "[I", Cond.fieldLink RX7 19 "WoodcutPressModel" "plate" "[I", Cond.methodLink RX7 32 yX7_in, Cond.static yX7_in, Cond.initialized RX7, Cond.code yX7_in cX7_in 3 (some .boolean), Cond.methodLink RX7 88 yX7_act, Cond.instanceMethod yX7_act, Cond.selects RX7 yX7_act yX7_act, Cond.code yX7_act cX7_act 2 none, Cond.fieldLink RX7 36 "WoodcutPressModel" "savedMany" "I", Cond.fieldLink RX7 13 "WoodcutPressModel" "saved" "[I", Cond.methodLink RX7 91 yX7_measure, Cond.instanceMethod yX7_measure, Cond.selects RX7 yX7_measure yX7_measure, Cond.code yX7_measure cX7_measure 4 none, Cond.fieldLink RX7 22 "WoodcutPressModel" "steps" "[I", Cond.methodLink RX7 54 yX7_isNextTo, Cond.instanceMethod yX7_isNextTo, Cond.selects RX7 yX7_isNextTo yX7_isNextTo, Cond.code yX7_isNextTo cX7_isNextTo 6 (some .boolean), Cond.methodLink RX7 51 yX7_beside, Cond.static yX7_beside]
def wsX7_cut_r2 : List Cond := [Cond.code yX7_beside cX7_beside 4 (some .int), Cond.methodLink RX7 47 yX7_isCell, Cond.static yX7_isCell, Cond.code yX7_isCell cX7_isCell 2 (some .boolean), Cond.methodLink RX7 94 yX7_layCut, Cond.instanceMethod yX7_layCut, Cond.selects RX7 yX7_layCut yX7_layCut, Cond.code yX7_layCut cX7_layCut 3 none, Cond.methodLink RX7 39 yX7_many, Cond.instanceMethod yX7_many, Cond.selects RX7 yX7_many yX7_many, Cond.code yX7_many cX7_many 5 (some .int)]
def wsX7_cut : List Cond := .code yX7_cut cX7_cut 3 (some .int) :: ((wsX7_cut_r1 ++ wsX7_cut_r2) ++ wsX70)
def wsX7_carve : List Cond := .code yX7_carve cX7_carve 7 (some .int) :: ([.fieldLink RX7 28 "WoodcutPressModel" "thrown" "I", .fieldLink RX7 7 "WoodcutPressModel" "s" "[I", .methodLink RX7 32 yX7_in, .static yX7_in, .initialized RX7, .code yX7_in cX7_in 3 (some .boolean), .methodLink RX7 47 yX7_isCell, .static yX7_isCell, .code yX7_isCell cX7_isCell 2 (some .boolean), .methodLink RX7 88 yX7_act, .instanceMethod yX7_act, .selects RX7 yX7_act yX7_act, .code yX7_act cX7_act 2 none, .fieldLink RX7 36 "WoodcutPressModel" "savedMany" "I", .fieldLink RX7 13 "WoodcutPressModel" "saved" "[I"] ++ wsX70)
def wsX7_plug : List Cond := .code yX7_plug cX7_plug 3 (some .int) :: ([.fieldLink RX7 28 "WoodcutPressModel" "thrown" "I", .fieldLink RX7 7 "WoodcutPressModel" "s" "[I", .methodLink RX7 47 yX7_isCell, .static yX7_isCell, .initialized RX7, .code yX7_isCell cX7_isCell 2 (some .boolean), .methodLink RX7 32 yX7_in, .static yX7_in, .code yX7_in cX7_in 3 (some .boolean), .methodLink RX7 43 yX7_isWorn, .instanceMethod yX7_isWorn, .selects RX7 yX7_isWorn yX7_isWorn, .code yX7_isWorn cX7_isWorn 2 (some .boolean), .methodLink RX7 88 yX7_act, .instanceMethod yX7_act, .selects RX7 yX7_act yX7_act, .code yX7_act cX7_act 2 none, .fieldLink RX7 36 "WoodcutPressModel" "savedMany" "I", .fieldLink RX7 13 "WoodcutPressModel" "saved" "[I", .methodLink RX7 98 yX7_wornCells, .instanceMethod yX7_wornCells, .selects RX7 yX7_wornCells yX7_wornCells, .code yX7_wornCells cX7_wornCells 3 (some .int)] ++ wsX70)
def wsX7_setPins_r1 : List Cond := [Cond.fieldLink RX7 28 "WoodcutPressModel" "thrown" "I", Cond.fieldLink RX7 7 "WoodcutPressModel" "s" "[I", Cond.fieldLink RX7 61 "WoodcutPressModel" "gaps" "I", Cond.methodLink RX7 32 yX7_in, Cond.static yX7_in, Cond.initialized RX7, Cond.code yX7_in cX7_in 3 (some .boolean), Cond.methodLink RX7 88 yX7_act, Cond.instanceMethod yX7_act, Cond.selects RX7 yX7_act yX7_act, Cond.code yX7_act cX7_act 2 none, Cond.fieldLink RX7 36 "WoodcutPressModel" "savedMany" "I", Cond.fieldLink RX7 13 "WoodcutPressModel" "saved" "[I", Cond.methodLink RX7 102 yX7_checkNow, Cond.instanceMethod yX7_checkNow, Cond.selects RX7 yX7_checkNow yX7_checkNow, Cond.code yX7_checkNow cX7_checkNow 1 none, Cond.methodLink RX7 78 yX7_lay, Cond.instanceMethod yX7_lay, Cond.selects RX7 yX7_lay yX7_lay, Cond.code yX7_lay cX7_lay 2 none, Cond.fieldLink RX7 19 "WoodcutPressModel" "plate" "[I", Cond.methodLink RX7 43 yX7_isWorn, Cond.instanceMethod yX7_isWorn]
def wsX7_setPins_r2 : List Cond := [Cond.selects RX7 yX7_isWorn yX7_isWorn, Cond.code yX7_isWorn cX7_isWorn 2 (some .boolean), Cond.methodLink RX7 81 yX7_shiftX, Cond.instanceMethod yX7_shiftX, Cond.selects RX7 yX7_shiftX yX7_shiftX, Cond.code yX7_shiftX cX7_shiftX 2 (some .int), Cond.methodLink RX7 85 yX7_shiftY, Cond.instanceMethod yX7_shiftY, Cond.selects RX7 yX7_shiftY yX7_shiftY, Cond.code yX7_shiftY cX7_shiftY 2 (some .int), Cond.methodLink RX7 74 yX7_check, Cond.instanceMethod yX7_check, Cond.selects RX7 yX7_check yX7_check, Cond.code yX7_check cX7_check 7 none, Cond.fieldLink RX7 64 "WoodcutPressModel" "spills" "I", Cond.fieldLink RX7 67 "WoodcutPressModel" "lost" "I", Cond.methodLink RX7 70 yX7_look, Cond.instanceMethod yX7_look, Cond.selects RX7 yX7_look yX7_look, Cond.code yX7_look cX7_look 5 (some .int), Cond.methodLink RX7 57 yX7_isTinted, Cond.instanceMethod yX7_isTinted, Cond.selects RX7 yX7_isTinted yX7_isTinted, Cond.code yX7_isTinted cX7_isTinted 5 (some .boolean)]
def wsX7_setPins_r3 : List Cond := [Cond.methodLink RX7 47 yX7_isCell, Cond.static yX7_isCell, Cond.code yX7_isCell cX7_isCell 2 (some .boolean)]
def wsX7_setPins : List Cond := .code yX7_setPins cX7_setPins 3 (some .int) :: ((wsX7_setPins_r1 ++ (wsX7_setPins_r2 ++ wsX7_setPins_r3)) ++ wsX70)
def wsX7_isSetting : List Cond := .code yX7_isSetting cX7_isSetting 2 (some .boolean) :: ([.methodLink RX7 32 yX7_in, .static yX7_in, .initialized RX7, .code yX7_in cX7_in 3 (some .boolean)])
def wsX7_set : List Cond := .code yX7_set cX7_set 4 (some .int) :: ([.fieldLink RX7 28 "WoodcutPressModel" "thrown" "I", .fieldLink RX7 7 "WoodcutPressModel" "s" "[I", .methodLink RX7 105 yX7_isSetting, .static yX7_isSetting, .initialized RX7, .code yX7_isSetting cX7_isSetting 2 (some .boolean), .methodLink RX7 32 yX7_in, .static yX7_in, .code yX7_in cX7_in 3 (some .boolean), .methodLink RX7 88 yX7_act, .instanceMethod yX7_act, .selects RX7 yX7_act yX7_act, .code yX7_act cX7_act 2 none, .fieldLink RX7 36 "WoodcutPressModel" "savedMany" "I", .fieldLink RX7 13 "WoodcutPressModel" "saved" "[I"] ++ wsX70)
def wsX7_rubs : List Cond := .code yX7_rubs cX7_rubs 5 (some .int) :: ([.fieldLink RX7 19 "WoodcutPressModel" "plate" "[I", .methodLink RX7 51 yX7_beside, .static yX7_beside, .initialized RX7, .code yX7_beside cX7_beside 4 (some .int), .methodLink RX7 47 yX7_isCell, .static yX7_isCell, .code yX7_isCell cX7_isCell 2 (some .boolean), .methodLink RX7 32 yX7_in, .static yX7_in, .code yX7_in cX7_in 3 (some .boolean)] ++ wsX70)
def wsX7_printOne_r1 : List Cond := [Cond.fieldLink RX7 7 "WoodcutPressModel" "s" "[I", Cond.fieldLink RX7 61 "WoodcutPressModel" "gaps" "I", Cond.fieldLink RX7 64 "WoodcutPressModel" "spills" "I", Cond.fieldLink RX7 67 "WoodcutPressModel" "lost" "I", Cond.fieldLink RX7 19 "WoodcutPressModel" "plate" "[I", Cond.methodLink RX7 102 yX7_checkNow, Cond.instanceMethod yX7_checkNow, Cond.selects RX7 yX7_checkNow yX7_checkNow, Cond.initialized RX7, Cond.code yX7_checkNow cX7_checkNow 1 none, Cond.methodLink RX7 78 yX7_lay, Cond.instanceMethod yX7_lay, Cond.selects RX7 yX7_lay yX7_lay, Cond.code yX7_lay cX7_lay 2 none, Cond.methodLink RX7 43 yX7_isWorn, Cond.instanceMethod yX7_isWorn, Cond.selects RX7 yX7_isWorn yX7_isWorn, Cond.code yX7_isWorn cX7_isWorn 2 (some .boolean), Cond.methodLink RX7 81 yX7_shiftX, Cond.instanceMethod yX7_shiftX, Cond.selects RX7 yX7_shiftX yX7_shiftX, Cond.code yX7_shiftX cX7_shiftX 2 (some .int), Cond.methodLink RX7 85 yX7_shiftY, Cond.instanceMethod yX7_shiftY]
def wsX7_printOne_r2 : List Cond := [Cond.selects RX7 yX7_shiftY yX7_shiftY, Cond.code yX7_shiftY cX7_shiftY 2 (some .int), Cond.methodLink RX7 74 yX7_check, Cond.instanceMethod yX7_check, Cond.selects RX7 yX7_check yX7_check, Cond.code yX7_check cX7_check 7 none, Cond.methodLink RX7 70 yX7_look, Cond.instanceMethod yX7_look, Cond.selects RX7 yX7_look yX7_look, Cond.code yX7_look cX7_look 5 (some .int), Cond.methodLink RX7 57 yX7_isTinted, Cond.instanceMethod yX7_isTinted, Cond.selects RX7 yX7_isTinted yX7_isTinted, Cond.code yX7_isTinted cX7_isTinted 5 (some .boolean), Cond.methodLink RX7 47 yX7_isCell, Cond.static yX7_isCell, Cond.code yX7_isCell cX7_isCell 2 (some .boolean), Cond.methodLink RX7 32 yX7_in, Cond.static yX7_in, Cond.code yX7_in cX7_in 3 (some .boolean), Cond.methodLink RX7 108 yX7_rubs, Cond.instanceMethod yX7_rubs, Cond.selects RX7 yX7_rubs yX7_rubs, Cond.code yX7_rubs cX7_rubs 5 (some .int)]
def wsX7_printOne_r3 : List Cond := [Cond.methodLink RX7 51 yX7_beside, Cond.static yX7_beside, Cond.code yX7_beside cX7_beside 4 (some .int)]
def wsX7_printOne : List Cond := .code yX7_printOne cX7_printOne 3 none :: ((wsX7_printOne_r1 ++ (wsX7_printOne_r2 ++ wsX7_printOne_r3)) ++ wsX70)
def wsX7_print_r1 : List Cond := [Cond.fieldLink RX7 28 "WoodcutPressModel" "thrown" "I", Cond.fieldLink RX7 7 "WoodcutPressModel" "s" "[I", Cond.fieldLink RX7 61 "WoodcutPressModel" "gaps" "I", Cond.methodLink RX7 32 yX7_in, Cond.static yX7_in, Cond.initialized RX7, Cond.code yX7_in cX7_in 3 (some .boolean), Cond.methodLink RX7 88 yX7_act, Cond.instanceMethod yX7_act, Cond.selects RX7 yX7_act yX7_act, Cond.code yX7_act cX7_act 2 none, Cond.fieldLink RX7 36 "WoodcutPressModel" "savedMany" "I", Cond.fieldLink RX7 13 "WoodcutPressModel" "saved" "[I", Cond.methodLink RX7 111 yX7_printOne, Cond.instanceMethod yX7_printOne, Cond.selects RX7 yX7_printOne yX7_printOne, Cond.code yX7_printOne cX7_printOne 3 none, Cond.fieldLink RX7 64 "WoodcutPressModel" "spills" "I", Cond.fieldLink RX7 67 "WoodcutPressModel" "lost" "I", Cond.fieldLink RX7 19 "WoodcutPressModel" "plate" "[I", Cond.methodLink RX7 102 yX7_checkNow, Cond.instanceMethod yX7_checkNow, Cond.selects RX7 yX7_checkNow yX7_checkNow, Cond.code yX7_checkNow cX7_checkNow 1 none]
def wsX7_print_r2 : List Cond := [Cond.methodLink RX7 78 yX7_lay, Cond.instanceMethod yX7_lay, Cond.selects RX7 yX7_lay yX7_lay, Cond.code yX7_lay cX7_lay 2 none, Cond.methodLink RX7 43 yX7_isWorn, Cond.instanceMethod yX7_isWorn, Cond.selects RX7 yX7_isWorn yX7_isWorn, Cond.code yX7_isWorn cX7_isWorn 2 (some .boolean), Cond.methodLink RX7 81 yX7_shiftX, Cond.instanceMethod yX7_shiftX, Cond.selects RX7 yX7_shiftX yX7_shiftX, Cond.code yX7_shiftX cX7_shiftX 2 (some .int), Cond.methodLink RX7 85 yX7_shiftY, Cond.instanceMethod yX7_shiftY, Cond.selects RX7 yX7_shiftY yX7_shiftY, Cond.code yX7_shiftY cX7_shiftY 2 (some .int), Cond.methodLink RX7 74 yX7_check, Cond.instanceMethod yX7_check, Cond.selects RX7 yX7_check yX7_check, Cond.code yX7_check cX7_check 7 none, Cond.methodLink RX7 70 yX7_look, Cond.instanceMethod yX7_look, Cond.selects RX7 yX7_look yX7_look, Cond.code yX7_look cX7_look 5 (some .int)]
def wsX7_print_r3 : List Cond := [Cond.methodLink RX7 57 yX7_isTinted, Cond.instanceMethod yX7_isTinted, Cond.selects RX7 yX7_isTinted yX7_isTinted, Cond.code yX7_isTinted cX7_isTinted 5 (some .boolean), Cond.methodLink RX7 47 yX7_isCell, Cond.static yX7_isCell, Cond.code yX7_isCell cX7_isCell 2 (some .boolean), Cond.methodLink RX7 108 yX7_rubs, Cond.instanceMethod yX7_rubs, Cond.selects RX7 yX7_rubs yX7_rubs, Cond.code yX7_rubs cX7_rubs 5 (some .int), Cond.methodLink RX7 51 yX7_beside, Cond.static yX7_beside, Cond.code yX7_beside cX7_beside 4 (some .int)]
def wsX7_print : List Cond := .code yX7_print cX7_print 4 (some .int) :: ((wsX7_print_r1 ++ (wsX7_print_r2 ++ wsX7_print_r3)) ++ wsX70)
def wsX7_take : List Cond := .code yX7_take cX7_take 4 (some .int) :: ([.fieldLink RX7 28 "WoodcutPressModel" "thrown" "I", .fieldLink RX7 7 "WoodcutPressModel" "s" "[I", .methodLink RX7 32 yX7_in, .static yX7_in, .initialized RX7, .code yX7_in cX7_in 3 (some .boolean), .methodLink RX7 88 yX7_act, .instanceMethod yX7_act, .selects RX7 yX7_act yX7_act, .code yX7_act cX7_act 2 none, .fieldLink RX7 36 "WoodcutPressModel" "savedMany" "I", .fieldLink RX7 13 "WoodcutPressModel" "saved" "[I", .methodLink RX7 114 yX7_inked, .instanceMethod yX7_inked, .selects RX7 yX7_inked yX7_inked, .code yX7_inked cX7_inked 1 (some .int), .methodLink RX7 39 yX7_many, .instanceMethod yX7_many, .selects RX7 yX7_many yX7_many, .code yX7_many cX7_many 5 (some .int)] ++ wsX70)
def wsX7_restore : List Cond := .code yX7_restore cX7_restore 4 (some .int) :: ([.fieldLink RX7 28 "WoodcutPressModel" "thrown" "I", .fieldLink RX7 7 "WoodcutPressModel" "s" "[I", .methodLink RX7 32 yX7_in, .static yX7_in, .initialized RX7, .code yX7_in cX7_in 3 (some .boolean), .methodLink RX7 88 yX7_act, .instanceMethod yX7_act, .selects RX7 yX7_act yX7_act, .code yX7_act cX7_act 2 none, .fieldLink RX7 36 "WoodcutPressModel" "savedMany" "I", .fieldLink RX7 13 "WoodcutPressModel" "saved" "[I", .methodLink RX7 114 yX7_inked, .instanceMethod yX7_inked, .selects RX7 yX7_inked yX7_inked, .code yX7_inked cX7_inked 1 (some .int), .methodLink RX7 39 yX7_many, .instanceMethod yX7_many, .selects RX7 yX7_many yX7_many, .code yX7_many cX7_many 5 (some .int)] ++ wsX70)
def wsX7_undo : List Cond := .code yX7_undo cX7_undo 2 (some .int) :: ([.fieldLink RX7 28 "WoodcutPressModel" "thrown" "I", .fieldLink RX7 36 "WoodcutPressModel" "savedMany" "I", .fieldLink RX7 7 "WoodcutPressModel" "s" "[I", .fieldLink RX7 13 "WoodcutPressModel" "saved" "[I"] ++ wsX70)
def wsX7_append : List Cond := .code yX7_append cX7_append 2 (some .int) :: ([.fieldLink RX7 28 "WoodcutPressModel" "thrown" "I", .fieldLink RX7 117 "WoodcutPressModel" "length" "I", .fieldLink RX7 16 "WoodcutPressModel" "text" "[I", .methodLink RX7 32 yX7_in, .static yX7_in, .initialized RX7, .code yX7_in cX7_in 3 (some .boolean)] ++ wsX70)
def wsX7_clearText : List Cond := .code yX7_clearText cX7_clearText 2 (some .int) :: ([.fieldLink RX7 28 "WoodcutPressModel" "thrown" "I", .fieldLink RX7 117 "WoodcutPressModel" "length" "I"] ++ wsX70)
def wsX7_here : List Cond := .code yX7_here cX7_here 1 (some .int) :: ([.fieldLink RX7 120 "WoodcutPressModel" "at" "I", .fieldLink RX7 117 "WoodcutPressModel" "length" "I", .fieldLink RX7 16 "WoodcutPressModel" "text" "[I"] ++ wsX70)
def wsX7_isDigit : List Cond := .code yX7_isDigit cX7_isDigit 1 (some .boolean) :: ([.methodLink RX7 123 yX7_here, .instanceMethod yX7_here, .selects RX7 yX7_here yX7_here, .initialized RX7, .code yX7_here cX7_here 1 (some .int), .fieldLink RX7 120 "WoodcutPressModel" "at" "I", .fieldLink RX7 117 "WoodcutPressModel" "length" "I", .fieldLink RX7 16 "WoodcutPressModel" "text" "[I", .methodLink RX7 32 yX7_in, .static yX7_in, .code yX7_in cX7_in 3 (some .boolean)] ++ wsX70)
def wsX7_isWell : List Cond := .code yX7_isWell cX7_isWell 1 (some .boolean) :: ([.fieldLink RX7 126 "WoodcutPressModel" "wrong" "I"] ++ wsX70)
def wsX7_skip : List Cond := .code yX7_skip cX7_skip 1 none :: ([.fieldLink RX7 120 "WoodcutPressModel" "at" "I", .methodLink RX7 123 yX7_here, .instanceMethod yX7_here, .selects RX7 yX7_here yX7_here, .initialized RX7, .code yX7_here cX7_here 1 (some .int), .fieldLink RX7 117 "WoodcutPressModel" "length" "I", .fieldLink RX7 16 "WoodcutPressModel" "text" "[I"] ++ wsX70)
def wsX7_fail : List Cond := .code yX7_fail cX7_fail 2 none :: ([.fieldLink RX7 126 "WoodcutPressModel" "wrong" "I"] ++ wsX70)
def wsX7_number : List Cond := .code yX7_number cX7_number 6 (some .int) :: ([.fieldLink RX7 120 "WoodcutPressModel" "at" "I", .fieldLink RX7 16 "WoodcutPressModel" "text" "[I", .methodLink RX7 129 yX7_isDigit, .instanceMethod yX7_isDigit, .selects RX7 yX7_isDigit yX7_isDigit, .initialized RX7, .code yX7_isDigit cX7_isDigit 1 (some .boolean), .methodLink RX7 123 yX7_here, .instanceMethod yX7_here, .selects RX7 yX7_here yX7_here, .code yX7_here cX7_here 1 (some .int), .fieldLink RX7 117 "WoodcutPressModel" "length" "I", .methodLink RX7 32 yX7_in, .static yX7_in, .code yX7_in cX7_in 3 (some .boolean), .methodLink RX7 133 yX7_fail, .instanceMethod yX7_fail, .selects RX7 yX7_fail yX7_fail, .code yX7_fail cX7_fail 2 none, .fieldLink RX7 126 "WoodcutPressModel" "wrong" "I", .methodLink RX7 136 yX7_skip, .instanceMethod yX7_skip, .selects RX7 yX7_skip yX7_skip, .code yX7_skip cX7_skip 1 none] ++ wsX70)
def wsX7_expect : List Cond := .code yX7_expect cX7_expect 2 none :: ([.fieldLink RX7 120 "WoodcutPressModel" "at" "I", .methodLink RX7 139 yX7_isWell, .instanceMethod yX7_isWell, .selects RX7 yX7_isWell yX7_isWell, .initialized RX7, .code yX7_isWell cX7_isWell 1 (some .boolean), .fieldLink RX7 126 "WoodcutPressModel" "wrong" "I", .methodLink RX7 123 yX7_here, .instanceMethod yX7_here, .selects RX7 yX7_here yX7_here, .code yX7_here cX7_here 1 (some .int), .fieldLink RX7 117 "WoodcutPressModel" "length" "I", .fieldLink RX7 16 "WoodcutPressModel" "text" "[I", .methodLink RX7 133 yX7_fail, .instanceMethod yX7_fail, .selects RX7 yX7_fail yX7_fail, .code yX7_fail cX7_fail 2 none, .methodLink RX7 136 yX7_skip, .instanceMethod yX7_skip, .selects RX7 yX7_skip yX7_skip, .code yX7_skip cX7_skip 1 none] ++ wsX70)
def wsX7_kind : List Cond := .code yX7_kind cX7_kind 3 (some .int) :: ([.fieldLink RX7 120 "WoodcutPressModel" "at" "I", .methodLink RX7 123 yX7_here, .instanceMethod yX7_here, .selects RX7 yX7_here yX7_here, .initialized RX7, .code yX7_here cX7_here 1 (some .int), .fieldLink RX7 117 "WoodcutPressModel" "length" "I", .fieldLink RX7 16 "WoodcutPressModel" "text" "[I", .methodLink RX7 133 yX7_fail, .instanceMethod yX7_fail, .selects RX7 yX7_fail yX7_fail, .code yX7_fail cX7_fail 2 none, .fieldLink RX7 126 "WoodcutPressModel" "wrong" "I", .methodLink RX7 136 yX7_skip, .instanceMethod yX7_skip, .selects RX7 yX7_skip yX7_skip, .code yX7_skip cX7_skip 1 none] ++ wsX70)
def wsX7_readRun_r1 : List Cond := [Cond.fieldLink RX7 120 "WoodcutPressModel" "at" "I", Cond.fieldLink RX7 25 "WoodcutPressModel" "draft" "[I", Cond.fieldLink RX7 148 "WoodcutPressModel" "read" "I", Cond.methodLink RX7 142 yX7_number, Cond.instanceMethod yX7_number, Cond.selects RX7 yX7_number yX7_number, Cond.initialized RX7, Cond.code yX7_number cX7_number 6 (some .int), Cond.fieldLink RX7 16 "WoodcutPressModel" "text" "[I", Cond.methodLink RX7 129 yX7_isDigit, Cond.instanceMethod yX7_isDigit, Cond.selects RX7 yX7_isDigit yX7_isDigit, Cond.code yX7_isDigit cX7_isDigit 1 (some .boolean), Cond.methodLink RX7 123 yX7_here, Cond.instanceMethod yX7_here, Cond.selects RX7 yX7_here yX7_here, Cond.code yX7_here cX7_here 1 (some .int), Cond.fieldLink RX7 117 "WoodcutPressModel" "length" "I", Cond.methodLink RX7 32 yX7_in, Cond.static yX7_in, Cond.code yX7_in cX7_in 3 (some .boolean), Cond.methodLink RX7 133 yX7_fail, Cond.instanceMethod yX7_fail, Cond.selects RX7 yX7_fail yX7_fail]
def wsX7_readRun_r2 : List Cond := [Cond.code yX7_fail cX7_fail 2 none, Cond.fieldLink RX7 126 "WoodcutPressModel" "wrong" "I", Cond.methodLink RX7 136 yX7_skip, Cond.instanceMethod yX7_skip, Cond.selects RX7 yX7_skip yX7_skip, Cond.code yX7_skip cX7_skip 1 none, Cond.methodLink RX7 139 yX7_isWell, Cond.instanceMethod yX7_isWell, Cond.selects RX7 yX7_isWell yX7_isWell, Cond.code yX7_isWell cX7_isWell 1 (some .boolean), Cond.methodLink RX7 145 yX7_kind, Cond.instanceMethod yX7_kind, Cond.selects RX7 yX7_kind yX7_kind, Cond.code yX7_kind cX7_kind 3 (some .int)]
def wsX7_readRun : List Cond := .code yX7_readRun cX7_readRun 7 none :: ((wsX7_readRun_r1 ++ wsX7_readRun_r2) ++ wsX70)
def wsX7_readRow_r1 : List Cond := [Cond.fieldLink RX7 148 "WoodcutPressModel" "read" "I", Cond.fieldLink RX7 120 "WoodcutPressModel" "at" "I", Cond.methodLink RX7 142 yX7_number, Cond.instanceMethod yX7_number, Cond.selects RX7 yX7_number yX7_number, Cond.initialized RX7, Cond.code yX7_number cX7_number 6 (some .int), Cond.fieldLink RX7 16 "WoodcutPressModel" "text" "[I", Cond.methodLink RX7 129 yX7_isDigit, Cond.instanceMethod yX7_isDigit, Cond.selects RX7 yX7_isDigit yX7_isDigit, Cond.code yX7_isDigit cX7_isDigit 1 (some .boolean), Cond.methodLink RX7 123 yX7_here, Cond.instanceMethod yX7_here, Cond.selects RX7 yX7_here yX7_here, Cond.code yX7_here cX7_here 1 (some .int), Cond.fieldLink RX7 117 "WoodcutPressModel" "length" "I", Cond.methodLink RX7 32 yX7_in, Cond.static yX7_in, Cond.code yX7_in cX7_in 3 (some .boolean), Cond.methodLink RX7 133 yX7_fail, Cond.instanceMethod yX7_fail, Cond.selects RX7 yX7_fail yX7_fail, Cond.code yX7_fail cX7_fail 2 none]
def wsX7_readRow_r2 : List Cond := [Cond.fieldLink RX7 126 "WoodcutPressModel" "wrong" "I", Cond.methodLink RX7 136 yX7_skip, Cond.instanceMethod yX7_skip, Cond.selects RX7 yX7_skip yX7_skip, Cond.code yX7_skip cX7_skip 1 none, Cond.methodLink RX7 151 yX7_expect, Cond.instanceMethod yX7_expect, Cond.selects RX7 yX7_expect yX7_expect, Cond.code yX7_expect cX7_expect 2 none, Cond.methodLink RX7 139 yX7_isWell, Cond.instanceMethod yX7_isWell, Cond.selects RX7 yX7_isWell yX7_isWell, Cond.code yX7_isWell cX7_isWell 1 (some .boolean), Cond.methodLink RX7 154 yX7_readRun, Cond.instanceMethod yX7_readRun, Cond.selects RX7 yX7_readRun yX7_readRun, Cond.code yX7_readRun cX7_readRun 7 none, Cond.fieldLink RX7 25 "WoodcutPressModel" "draft" "[I", Cond.methodLink RX7 145 yX7_kind, Cond.instanceMethod yX7_kind, Cond.selects RX7 yX7_kind yX7_kind, Cond.code yX7_kind cX7_kind 3 (some .int)]
def wsX7_readRow : List Cond := .code yX7_readRow cX7_readRow 2 none :: ((wsX7_readRow_r1 ++ wsX7_readRow_r2) ++ wsX70)
def wsX7_load_r1 : List Cond := [Cond.fieldLink RX7 28 "WoodcutPressModel" "thrown" "I", Cond.fieldLink RX7 25 "WoodcutPressModel" "draft" "[I", Cond.fieldLink RX7 7 "WoodcutPressModel" "s" "[I", Cond.fieldLink RX7 120 "WoodcutPressModel" "at" "I", Cond.fieldLink RX7 126 "WoodcutPressModel" "wrong" "I", Cond.fieldLink RX7 117 "WoodcutPressModel" "length" "I", Cond.methodLink RX7 136 yX7_skip, Cond.instanceMethod yX7_skip, Cond.selects RX7 yX7_skip yX7_skip, Cond.initialized RX7, Cond.code yX7_skip cX7_skip 1 none, Cond.methodLink RX7 123 yX7_here, Cond.instanceMethod yX7_here, Cond.selects RX7 yX7_here yX7_here, Cond.code yX7_here cX7_here 1 (some .int), Cond.fieldLink RX7 16 "WoodcutPressModel" "text" "[I", Cond.methodLink RX7 139 yX7_isWell, Cond.instanceMethod yX7_isWell, Cond.selects RX7 yX7_isWell yX7_isWell, Cond.code yX7_isWell cX7_isWell 1 (some .boolean), Cond.methodLink RX7 157 yX7_readRow, Cond.instanceMethod yX7_readRow, Cond.selects RX7 yX7_readRow yX7_readRow, Cond.code yX7_readRow cX7_readRow 2 none]
def wsX7_load_r2 : List Cond := [Cond.fieldLink RX7 148 "WoodcutPressModel" "read" "I", Cond.methodLink RX7 142 yX7_number, Cond.instanceMethod yX7_number, Cond.selects RX7 yX7_number yX7_number, Cond.code yX7_number cX7_number 6 (some .int), Cond.methodLink RX7 129 yX7_isDigit, Cond.instanceMethod yX7_isDigit, Cond.selects RX7 yX7_isDigit yX7_isDigit, Cond.code yX7_isDigit cX7_isDigit 1 (some .boolean), Cond.methodLink RX7 32 yX7_in, Cond.static yX7_in, Cond.code yX7_in cX7_in 3 (some .boolean), Cond.methodLink RX7 133 yX7_fail, Cond.instanceMethod yX7_fail, Cond.selects RX7 yX7_fail yX7_fail, Cond.code yX7_fail cX7_fail 2 none, Cond.methodLink RX7 151 yX7_expect, Cond.instanceMethod yX7_expect, Cond.selects RX7 yX7_expect yX7_expect, Cond.code yX7_expect cX7_expect 2 none, Cond.methodLink RX7 154 yX7_readRun, Cond.instanceMethod yX7_readRun, Cond.selects RX7 yX7_readRun yX7_readRun, Cond.code yX7_readRun cX7_readRun 7 none]
def wsX7_load_r3 : List Cond := [Cond.methodLink RX7 145 yX7_kind, Cond.instanceMethod yX7_kind, Cond.selects RX7 yX7_kind yX7_kind, Cond.code yX7_kind cX7_kind 3 (some .int), Cond.methodLink RX7 88 yX7_act, Cond.instanceMethod yX7_act, Cond.selects RX7 yX7_act yX7_act, Cond.code yX7_act cX7_act 2 none, Cond.fieldLink RX7 36 "WoodcutPressModel" "savedMany" "I", Cond.fieldLink RX7 13 "WoodcutPressModel" "saved" "[I"]
def wsX7_load : List Cond := .code yX7_load cX7_load 3 (some .int) :: ((wsX7_load_r1 ++ (wsX7_load_r2 ++ wsX7_load_r3)) ++ wsX70)
def wsX7_count_r1 : List Cond := [Cond.fieldLink RX7 28 "WoodcutPressModel" "thrown" "I", Cond.fieldLink RX7 7 "WoodcutPressModel" "s" "[I", Cond.fieldLink RX7 36 "WoodcutPressModel" "savedMany" "I", Cond.fieldLink RX7 117 "WoodcutPressModel" "length" "I", Cond.methodLink RX7 81 yX7_shiftX, Cond.instanceMethod yX7_shiftX, Cond.selects RX7 yX7_shiftX yX7_shiftX, Cond.initialized RX7, Cond.code yX7_shiftX cX7_shiftX 2 (some .int), Cond.methodLink RX7 85 yX7_shiftY, Cond.instanceMethod yX7_shiftY, Cond.selects RX7 yX7_shiftY yX7_shiftY, Cond.code yX7_shiftY cX7_shiftY 2 (some .int), Cond.methodLink RX7 39 yX7_many, Cond.instanceMethod yX7_many, Cond.selects RX7 yX7_many yX7_many, Cond.code yX7_many cX7_many 5 (some .int), Cond.methodLink RX7 98 yX7_wornCells, Cond.instanceMethod yX7_wornCells, Cond.selects RX7 yX7_wornCells yX7_wornCells, Cond.code yX7_wornCells cX7_wornCells 3 (some .int), Cond.methodLink RX7 43 yX7_isWorn, Cond.instanceMethod yX7_isWorn, Cond.selects RX7 yX7_isWorn yX7_isWorn]
def wsX7_count_r2 : List Cond := [Cond.code yX7_isWorn cX7_isWorn 2 (some .boolean)]
def wsX7_count : List Cond := .code yX7_count cX7_count 2 (some .int) :: ((wsX7_count_r1 ++ wsX7_count_r2) ++ wsX70)
def wsX7_cell : List Cond := .code yX7_cell cX7_cell 5 (some .int) :: ([.fieldLink RX7 28 "WoodcutPressModel" "thrown" "I", .fieldLink RX7 7 "WoodcutPressModel" "s" "[I", .methodLink RX7 47 yX7_isCell, .static yX7_isCell, .initialized RX7, .code yX7_isCell cX7_isCell 2 (some .boolean), .methodLink RX7 32 yX7_in, .static yX7_in, .code yX7_in cX7_in 3 (some .boolean), .methodLink RX7 43 yX7_isWorn, .instanceMethod yX7_isWorn, .selects RX7 yX7_isWorn yX7_isWorn, .code yX7_isWorn cX7_isWorn 2 (some .boolean)] ++ wsX70)
def wsX7_printed_r1 : List Cond := [Cond.fieldLink RX7 28 "WoodcutPressModel" "thrown" "I", Cond.methodLink RX7 47 yX7_isCell, Cond.static yX7_isCell, Cond.initialized RX7, Cond.code yX7_isCell cX7_isCell 2 (some .boolean), Cond.methodLink RX7 32 yX7_in, Cond.static yX7_in, Cond.code yX7_in cX7_in 3 (some .boolean), Cond.methodLink RX7 160 yX7_isShift, Cond.static yX7_isShift, Cond.code yX7_isShift cX7_isShift 2 (some .boolean), Cond.methodLink RX7 78 yX7_lay, Cond.instanceMethod yX7_lay, Cond.selects RX7 yX7_lay yX7_lay, Cond.code yX7_lay cX7_lay 2 none, Cond.fieldLink RX7 19 "WoodcutPressModel" "plate" "[I", Cond.fieldLink RX7 7 "WoodcutPressModel" "s" "[I", Cond.methodLink RX7 43 yX7_isWorn, Cond.instanceMethod yX7_isWorn, Cond.selects RX7 yX7_isWorn yX7_isWorn, Cond.code yX7_isWorn cX7_isWorn 2 (some .boolean), Cond.methodLink RX7 70 yX7_look, Cond.instanceMethod yX7_look, Cond.selects RX7 yX7_look yX7_look]
def wsX7_printed_r2 : List Cond := [Cond.code yX7_look cX7_look 5 (some .int), Cond.methodLink RX7 57 yX7_isTinted, Cond.instanceMethod yX7_isTinted, Cond.selects RX7 yX7_isTinted yX7_isTinted, Cond.code yX7_isTinted cX7_isTinted 5 (some .boolean)]
def wsX7_printed : List Cond := .code yX7_printed cX7_printed 5 (some .int) :: ((wsX7_printed_r1 ++ wsX7_printed_r2) ++ wsX70)
def wsX7_proof : List Cond := .code yX7_proof cX7_proof 5 (some .int) :: ([.fieldLink RX7 28 "WoodcutPressModel" "thrown" "I", .fieldLink RX7 7 "WoodcutPressModel" "s" "[I", .methodLink RX7 32 yX7_in, .static yX7_in, .initialized RX7, .code yX7_in cX7_in 3 (some .boolean)] ++ wsX70)
def wsX7_faults_r1 : List Cond := [Cond.fieldLink RX7 28 "WoodcutPressModel" "thrown" "I", Cond.fieldLink RX7 61 "WoodcutPressModel" "gaps" "I", Cond.fieldLink RX7 64 "WoodcutPressModel" "spills" "I", Cond.fieldLink RX7 67 "WoodcutPressModel" "lost" "I", Cond.methodLink RX7 160 yX7_isShift, Cond.static yX7_isShift, Cond.initialized RX7, Cond.code yX7_isShift cX7_isShift 2 (some .boolean), Cond.methodLink RX7 32 yX7_in, Cond.static yX7_in, Cond.code yX7_in cX7_in 3 (some .boolean), Cond.methodLink RX7 78 yX7_lay, Cond.instanceMethod yX7_lay, Cond.selects RX7 yX7_lay yX7_lay, Cond.code yX7_lay cX7_lay 2 none, Cond.fieldLink RX7 19 "WoodcutPressModel" "plate" "[I", Cond.fieldLink RX7 7 "WoodcutPressModel" "s" "[I", Cond.methodLink RX7 43 yX7_isWorn, Cond.instanceMethod yX7_isWorn, Cond.selects RX7 yX7_isWorn yX7_isWorn, Cond.code yX7_isWorn cX7_isWorn 2 (some .boolean), Cond.methodLink RX7 74 yX7_check, Cond.instanceMethod yX7_check, Cond.selects RX7 yX7_check yX7_check]
def wsX7_faults_r2 : List Cond := [Cond.code yX7_check cX7_check 7 none, Cond.methodLink RX7 70 yX7_look, Cond.instanceMethod yX7_look, Cond.selects RX7 yX7_look yX7_look, Cond.code yX7_look cX7_look 5 (some .int), Cond.methodLink RX7 57 yX7_isTinted, Cond.instanceMethod yX7_isTinted, Cond.selects RX7 yX7_isTinted yX7_isTinted, Cond.code yX7_isTinted cX7_isTinted 5 (some .boolean), Cond.methodLink RX7 47 yX7_isCell, Cond.static yX7_isCell, Cond.code yX7_isCell cX7_isCell 2 (some .boolean)]
def wsX7_faults : List Cond := .code yX7_faults cX7_faults 4 (some .int) :: ((wsX7_faults_r1 ++ wsX7_faults_r2) ++ wsX70)
def wsX7_why_r1 : List Cond := [Cond.fieldLink RX7 28 "WoodcutPressModel" "thrown" "I", Cond.fieldLink RX7 7 "WoodcutPressModel" "s" "[I", Cond.methodLink RX7 47 yX7_isCell, Cond.static yX7_isCell, Cond.initialized RX7, Cond.code yX7_isCell cX7_isCell 2 (some .boolean), Cond.methodLink RX7 32 yX7_in, Cond.static yX7_in, Cond.code yX7_in cX7_in 3 (some .boolean), Cond.methodLink RX7 78 yX7_lay, Cond.instanceMethod yX7_lay, Cond.selects RX7 yX7_lay yX7_lay, Cond.code yX7_lay cX7_lay 2 none, Cond.fieldLink RX7 19 "WoodcutPressModel" "plate" "[I", Cond.methodLink RX7 43 yX7_isWorn, Cond.instanceMethod yX7_isWorn, Cond.selects RX7 yX7_isWorn yX7_isWorn, Cond.code yX7_isWorn cX7_isWorn 2 (some .boolean), Cond.methodLink RX7 81 yX7_shiftX, Cond.instanceMethod yX7_shiftX, Cond.selects RX7 yX7_shiftX yX7_shiftX, Cond.code yX7_shiftX cX7_shiftX 2 (some .int), Cond.methodLink RX7 85 yX7_shiftY, Cond.instanceMethod yX7_shiftY]
def wsX7_why_r2 : List Cond := [Cond.selects RX7 yX7_shiftY yX7_shiftY, Cond.code yX7_shiftY cX7_shiftY 2 (some .int), Cond.methodLink RX7 70 yX7_look, Cond.instanceMethod yX7_look, Cond.selects RX7 yX7_look yX7_look, Cond.code yX7_look cX7_look 5 (some .int), Cond.methodLink RX7 57 yX7_isTinted, Cond.instanceMethod yX7_isTinted, Cond.selects RX7 yX7_isTinted yX7_isTinted, Cond.code yX7_isTinted cX7_isTinted 5 (some .boolean)]
def wsX7_why : List Cond := .code yX7_why cX7_why 6 (some .int) :: ((wsX7_why_r1 ++ wsX7_why_r2) ++ wsX70)
def wsX7_tolerance_r1 : List Cond := [Cond.fieldLink RX7 28 "WoodcutPressModel" "thrown" "I", Cond.methodLink RX7 78 yX7_lay, Cond.instanceMethod yX7_lay, Cond.selects RX7 yX7_lay yX7_lay, Cond.initialized RX7, Cond.code yX7_lay cX7_lay 2 none, Cond.fieldLink RX7 19 "WoodcutPressModel" "plate" "[I", Cond.fieldLink RX7 7 "WoodcutPressModel" "s" "[I", Cond.methodLink RX7 43 yX7_isWorn, Cond.instanceMethod yX7_isWorn, Cond.selects RX7 yX7_isWorn yX7_isWorn, Cond.code yX7_isWorn cX7_isWorn 2 (some .boolean), Cond.methodLink RX7 163 yX7_hasGapsWithin, Cond.instanceMethod yX7_hasGapsWithin, Cond.selects RX7 yX7_hasGapsWithin yX7_hasGapsWithin, Cond.code yX7_hasGapsWithin cX7_hasGapsWithin 4 (some .boolean), Cond.fieldLink RX7 61 "WoodcutPressModel" "gaps" "I", Cond.methodLink RX7 74 yX7_check, Cond.instanceMethod yX7_check, Cond.selects RX7 yX7_check yX7_check, Cond.code yX7_check cX7_check 7 none, Cond.fieldLink RX7 64 "WoodcutPressModel" "spills" "I", Cond.fieldLink RX7 67 "WoodcutPressModel" "lost" "I", Cond.methodLink RX7 70 yX7_look]
def wsX7_tolerance_r2 : List Cond := [Cond.instanceMethod yX7_look, Cond.selects RX7 yX7_look yX7_look, Cond.code yX7_look cX7_look 5 (some .int), Cond.methodLink RX7 57 yX7_isTinted, Cond.instanceMethod yX7_isTinted, Cond.selects RX7 yX7_isTinted yX7_isTinted, Cond.code yX7_isTinted cX7_isTinted 5 (some .boolean), Cond.methodLink RX7 47 yX7_isCell, Cond.static yX7_isCell, Cond.code yX7_isCell cX7_isCell 2 (some .boolean), Cond.methodLink RX7 32 yX7_in, Cond.static yX7_in, Cond.code yX7_in cX7_in 3 (some .boolean)]
def wsX7_tolerance : List Cond := .code yX7_tolerance cX7_tolerance 2 (some .int) :: ((wsX7_tolerance_r1 ++ wsX7_tolerance_r2) ++ wsX70)
def wsX7_trapFor_r1 : List Cond := [Cond.fieldLink RX7 28 "WoodcutPressModel" "thrown" "I", Cond.methodLink RX7 32 yX7_in, Cond.static yX7_in, Cond.initialized RX7, Cond.code yX7_in cX7_in 3 (some .boolean), Cond.methodLink RX7 91 yX7_measure, Cond.instanceMethod yX7_measure, Cond.selects RX7 yX7_measure yX7_measure, Cond.code yX7_measure cX7_measure 4 none, Cond.fieldLink RX7 22 "WoodcutPressModel" "steps" "[I", Cond.fieldLink RX7 7 "WoodcutPressModel" "s" "[I", Cond.methodLink RX7 54 yX7_isNextTo, Cond.instanceMethod yX7_isNextTo, Cond.selects RX7 yX7_isNextTo yX7_isNextTo, Cond.code yX7_isNextTo cX7_isNextTo 6 (some .boolean), Cond.methodLink RX7 51 yX7_beside, Cond.static yX7_beside, Cond.code yX7_beside cX7_beside 4 (some .int), Cond.methodLink RX7 47 yX7_isCell, Cond.static yX7_isCell, Cond.code yX7_isCell cX7_isCell 2 (some .boolean), Cond.methodLink RX7 94 yX7_layCut, Cond.instanceMethod yX7_layCut, Cond.selects RX7 yX7_layCut yX7_layCut]
def wsX7_trapFor_r2 : List Cond := [Cond.code yX7_layCut cX7_layCut 3 none, Cond.fieldLink RX7 19 "WoodcutPressModel" "plate" "[I", Cond.methodLink RX7 163 yX7_hasGapsWithin, Cond.instanceMethod yX7_hasGapsWithin, Cond.selects RX7 yX7_hasGapsWithin yX7_hasGapsWithin, Cond.code yX7_hasGapsWithin cX7_hasGapsWithin 4 (some .boolean), Cond.fieldLink RX7 61 "WoodcutPressModel" "gaps" "I", Cond.methodLink RX7 74 yX7_check, Cond.instanceMethod yX7_check, Cond.selects RX7 yX7_check yX7_check, Cond.code yX7_check cX7_check 7 none, Cond.fieldLink RX7 64 "WoodcutPressModel" "spills" "I", Cond.fieldLink RX7 67 "WoodcutPressModel" "lost" "I", Cond.methodLink RX7 70 yX7_look, Cond.instanceMethod yX7_look, Cond.selects RX7 yX7_look yX7_look, Cond.code yX7_look cX7_look 5 (some .int), Cond.methodLink RX7 57 yX7_isTinted, Cond.instanceMethod yX7_isTinted, Cond.selects RX7 yX7_isTinted yX7_isTinted, Cond.code yX7_isTinted cX7_isTinted 5 (some .boolean)]
def wsX7_trapFor : List Cond := .code yX7_trapFor cX7_trapFor 3 (some .int) :: ((wsX7_trapFor_r1 ++ wsX7_trapFor_r2) ++ wsX70)
def wsX7_bestPins_r1 : List Cond := [Cond.fieldLink RX7 28 "WoodcutPressModel" "thrown" "I", Cond.fieldLink RX7 61 "WoodcutPressModel" "gaps" "I", Cond.fieldLink RX7 64 "WoodcutPressModel" "spills" "I", Cond.methodLink RX7 32 yX7_in, Cond.static yX7_in, Cond.initialized RX7, Cond.code yX7_in cX7_in 3 (some .boolean), Cond.methodLink RX7 78 yX7_lay, Cond.instanceMethod yX7_lay, Cond.selects RX7 yX7_lay yX7_lay, Cond.code yX7_lay cX7_lay 2 none, Cond.fieldLink RX7 19 "WoodcutPressModel" "plate" "[I", Cond.fieldLink RX7 7 "WoodcutPressModel" "s" "[I", Cond.methodLink RX7 43 yX7_isWorn, Cond.instanceMethod yX7_isWorn, Cond.selects RX7 yX7_isWorn yX7_isWorn, Cond.code yX7_isWorn cX7_isWorn 2 (some .boolean), Cond.methodLink RX7 81 yX7_shiftX, Cond.instanceMethod yX7_shiftX, Cond.selects RX7 yX7_shiftX yX7_shiftX, Cond.code yX7_shiftX cX7_shiftX 2 (some .int), Cond.methodLink RX7 85 yX7_shiftY, Cond.instanceMethod yX7_shiftY, Cond.selects RX7 yX7_shiftY yX7_shiftY]
def wsX7_bestPins_r2 : List Cond := [Cond.code yX7_shiftY cX7_shiftY 2 (some .int), Cond.methodLink RX7 74 yX7_check, Cond.instanceMethod yX7_check, Cond.selects RX7 yX7_check yX7_check, Cond.code yX7_check cX7_check 7 none, Cond.fieldLink RX7 67 "WoodcutPressModel" "lost" "I", Cond.methodLink RX7 70 yX7_look, Cond.instanceMethod yX7_look, Cond.selects RX7 yX7_look yX7_look, Cond.code yX7_look cX7_look 5 (some .int), Cond.methodLink RX7 57 yX7_isTinted, Cond.instanceMethod yX7_isTinted, Cond.selects RX7 yX7_isTinted yX7_isTinted, Cond.code yX7_isTinted cX7_isTinted 5 (some .boolean), Cond.methodLink RX7 47 yX7_isCell, Cond.static yX7_isCell, Cond.code yX7_isCell cX7_isCell 2 (some .boolean)]
def wsX7_bestPins : List Cond := .code yX7_bestPins cX7_bestPins 7 (some .int) :: ((wsX7_bestPins_r1 ++ wsX7_bestPins_r2) ++ wsX70)
def wsX7_printsLeft_r1 : List Cond := [Cond.fieldLink RX7 28 "WoodcutPressModel" "thrown" "I", Cond.fieldLink RX7 19 "WoodcutPressModel" "plate" "[I", Cond.fieldLink RX7 7 "WoodcutPressModel" "s" "[I", Cond.methodLink RX7 78 yX7_lay, Cond.instanceMethod yX7_lay, Cond.selects RX7 yX7_lay yX7_lay, Cond.initialized RX7, Cond.code yX7_lay cX7_lay 2 none, Cond.methodLink RX7 43 yX7_isWorn, Cond.instanceMethod yX7_isWorn, Cond.selects RX7 yX7_isWorn yX7_isWorn, Cond.code yX7_isWorn cX7_isWorn 2 (some .boolean), Cond.methodLink RX7 108 yX7_rubs, Cond.instanceMethod yX7_rubs, Cond.selects RX7 yX7_rubs yX7_rubs, Cond.code yX7_rubs cX7_rubs 5 (some .int), Cond.methodLink RX7 51 yX7_beside, Cond.static yX7_beside, Cond.code yX7_beside cX7_beside 4 (some .int), Cond.methodLink RX7 47 yX7_isCell, Cond.static yX7_isCell, Cond.code yX7_isCell cX7_isCell 2 (some .boolean), Cond.methodLink RX7 32 yX7_in, Cond.static yX7_in]
def wsX7_printsLeft_r2 : List Cond := [Cond.code yX7_in cX7_in 3 (some .boolean)]
def wsX7_printsLeft : List Cond := .code yX7_printsLeft cX7_printsLeft 4 (some .int) :: ((wsX7_printsLeft_r1 ++ wsX7_printsLeft_r2) ++ wsX70)
def wsJ9_max_7cf53 : List Cond := .code yJ9_max_7cf53 cJ9_max_7cf53 2 (some .int) :: ([])
def wsJ9_min_7cf53 : List Cond := .code yJ9_min_7cf53 cJ9_min_7cf53 2 (some .int) :: ([])
def wsL_law_r1 : List Cond := [Cond.classLink RL 7 RX6, Cond.instantiable RX6 5, Cond.initialized RX6, Cond.classLink RL 10 RX7, Cond.instantiable RX7 15, Cond.initialized RX7, Cond.methodLink RL 9 yX6_init, Cond.instanceMethod yX6_init, Cond.code yX6_init cX6_init 1 none, Cond.methodLink RX6 1 objectInit, Cond.instanceMethod objectInit, Cond.code objectInit ⟨#[0xb1]⟩ 1 none, Cond.classLink RX6 7 RX5, Cond.instantiable RX5 10, Cond.initialized RX5, Cond.fieldLink RX6 10 "WoodcutPress" "now" "LWoodcutPress$State;", Cond.classLink RX6 16 RX2, Cond.instantiable RX2 3, Cond.initialized RX2, Cond.fieldLink RX6 19 "WoodcutPress" "history" "LWoodcutPress$History;", Cond.classLink RX6 23 RX4, Cond.instantiable RX4 6, Cond.initialized RX4, Cond.fieldLink RX6 26 "WoodcutPress" "reader" "LWoodcutPress$Reader;"]
def wsL_law_r2 : List Cond := [Cond.classLink RX6 30 RX1, Cond.instantiable RX1 1, Cond.initialized RX1, Cond.fieldLink RX6 33 "WoodcutPress" "ink" "LWoodcutPress$Cells;", Cond.fieldLink RX6 37 "WoodcutPress" "trial" "LWoodcutPress$Cells;", Cond.methodLink RX6 9 yX5_init, Cond.instanceMethod yX5_init, Cond.code yX5_init cX5_init 1 none, Cond.methodLink RX5 3 objectInit, Cond.classLink RX5 9 RX0, Cond.instantiable RX0 5, Cond.initialized RX0, Cond.fieldLink RX5 12 "WoodcutPress$State" "blocks" "LWoodcutPress$Blocks;", Cond.arrayClass .int, Cond.fieldLink RX5 18 "WoodcutPress$State" "settings" "[I", Cond.methodLink RX5 25 arraycopyName, Cond.native arraycopyName, Cond.static arraycopyName, Cond.initialized "java/lang/System", Cond.classLink RX5 31 RX3, Cond.instantiable RX3 3, Cond.initialized RX3, Cond.fieldLink RX5 34 "WoodcutPress$State" "log" "LWoodcutPress$Log;", Cond.fieldLink RX5 38 "WoodcutPress$State" "pinX" "I"]
def wsL_law_r3 : List Cond := [Cond.fieldLink RX5 42 "WoodcutPress$State" "pinY" "I", Cond.fieldLink RX5 45 "WoodcutPress$State" "prints" "I", Cond.fieldLink RX5 48 "WoodcutPress$State" "firstSnapshot" "LWoodcutPress$Blocks;", Cond.fieldLink RX5 51 "WoodcutPress$State" "secondSnapshot" "LWoodcutPress$Blocks;", Cond.fieldLink RX5 54 "WoodcutPress$State" "firstTaken" "Z", Cond.fieldLink RX5 58 "WoodcutPress$State" "secondTaken" "Z", Cond.methodLink RX5 11 yX0_init, Cond.instanceMethod yX0_init, Cond.code yX0_init cX0_init 1 none, Cond.methodLink RX0 3 objectInit, Cond.classLink RX0 9 RX1, Cond.fieldLink RX0 12 "WoodcutPress$Blocks" "colours" "LWoodcutPress$Cells;", Cond.fieldLink RX0 18 "WoodcutPress$Blocks" "lines" "LWoodcutPress$Cells;", Cond.fieldLink RX0 21 "WoodcutPress$Blocks" "lineBlock" "LWoodcutPress$Cells;", Cond.fieldLink RX0 24 "WoodcutPress$Blocks" "colourBlock" "LWoodcutPress$Cells;", Cond.fieldLink RX0 27 "WoodcutPress$Blocks" "wear" "[I", Cond.methodLink RX0 11 yX1_init, Cond.instanceMethod yX1_init, Cond.code yX1_init cX1_init 1 none, Cond.methodLink RX1 3 objectInit, Cond.fieldLink RX1 9 "WoodcutPress$Cells" "rows" "[I", Cond.methodLink RX5 33 yX3_init, Cond.instanceMethod yX3_init, Cond.code yX3_init cX3_init 1 none]
def wsL_law_r4 : List Cond := [Cond.methodLink RX3 3 objectInit, Cond.fieldLink RX3 9 "WoodcutPress$Log" "parts" "[I", Cond.fieldLink RX3 15 "WoodcutPress$Log" "size" "I", Cond.fieldLink RX3 19 "WoodcutPress$Log" "latest" "I", Cond.methodLink RX6 18 yX2_init, Cond.instanceMethod yX2_init, Cond.code yX2_init cX2_init 2 none, Cond.methodLink RX2 3 objectInit, Cond.classLink RX2 9 RX5, Cond.fieldLink RX2 11 "WoodcutPress$History" "states" "[LWoodcutPress$State;", Cond.fieldLink RX2 18 "WoodcutPress$History" "size" "I", Cond.fieldLink RX2 22 "WoodcutPress$History" "next" "I", Cond.methodLink RX2 17 yX5_init, Cond.methodLink RX6 25 yX4_init, Cond.instanceMethod yX4_init, Cond.code yX4_init cX4_init 1 none, Cond.methodLink RX4 3 objectInit, Cond.fieldLink RX4 9 "WoodcutPress$Reader" "text" "[I", Cond.fieldLink RX4 15 "WoodcutPress$Reader" "length" "I", Cond.fieldLink RX4 19 "WoodcutPress$Reader" "at" "I", Cond.fieldLink RX4 22 "WoodcutPress$Reader" "error" "I", Cond.classLink RX4 25 RX1, Cond.fieldLink RX4 28 "WoodcutPress$Reader" "colours" "LWoodcutPress$Cells;", Cond.fieldLink RX4 32 "WoodcutPress$Reader" "lines" "LWoodcutPress$Cells;"]
def wsL_law_r5 : List Cond := [Cond.methodLink RX4 27 yX1_init, Cond.methodLink RX6 32 yX1_init, Cond.methodLink RL 12 yX7_init, Cond.instanceMethod yX7_init, Cond.code yX7_init cX7_init 1 none, Cond.methodLink RX7 1 objectInit, Cond.fieldLink RX7 7 "WoodcutPressModel" "s" "[I", Cond.fieldLink RX7 13 "WoodcutPressModel" "saved" "[I", Cond.fieldLink RX7 16 "WoodcutPressModel" "text" "[I", Cond.fieldLink RX7 19 "WoodcutPressModel" "plate" "[I", Cond.fieldLink RX7 22 "WoodcutPressModel" "steps" "[I", Cond.fieldLink RX7 25 "WoodcutPressModel" "draft" "[I", Cond.fieldLink RX7 28 "WoodcutPressModel" "thrown" "I", Cond.methodLink RL 13 yX6_paint, Cond.instanceMethod yX6_paint, Cond.selects RX6 yX6_paint yX6_paint, Cond.code yX6_paint cX6_paint 6 (some .int), Cond.fieldLink RX6 52 "WoodcutPress$State" "blocks" "LWoodcutPress$Blocks;", Cond.methodLink RX6 40 yX6_isPlace, Cond.static yX6_isPlace, Cond.code yX6_isPlace cX6_isPlace 2 (some .boolean), Cond.methodLink RX6 44 yX6_isWithin, Cond.static yX6_isWithin, Cond.code yX6_isWithin cX6_isWithin 3 (some .boolean)]
def wsL_law_r6 : List Cond := [Cond.methodLink RX6 48 yX2_keep, Cond.instanceMethod yX2_keep, Cond.selects RX2 yX2_keep yX2_keep, Cond.code yX2_keep cX2_keep 3 none, Cond.methodLink RX2 29 Lib.Math.min.name, Cond.static Lib.Math.min.name, Cond.initialized "java/lang/Math", Cond.code Lib.Math.min.name Lib.Math.min.code 2 (some .int), Cond.methodLink RX2 25 yX5_becomeLike, Cond.instanceMethod yX5_becomeLike, Cond.selects RX5 yX5_becomeLike yX5_becomeLike, Cond.code yX5_becomeLike cX5_becomeLike 2 none, Cond.methodLink RX5 61 yX0_becomeLike, Cond.instanceMethod yX0_becomeLike, Cond.selects RX0 yX0_becomeLike yX0_becomeLike, Cond.code yX0_becomeLike cX0_becomeLike 2 none, Cond.methodLink RX0 35 arraycopyName, Cond.methodLink RX0 31 yX1_becomeLike, Cond.instanceMethod yX1_becomeLike, Cond.selects RX1 yX1_becomeLike yX1_becomeLike, Cond.code yX1_becomeLike cX1_becomeLike 2 none, Cond.methodLink RX1 15 arraycopyName, Cond.methodLink RX5 65 yX3_becomeLike, Cond.instanceMethod yX3_becomeLike]
def wsL_law_r7 : List Cond := [Cond.selects RX3 yX3_becomeLike yX3_becomeLike, Cond.code yX3_becomeLike cX3_becomeLike 2 none, Cond.methodLink RX3 22 arraycopyName, Cond.methodLink RX6 56 yX0_fillArea, Cond.instanceMethod yX0_fillArea, Cond.selects RX0 yX0_fillArea yX0_fillArea, Cond.code yX0_fillArea cX0_fillArea 9 (some .int), Cond.methodLink RX0 49 yX0_kindAt, Cond.instanceMethod yX0_kindAt, Cond.selects RX0 yX0_kindAt yX0_kindAt, Cond.code yX0_kindAt cX0_kindAt 3 (some .int), Cond.methodLink RX0 41 yX1_has, Cond.instanceMethod yX1_has, Cond.selects RX1 yX1_has yX1_has, Cond.code yX1_has cX1_has 3 (some .boolean), Cond.static yX6_oneIf, Cond.code yX6_oneIf cX6_oneIf 1 (some .int), Cond.methodLink RX0 57 yX1_put, Cond.instanceMethod yX1_put, Cond.selects RX1 yX1_put yX1_put, Cond.code yX1_put cX1_put 4 none, Cond.methodLink RL 17 yX7_paint, Cond.instanceMethod yX7_paint, Cond.selects RX7 yX7_paint yX7_paint]
def wsL_law_r8 : List Cond := [Cond.code yX7_paint cX7_paint 10 (some .int), Cond.methodLink RX7 47 yX7_isCell, Cond.static yX7_isCell, Cond.code yX7_isCell cX7_isCell 2 (some .boolean), Cond.methodLink RX7 32 yX7_in, Cond.static yX7_in, Cond.code yX7_in cX7_in 3 (some .boolean), Cond.methodLink RX7 88 yX7_act, Cond.instanceMethod yX7_act, Cond.selects RX7 yX7_act yX7_act, Cond.code yX7_act cX7_act 2 none, Cond.fieldLink RX7 36 "WoodcutPressModel" "savedMany" "I", Cond.methodLink RL 18 yX6_cut, Cond.instanceMethod yX6_cut, Cond.selects RX6 yX6_cut yX6_cut, Cond.code yX6_cut cX6_cut 2 (some .int), Cond.fieldLink RX6 66 "WoodcutPress$Blocks" "colourBlock" "LWoodcutPress$Cells;", Cond.methodLink RX6 62 yX0_cutAnew, Cond.instanceMethod yX0_cutAnew, Cond.selects RX0 yX0_cutAnew yX0_cutAnew, Cond.code yX0_cutAnew cX0_cutAnew 2 none, Cond.methodLink RX0 61 yJ7_fill_53178, Cond.static yJ7_fill_53178, Cond.initialized RJ7]
def wsL_law_r9 : List Cond := [Cond.code yJ7_fill_53178 cJ7_fill_53178 4 none, Cond.methodLink RX0 67 yX0_cutColour, Cond.instanceMethod yX0_cutColour, Cond.selects RX0 yX0_cutColour yX0_cutColour, Cond.code yX0_cutColour cX0_cutColour 4 none, Cond.methodLink RX0 71 yX1_growInto, Cond.instanceMethod yX1_growInto, Cond.selects RX1 yX1_growInto yX1_growInto, Cond.code yX1_growInto cX1_growInto 6 none, Cond.methodLink RX1 32 yX1_row, Cond.instanceMethod yX1_row, Cond.selects RX1 yX1_row yX1_row, Cond.code yX1_row cX1_row 2 (some .int), Cond.methodLink RX6 69 yX1_size, Cond.instanceMethod yX1_size, Cond.selects RX1 yX1_size yX1_size, Cond.code yX1_size cX1_size 3 (some .int), Cond.methodLink RX1 26 yJ6_bitCount_0f7a4, Cond.static yJ6_bitCount_0f7a4, Cond.initialized RJ6, Cond.code yJ6_bitCount_0f7a4 cJ6_bitCount_0f7a4 1 (some .int), Cond.constant RJ6 265 (1431655765), Cond.constant RJ6 266 (858993459), Cond.constant RJ6 267 (252645135)]
def wsL_law_r10 : List Cond := [Cond.methodLink RL 22 yX7_cut, Cond.instanceMethod yX7_cut, Cond.selects RX7 yX7_cut yX7_cut, Cond.code yX7_cut cX7_cut 3 (some .int), Cond.methodLink RX7 91 yX7_measure, Cond.instanceMethod yX7_measure, Cond.selects RX7 yX7_measure yX7_measure, Cond.code yX7_measure cX7_measure 4 none, Cond.methodLink RX7 54 yX7_isNextTo, Cond.instanceMethod yX7_isNextTo, Cond.selects RX7 yX7_isNextTo yX7_isNextTo, Cond.code yX7_isNextTo cX7_isNextTo 6 (some .boolean), Cond.methodLink RX7 51 yX7_beside, Cond.static yX7_beside, Cond.code yX7_beside cX7_beside 4 (some .int), Cond.methodLink RX7 94 yX7_layCut, Cond.instanceMethod yX7_layCut, Cond.selects RX7 yX7_layCut yX7_layCut, Cond.code yX7_layCut cX7_layCut 3 none, Cond.methodLink RX7 39 yX7_many, Cond.instanceMethod yX7_many, Cond.selects RX7 yX7_many yX7_many, Cond.code yX7_many cX7_many 5 (some .int), Cond.methodLink RL 23 yX6_carve]
def wsL_law_r11 : List Cond := [Cond.instanceMethod yX6_carve, Cond.selects RX6 yX6_carve yX6_carve, Cond.code yX6_carve cX6_carve 7 (some .int), Cond.fieldLink RX6 73 "WoodcutPress$Blocks" "lineBlock" "LWoodcutPress$Cells;", Cond.methodLink RX6 76 yX1_has, Cond.methodLink RX6 79 yX6_oneIf, Cond.methodLink RX6 83 yX1_put, Cond.methodLink RX6 87 yX0_clearWear, Cond.instanceMethod yX0_clearWear, Cond.selects RX0 yX0_clearWear yX0_clearWear, Cond.code yX0_clearWear cX0_clearWear 3 none, Cond.methodLink RL 27 yX7_carve, Cond.instanceMethod yX7_carve, Cond.selects RX7 yX7_carve yX7_carve, Cond.code yX7_carve cX7_carve 7 (some .int), Cond.methodLink RL 28 yX6_plug, Cond.instanceMethod yX6_plug, Cond.selects RX6 yX6_plug yX6_plug, Cond.code yX6_plug cX6_plug 3 (some .int), Cond.methodLink RX6 91 yX5_hardness, Cond.instanceMethod yX5_hardness, Cond.selects RX5 yX5_hardness yX5_hardness, Cond.code yX5_hardness cX5_hardness 1 (some .int), Cond.methodLink RX6 94 yX0_isWorn]
def wsL_law_r12 : List Cond := [Cond.instanceMethod yX0_isWorn, Cond.selects RX0 yX0_isWorn yX0_isWorn, Cond.code yX0_isWorn cX0_isWorn 4 (some .boolean), Cond.methodLink RX0 77 yX0_wearAt, Cond.instanceMethod yX0_wearAt, Cond.selects RX0 yX0_wearAt yX0_wearAt, Cond.code yX0_wearAt cX0_wearAt 3 (some .int), Cond.methodLink RX6 97 yX6_wornCells, Cond.instanceMethod yX6_wornCells, Cond.selects RX6 yX6_wornCells yX6_wornCells, Cond.code yX6_wornCells cX6_wornCells 1 (some .int), Cond.methodLink RX6 107 yX6_findInk, Cond.instanceMethod yX6_findInk, Cond.selects RX6 yX6_findInk yX6_findInk, Cond.code yX6_findInk cX6_findInk 1 none, Cond.methodLink RX6 227 yX0_findInk, Cond.instanceMethod yX0_findInk, Cond.selects RX0 yX0_findInk yX0_findInk, Cond.code yX0_findInk cX0_findInk 6 none, Cond.methodLink RX0 80 yX1_row, Cond.methodLink RX0 84 yX1_putRow, Cond.instanceMethod yX1_putRow, Cond.selects RX1 yX1_putRow yX1_putRow, Cond.code yX1_putRow cX1_putRow 3 none]
def wsL_law_r13 : List Cond := [Cond.constant RX1 21 (65535), Cond.methodLink RL 32 yX7_plug, Cond.instanceMethod yX7_plug, Cond.selects RX7 yX7_plug yX7_plug, Cond.code yX7_plug cX7_plug 3 (some .int), Cond.methodLink RX7 43 yX7_isWorn, Cond.instanceMethod yX7_isWorn, Cond.selects RX7 yX7_isWorn yX7_isWorn, Cond.code yX7_isWorn cX7_isWorn 2 (some .boolean), Cond.methodLink RX7 98 yX7_wornCells, Cond.instanceMethod yX7_wornCells, Cond.selects RX7 yX7_wornCells yX7_wornCells, Cond.code yX7_wornCells cX7_wornCells 3 (some .int), Cond.methodLink RL 33 yX6_setPins, Cond.instanceMethod yX6_setPins, Cond.selects RX6 yX6_setPins yX6_setPins, Cond.code yX6_setPins cX6_setPins 3 (some .int), Cond.fieldLink RX6 100 "WoodcutPress$State" "pinX" "I", Cond.fieldLink RX6 104 "WoodcutPress$State" "pinY" "I", Cond.methodLink RX6 110 yX5_shiftX, Cond.instanceMethod yX5_shiftX, Cond.selects RX5 yX5_shiftX yX5_shiftX, Cond.code yX5_shiftX cX5_shiftX 1 (some .int), Cond.methodLink RX5 68 yX5_driftX]
def wsL_law_r14 : List Cond := [Cond.instanceMethod yX5_driftX, Cond.selects RX5 yX5_driftX yX5_driftX, Cond.code yX5_driftX cX5_driftX 1 (some .int), Cond.methodLink RX6 113 yX5_shiftY, Cond.instanceMethod yX5_shiftY, Cond.selects RX5 yX5_shiftY yX5_shiftY, Cond.code yX5_shiftY cX5_shiftY 1 (some .int), Cond.methodLink RX5 72 yX5_driftY, Cond.instanceMethod yX5_driftY, Cond.selects RX5 yX5_driftY yX5_driftY, Cond.code yX5_driftY cX5_driftY 1 (some .int), Cond.methodLink RX6 116 yX6_gapsWith, Cond.instanceMethod yX6_gapsWith, Cond.selects RX6 yX6_gapsWith yX6_gapsWith, Cond.code yX6_gapsWith cX6_gapsWith 3 (some .int), Cond.methodLink RX6 229 yX0_gaps, Cond.instanceMethod yX0_gaps, Cond.selects RX0 yX0_gaps yX0_gaps, Cond.code yX0_gaps cX0_gaps 8 (some .int), Cond.methodLink RX0 88 yX1_shiftedRow, Cond.instanceMethod yX1_shiftedRow, Cond.selects RX1 yX1_shiftedRow yX1_shiftedRow, Cond.code yX1_shiftedRow cX1_shiftedRow 5 (some .int), Cond.methodLink RX0 92 yJ6_bitCount_0f7a4]
def wsL_law_r15 : List Cond := [Cond.methodLink RL 36 yX7_setPins, Cond.instanceMethod yX7_setPins, Cond.selects RX7 yX7_setPins yX7_setPins, Cond.code yX7_setPins cX7_setPins 3 (some .int), Cond.fieldLink RX7 61 "WoodcutPressModel" "gaps" "I", Cond.methodLink RX7 102 yX7_checkNow, Cond.instanceMethod yX7_checkNow, Cond.selects RX7 yX7_checkNow yX7_checkNow, Cond.code yX7_checkNow cX7_checkNow 1 none, Cond.methodLink RX7 78 yX7_lay, Cond.instanceMethod yX7_lay, Cond.selects RX7 yX7_lay yX7_lay, Cond.code yX7_lay cX7_lay 2 none, Cond.methodLink RX7 81 yX7_shiftX, Cond.instanceMethod yX7_shiftX, Cond.selects RX7 yX7_shiftX yX7_shiftX, Cond.code yX7_shiftX cX7_shiftX 2 (some .int), Cond.methodLink RX7 85 yX7_shiftY, Cond.instanceMethod yX7_shiftY, Cond.selects RX7 yX7_shiftY yX7_shiftY, Cond.code yX7_shiftY cX7_shiftY 2 (some .int), Cond.methodLink RX7 74 yX7_check, Cond.instanceMethod yX7_check, Cond.selects RX7 yX7_check yX7_check]
def wsL_law_r16 : List Cond := [Cond.code yX7_check cX7_check 7 none, Cond.fieldLink RX7 64 "WoodcutPressModel" "spills" "I", Cond.fieldLink RX7 67 "WoodcutPressModel" "lost" "I", Cond.methodLink RX7 70 yX7_look, Cond.instanceMethod yX7_look, Cond.selects RX7 yX7_look yX7_look, Cond.code yX7_look cX7_look 5 (some .int), Cond.methodLink RX7 57 yX7_isTinted, Cond.instanceMethod yX7_isTinted, Cond.selects RX7 yX7_isTinted yX7_isTinted, Cond.code yX7_isTinted cX7_isTinted 5 (some .boolean), Cond.methodLink RL 37 yX6_set, Cond.instanceMethod yX6_set, Cond.selects RX6 yX6_set yX6_set, Cond.code yX6_set cX6_set 4 (some .int), Cond.fieldLink RX6 120 "WoodcutPress" "LEAST_SETTINGS" "[I", Cond.fieldLink RX6 124 "WoodcutPress" "GREATEST_SETTINGS" "[I", Cond.fieldLink RX6 127 "WoodcutPress$State" "settings" "[I", Cond.methodLink RL 40 yX7_set, Cond.instanceMethod yX7_set, Cond.selects RX7 yX7_set yX7_set, Cond.code yX7_set cX7_set 4 (some .int), Cond.methodLink RX7 105 yX7_isSetting, Cond.static yX7_isSetting]
def wsL_law_r17 : List Cond := [Cond.code yX7_isSetting cX7_isSetting 2 (some .boolean), Cond.methodLink RL 41 yX6_print, Cond.instanceMethod yX6_print, Cond.selects RX6 yX6_print yX6_print, Cond.code yX6_print cX6_print 4 (some .int), Cond.fieldLink RX6 130 "WoodcutPress$State" "prints" "I", Cond.methodLink RX6 133 yX6_makeOnePrint, Cond.instanceMethod yX6_makeOnePrint, Cond.selects RX6 yX6_makeOnePrint yX6_makeOnePrint, Cond.code yX6_makeOnePrint cX6_makeOnePrint 4 (some .int), Cond.fieldLink RX6 176 "WoodcutPress$State" "log" "LWoodcutPress$Log;", Cond.methodLink RX6 237 yX3_addProof, Cond.instanceMethod yX3_addProof, Cond.selects RX3 yX3_addProof yX3_addProof, Cond.code yX3_addProof cX3_addProof 4 none, Cond.methodLink RX3 28 Lib.Math.min.name, Cond.methodLink RX6 202 yX6_spillsWith, Cond.instanceMethod yX6_spillsWith, Cond.selects RX6 yX6_spillsWith yX6_spillsWith, Cond.code yX6_spillsWith cX6_spillsWith 3 (some .int), Cond.methodLink RX6 233 yX0_spills, Cond.instanceMethod yX0_spills, Cond.selects RX0 yX0_spills yX0_spills, Cond.code yX0_spills cX0_spills 7 (some .int)]
def wsL_law_r18 : List Cond := [Cond.methodLink RX6 205 yX0_lostLines, Cond.instanceMethod yX0_lostLines, Cond.selects RX0 yX0_lostLines yX0_lostLines, Cond.code yX0_lostLines cX0_lostLines 4 (some .int), Cond.methodLink RX6 241 yX3_addFaults, Cond.instanceMethod yX3_addFaults, Cond.selects RX3 yX3_addFaults yX3_addFaults, Cond.code yX3_addFaults cX3_addFaults 4 none, Cond.methodLink RX6 244 yX0_wearDown, Cond.instanceMethod yX0_wearDown, Cond.selects RX0 yX0_wearDown yX0_wearDown, Cond.code yX0_wearDown cX0_wearDown 4 none, Cond.methodLink RX0 97 yX0_wearOfPrint, Cond.static yX0_wearOfPrint, Cond.code yX0_wearOfPrint cX0_wearOfPrint 3 (some .int), Cond.methodLink RX0 106 yX1_neighbors, Cond.instanceMethod yX1_neighbors, Cond.selects RX1 yX1_neighbors yX1_neighbors, Cond.code yX1_neighbors cX1_neighbors 3 (some .int), Cond.methodLink RX1 35 yX1_has, Cond.methodLink RX6 248 yX5_dry, Cond.instanceMethod yX5_dry, Cond.selects RX5 yX5_dry yX5_dry, Cond.code yX5_dry cX5_dry 1 none]
def wsL_law_r19 : List Cond := [Cond.methodLink RX5 75 Lib.Math.max.name, Cond.static Lib.Math.max.name, Cond.code Lib.Math.max.name Lib.Math.max.code 2 (some .int), Cond.methodLink RL 44 yX7_print, Cond.instanceMethod yX7_print, Cond.selects RX7 yX7_print yX7_print, Cond.code yX7_print cX7_print 4 (some .int), Cond.methodLink RX7 111 yX7_printOne, Cond.instanceMethod yX7_printOne, Cond.selects RX7 yX7_printOne yX7_printOne, Cond.code yX7_printOne cX7_printOne 3 none, Cond.methodLink RX7 108 yX7_rubs, Cond.instanceMethod yX7_rubs, Cond.selects RX7 yX7_rubs yX7_rubs, Cond.code yX7_rubs cX7_rubs 5 (some .int), Cond.methodLink RL 45 yX6_take, Cond.instanceMethod yX6_take, Cond.selects RX6 yX6_take yX6_take, Cond.code yX6_take cX6_take 2 (some .int), Cond.methodLink RX6 136 yX5_takeSnapshot, Cond.instanceMethod yX5_takeSnapshot, Cond.selects RX5 yX5_takeSnapshot yX5_takeSnapshot, Cond.code yX5_takeSnapshot cX5_takeSnapshot 2 none, Cond.methodLink RX5 85 yX5_snapshotIn]
def wsL_law_r20 : List Cond := [Cond.instanceMethod yX5_snapshotIn, Cond.selects RX5 yX5_snapshotIn yX5_snapshotIn, Cond.code yX5_snapshotIn cX5_snapshotIn 2 (some (.object "WoodcutPress$Blocks")), Cond.methodLink RX6 139 yX0_paintedCells, Cond.instanceMethod yX0_paintedCells, Cond.selects RX0 yX0_paintedCells yX0_paintedCells, Cond.code yX0_paintedCells cX0_paintedCells 1 (some .int), Cond.methodLink RX0 45 yX1_size, Cond.methodLink RL 48 yX7_take, Cond.instanceMethod yX7_take, Cond.selects RX7 yX7_take yX7_take, Cond.code yX7_take cX7_take 4 (some .int), Cond.methodLink RX7 114 yX7_inked, Cond.instanceMethod yX7_inked, Cond.selects RX7 yX7_inked yX7_inked, Cond.code yX7_inked cX7_inked 1 (some .int), Cond.methodLink RL 49 yX6_restore, Cond.instanceMethod yX6_restore, Cond.selects RX6 yX6_restore yX6_restore, Cond.code yX6_restore cX6_restore 2 (some .int), Cond.methodLink RX6 142 yX5_isTaken, Cond.instanceMethod yX5_isTaken, Cond.selects RX5 yX5_isTaken yX5_isTaken, Cond.code yX5_isTaken cX5_isTaken 2 (some .boolean)]
def wsL_law_r21 : List Cond := [Cond.methodLink RX6 146 yX5_restoreSnapshot, Cond.instanceMethod yX5_restoreSnapshot, Cond.selects RX5 yX5_restoreSnapshot yX5_restoreSnapshot, Cond.code yX5_restoreSnapshot cX5_restoreSnapshot 2 none, Cond.methodLink RL 52 yX7_restore, Cond.instanceMethod yX7_restore, Cond.selects RX7 yX7_restore yX7_restore, Cond.code yX7_restore cX7_restore 4 (some .int), Cond.methodLink RL 53 yX6_undo, Cond.instanceMethod yX6_undo, Cond.selects RX6 yX6_undo yX6_undo, Cond.code yX6_undo cX6_undo 1 (some .int), Cond.methodLink RX6 149 yX2_size, Cond.instanceMethod yX2_size, Cond.selects RX2 yX2_size yX2_size, Cond.code yX2_size cX2_size 1 (some .int), Cond.methodLink RX6 150 yX2_giveBack, Cond.instanceMethod yX2_giveBack, Cond.selects RX2 yX2_giveBack yX2_giveBack, Cond.code yX2_giveBack cX2_giveBack 3 none, Cond.methodLink RX2 35 Lib.Math.max.name, Cond.methodLink RL 57 yX7_undo, Cond.instanceMethod yX7_undo, Cond.selects RX7 yX7_undo yX7_undo]
def wsL_law_r22 : List Cond := [Cond.code yX7_undo cX7_undo 2 (some .int), Cond.methodLink RL 58 yX6_append, Cond.instanceMethod yX6_append, Cond.selects RX6 yX6_append yX6_append, Cond.code yX6_append cX6_append 2 (some .int), Cond.methodLink RX6 153 yX4_length, Cond.instanceMethod yX4_length, Cond.selects RX4 yX4_length yX4_length, Cond.code yX4_length cX4_length 1 (some .int), Cond.methodLink RX6 156 yX4_addCharacter, Cond.instanceMethod yX4_addCharacter, Cond.selects RX4 yX4_addCharacter yX4_addCharacter, Cond.code yX4_addCharacter cX4_addCharacter 2 none, Cond.methodLink RL 61 yX7_append, Cond.instanceMethod yX7_append, Cond.selects RX7 yX7_append yX7_append, Cond.code yX7_append cX7_append 2 (some .int), Cond.fieldLink RX7 117 "WoodcutPressModel" "length" "I", Cond.methodLink RL 62 yX6_clearText, Cond.instanceMethod yX6_clearText, Cond.selects RX6 yX6_clearText yX6_clearText, Cond.code yX6_clearText cX6_clearText 2 (some .int), Cond.methodLink RX6 159 yX4_forgetText, Cond.instanceMethod yX4_forgetText]
def wsL_law_r23 : List Cond := [Cond.selects RX4 yX4_forgetText yX4_forgetText, Cond.code yX4_forgetText cX4_forgetText 1 none, Cond.methodLink RL 65 yX7_clearText, Cond.instanceMethod yX7_clearText, Cond.selects RX7 yX7_clearText yX7_clearText, Cond.code yX7_clearText cX7_clearText 2 (some .int), Cond.methodLink RL 66 yX6_load, Cond.instanceMethod yX6_load, Cond.selects RX6 yX6_load yX6_load, Cond.code yX6_load cX6_load 2 (some .int), Cond.methodLink RX6 162 yX4_readText, Cond.instanceMethod yX4_readText, Cond.selects RX4 yX4_readText yX4_readText, Cond.code yX4_readText cX4_readText 3 (some .int), Cond.fieldLink RX4 35 "WoodcutPress$Blocks" "colours" "LWoodcutPress$Cells;", Cond.fieldLink RX4 42 "WoodcutPress$Blocks" "lines" "LWoodcutPress$Cells;", Cond.methodLink RX4 38 yX1_becomeLike, Cond.methodLink RX4 43 yX4_skipSpaces, Cond.instanceMethod yX4_skipSpaces, Cond.selects RX4 yX4_skipSpaces yX4_skipSpaces, Cond.code yX4_skipSpaces cX4_skipSpaces 1 none, Cond.methodLink RX4 53 yX4_here, Cond.instanceMethod yX4_here, Cond.selects RX4 yX4_here yX4_here]
def wsL_law_r24 : List Cond := [Cond.code yX4_here cX4_here 1 (some .int), Cond.methodLink RX4 46 yX4_readItem, Cond.instanceMethod yX4_readItem, Cond.selects RX4 yX4_readItem yX4_readItem, Cond.code yX4_readItem cX4_readItem 2 none, Cond.methodLink RX4 49 yX4_readNumber, Cond.instanceMethod yX4_readNumber, Cond.selects RX4 yX4_readNumber yX4_readNumber, Cond.code yX4_readNumber cX4_readNumber 7 (some .int), Cond.methodLink RX4 75 Lib.Math.min.name, Cond.methodLink RX4 71 yX4_isDigit, Cond.static yX4_isDigit, Cond.code yX4_isDigit cX4_isDigit 1 (some .boolean), Cond.methodLink RX4 57 yX4_failAt, Cond.instanceMethod yX4_failAt, Cond.selects RX4 yX4_failAt yX4_failAt, Cond.code yX4_failAt cX4_failAt 2 none, Cond.methodLink RX4 61 yX4_readRuns, Cond.instanceMethod yX4_readRuns, Cond.selects RX4 yX4_readRuns yX4_readRuns, Cond.code yX4_readRuns cX4_readRuns 9 none, Cond.methodLink RX4 64 yX1_putRow, Cond.methodLink RX4 68 yX4_readKind, Cond.instanceMethod yX4_readKind]
def wsL_law_r25 : List Cond := [Cond.selects RX4 yX4_readKind yX4_readKind, Cond.code yX4_readKind cX4_readKind 2 (some .int), Cond.methodLink RX6 166 yX4_handPictureTo, Cond.instanceMethod yX4_handPictureTo, Cond.selects RX4 yX4_handPictureTo yX4_handPictureTo, Cond.code yX4_handPictureTo cX4_handPictureTo 2 none, Cond.methodLink RL 69 yX7_load, Cond.instanceMethod yX7_load, Cond.selects RX7 yX7_load yX7_load, Cond.code yX7_load cX7_load 3 (some .int), Cond.fieldLink RX7 120 "WoodcutPressModel" "at" "I", Cond.fieldLink RX7 126 "WoodcutPressModel" "wrong" "I", Cond.methodLink RX7 136 yX7_skip, Cond.instanceMethod yX7_skip, Cond.selects RX7 yX7_skip yX7_skip, Cond.code yX7_skip cX7_skip 1 none, Cond.methodLink RX7 123 yX7_here, Cond.instanceMethod yX7_here, Cond.selects RX7 yX7_here yX7_here, Cond.code yX7_here cX7_here 1 (some .int), Cond.methodLink RX7 139 yX7_isWell, Cond.instanceMethod yX7_isWell, Cond.selects RX7 yX7_isWell yX7_isWell, Cond.code yX7_isWell cX7_isWell 1 (some .boolean)]
def wsL_law_r26 : List Cond := [Cond.methodLink RX7 157 yX7_readRow, Cond.instanceMethod yX7_readRow, Cond.selects RX7 yX7_readRow yX7_readRow, Cond.code yX7_readRow cX7_readRow 2 none, Cond.fieldLink RX7 148 "WoodcutPressModel" "read" "I", Cond.methodLink RX7 142 yX7_number, Cond.instanceMethod yX7_number, Cond.selects RX7 yX7_number yX7_number, Cond.code yX7_number cX7_number 6 (some .int), Cond.methodLink RX7 129 yX7_isDigit, Cond.instanceMethod yX7_isDigit, Cond.selects RX7 yX7_isDigit yX7_isDigit, Cond.code yX7_isDigit cX7_isDigit 1 (some .boolean), Cond.methodLink RX7 133 yX7_fail, Cond.instanceMethod yX7_fail, Cond.selects RX7 yX7_fail yX7_fail, Cond.code yX7_fail cX7_fail 2 none, Cond.methodLink RX7 151 yX7_expect, Cond.instanceMethod yX7_expect, Cond.selects RX7 yX7_expect yX7_expect, Cond.code yX7_expect cX7_expect 2 none, Cond.methodLink RX7 154 yX7_readRun, Cond.instanceMethod yX7_readRun, Cond.selects RX7 yX7_readRun yX7_readRun]
def wsL_law_r27 : List Cond := [Cond.code yX7_readRun cX7_readRun 7 none, Cond.methodLink RX7 145 yX7_kind, Cond.instanceMethod yX7_kind, Cond.selects RX7 yX7_kind yX7_kind, Cond.code yX7_kind cX7_kind 3 (some .int), Cond.methodLink RL 70 yX6_count, Cond.instanceMethod yX6_count, Cond.selects RX6 yX6_count yX6_count, Cond.code yX6_count cX6_count 2 (some .int), Cond.fieldLink RX6 170 "WoodcutPress$Blocks" "colours" "LWoodcutPress$Cells;", Cond.fieldLink RX6 173 "WoodcutPress$Blocks" "lines" "LWoodcutPress$Cells;", Cond.methodLink RX6 180 yX3_size, Cond.instanceMethod yX3_size, Cond.selects RX3 yX3_size yX3_size, Cond.code yX3_size cX3_size 1 (some .int), Cond.methodLink RX6 183 yX5_snapshots, Cond.instanceMethod yX5_snapshots, Cond.selects RX5 yX5_snapshots yX5_snapshots, Cond.code yX5_snapshots cX5_snapshots 1 (some .int), Cond.methodLink RL 73 yX7_count, Cond.instanceMethod yX7_count, Cond.selects RX7 yX7_count yX7_count, Cond.code yX7_count cX7_count 2 (some .int), Cond.methodLink RL 74 yX6_cell]
def wsL_law_r28 : List Cond := [Cond.instanceMethod yX6_cell, Cond.selects RX6 yX6_cell yX6_cell, Cond.code yX6_cell cX6_cell 4 (some .int), Cond.methodLink RX6 186 yX0_kindAt, Cond.methodLink RX6 189 yX0_wearAt, Cond.methodLink RL 78 yX7_cell, Cond.instanceMethod yX7_cell, Cond.selects RX7 yX7_cell yX7_cell, Cond.code yX7_cell cX7_cell 5 (some .int), Cond.methodLink RL 79 yX6_printed, Cond.instanceMethod yX6_printed, Cond.selects RX6 yX6_printed yX6_printed, Cond.code yX6_printed cX6_printed 5 (some .int), Cond.methodLink RX6 192 yX6_isShift, Cond.static yX6_isShift, Cond.code yX6_isShift cX6_isShift 2 (some .boolean), Cond.methodLink RX6 195 yX6_printsColour, Cond.instanceMethod yX6_printsColour, Cond.selects RX6 yX6_printsColour yX6_printsColour, Cond.code yX6_printsColour cX6_printsColour 5 (some .boolean), Cond.methodLink RL 82 yX7_printed, Cond.instanceMethod yX7_printed, Cond.selects RX7 yX7_printed yX7_printed, Cond.code yX7_printed cX7_printed 5 (some .int)]
def wsL_law_r29 : List Cond := [Cond.methodLink RX7 160 yX7_isShift, Cond.static yX7_isShift, Cond.code yX7_isShift cX7_isShift 2 (some .boolean), Cond.methodLink RL 83 yX6_proof, Cond.instanceMethod yX6_proof, Cond.selects RX6 yX6_proof yX6_proof, Cond.code yX6_proof cX6_proof 3 (some .int), Cond.methodLink RX6 199 yX3_partOf, Cond.instanceMethod yX3_partOf, Cond.selects RX3 yX3_partOf yX3_partOf, Cond.code yX3_partOf cX3_partOf 4 (some .int), Cond.methodLink RL 86 yX7_proof, Cond.instanceMethod yX7_proof, Cond.selects RX7 yX7_proof yX7_proof, Cond.code yX7_proof cX7_proof 5 (some .int), Cond.methodLink RL 87 yX6_faults, Cond.instanceMethod yX6_faults, Cond.selects RX6 yX6_faults yX6_faults, Cond.code yX6_faults cX6_faults 4 (some .int), Cond.methodLink RL 90 yX7_faults, Cond.instanceMethod yX7_faults, Cond.selects RX7 yX7_faults yX7_faults, Cond.code yX7_faults cX7_faults 4 (some .int), Cond.methodLink RL 91 yX6_why]
def wsL_law_r30 : List Cond := [Cond.instanceMethod yX6_why, Cond.selects RX6 yX6_why yX6_why, Cond.code yX6_why cX6_why 6 (some .int), Cond.methodLink RL 94 yX7_why, Cond.instanceMethod yX7_why, Cond.selects RX7 yX7_why yX7_why, Cond.code yX7_why cX7_why 6 (some .int), Cond.methodLink RL 95 yX6_tolerance, Cond.instanceMethod yX6_tolerance, Cond.selects RX6 yX6_tolerance yX6_tolerance, Cond.code yX6_tolerance cX6_tolerance 2 (some .int), Cond.methodLink RX6 209 yX6_hasGapsWithin, Cond.instanceMethod yX6_hasGapsWithin, Cond.selects RX6 yX6_hasGapsWithin yX6_hasGapsWithin, Cond.code yX6_hasGapsWithin cX6_hasGapsWithin 6 (some .boolean), Cond.methodLink RL 98 yX7_tolerance, Cond.instanceMethod yX7_tolerance, Cond.selects RX7 yX7_tolerance yX7_tolerance, Cond.code yX7_tolerance cX7_tolerance 2 (some .int), Cond.methodLink RX7 163 yX7_hasGapsWithin, Cond.instanceMethod yX7_hasGapsWithin, Cond.selects RX7 yX7_hasGapsWithin yX7_hasGapsWithin, Cond.code yX7_hasGapsWithin cX7_hasGapsWithin 4 (some .boolean), Cond.methodLink RL 99 yX6_trapFor]
def wsL_law_r31 : List Cond := [Cond.instanceMethod yX6_trapFor, Cond.selects RX6 yX6_trapFor yX6_trapFor, Cond.code yX6_trapFor cX6_trapFor 4 (some .int), Cond.methodLink RX6 213 yX0_cutColour, Cond.methodLink RL 102 yX7_trapFor, Cond.instanceMethod yX7_trapFor, Cond.selects RX7 yX7_trapFor yX7_trapFor, Cond.code yX7_trapFor cX7_trapFor 3 (some .int), Cond.methodLink RL 103 yX6_bestPins, Cond.instanceMethod yX6_bestPins, Cond.selects RX6 yX6_bestPins yX6_bestPins, Cond.code yX6_bestPins cX6_bestPins 10 (some .int), Cond.methodLink RX6 217 yX5_driftX, Cond.methodLink RX6 220 yX5_driftY, Cond.methodLink RL 106 yX7_bestPins, Cond.instanceMethod yX7_bestPins, Cond.selects RX7 yX7_bestPins yX7_bestPins, Cond.code yX7_bestPins cX7_bestPins 7 (some .int), Cond.methodLink RL 107 yX6_printsLeft, Cond.instanceMethod yX6_printsLeft, Cond.selects RX6 yX6_printsLeft yX6_printsLeft, Cond.code yX6_printsLeft cX6_printsLeft 2 (some .int), Cond.methodLink RX6 223 yX0_printsUntilWorn, Cond.instanceMethod yX0_printsUntilWorn]
def wsL_law_r32 : List Cond := [Cond.selects RX0 yX0_printsUntilWorn yX0_printsUntilWorn, Cond.code yX0_printsUntilWorn cX0_printsUntilWorn 7 (some .int), Cond.methodLink RX0 101 Lib.Math.min.name, Cond.methodLink RL 110 yX7_printsLeft, Cond.instanceMethod yX7_printsLeft, Cond.selects RX7 yX7_printsLeft yX7_printsLeft, Cond.code yX7_printsLeft cX7_printsLeft 4 (some .int)]
def wsL_law : List Cond := (wsL_law_r1 ++ (wsL_law_r2 ++ (wsL_law_r3 ++ (wsL_law_r4 ++ (wsL_law_r5 ++ (wsL_law_r6 ++ (wsL_law_r7 ++ (wsL_law_r8 ++ (wsL_law_r9 ++ (wsL_law_r10 ++ (wsL_law_r11 ++ (wsL_law_r12 ++ (wsL_law_r13 ++ (wsL_law_r14 ++ (wsL_law_r15 ++ (wsL_law_r16 ++ (wsL_law_r17 ++ (wsL_law_r18 ++ (wsL_law_r19 ++ (wsL_law_r20 ++ (wsL_law_r21 ++ (wsL_law_r22 ++ (wsL_law_r23 ++ (wsL_law_r24 ++ (wsL_law_r25 ++ (wsL_law_r26 ++ (wsL_law_r27 ++ (wsL_law_r28 ++ (wsL_law_r29 ++ (wsL_law_r30 ++ (wsL_law_r31 ++ wsL_law_r32))))))))))))))))))))))))))))))) ++ wsX60 ++ wsX70 ++ wsX50 ++ wsX20 ++ wsX40 ++ wsX10 ++ wsX00 ++ wsX30 ++ ([] : List Cond)

abbrev vwCl : List vw_C := [(RX0, TX0, 5), (RX1, TX1, 1), (RX2, TX2, 3), (RX3, TX3, 3), (RX4, TX4, 6), (RX5, TX5, 10), (RX6, TX6, 5), (RX7, TX7, 15)]
end
section
/-! the abstract machine: the objects have fixed numbers, references never change, all that changes is a table of ints -/
abbrev aS : Type := Nat → Nat → Int32
abbrev aG : Type := (Nat → ClassId) × (Nat → Nat → Nat) × (Nat → Nat) × ClassId × ClassId × Nat
def gD (g : aG) : va_G := (g.1, g.2.1)
def gL (g : aG) : Nat → Nat := g.2.2.1
def gI (g : aG) : ClassId := g.2.2.2.1
def gQ (g : aG) : ClassId := g.2.2.2.2.1
def gB (g : aG) : Nat := g.2.2.2.2.2
def gA (g : aG) : Nat → Prop := fun q => gB g ≤ q
/-- kinds: 0 Blocks, 1 Cells, 2 History, 3 Log, 4 Reader, 5 State, 6 WoodcutPress, 7 the model, 8 int[], 9 State[], 10 nothing -/
def kdB (j : Nat) : Nat := if j = 0 then 0 else if j ≤ 4 then 1 else 8
def kdS (j : Nat) : Nat := if j = 0 then 5 else if j = 1 then 8 else if j = 2 then 3 else if j = 3 then 8 else if j < 10 then 10 else if j < 40 then kdB (j % 10) else 10
def kdT (o : Nat) : Nat := if o = 600 then 6 else if o = 601 then 2 else if o = 602 then 9 else if o = 603 then 4 else if o = 604 then 8 else if o < 609 then 1 else if o < 613 then 8 else if o < 700 then 10 else if o = 700 then 7 else 8
def kd (o : Nat) : Nat := if o < 600 then kdS (o % 100) else if o < 707 then kdT o else 10
def ln (o : Nat) : Nat := if o < 600 then (if o % 100 = 1 then 5 else if o % 100 = 3 then 72 else if o % 10 = 9 then 192 else 12) else if o = 602 then 5 else if o = 604 then 140 else if o < 700 then 12 else if o = 701 then 2374 else if o = 702 then 11870 else if o = 703 then 140 else if o = 704 then 384 else 192
def rf (o k : Nat) : Nat := match kd o with
  | 0 => if k = 0 then o + 1 else if k = 1 then o + 2 else if k = 2 then o + 3 else if k = 3 then o + 4 else o + 9
  | 1 => o + 4
  | 2 => 602
  | 3 => o + 1
  | 4 => if k = 0 then 604 else if k = 4 then 605 else 606
  | 5 => if k = 0 then o + 10 else if k = 1 then o + 1 else if k = 2 then o + 2 else if k = 6 then o + 20 else o + 30
  | 6 => if k = 0 then 0 else if k = 1 then 601 else if k = 2 then 603 else if k = 3 then 607 else 608
  | 7 => if k = 1 then 701 else if k = 2 then 702 else if k = 4 then 703 else if k = 6 then 704 else if k = 7 then 705 else 706
  | _ => 100 * (k + 1)
def nf (c : Nat) : Nat := match c with
  | 0 => 5
  | 1 => 1
  | 2 => 3
  | 3 => 3
  | 4 => 6
  | 5 => 10
  | 6 => 5
  | _ => 15
def isR (c k : Nat) : Bool := match c with
  | 0 => true
  | 1 => true
  | 2 => k == 0
  | 3 => k == 0
  | 4 => k == 0 || k == 4 || k == 5
  | 5 => k == 0 || k == 1 || k == 2 || k == 6 || k == 7
  | 6 => true
  | _ => k == 1 || k == 2 || k == 4 || k == 6 || k == 7 || k == 11
def fV (g : aG) (σ : aS) (o k : Nat) : Value := if isR (kd o) k then .ref (gL g (rf o k)) else .int (σ o k)
def cE (g : aG) (σ : aS) (o : Nat) : va_E := if kd o < 8 then .inr (kd o, (List.range (nf (kd o))).map (fV g σ o)) else if kd o = 8 then .inl (gI g, ln o, .inl (σ o)) else .inl (gQ g, ln o, .inr (.inr (.inr (.inr (fun k => some (gL g (rf o k)))))))
def un : List Nat := (List.range 707).filter (fun o => decide (kd o < 10))
def wL (g : aG) (σ : aS) : va_W := un.map (fun o => (gL g o, cE g σ o))
def sP (σ : aS) (o : Nat) (f : Nat → Int32) : aS := fun q => if q = o then f else σ q
theorem sP_same (σ : aS) (o : Nat) (f : Nat → Int32) : sP σ o f o = f := by simp [sP]
theorem sP_ne {σ : aS} {o q : Nat} {f : Nat → Int32} (h : q ≠ o) : sP σ o f q = σ q := by simp [sP, h]
def RH (g : aG) (σ : aS) (H : Heap) : Prop := va_P (gD g) vwCl (wL g σ) H
def GL (g : aG) : Prop := (∀ a b, kd a < 10 → kd b < 10 → gL g a = gL g b → a = b) ∧ ∀ a, kd a < 10 → gB g ≤ gL g a
def tlo : List Int32 := [0, -4, -4, 1, 0]
def thi : List Int32 := [100, 4, 4, 1000, 10]
def nwl : List Cond := [.methodLinkNest RX1 22 yX6_isPlace RX6, .methodLinkNest RX0 53 yX6_oneIf RX6, .methodLinkNest RX0 74 yX6_isPlace RX6, .methodLinkNest RX1 38 yX6_oneIf RX6, .methodLinkNest RX4 80 yX6_isWithin RX6, .methodLinkNest RX5 81 yX6_oneIf RX6, .methodLinkNest RX3 34 yX6_isWithin RX6]
def aTys (g : aG) : List (ClassId × FieldType) := [(gI g, .int), (gQ g, .object RX5)]
def GK (g : aG) (U : State) (H : Heap) : Prop := GL g ∧ va_K (gD g) vwCl (aTys g) U ∧ (∀ w ∈ nwl, va_Nw w U) ∧ va_Z RX6 "LEAST_SETTINGS" "[I" (.ref (gL g 801)) (gA g) U H ∧ va_T .int (gL g 801) 5 (fun k => .int (tlo.getD k 0)) (gA g) U H ∧ va_Z RX6 "GREATEST_SETTINGS" "[I" (.ref (gL g 802)) (gA g) U H ∧ va_T .int (gL g 802) 5 (fun k => .int (thi.getD k 0)) (gA g) U H ∧ gB g ≤ H.size
def cv (g : aG) : Value → Value
  | .ref o => .ref (gL g o)
  | .int x => .int x
  | _ => .null
theorem cv_cat (g : aG) (v : Value) : (cv g v).category = 1 := by cases v <;> rfl
theorem cv_sum (g : aG) : ∀ st : List Value, ((st.map (cv g)).map fun v => v.category).sum = st.length
  | [] => rfl
  | v :: st => by
    simp only [List.map_cons, List.sum_cons, List.length_cons, cv_cat, cv_sum g st]
    omega
def LL (g : aG) (jl : Array Slot) (ls : List (Option Value)) : Prop := jl.size = ls.length ∧ lv_wf jl ∧ ∀ (i : Nat) (w : Value), ls[i]? = some (some w) → jl[i]? = some (Slot.val (cv g w))
def asc (g : aG) (ls : List (Option Value)) : List (Nat × Value) := (List.range ls.length).filterMap (fun i => (ls[i]?.join).map (fun v => (i, cv g v)))
theorem asc_mem {g : aG} {ls : List (Option Value)} {q : Nat × Value} : q ∈ asc g ls ↔ ∃ w, ls[q.1]? = some (some w) ∧ q.2 = cv g w := by
  unfold asc
  rw [List.mem_filterMap]
  constructor
  · rintro ⟨i, hi, h⟩
    cases hj : ls[i]? with
    | none => rw [hj] at h; simp at h
    | some o =>
      cases o with
      | none => rw [hj] at h; simp at h
      | some w =>
        rw [hj] at h
        simp at h
        subst h
        exact ⟨w, hj, rfl⟩
  · rintro ⟨w, h1, h2⟩
    refine ⟨q.1, List.mem_range.mpr (List.getElem?_eq_some_iff.mp h1).1, ?_⟩
    rw [h1]
    simp [← h2]
theorem LL.has {g : aG} {jl : Array Slot} {ls : List (Option Value)} (h : LL g jl ls) : lv_has jl jl.size (asc g ls) := by
  refine ⟨rfl, h.2.1, fun q hq => ?_⟩
  obtain ⟨w, h1, h2⟩ := asc_mem.mp hq
  rw [h2]
  exact h.2.2 _ w h1
theorem LL.set {g : aG} {jl' : Array Slot} {ls : List (Option Value)} {i : Nat} {v : Value} {n : Nat} (hn : n = ls.length) (h : lv_has jl' n ((i, cv g v) :: (asc g ls).filter (fun q => !(q.1 == i) && !(q.1 + 1 == i && q.2.category == 2)))) : LL g jl' (ls.set i (some v)) := by
  refine ⟨by rw [h.1, hn, List.length_set], h.2.1, fun j w hj => ?_⟩
  by_cases hji : i = j
  · subst hji
    rw [List.getElem?_set] at hj
    split at hj
    · split at hj
      · cases hj
        exact h.2.2 (i, cv g v) List.mem_cons_self
      · cases hj
    · rename_i hne
      exact absurd rfl hne
  · rw [List.getElem?_set_ne hji] at hj
    refine h.2.2 (j, cv g w) (List.mem_cons_of_mem _ (List.mem_filter.mpr ⟨asc_mem.mpr ⟨w, hj, rfl⟩, ?_⟩))
    have h1 : (j == i) = false := by simp; exact fun q => hji q.symm
    have h2 : ((cv g w).category == 2) = false := by rw [cv_cat]; rfl
    simp [h1, h2]
theorem un_mem {o : Nat} (h : kd o < 10) : o ∈ un := by
  refine List.mem_filter.mpr ⟨List.mem_range.mpr ?_, by simpa using h⟩
  rcases Nat.lt_or_ge o 707 with q | q
  · exact q
  · exact absurd h (by unfold kd; rw [if_neg (by omega), if_neg (by omega)]; decide)
theorem un_at {o : Nat} (h : kd o < 10) : ∃ q0 : Nat, un[q0]? = some o := by
  obtain ⟨i, hi⟩ := List.getElem?_of_mem (un_mem h)
  exact ⟨i, hi⟩
theorem un_nd : un.Nodup := List.Nodup.sublist List.filter_sublist List.nodup_range
theorem un_inj {i j o : Nat} (h1 : un[i]? = some o) (h2 : un[j]? = some o) : i = j := by
  obtain ⟨a1, a2⟩ := List.getElem?_eq_some_iff.mp h1
  obtain ⟨b1, b2⟩ := List.getElem?_eq_some_iff.mp h2
  rcases Nat.lt_trichotomy i j with h | h | h
  · exact absurd (a2.trans b2.symm) (List.pairwise_iff_getElem.mp un_nd i j a1 b1 h)
  · exact h
  · exact absurd (b2.trans a2.symm) (List.pairwise_iff_getElem.mp un_nd j i b1 a1 h)
theorem wL_at {g : aG} {σ : aS} {o q0 : Nat} (h : un[q0]? = some o) : (wL g σ)[q0]? = some (gL g o, cE g σ o) := by simp [wL, h]
theorem cE_ne {g : aG} {σ : aS} {o q : Nat} {f : Nat → Int32} (h : q ≠ o) : cE g (sP σ o f) q = cE g σ q := by
  have e : fV g (sP σ o f) q = fV g σ q := by
    funext k
    simp [fV, sP_ne h]
  simp [cE, e, sP_ne h]
theorem wL_set {g : aG} {σ : aS} {o q0 : Nat} {f : Nat → Int32} (h : un[q0]? = some o) : (wL g σ).set q0 (gL g o, cE g (sP σ o f) o) = wL g (sP σ o f) := by
  apply List.ext_getElem?
  intro i
  by_cases hi : q0 = i
  · subst hi
    have hl : q0 < (wL g σ).length := by
      unfold wL
      rw [List.length_map]
      exact (List.getElem?_eq_some_iff.mp h).1
    rw [List.getElem?_set_self hl, wL_at h]
  · rw [List.getElem?_set_ne hi]
    unfold wL
    rw [List.getElem?_map, List.getElem?_map]
    cases hj : un[i]? with
    | none => rfl
    | some o2 =>
      have hne : o2 ≠ o := by
        intro e
        subst e
        exact hi (un_inj h hj)
      simp only [Option.map_some]
      rw [cE_ne hne]
theorem wL_D {g : aG} {σ : aS} (h : GL g) : va_D (gA g) (wL g σ) := by
  have key : ∀ (i : Nat) (p : Nat × va_E), (wL g σ)[i]? = some p → ∃ o, un[i]? = some o ∧ p.1 = gL g o ∧ kd o < 10 := by
    intro i p hp
    unfold wL at hp
    rw [List.getElem?_map] at hp
    cases hj : un[i]? with
    | none => rw [hj] at hp; cases hp
    | some o =>
      rw [hj] at hp
      cases hp
      refine ⟨o, rfl, rfl, ?_⟩
      have := (List.mem_filter.mp (List.mem_of_getElem? hj)).2
      simpa using this
  refine ⟨fun i j p q hi hj e => ?_, fun k q hk => ?_⟩
  · obtain ⟨a, a1, a2, a3⟩ := key i p hi
    obtain ⟨b, b1, b2, b3⟩ := key j q hj
    have hab : a = b := h.1 a b a3 b3 (a2.symm.trans (e.trans b2))
    subst hab
    exact un_inj a1 b1
  · obtain ⟨a, a1, a2, a3⟩ := key k q hk
    show gB g ≤ q.1
    rw [a2]
    exact h.2 a a3
theorem GK.kept {g : aG} {U : State} {H0 H : Heap} {locs : List Loc} (h : GK g U H0) (hS : va_S (gA g) H0 H locs) : GK g U H := by
  obtain ⟨h1, h2, h3, h4, h5, h6, h7, h8⟩ := h
  exact ⟨h1, h2, h3, h4.kept hS.2.1, h5.kept hS.2.1, h6.kept hS.2.1, h7.kept hS.2.1, Nat.le_trans h8 hS.1⟩
theorem nwl_warm {s U : State} (hW : s.WarmedH U.vm) (h : ∀ w ∈ nwl, va_Nw w s) : ∀ w ∈ nwl, va_Nw w U := by
  intro w hw
  have h1 := h w hw
  simp only [nwl, List.mem_cons, List.not_mem_nil, or_false] at hw
  rcases hw with rfl | rfl | rfl | rfl | rfl | rfl | rfl <;> exact va_Nw.warmM hW h1
theorem GK.moved {g : aG} {s U : State} {H : Heap} (hW : s.WarmedH U.vm) (h : GK g s H) : GK g U H := by
  obtain ⟨h1, h2, h3, h4, h5, h6, h7, h8⟩ := h
  exact ⟨h1, va_K.moved hW.alike h2, nwl_warm hW h3, va_Z.moved hW.alike h4, va_T.moved hW.alike h5, va_Z.moved hW.alike h6, va_T.moved hW.alike h7, h8⟩
theorem nwl_vm {s U : State} (e : s.vm = U.vm) (h : ∀ w ∈ nwl, va_Nw w s) : ∀ w ∈ nwl, va_Nw w U := by
  intro w hw
  have h1 := h w hw
  simp only [nwl, List.mem_cons, List.not_mem_nil, or_false] at hw
  rcases hw with rfl | rfl | rfl | rfl | rfl | rfl | rfl <;> exact va_Nw.same rfl e h1
theorem GK.vm {g : aG} {s U : State} {H : Heap} (e : s.vm = U.vm) (h : GK g s H) : GK g U H := by
  obtain ⟨h1, h2, h3, h4, h5, h6, h7, h8⟩ := h
  have hA : s.vm.Alike U.vm := by rw [e]; exact Vm.Alike.refl _
  exact ⟨h1, va_K.moved hA h2, nwl_vm e h3, va_Z.moved hA h4, va_T.moved hA h5, va_Z.moved hA h6, va_T.moved hA h7, h8⟩
/-! the judgement -/
abbrev KT : Type := Program × Launch × Env × Room × State × MethodId × Array Value × List Frame × Method × Code × Nat × Nat × (State → Prop) × aG
def kG (K : KT) : aG := K.2.2.2.2.2.2.2.2.2.2.2.2.2
def kL (K : KT) : Launch := K.2.1
def AW (K : KT) (pc : Nat) (ls : List (Option Value)) (st : List Value) (σ : aS) : Prop := match K with
  | (p, l, e, R, s, m, args, below, meth, c, cells, slots, Q, g) => ∀ (H : Heap) (locs : List Loc) (jl : Array Slot), RH g σ H → va_S (gA g) s.heap H locs → jl.size = c.maxLocals → LL g jl ls → W p l e R s m args below meth c H locs cells slots Q (F0 m pc jl (st.map (cv g)))
def OKc (K : KT) (cc : ByteArray) (own : String) (Ts : List Cond) (fr lo : Nat) : Prop := match K with
  | (p, _, _, R, s, m, args, _, _, c, cells, slots, _, g) => p.tables.exec = Jvm.exec ∧ c.code = cc ∧ s.vm.findClass own = some m.cls ∧ (∀ w ∈ Ts, w.before args s = true) ∧ GK g s s.heap ∧ fr ≤ R.frames ∧ lo ≤ R.locals ∧ cells ≤ R.cells ∧ slots ≤ R.slots
def CQ (g : aG) (r : Option Value) (σ : aS) : Array Value → State → Outcome → State → Prop := fun _ st o t => (o = .returned (r.map (cv g)) ∧ RH g σ t.heap) ∧ va_F (gA g) st t
def KE (K : KT) (ret : Option FieldType) (r : Option Value) (σ : aS) : Prop := match K with
  | (_, _, _, _, s, _, args, below, meth, _, cells, slots, Q, g) => meth.sig.returnType = ret ∧ meth.locks = false ∧ Q = MQ below (CQ g r σ) args s cells slots (gA g)
def CN (g : aG) (l : Launch) (y : MethodName) (ws : List Cond) (fr lo : Nat) (as : List Value) (σ : aS) (r : Option Value) (σ' : aS) : Prop :=
  Met l y ws ({ frames := fr, cells := 0, slots := 0, locals := lo } : Jvm.Room) (va_Pc (as.map (cv g)) (fun U => RH g σ U.heap ∧ GK g U U.heap)) (CQ g r σ') 0 0 (gA g)
/-- first locals -/
def iL : List Value → Nat → List (Option Value)
  | _, 0 => []
  | [], n + 1 => none :: iL [] n
  | v :: vs, n + 1 => some v :: iL vs n
theorem iL_nil : ∀ (n i : Nat) (w : Value), (iL [] n)[i]? ≠ some (some w)
  | 0, i, w => by simp [iL]
  | n + 1, 0, w => by simp [iL]
  | n + 1, i + 1, w => by simp only [iL, List.getElem?_cons_succ]; exact iL_nil n i w
theorem iL_at : ∀ (as : List Value) (n i : Nat) (w : Value), (iL as n)[i]? = some (some w) → as[i]? = some w
  | _, 0, i, w, h => by simp [iL] at h
  | [], n + 1, i, w, h => absurd h (iL_nil (n + 1) i w)
  | v :: vs, n + 1, 0, w, h => by simp [iL] at h; simp [h]
  | v :: vs, n + 1, i + 1, w, h => by simp only [iL, List.getElem?_cons_succ] at h ⊢; exact iL_at vs n i w h
theorem iL_len : ∀ (as : List Value) (n : Nat), (iL as n).length = n
  | _, 0 => by simp [iL]
  | [], n + 1 => by simp [iL, iL_len [] n]
  | v :: vs, n + 1 => by simp [iL, iL_len vs n]
theorem lg_sl_cv (g : aG) : ∀ as : List Value, lg_sl (as.map (cv g)) = as.map (fun v => Slot.val (cv g v))
  | [] => rfl
  | v :: vs => by
    have h := lg_sl_cv g vs
    unfold lg_sl at h ⊢
    simp only [List.map_cons, List.flatMap_cons, cv_cat, h]
    rfl
theorem cn_of {g : aG} {l : Launch} {y : MethodName} {ws ws' : List Cond} {cc : ByteArray} {nL : Nat} {ret : Option FieldType} {own : String} {fr lo : Nat} {as : List Value} {σ : aS} {r : Option Value} {σ' : aS} (hy : plainName y.cls = true) (hown : y.cls = own) (hw : ws = .code y cc nL ret :: ws') (hlen : as.length ≤ nL)
    (body : ∀ K : KT, kG K = g → kL K = l → OKc K cc own ws fr lo → KE K ret r σ' → AW K 0 (iL as nL) [] σ) : CN g l y ws fr lo as σ r σ' := by
  refine Met.ofW (cc := cc) (maxL := nL) (ret := ret) hy hw ?_
  intro p e s m args below meth c s₁ B hml hv
  obtain ⟨rfl, hR, hGK⟩ := hv
  have hown' : s.vm.findClass own = some m.cls := hown ▸ findClass_of_methodNamed B.named
  have h := body (p, l, e, ({ frames := fr, cells := 0, slots := 0, locals := lo } : Jvm.Room), s, m, (as.map (cv g)).toArray, below, meth, c, 0, 0, MQ below (CQ g r σ') (as.map (cv g)).toArray s 0 0 (gA g), g) rfl rfl
    ⟨B.exec, B.bytes, hown', atoms_spec (ws := ws) B.pre, hGK, Nat.le_refl _, Nat.le_refl _, Nat.le_refl _, Nat.le_refl _⟩ ⟨B.returns, B.notSynchronized, rfl⟩
  have hs : (lg_sl (as.map (cv g))).length ≤ nL := by rw [lg_sl_cv, List.length_map]; exact hlen
  rw [lg_entry_eq]
  have hl := lv_entry (as.map (cv g)) (n := nL) hs
  refine h s.heap [] _ hR va_S.rf ?_ ⟨?_, hl.2.1, fun i w hi => ?_⟩
  · rw [hl.1, hml]
  · rw [hl.1, iL_len]
  · have ha := iL_at as nL i w hi
    rw [lg_sl_cv]
    have hi2 : i < as.length := (List.getElem?_eq_some_iff.mp ha).1
    rw [List.getElem?_toArray, List.getElem?_append_left (by rw [List.length_map]; exact hi2), List.getElem?_map, ha]
    rfl
section AR
variable {K : KT} {cc : ByteArray} {own : String} {Ts : List Cond} {fr lo pc : Nat} {ls : List (Option Value)} {st : List Value} {σ : aS}

/-- a step that leaves heap and locals -/

theorem s_iconst {n : Int} {v : Int32} (hK : OKc K cc own Ts fr lo) (hd : decode cc pc = .ok (.iconst n, 1)) (hv : Int32.ofInt n = v) (k : AW K (pc + 1) ls (.int v :: st) σ) : AW K pc ls st σ := by
  obtain ⟨p, l, e, R, s, m, args, below, meth, c, cells, slots, Q, g⟩ := K
  obtain ⟨hx, hb, hown, hts, hGK, hfr, hlo, hcl, hsl⟩ := hK
  intro H locs jl hR hS hsz hl
  exact lv_iconst hx hb hd hv (k H locs jl hR hS hsz hl)
theorem s_bipush {n : Int} {v : Int32} (hK : OKc K cc own Ts fr lo) (hd : decode cc pc = .ok (.bipush n, 2)) (hv : (Int8.ofInt n).toInt32 = v) (k : AW K (pc + 2) ls (.int v :: st) σ) : AW K pc ls st σ := by
  obtain ⟨p, l, e, R, s, m, args, below, meth, c, cells, slots, Q, g⟩ := K
  obtain ⟨hx, hb, hown, hts, hGK, hfr, hlo, hcl, hsl⟩ := hK
  intro H locs jl hR hS hsz hl
  exact lv_bipush hx hb hd hv (k H locs jl hR hS hsz hl)
theorem s_sipush {n : Int} {v : Int32} (hK : OKc K cc own Ts fr lo) (hd : decode cc pc = .ok (.sipush n, 3)) (hv : (Int16.ofInt n).toInt32 = v) (k : AW K (pc + 3) ls (.int v :: st) σ) : AW K pc ls st σ := by
  obtain ⟨p, l, e, R, s, m, args, below, meth, c, cells, slots, Q, g⟩ := K
  obtain ⟨hx, hb, hown, hts, hGK, hfr, hlo, hcl, hsl⟩ := hK
  intro H locs jl hR hS hsz hl
  exact lv_sipush hx hb hd hv (k H locs jl hR hS hsz hl)
theorem s_ldc {v : Int32} {idx : Nat} (hK : OKc K cc own Ts fr lo) (hd : decode cc pc = .ok (.ldc idx, 2)) (hc : Jvm.Cond.constant own idx v ∈ Ts) (k : AW K (pc + 2) ls (.int v :: st) σ) : AW K pc ls st σ := by
  obtain ⟨p, l, e, R, s, m, args, below, meth, c, cells, slots, Q, g⟩ := K
  obtain ⟨hx, hb, hown, hts, hGK, hfr, hlo, hcl, hsl⟩ := hK
  intro H locs jl hR hS hsz hl
  exact lv_ldc hx hb hown (hts _ hc) hd (k H locs jl hR hS hsz hl)
theorem s_ldcw {v : Int32} {idx : Nat} (hK : OKc K cc own Ts fr lo) (hd : decode cc pc = .ok (.ldc_w idx, 3)) (hc : Jvm.Cond.constant own idx v ∈ Ts) (k : AW K (pc + 3) ls (.int v :: st) σ) : AW K pc ls st σ := by
  obtain ⟨p, l, e, R, s, m, args, below, meth, c, cells, slots, Q, g⟩ := K
  obtain ⟨hx, hb, hown, hts, hGK, hfr, hlo, hcl, hsl⟩ := hK
  intro H locs jl hR hS hsz hl
  exact lv_ldcw hx hb hown (hts _ hc) hd (k H locs jl hR hS hsz hl)
theorem s_iloadn {k : Fin 4} {i : Nat} {x : Int32} (hK : OKc K cc own Ts fr lo) (hd : decode cc pc = .ok (.iload_n k, 1)) (hi : (k : Nat) = i) (h : ls[i]? = some (some (.int x))) (k : AW K (pc + 1) ls (.int x :: st) σ) : AW K pc ls st σ := by
  obtain ⟨p, l, e, R, s, m, args, below, meth, c, cells, slots, Q, g⟩ := K
  obtain ⟨hx, hb, hown, hts, hGK, hfr, hlo, hcl, hsl⟩ := hK
  intro H locs jl hR hS hsz hl
  exact lv_iload_n hx hb hd hi (hl.2.2 i _ h) (k H locs jl hR hS hsz hl)
theorem s_iloadg {i : Nat} {x : Int32} (hK : OKc K cc own Ts fr lo) (hd : decode cc pc = .ok (.iload i, 2)) (h : ls[i]? = some (some (.int x))) (k : AW K (pc + 2) ls (.int x :: st) σ) : AW K pc ls st σ := by
  obtain ⟨p, l, e, R, s, m, args, below, meth, c, cells, slots, Q, g⟩ := K
  obtain ⟨hx, hb, hown, hts, hGK, hfr, hlo, hcl, hsl⟩ := hK
  intro H locs jl hR hS hsz hl
  exact lv_iload hx hb hd (hl.2.2 i _ h) (k H locs jl hR hS hsz hl)
theorem s_aloadn {k : Fin 4} {i o : Nat} (hK : OKc K cc own Ts fr lo) (hd : decode cc pc = .ok (.aload_n k, 1)) (hi : (k : Nat) = i) (h : ls[i]? = some (some (.ref o))) (k : AW K (pc + 1) ls (.ref o :: st) σ) : AW K pc ls st σ := by
  obtain ⟨p, l, e, R, s, m, args, below, meth, c, cells, slots, Q, g⟩ := K
  obtain ⟨hx, hb, hown, hts, hGK, hfr, hlo, hcl, hsl⟩ := hK
  intro H locs jl hR hS hsz hl
  exact lv_aload_n hx hb hd hi (hl.2.2 i _ h) (k H locs jl hR hS hsz hl)
theorem s_aloadg {i o : Nat} (hK : OKc K cc own Ts fr lo) (hd : decode cc pc = .ok (.aload i, 2)) (h : ls[i]? = some (some (.ref o))) (k : AW K (pc + 2) ls (.ref o :: st) σ) : AW K pc ls st σ := by
  obtain ⟨p, l, e, R, s, m, args, below, meth, c, cells, slots, Q, g⟩ := K
  obtain ⟨hx, hb, hown, hts, hGK, hfr, hlo, hcl, hsl⟩ := hK
  intro H locs jl hR hS hsz hl
  exact lv_aload hx hb hd (hl.2.2 i _ h) (k H locs jl hR hS hsz hl)
theorem s_istoren {k : Fin 4} {i : Nat} {x : Int32} (hK : OKc K cc own Ts fr lo) (hd : decode cc pc = .ok (.istore_n k, 1)) (hi : (k : Nat) = i) (hin : i < ls.length) (k : AW K (pc + 1) (ls.set i (some (.int x))) st σ) : AW K pc ls (.int x :: st) σ := by
  obtain ⟨p, l, e, R, s, m, args, below, meth, c, cells, slots, Q, g⟩ := K
  obtain ⟨hx, hb, hown, hts, hGK, hfr, hlo, hcl, hsl⟩ := hK
  intro H locs jl hR hS hsz hl
  refine lv_istore_n hx hb hd hi hl.has (by rw [hl.1]; exact hin) rfl (fun jl' h9 => k H locs jl' hR hS (by rw [h9.1]; exact hsz) (LL.set hl.1 h9))
theorem s_istoreg {i : Nat} {x : Int32} (hK : OKc K cc own Ts fr lo) (hd : decode cc pc = .ok (.istore i, 2)) (hin : i < ls.length) (k : AW K (pc + 2) (ls.set i (some (.int x))) st σ) : AW K pc ls (.int x :: st) σ := by
  obtain ⟨p, l, e, R, s, m, args, below, meth, c, cells, slots, Q, g⟩ := K
  obtain ⟨hx, hb, hown, hts, hGK, hfr, hlo, hcl, hsl⟩ := hK
  intro H locs jl hR hS hsz hl
  refine lv_istore hx hb hd hl.has (by rw [hl.1]; exact hin) rfl (fun jl' h9 => k H locs jl' hR hS (by rw [h9.1]; exact hsz) (LL.set hl.1 h9))
theorem s_astoren {k : Fin 4} {i o : Nat} (hK : OKc K cc own Ts fr lo) (hd : decode cc pc = .ok (.astore_n k, 1)) (hi : (k : Nat) = i) (hin : i < ls.length) (k : AW K (pc + 1) (ls.set i (some (.ref o))) st σ) : AW K pc ls (.ref o :: st) σ := by
  obtain ⟨p, l, e, R, s, m, args, below, meth, c, cells, slots, Q, g⟩ := K
  obtain ⟨hx, hb, hown, hts, hGK, hfr, hlo, hcl, hsl⟩ := hK
  intro H locs jl hR hS hsz hl
  refine lv_astore_n hx hb hd hi hl.has (by rw [hl.1]; exact hin) rfl (fun jl' h9 => k H locs jl' hR hS (by rw [h9.1]; exact hsz) (LL.set hl.1 h9))
theorem s_astoreg {i o : Nat} (hK : OKc K cc own Ts fr lo) (hd : decode cc pc = .ok (.astore i, 2)) (hin : i < ls.length) (k : AW K (pc + 2) (ls.set i (some (.ref o))) st σ) : AW K pc ls (.ref o :: st) σ := by
  obtain ⟨p, l, e, R, s, m, args, below, meth, c, cells, slots, Q, g⟩ := K
  obtain ⟨hx, hb, hown, hts, hGK, hfr, hlo, hcl, hsl⟩ := hK
  intro H locs jl hR hS hsz hl
  refine lv_astore hx hb hd hl.has (by rw [hl.1]; exact hin) rfl (fun jl' h9 => k H locs jl' hR hS (by rw [h9.1]; exact hsz) (LL.set hl.1 h9))
theorem s_iincg {i : Nat} {z : Int} {x v : Int32} (hK : OKc K cc own Ts fr lo) (hd : decode cc pc = .ok (.iinc i z, 3)) (h : ls[i]? = some (some (.int x))) (hv : x + Int32.ofInt z = v) (hin : i < ls.length) (k : AW K (pc + 3) (ls.set i (some (.int v))) st σ) : AW K pc ls st σ := by
  obtain ⟨p, l, e, R, s, m, args, below, meth, c, cells, slots, Q, g⟩ := K
  obtain ⟨hx, hb, hown, hts, hGK, hfr, hlo, hcl, hsl⟩ := hK
  intro H locs jl hR hS hsz hl
  obtain ⟨k0, hk0⟩ := List.getElem?_of_mem (asc_mem (g := g) (ls := ls) (q := (i, .int x)).mpr ⟨_, h, rfl⟩)
  refine lv_iinc hx hb hd hl.has hk0 hv (by rw [hl.1]; exact hin) rfl (fun jl' h9 => k H locs jl' hR hS (by rw [h9.1]; exact hsz) (LL.set hl.1 h9))
theorem s_iadd {x y : Int32} (hK : OKc K cc own Ts fr lo) (hd : decode cc pc = .ok (.iadd, 1)) (k : AW K (pc + 1) ls (.int (x + y) :: st) σ) : AW K pc ls (.int y :: .int x :: st) σ := by
  obtain ⟨p, l, e, R, s, m, args, below, meth, c, cells, slots, Q, g⟩ := K
  obtain ⟨hx, hb, hown, hts, hGK, hfr, hlo, hcl, hsl⟩ := hK
  intro H locs jl hR hS hsz hl
  exact lv_iadd hx hb hd (k H locs jl hR hS hsz hl)
theorem s_isub {x y : Int32} (hK : OKc K cc own Ts fr lo) (hd : decode cc pc = .ok (.isub, 1)) (k : AW K (pc + 1) ls (.int (x - y) :: st) σ) : AW K pc ls (.int y :: .int x :: st) σ := by
  obtain ⟨p, l, e, R, s, m, args, below, meth, c, cells, slots, Q, g⟩ := K
  obtain ⟨hx, hb, hown, hts, hGK, hfr, hlo, hcl, hsl⟩ := hK
  intro H locs jl hR hS hsz hl
  exact lv_isub hx hb hd (k H locs jl hR hS hsz hl)
theorem s_imul {x y : Int32} (hK : OKc K cc own Ts fr lo) (hd : decode cc pc = .ok (.imul, 1)) (k : AW K (pc + 1) ls (.int (x * y) :: st) σ) : AW K pc ls (.int y :: .int x :: st) σ := by
  obtain ⟨p, l, e, R, s, m, args, below, meth, c, cells, slots, Q, g⟩ := K
  obtain ⟨hx, hb, hown, hts, hGK, hfr, hlo, hcl, hsl⟩ := hK
  intro H locs jl hR hS hsz hl
  exact lv_imul hx hb hd (k H locs jl hR hS hsz hl)
theorem s_iand {x y : Int32} (hK : OKc K cc own Ts fr lo) (hd : decode cc pc = .ok (.iand, 1)) (k : AW K (pc + 1) ls (.int (x &&& y) :: st) σ) : AW K pc ls (.int y :: .int x :: st) σ := by
  obtain ⟨p, l, e, R, s, m, args, below, meth, c, cells, slots, Q, g⟩ := K
  obtain ⟨hx, hb, hown, hts, hGK, hfr, hlo, hcl, hsl⟩ := hK
  intro H locs jl hR hS hsz hl
  exact lv_iand hx hb hd (k H locs jl hR hS hsz hl)
theorem s_ior {x y : Int32} (hK : OKc K cc own Ts fr lo) (hd : decode cc pc = .ok (.ior, 1)) (k : AW K (pc + 1) ls (.int (x ||| y) :: st) σ) : AW K pc ls (.int y :: .int x :: st) σ := by
  obtain ⟨p, l, e, R, s, m, args, below, meth, c, cells, slots, Q, g⟩ := K
  obtain ⟨hx, hb, hown, hts, hGK, hfr, hlo, hcl, hsl⟩ := hK
  intro H locs jl hR hS hsz hl
  exact lv_ior hx hb hd (k H locs jl hR hS hsz hl)
theorem s_ixor {x y : Int32} (hK : OKc K cc own Ts fr lo) (hd : decode cc pc = .ok (.ixor, 1)) (k : AW K (pc + 1) ls (.int (x ^^^ y) :: st) σ) : AW K pc ls (.int y :: .int x :: st) σ := by
  obtain ⟨p, l, e, R, s, m, args, below, meth, c, cells, slots, Q, g⟩ := K
  obtain ⟨hx, hb, hown, hts, hGK, hfr, hlo, hcl, hsl⟩ := hK
  intro H locs jl hR hS hsz hl
  exact lv_ixor hx hb hd (k H locs jl hR hS hsz hl)
theorem s_ineg {x : Int32} (hK : OKc K cc own Ts fr lo) (hd : decode cc pc = .ok (.ineg, 1)) (k : AW K (pc + 1) ls (.int (-x) :: st) σ) : AW K pc ls (.int x :: st) σ := by
  obtain ⟨p, l, e, R, s, m, args, below, meth, c, cells, slots, Q, g⟩ := K
  obtain ⟨hx, hb, hown, hts, hGK, hfr, hlo, hcl, hsl⟩ := hK
  intro H locs jl hR hS hsz hl
  exact lv_ineg hx hb hd (k H locs jl hR hS hsz hl)
theorem s_idiv {x y : Int32} (hK : OKc K cc own Ts fr lo) (hd : decode cc pc = .ok (.idiv, 1)) (hne : ¬ y = 0) (k : AW K (pc + 1) ls (.int (x / y) :: st) σ) : AW K pc ls (.int y :: .int x :: st) σ := by
  obtain ⟨p, l, e, R, s, m, args, below, meth, c, cells, slots, Q, g⟩ := K
  obtain ⟨hx, hb, hown, hts, hGK, hfr, hlo, hcl, hsl⟩ := hK
  intro H locs jl hR hS hsz hl
  exact lv_idiv hx hb hd hne (k H locs jl hR hS hsz hl)
theorem s_irem {x y : Int32} (hK : OKc K cc own Ts fr lo) (hd : decode cc pc = .ok (.irem, 1)) (hne : ¬ y = 0) (k : AW K (pc + 1) ls (.int (x - x / y * y) :: st) σ) : AW K pc ls (.int y :: .int x :: st) σ := by
  obtain ⟨p, l, e, R, s, m, args, below, meth, c, cells, slots, Q, g⟩ := K
  obtain ⟨hx, hb, hown, hts, hGK, hfr, hlo, hcl, hsl⟩ := hK
  intro H locs jl hR hS hsz hl
  exact lv_irem hx hb hd hne (k H locs jl hR hS hsz hl)
theorem s_ishl {x y : Int32} (hK : OKc K cc own Ts fr lo) (hd : decode cc pc = .ok (.ishl, 1)) (k : AW K (pc + 1) ls (.int (x <<< (y &&& 31)) :: st) σ) : AW K pc ls (.int y :: .int x :: st) σ := by
  obtain ⟨p, l, e, R, s, m, args, below, meth, c, cells, slots, Q, g⟩ := K
  obtain ⟨hx, hb, hown, hts, hGK, hfr, hlo, hcl, hsl⟩ := hK
  intro H locs jl hR hS hsz hl
  exact lv_ishl hx hb hd (k H locs jl hR hS hsz hl)
theorem s_ishr {x y : Int32} (hK : OKc K cc own Ts fr lo) (hd : decode cc pc = .ok (.ishr, 1)) (k : AW K (pc + 1) ls (.int (x >>> (y &&& 31)) :: st) σ) : AW K pc ls (.int y :: .int x :: st) σ := by
  obtain ⟨p, l, e, R, s, m, args, below, meth, c, cells, slots, Q, g⟩ := K
  obtain ⟨hx, hb, hown, hts, hGK, hfr, hlo, hcl, hsl⟩ := hK
  intro H locs jl hR hS hsz hl
  exact lv_ishr hx hb hd (k H locs jl hR hS hsz hl)
theorem s_iushr {x y : Int32} (hK : OKc K cc own Ts fr lo) (hd : decode cc pc = .ok (.iushr, 1)) (k : AW K (pc + 1) ls (.int ((x.toUInt32 >>> (y.toUInt32 &&& Int32.toUInt32 31)).toInt32) :: st) σ) : AW K pc ls (.int y :: .int x :: st) σ := by
  obtain ⟨p, l, e, R, s, m, args, below, meth, c, cells, slots, Q, g⟩ := K
  obtain ⟨hx, hb, hown, hts, hGK, hfr, hlo, hcl, hsl⟩ := hK
  intro H locs jl hR hS hsz hl
  exact lv_iushr hx hb hd rfl (k H locs jl hR hS hsz hl)
theorem s_dup {v : Value} (hK : OKc K cc own Ts fr lo) (hd : decode cc pc = .ok (.dup, 1)) (k : AW K (pc + 1) ls (v :: v :: st) σ) : AW K pc ls (v :: st) σ := by
  obtain ⟨p, l, e, R, s, m, args, below, meth, c, cells, slots, Q, g⟩ := K
  obtain ⟨hx, hb, hown, hts, hGK, hfr, hlo, hcl, hsl⟩ := hK
  intro H locs jl hR hS hsz hl
  exact lv_dup hx hb hd (cv_cat g v) (k H locs jl hR hS hsz hl)
theorem s_pop {v : Value} (hK : OKc K cc own Ts fr lo) (hd : decode cc pc = .ok (.pop, 1)) (k : AW K (pc + 1) ls st σ) : AW K pc ls (v :: st) σ := by
  obtain ⟨p, l, e, R, s, m, args, below, meth, c, cells, slots, Q, g⟩ := K
  obtain ⟨hx, hb, hown, hts, hGK, hfr, hlo, hcl, hsl⟩ := hK
  intro H locs jl hR hS hsz hl
  exact lv_pop hx hb hd (cv_cat g v) (k H locs jl hR hS hsz hl)
theorem s_dup2 {v u : Value} (hK : OKc K cc own Ts fr lo) (hd : decode cc pc = .ok (.dup2, 1)) (k : AW K (pc + 1) ls (v :: u :: v :: u :: st) σ) : AW K pc ls (v :: u :: st) σ := by
  obtain ⟨p, l, e, R, s, m, args, below, meth, c, cells, slots, Q, g⟩ := K
  obtain ⟨hx, hb, hown, hts, hGK, hfr, hlo, hcl, hsl⟩ := hK
  intro H locs jl hR hS hsz hl
  exact lv_dup2_11 hx hb hd (cv_cat g v) (cv_cat g u) (k H locs jl hR hS hsz hl)
theorem s_goto {off : Int} {tgt : Nat} (hK : OKc K cc own Ts fr lo) (hd : decode cc pc = .ok (.goto off, 3)) (ht : (pc : Int) + off = (tgt : Int)) (k : AW K tgt ls st σ) : AW K pc ls st σ := by
  obtain ⟨p, l, e, R, s, m, args, below, meth, c, cells, slots, Q, g⟩ := K
  obtain ⟨hx, hb, hown, hts, hGK, hfr, hlo, hcl, hsl⟩ := hK
  intro H locs jl hR hS hsz hl
  exact lv_goto hx hb hd ht (k H locs jl hR hS hsz hl)
theorem s_if_eq {x : Int32} {off : Int} {tgt : Nat} (hK : OKc K cc own Ts fr lo) (hd : decode cc pc = .ok (.ifCond .eq off, 3)) (ht : (pc : Int) + off = (tgt : Int)) (kt : x = 0 → AW K tgt ls st σ) (kf : ¬ x = 0 → AW K (pc + 3) ls st σ) : AW K pc ls (.int x :: st) σ := by
  obtain ⟨p, l, e, R, s, m, args, below, meth, c, cells, slots, Q, g⟩ := K
  obtain ⟨hx, hb, hown, hts, hGK, hfr, hlo, hcl, hsl⟩ := hK
  intro H locs jl hR hS hsz hl
  exact lv_if_eq hx hb hd ht (fun h => kt h H locs jl hR hS hsz hl) (fun h => kf h H locs jl hR hS hsz hl)
theorem s_icmp_eq {x y : Int32} {off : Int} {tgt : Nat} (hK : OKc K cc own Ts fr lo) (hd : decode cc pc = .ok (.if_icmp .eq off, 3)) (ht : (pc : Int) + off = (tgt : Int)) (kt : x = y → AW K tgt ls st σ) (kf : ¬ x = y → AW K (pc + 3) ls st σ) : AW K pc ls (.int y :: .int x :: st) σ := by
  obtain ⟨p, l, e, R, s, m, args, below, meth, c, cells, slots, Q, g⟩ := K
  obtain ⟨hx, hb, hown, hts, hGK, hfr, hlo, hcl, hsl⟩ := hK
  intro H locs jl hR hS hsz hl
  exact lv_icmp_eq hx hb hd ht (fun h => kt h H locs jl hR hS hsz hl) (fun h => kf h H locs jl hR hS hsz hl)
theorem s_if_ne {x : Int32} {off : Int} {tgt : Nat} (hK : OKc K cc own Ts fr lo) (hd : decode cc pc = .ok (.ifCond .ne off, 3)) (ht : (pc : Int) + off = (tgt : Int)) (kt : ¬ x = 0 → AW K tgt ls st σ) (kf : x = 0 → AW K (pc + 3) ls st σ) : AW K pc ls (.int x :: st) σ := by
  obtain ⟨p, l, e, R, s, m, args, below, meth, c, cells, slots, Q, g⟩ := K
  obtain ⟨hx, hb, hown, hts, hGK, hfr, hlo, hcl, hsl⟩ := hK
  intro H locs jl hR hS hsz hl
  exact lv_if_ne hx hb hd ht (fun h => kt h H locs jl hR hS hsz hl) (fun h => kf h H locs jl hR hS hsz hl)
theorem s_icmp_ne {x y : Int32} {off : Int} {tgt : Nat} (hK : OKc K cc own Ts fr lo) (hd : decode cc pc = .ok (.if_icmp .ne off, 3)) (ht : (pc : Int) + off = (tgt : Int)) (kt : ¬ x = y → AW K tgt ls st σ) (kf : x = y → AW K (pc + 3) ls st σ) : AW K pc ls (.int y :: .int x :: st) σ := by
  obtain ⟨p, l, e, R, s, m, args, below, meth, c, cells, slots, Q, g⟩ := K
  obtain ⟨hx, hb, hown, hts, hGK, hfr, hlo, hcl, hsl⟩ := hK
  intro H locs jl hR hS hsz hl
  exact lv_icmp_ne hx hb hd ht (fun h => kt h H locs jl hR hS hsz hl) (fun h => kf h H locs jl hR hS hsz hl)
theorem s_if_lt {x : Int32} {off : Int} {tgt : Nat} (hK : OKc K cc own Ts fr lo) (hd : decode cc pc = .ok (.ifCond .lt off, 3)) (ht : (pc : Int) + off = (tgt : Int)) (kt : x < 0 → AW K tgt ls st σ) (kf : ¬ x < 0 → AW K (pc + 3) ls st σ) : AW K pc ls (.int x :: st) σ := by
  obtain ⟨p, l, e, R, s, m, args, below, meth, c, cells, slots, Q, g⟩ := K
  obtain ⟨hx, hb, hown, hts, hGK, hfr, hlo, hcl, hsl⟩ := hK
  intro H locs jl hR hS hsz hl
  exact lv_if_lt hx hb hd ht (fun h => kt h H locs jl hR hS hsz hl) (fun h => kf h H locs jl hR hS hsz hl)
theorem s_icmp_lt {x y : Int32} {off : Int} {tgt : Nat} (hK : OKc K cc own Ts fr lo) (hd : decode cc pc = .ok (.if_icmp .lt off, 3)) (ht : (pc : Int) + off = (tgt : Int)) (kt : x < y → AW K tgt ls st σ) (kf : ¬ x < y → AW K (pc + 3) ls st σ) : AW K pc ls (.int y :: .int x :: st) σ := by
  obtain ⟨p, l, e, R, s, m, args, below, meth, c, cells, slots, Q, g⟩ := K
  obtain ⟨hx, hb, hown, hts, hGK, hfr, hlo, hcl, hsl⟩ := hK
  intro H locs jl hR hS hsz hl
  exact lv_icmp_lt hx hb hd ht (fun h => kt h H locs jl hR hS hsz hl) (fun h => kf h H locs jl hR hS hsz hl)
theorem s_if_ge {x : Int32} {off : Int} {tgt : Nat} (hK : OKc K cc own Ts fr lo) (hd : decode cc pc = .ok (.ifCond .ge off, 3)) (ht : (pc : Int) + off = (tgt : Int)) (kt : 0 ≤ x → AW K tgt ls st σ) (kf : ¬ 0 ≤ x → AW K (pc + 3) ls st σ) : AW K pc ls (.int x :: st) σ := by
  obtain ⟨p, l, e, R, s, m, args, below, meth, c, cells, slots, Q, g⟩ := K
  obtain ⟨hx, hb, hown, hts, hGK, hfr, hlo, hcl, hsl⟩ := hK
  intro H locs jl hR hS hsz hl
  exact lv_if_ge hx hb hd ht (fun h => kt h H locs jl hR hS hsz hl) (fun h => kf h H locs jl hR hS hsz hl)
theorem s_icmp_ge {x y : Int32} {off : Int} {tgt : Nat} (hK : OKc K cc own Ts fr lo) (hd : decode cc pc = .ok (.if_icmp .ge off, 3)) (ht : (pc : Int) + off = (tgt : Int)) (kt : y ≤ x → AW K tgt ls st σ) (kf : ¬ y ≤ x → AW K (pc + 3) ls st σ) : AW K pc ls (.int y :: .int x :: st) σ := by
  obtain ⟨p, l, e, R, s, m, args, below, meth, c, cells, slots, Q, g⟩ := K
  obtain ⟨hx, hb, hown, hts, hGK, hfr, hlo, hcl, hsl⟩ := hK
  intro H locs jl hR hS hsz hl
  exact lv_icmp_ge hx hb hd ht (fun h => kt h H locs jl hR hS hsz hl) (fun h => kf h H locs jl hR hS hsz hl)
theorem s_if_gt {x : Int32} {off : Int} {tgt : Nat} (hK : OKc K cc own Ts fr lo) (hd : decode cc pc = .ok (.ifCond .gt off, 3)) (ht : (pc : Int) + off = (tgt : Int)) (kt : 0 < x → AW K tgt ls st σ) (kf : ¬ 0 < x → AW K (pc + 3) ls st σ) : AW K pc ls (.int x :: st) σ := by
  obtain ⟨p, l, e, R, s, m, args, below, meth, c, cells, slots, Q, g⟩ := K
  obtain ⟨hx, hb, hown, hts, hGK, hfr, hlo, hcl, hsl⟩ := hK
  intro H locs jl hR hS hsz hl
  exact lv_if_gt hx hb hd ht (fun h => kt h H locs jl hR hS hsz hl) (fun h => kf h H locs jl hR hS hsz hl)
theorem s_icmp_gt {x y : Int32} {off : Int} {tgt : Nat} (hK : OKc K cc own Ts fr lo) (hd : decode cc pc = .ok (.if_icmp .gt off, 3)) (ht : (pc : Int) + off = (tgt : Int)) (kt : y < x → AW K tgt ls st σ) (kf : ¬ y < x → AW K (pc + 3) ls st σ) : AW K pc ls (.int y :: .int x :: st) σ := by
  obtain ⟨p, l, e, R, s, m, args, below, meth, c, cells, slots, Q, g⟩ := K
  obtain ⟨hx, hb, hown, hts, hGK, hfr, hlo, hcl, hsl⟩ := hK
  intro H locs jl hR hS hsz hl
  exact lv_icmp_gt hx hb hd ht (fun h => kt h H locs jl hR hS hsz hl) (fun h => kf h H locs jl hR hS hsz hl)
theorem s_if_le {x : Int32} {off : Int} {tgt : Nat} (hK : OKc K cc own Ts fr lo) (hd : decode cc pc = .ok (.ifCond .le off, 3)) (ht : (pc : Int) + off = (tgt : Int)) (kt : x ≤ 0 → AW K tgt ls st σ) (kf : ¬ x ≤ 0 → AW K (pc + 3) ls st σ) : AW K pc ls (.int x :: st) σ := by
  obtain ⟨p, l, e, R, s, m, args, below, meth, c, cells, slots, Q, g⟩ := K
  obtain ⟨hx, hb, hown, hts, hGK, hfr, hlo, hcl, hsl⟩ := hK
  intro H locs jl hR hS hsz hl
  exact lv_if_le hx hb hd ht (fun h => kt h H locs jl hR hS hsz hl) (fun h => kf h H locs jl hR hS hsz hl)
theorem s_icmp_le {x y : Int32} {off : Int} {tgt : Nat} (hK : OKc K cc own Ts fr lo) (hd : decode cc pc = .ok (.if_icmp .le off, 3)) (ht : (pc : Int) + off = (tgt : Int)) (kt : x ≤ y → AW K tgt ls st σ) (kf : ¬ x ≤ y → AW K (pc + 3) ls st σ) : AW K pc ls (.int y :: .int x :: st) σ := by
  obtain ⟨p, l, e, R, s, m, args, below, meth, c, cells, slots, Q, g⟩ := K
  obtain ⟨hx, hb, hown, hts, hGK, hfr, hlo, hcl, hsl⟩ := hK
  intro H locs jl hR hS hsz hl
  exact lv_icmp_le hx hb hd ht (fun h => kt h H locs jl hR hS hsz hl) (fun h => kf h H locs jl hR hS hsz hl)
theorem s_tableOut {dflt lo2 hi : Int} {offs : Array Int} {len : Nat} {x : Int32} {tgt : Nat} (hK : OKc K cc own Ts fr lo) (hd : decode cc pc = .ok (.tableswitch dflt lo2 hi offs, len)) (h : x.toInt < lo2 ∨ hi < x.toInt) (ht : (pc : Int) + dflt = (tgt : Int)) (k : AW K tgt ls st σ) : AW K pc ls (.int x :: st) σ := by
  obtain ⟨p, l, e, R, s, m, args, below, meth, c, cells, slots, Q, g⟩ := K
  obtain ⟨hx, hb, hown, hts, hGK, hfr, hlo, hcl, hsl⟩ := hK
  intro H locs jl hR hS hsz hl
  exact lv_tableOut hx hb hd h ht (k H locs jl hR hS hsz hl)
theorem s_tableIn {dflt lo2 hi : Int} {offs : Array Int} {len : Nat} {x : Int32} {off : Int} {tgt : Nat} (hK : OKc K cc own Ts fr lo) (hd : decode cc pc = .ok (.tableswitch dflt lo2 hi offs, len)) (h1 : ¬ x.toInt < lo2) (h2 : ¬ hi < x.toInt) (ho : offs[(x.toInt - lo2).toNat]? = some off) (ht : (pc : Int) + off = (tgt : Int)) (k : AW K tgt ls st σ) : AW K pc ls (.int x :: st) σ := by
  obtain ⟨p, l, e, R, s, m, args, below, meth, c, cells, slots, Q, g⟩ := K
  obtain ⟨hx, hb, hown, hts, hGK, hfr, hlo, hcl, hsl⟩ := hK
  intro H locs jl hR hS hsz hl
  exact lv_tableIn hx hb hd h1 h2 ho ht (k H locs jl hR hS hsz hl)
theorem s_ifnull {o : Nat} {off : Int} (hK : OKc K cc own Ts fr lo) (hd : decode cc pc = .ok (.ifnull off, 3)) (k : AW K (pc + 3) ls st σ) : AW K pc ls (.ref o :: st) σ := by
  obtain ⟨p, l, e, R, s, m, args, below, meth, c, cells, slots, Q, g⟩ := K
  obtain ⟨hx, hb, hown, hts, hGK, hfr, hlo, hcl, hsl⟩ := hK
  intro H locs jl hR hS hsz hl
  exact lv_ifnull hx hb hd (k H locs jl hR hS hsz hl)
theorem cE_obj {g : aG} {σ : aS} {o ci : Nat} (hk : kd o = ci) (hc : ci < 8) : cE g σ o = .inr (ci, (List.range (nf ci)).map (fV g σ o)) := by
  subst hk
  simp [cE, hc]
theorem cE_arr {g : aG} {σ : aS} {o : Nat} (hk : kd o = 8) : cE g σ o = .inl (gI g, ln o, .inl (σ o)) := by
  simp [cE, hk]
theorem cE_refs {g : aG} {σ : aS} {o : Nat} (hk : kd o = 9) : cE g σ o = .inl (gQ g, ln o, .inr (.inr (.inr (.inr (fun k => some (gL g (rf o k))))))) := by
  simp [cE, hk]
theorem wL_obj {g : aG} {σ : aS} {o ci : Nat} (hk : kd o = ci) (hc : ci < 8) : ∃ q0 : Nat, un[q0]? = some o ∧ (wL g σ)[q0]? = some (gL g o, .inr (ci, (List.range (nf ci)).map (fV g σ o))) := by
  obtain ⟨q0, h⟩ := un_at (o := o) (by omega)
  exact ⟨q0, h, by rw [wL_at h, cE_obj hk hc]⟩
theorem wL_arr {g : aG} {σ : aS} {o : Nat} (hk : kd o = 8) : ∃ q0 : Nat, un[q0]? = some o ∧ (wL g σ)[q0]? = some (gL g o, .inl (gI g, ln o, .inl (σ o))) := by
  obtain ⟨q0, h⟩ := un_at (o := o) (by omega)
  exact ⟨q0, h, by rw [wL_at h, cE_arr hk]⟩
theorem map_range_set {α : Type} (f : Nat → α) (n k : Nat) (v : α) : ((List.range n).map f).set k v = (List.range n).map (fun j => if j = k then v else f j) := by
  apply List.ext_getElem?
  intro i
  by_cases hi : k = i
  · subst hi
    by_cases hk : k < n
    · rw [List.getElem?_set_self (by simpa using hk)]
      simp [hk]
    · rw [List.set_eq_of_length_le (by simpa using Nat.not_lt.mp hk)]
      simp [hk]
  · rw [List.getElem?_set_ne hi, List.getElem?_map, List.getElem?_map]
    cases h : (List.range n)[i]? with
    | none => rfl
    | some j =>
      have : j = i := by
        have := List.getElem?_eq_some_iff.mp h
        simpa using this.2.symm
      subst this
      simp [Ne.symm hi]
theorem fV_put {g : aG} {σ : aS} {o k : Nat} {x : Int32} (hr : isR (kd o) k = false) : (fun j => if j = k then .int x else fV g σ o j) = fV g (sP σ o (upd (σ o) k x)) o := by
  funext j
  by_cases hj : j = k
  · subst hj
    simp [fV, hr, sP, upd]
  · simp [fV, hj, sP, upd]
theorem s_getr {ci k o o' idx N : Nat} {C : String} {T : u_T} (hK : OKc K cc own Ts fr lo) (hk : kd o = ci) (hc : vwCl[ci]? = some (C, T, N)) (hin : ∀ w ∈ u_ws C T N, w ∈ Ts) (hlink : Cond.fieldLink own idx C (T k).2.1 (T k).2.2.1 ∈ Ts) (hd : decode cc pc = .ok (.getfield idx, 3)) (hk2 : k < N) (hk3 : k < nf ci) (hci : ci < 8) (hC : (T k).1 = C) (hr : isR ci k = true) (ho : rf o k = o') (kk : AW K (pc + 3) ls (.ref o' :: st) σ) : AW K pc ls (.ref o :: st) σ := by
  obtain ⟨p, l, e, R, s, m, args, below, meth, c, cells, slots, Q, g⟩ := K
  obtain ⟨hx, hb, hown, hts, hGK, hfr, hlo, hcl, hsl⟩ := hK
  intro H locs jl hR hS hsz hl
  obtain ⟨q0, -, he⟩ := wL_obj (g := g) (σ := σ) hk hci
  subst ho
  refine va_get hx hb hts hin hown hGK.2.1 hR q0 he hc k hk2 (hts _ hlink) (fun x h => hC ▸ h) (v := .ref (gL g (rf o k))) ?_ hd (kk H locs jl hR hS hsz hl)
  simp [hk3, fV, hk, hr]
theorem s_geti {ci k o idx N : Nat} {C : String} {T : u_T} (hK : OKc K cc own Ts fr lo) (hk : kd o = ci) (hc : vwCl[ci]? = some (C, T, N)) (hin : ∀ w ∈ u_ws C T N, w ∈ Ts) (hlink : Cond.fieldLink own idx C (T k).2.1 (T k).2.2.1 ∈ Ts) (hd : decode cc pc = .ok (.getfield idx, 3)) (hk2 : k < N) (hk3 : k < nf ci) (hci : ci < 8) (hC : (T k).1 = C) (hr : isR ci k = false) (kk : AW K (pc + 3) ls (.int (σ o k) :: st) σ) : AW K pc ls (.ref o :: st) σ := by
  obtain ⟨p, l, e, R, s, m, args, below, meth, c, cells, slots, Q, g⟩ := K
  obtain ⟨hx, hb, hown, hts, hGK, hfr, hlo, hcl, hsl⟩ := hK
  intro H locs jl hR hS hsz hl
  obtain ⟨q0, -, he⟩ := wL_obj (g := g) (σ := σ) hk hci
  refine va_get hx hb hts hin hown hGK.2.1 hR q0 he hc k hk2 (hts _ hlink) (fun x h => hC ▸ h) (v := .int (σ o k)) ?_ hd (kk H locs jl hR hS hsz hl)
  simp [hk3, fV, hk, hr]
theorem s_putg {ci k o idx N : Nat} {C : String} {T : u_T} {x : Int32} {ty : FieldType} {ty0 : Nat → FieldType} (hK : OKc K cc own Ts fr lo) (hk : kd o = ci) (hc : vwCl[ci]? = some (C, T, N)) (hin : ∀ w ∈ u_ws C T N, w ∈ Ts) (hlink : Cond.fieldLink own idx C (T k).2.1 (T k).2.2.1 ∈ Ts) (hd : decode cc pc = .ok (.putfield idx, 3)) (hty : ∀ k, k < N → parseFieldDescriptor (T k).2.2.1 = some (ty0 k)) (hnm : ∀ a, a < N → ∀ b, b < N → a ≠ b → (T a).2.1 ≠ (T b).2.1) (hk2 : k < N) (hk3 : k < nf ci) (hci : ci < 8) (hC : (T k).1 = C) (hr : isR ci k = false) (hfin : (T k).2.2.2 = false) (hpd : parseFieldDescriptor (T k).2.2.1 = some ty) (hn : narrow ty (.int x) = .int x) (hfit : fits ty (.int x) = true) (kk : AW K (pc + 3) ls st (sP σ o (upd (σ o) k x))) : AW K pc ls (.int x :: .ref o :: st) σ := by
  obtain ⟨p, l, e, R, s, m, args, below, meth, c, cells, slots, Q, g⟩ := K
  obtain ⟨hx, hb, hown, hts, hGK, hfr, hlo, hcl, hsl⟩ := hK
  intro H locs jl hR hS hsz hl
  obtain ⟨q0, hq, he⟩ := wL_obj (g := g) (σ := σ) hk hci
  refine va_put hx hb hts hin ty0 hty hnm hown hGK.2.1 hR (wL_D hGK.1) hS q0 he hc k hk2 (hts _ hlink) (fun x h => hC ▸ h) hfin (ty := ty) (v := .int x) hpd hn hfit (by simpa using hk3) hd (fun H1 locs1 hP1 _ hS1 => ?_)
  refine kk H1 locs1 jl ?_ hS1 hsz hl
  show va_P _ _ _ _
  rw [map_range_set, fV_put (by rw [hk]; exact hr), ← cE_obj (g := g) hk hci, wL_set hq] at hP1
  exact hP1
theorem s_iald {o : Nat} {i : Int32} (hK : OKc K cc own Ts fr lo) (hk : kd o = 8) (hin : vp_in i (ln o)) (hd : decode cc pc = .ok (.iaload, 1)) (kk : AW K (pc + 1) ls (.int (σ o i.toNatClampNeg) :: st) σ) : AW K pc ls (.int i :: .ref o :: st) σ := by
  obtain ⟨p, l, e, R, s, m, args, below, meth, c, cells, slots, Q, g⟩ := K
  obtain ⟨hx, hb, hown, hts, hGK, hfr, hlo, hcl, hsl⟩ := hK
  intro H locs jl hR hS hsz hl
  obtain ⟨q0, -, he⟩ := wL_arr (g := g) (σ := σ) hk
  exact va_iald hx hb hGK.2.1 hR q0 0 he rfl hin hd (kk H locs jl hR hS hsz hl)
theorem s_iast {o : Nat} {i x : Int32} (hK : OKc K cc own Ts fr lo) (hk : kd o = 8) (hin : vp_in i (ln o)) (hd : decode cc pc = .ok (.iastore, 1)) (kk : AW K (pc + 1) ls st (sP σ o (upd (σ o) i.toNatClampNeg x))) : AW K pc ls (.int x :: .int i :: .ref o :: st) σ := by
  obtain ⟨p, l, e, R, s, m, args, below, meth, c, cells, slots, Q, g⟩ := K
  obtain ⟨hx, hb, hown, hts, hGK, hfr, hlo, hcl, hsl⟩ := hK
  intro H locs jl hR hS hsz hl
  obtain ⟨q0, hq, he⟩ := wL_arr (g := g) (σ := σ) hk
  refine va_iast hx hb hGK.2.1 hR (wL_D hGK.1) hS q0 0 he rfl hin hd (fun H1 locs1 hP1 _ hS1 => ?_)
  refine kk H1 locs1 jl ?_ hS1 hsz hl
  show va_P _ _ _ _
  have e := cE_arr (g := g) (σ := sP σ o (upd (σ o) i.toNatClampNeg x)) hk
  rw [sP_same] at e
  rw [← e, wL_set hq] at hP1
  exact hP1
theorem s_alen {o n : Nat} (hK : OKc K cc own Ts fr lo) (hk : kd o = 8) (hn : ln o = n) (hd : decode cc pc = .ok (.arraylength, 1)) (kk : AW K (pc + 1) ls (.int (nI n) :: st) σ) : AW K pc ls (.ref o :: st) σ := by
  obtain ⟨p, l, e, R, s, m, args, below, meth, c, cells, slots, Q, g⟩ := K
  obtain ⟨hx, hb, hown, hts, hGK, hfr, hlo, hcl, hsl⟩ := hK
  intro H locs jl hR hS hsz hl
  obtain ⟨q0, -, he⟩ := wL_arr (g := g) (σ := σ) hk
  subst hn
  exact va_alen hx hb hGK.2.1 hR q0 0 he rfl rfl hd (kk H locs jl hR hS hsz hl)
theorem s_aald {o o' : Nat} {i : Int32} (hK : OKc K cc own Ts fr lo) (hk : kd o = 9) (hin : vp_in i (ln o)) (ho : rf o i.toNatClampNeg = o') (hd : decode cc pc = .ok (.aaload, 1)) (kk : AW K (pc + 1) ls (.ref o' :: st) σ) : AW K pc ls (.int i :: .ref o :: st) σ := by
  obtain ⟨p, l, e, R, s, m, args, below, meth, c, cells, slots, Q, g⟩ := K
  obtain ⟨hx, hb, hown, hts, hGK, hfr, hlo, hcl, hsl⟩ := hK
  intro H locs jl hR hS hsz hl
  obtain ⟨q0, hq⟩ := un_at (o := o) (by omega)
  have he := wL_at (g := g) (σ := σ) hq
  rw [cE_refs hk] at he
  subst ho
  exact va_aldq hx hb hGK.2.1 hR q0 1 he rfl hin hd (kk H locs jl hR hS hsz hl)
theorem s_acopy {a b idx : Nat} {sp dp n : Int32} (hK : OKc K cc own Ts fr lo) (hlink : Cond.methodLink own idx arraycopyName ∈ Ts) (hnat : Cond.native arraycopyName ∈ Ts) (hstat : Cond.static arraycopyName ∈ Ts) (hini : Cond.initialized "java/lang/System" ∈ Ts) (ha : kd a = 8) (hb8 : kd b = 8) (h1 : ¬ sp < 0) (h2 : ¬ dp < 0) (h3 : ¬ n < 0) (h4 : sp.toNatClampNeg + n.toNatClampNeg ≤ ln a) (h5 : dp.toNatClampNeg + n.toNatClampNeg ≤ ln b) (hf1 : 1 ≤ fr) (hl1 : st.length + (nativeFrameWords "java/lang/System" "arraycopy" 5 + 11) ≤ lo) (hd : decode cc pc = .ok (.invokestatic idx, 3)) (kk : AW K (pc + 3) ls st (sP σ b (va_cpy (σ a) (σ b) sp.toNatClampNeg dp.toNatClampNeg n.toNatClampNeg))) : AW K pc ls (.int n :: .int dp :: .ref b :: .int sp :: .ref a :: st) σ := by
  obtain ⟨p, l, e, R, s, m, args, below, meth, c, cells, slots, Q, g⟩ := K
  obtain ⟨hx, hb, hown, hts, hGK, hfr, hlo, hcl, hsl⟩ := hK
  intro H locs jl hR hS hsz hl
  obtain ⟨q0, -, he0⟩ := wL_arr (g := g) (σ := σ) ha
  obtain ⟨q1, hq, he1⟩ := wL_arr (g := g) (σ := σ) hb8
  refine va_copyi hx hb hsz.symm hown (hts _ hlink) (hts _ hnat) (hts _ hstat) (hts _ hini) hGK.2.1 hR (wL_D hGK.1) hS q0 q1 0 0 he0 he1 rfl rfl rfl h1 h2 h3 h4 h5 (fun _ _ => rfl) (Nat.le_trans hf1 hfr) (by rw [cv_sum]; exact Nat.le_trans hl1 hlo) hd (fun H1 locs1 hP1 _ hS1 => ?_)
  refine kk H1 locs1 jl ?_ hS1 hsz hl
  show va_P _ _ _ _
  have e := cE_arr (g := g) (σ := sP σ b (va_cpy (σ a) (σ b) sp.toNatClampNeg dp.toNatClampNeg n.toNatClampNeg)) hb8
  rw [sP_same] at e
  rw [← e, wL_set hq] at hP1
  exact hP1
theorem s_mmax {x y : Int32} {idx : Nat} (hK : OKc K cc own Ts fr lo) (hlink : Cond.methodLink own idx Lib.Math.max.name ∈ Ts) (hstat : Cond.static Lib.Math.max.name ∈ Ts) (hini : Cond.initialized "java/lang/Math" ∈ Ts) (hcode : Cond.code Lib.Math.max.name Lib.Math.max.code 2 (some .int) ∈ Ts) (hf1 : 1 ≤ fr) (hl1 : st.length + 13 ≤ lo) (hd : decode cc pc = .ok (.invokestatic idx, 3)) (kk : AW K (pc + 3) ls (.int (if x < y then y else x) :: st) σ) : AW K pc ls (.int y :: .int x :: st) σ := by
  obtain ⟨p, l, e, R, s, m, args, below, meth, c, cells, slots, Q, g⟩ := K
  obtain ⟨hx, hb, hown, hts, hGK, hfr, hlo, hcl, hsl⟩ := hK
  intro H locs jl hR hS hsz hl
  exact va_mmax hx hb hsz.symm hown (hts _ hlink) (hts _ hstat) (hts _ hini) (hts _ hcode) (Nat.le_trans hf1 hfr) (by rw [cv_sum]; exact Nat.le_trans hl1 hlo) hcl hsl hd (kk H locs jl hR hS hsz hl)
theorem s_mmin {x y : Int32} {idx : Nat} (hK : OKc K cc own Ts fr lo) (hlink : Cond.methodLink own idx Lib.Math.min.name ∈ Ts) (hstat : Cond.static Lib.Math.min.name ∈ Ts) (hini : Cond.initialized "java/lang/Math" ∈ Ts) (hcode : Cond.code Lib.Math.min.name Lib.Math.min.code 2 (some .int) ∈ Ts) (hf1 : 1 ≤ fr) (hl1 : st.length + 13 ≤ lo) (hd : decode cc pc = .ok (.invokestatic idx, 3)) (kk : AW K (pc + 3) ls (.int (if y < x then y else x) :: st) σ) : AW K pc ls (.int y :: .int x :: st) σ := by
  obtain ⟨p, l, e, R, s, m, args, below, meth, c, cells, slots, Q, g⟩ := K
  obtain ⟨hx, hb, hown, hts, hGK, hfr, hlo, hcl, hsl⟩ := hK
  intro H locs jl hR hS hsz hl
  exact va_mmin hx hb hsz.symm hown (hts _ hlink) (hts _ hstat) (hts _ hini) (hts _ hcode) (Nat.le_trans hf1 hfr) (by rw [cv_sum]; exact Nat.le_trans hl1 hlo) hcl hsl hd (kk H locs jl hR hS hsz hl)
theorem s_tabs {n : String} {idx t : Nat} (hK : OKc K cc own Ts fr lo) (ht : (n = "LEAST_SETTINGS" ∧ t = 801) ∨ (n = "GREATEST_SETTINGS" ∧ t = 802)) (hlink : Cond.fieldLink own idx RX6 n "[I" ∈ Ts) (hd : decode cc pc = .ok (.getstatic idx, 3)) (kk : AW K (pc + 3) ls (.ref t :: st) σ) : AW K pc ls st σ := by
  obtain ⟨p, l, e, R, s, m, args, below, meth, c, cells, slots, Q, g⟩ := K
  obtain ⟨hx, hb, hown, hts, hGK, hfr, hlo, hcl, hsl⟩ := hK
  intro H locs jl hR hS hsz hl
  rcases ht with ⟨rfl, rfl⟩ | ⟨rfl, rfl⟩
  · exact va_gets hx hb hGK.2.2.2.1 hS hown (hts _ hlink) (fun x h => h) hd (kk H locs jl hR hS hsz hl)
  · exact va_gets hx hb hGK.2.2.2.2.2.1 hS hown (hts _ hlink) (fun x h => h) hd (kk H locs jl hR hS hsz hl)
theorem s_tlo {i : Int32} (hK : OKc K cc own Ts fr lo) (hin : vp_in i 5) (hd : decode cc pc = .ok (.iaload, 1)) (kk : AW K (pc + 1) ls (.int (tlo.getD i.toNatClampNeg 0) :: st) σ) : AW K pc ls (.int i :: .ref 801 :: st) σ := by
  obtain ⟨p, l, e, R, s, m, args, below, meth, c, cells, slots, Q, g⟩ := K
  obtain ⟨hx, hb, hown, hts, hGK, hfr, hlo, hcl, hsl⟩ := hK
  intro H locs jl hR hS hsz hl
  exact va_ti hx hb hGK.2.2.2.2.1 hS hin rfl hd (kk H locs jl hR hS hsz hl)
theorem s_thi {i : Int32} (hK : OKc K cc own Ts fr lo) (hin : vp_in i 5) (hd : decode cc pc = .ok (.iaload, 1)) (kk : AW K (pc + 1) ls (.int (thi.getD i.toNatClampNeg 0) :: st) σ) : AW K pc ls (.int i :: .ref 802 :: st) σ := by
  obtain ⟨p, l, e, R, s, m, args, below, meth, c, cells, slots, Q, g⟩ := K
  obtain ⟨hx, hb, hown, hts, hGK, hfr, hlo, hcl, hsl⟩ := hK
  intro H locs jl hR hS hsz hl
  exact va_ti hx hb hGK.2.2.2.2.2.2.1 hS hin rfl hd (kk H locs jl hR hS hsz hl)
theorem s_iret {v w : Int32} {σ' : aS} {ty : FieldType} (hK : OKc K cc own Ts fr lo) (hE : KE K (some ty) (some (.int w)) σ') (hd : decode cc pc = .ok (.ireturn, 1)) (hn : narrow ty (.int v) = .int v) (hv : v = w) (hs : σ = σ') : AW K pc ls [.int v] σ := by
  subst hv
  subst hs
  obtain ⟨p, l, e, R, s, m, args, below, meth, c, cells, slots, Q, g⟩ := K
  obtain ⟨hx, hb, hown, hts, hGK, hfr, hlo, hcl, hsl⟩ := hK
  intro H locs jl hR hS hsz hl
  obtain ⟨hr, hlk, rfl⟩ := hE
  exact W.zret hx hb hr hn (fun t ht hW => ⟨⟨rfl, by rw [ht]; exact hR⟩, hS.F ht⟩) hS.2.2 hd hlk
theorem s_vret {σ' : aS} (hK : OKc K cc own Ts fr lo) (hE : KE K none none σ') (hd : decode cc pc = .ok (.return_, 1)) (hs : σ = σ') : AW K pc ls [] σ := by
  subst hs
  obtain ⟨p, l, e, R, s, m, args, below, meth, c, cells, slots, Q, g⟩ := K
  obtain ⟨hx, hb, hown, hts, hGK, hfr, hlo, hcl, hsl⟩ := hK
  intro H locs jl hR hS hsz hl
  obtain ⟨hr, hlk, rfl⟩ := hE
  exact W.vret hx hb hr (fun t ht hW => ⟨⟨rfl, by rw [ht]; exact hR⟩, hS.F ht⟩) hS.2.2 hd hlk
theorem s_aret {o o' : Nat} {σ' : aS} {n : String} (hK : OKc K cc own Ts fr lo) (hE : KE K (some (.object n)) (some (.ref o')) σ') (hd : decode cc pc = .ok (.areturn, 1)) (ho : o = o') (hs : σ = σ') : AW K pc ls [.ref o] σ := by
  subst ho
  subst hs
  obtain ⟨p, l, e, R, s, m, args, below, meth, c, cells, slots, Q, g⟩ := K
  obtain ⟨hx, hb, hown, hts, hGK, hfr, hlo, hcl, hsl⟩ := hK
  intro H locs jl hR hS hsz hl
  obtain ⟨hr, hlk, rfl⟩ := hE
  exact W.aret hx hb hr (Or.inl ⟨n, rfl⟩) (Or.inr ⟨_, rfl⟩) (fun t ht hW => ⟨⟨rfl, by rw [ht]; exact hR⟩, hS.F ht⟩) hS.2.2 hd hlk
end AR
def pA : List Value → List Value → List Value
  | [], r => r
  | a :: as, r => pA as (a :: r)
theorem pA_eq : ∀ (as r : List Value), pA as r = as.reverse ++ r
  | [], r => rfl
  | a :: as, r => by rw [pA, pA_eq as (a :: r)]; simp
/-- what a method is, for calls -/
def MD (y : MethodName) (ws : List Cond) (bytes : ByteArray) (mL : Nat) (ret : Option FieldType) (n : Nat) : Prop := (∃ ws', ws = .code y bytes mL ret :: ws') ∧ y.cls ≠ "java/lang/invoke/MethodHandle" ∧ y.cls ≠ "java/lang/invoke/VarHandle" ∧ (parseMethodDescriptor y.desc).map (fun d => d.parameters.length) = some n
section AC
variable {K : KT} {cc : ByteArray} {own : String} {Ts : List Cond} {fr lo pc : Nat} {ls : List (Option Value)} {st : List Value} {σ : aS}
theorem cn_pre {g : aG} {σ : aS} {as : List Value} : FrameBlind (va_Pc (as.map (cv g)) (fun U => RH g σ U.heap ∧ GK g U U.heap)) := by
  intro a U g2 mk q
  obtain ⟨q0, q1, q2⟩ := q
  exact ⟨q0, q1, q2.vm (s := U) (U := U.calling g2 mk a) rfl⟩
theorem s_callE {p : Program} {l : Launch} {e : Env} {R : Room} {s : State} {m : MethodId} {args : Array Value} {below : List Frame} {meth : Method} {c : Code} {cells slots : Nat} {Q : State → Prop} {g : aG} {H : Heap} {locs : List Loc} {jl : Array Slot} {st0 rest : List Value} {a : Array Value} {σ' : aS} {r : Option Value} (hr : va_Run p l e R s m args below meth c H locs cells slots 0 0 (F0 m pc jl st0) (rest.map (cv g)) (CQ g r σ' a) (gA g)) (hS : va_S (gA g) s.heap H locs) (hsz : jl.size = c.maxLocals) (hl : LL g jl ls) (kk : AW (p, l, e, R, s, m, args, below, meth, c, cells, slots, Q, g) (pc + 3) ls (r.toList ++ rest) σ') : W p l e R s m args below meth c H locs cells slots Q (F0 m pc jl st0) := by
  intro T hT X
  obtain ⟨v, st₀, t, T', L, h0, X', hL, e1, e2, ⟨⟨hv, hp⟩, hz, hk⟩, stp⟩ := hr T hT X
  have hv' : v = r.map (cv g) := Outcome.returned.inj hv
  subst hv'
  rw [h0] at hz hk
  obtain ⟨t2, a1, b1⟩ := kk T'.heap (locs ++ L) jl (by rw [e1]; exact hp) ⟨Nat.le_trans hS.1 (by rw [e1]; exact hz), fun q h1 h2 => by rw [e1, hk q (Nat.lt_of_lt_of_le h1 hS.1) h2]; exact hS.2.1 q h1 h2, fun q hq => by
      rcases List.mem_append.mp hq with h | h
      · exact hS.2.2 q h
      · exact hL q h⟩ hsz hl T' rfl X'
  refine ⟨t2, stp t2 ?_, b1⟩
  have e3 : (r.toList ++ rest).map (cv g) = (r.map (cv g)).toList ++ rest.map (cv g) := by cases r <;> simp
  rw [e3] at a1
  exact a1
theorem s_callV {y : MethodName} {ws : List Cond} {bytes : ByteArray} {mL f2 l2 n idx ci b N : Nat} {ret : Option FieldType} {C : String} {T : u_T} {as rest : List Value} {r : Option Value} {σ' : aS} (hK : OKc K cc own Ts fr lo) (hM : MD y ws bytes mL ret n) (hc : CN (kG K) (kL K) y ws f2 l2 (.ref b :: as) σ r σ') (hG : GoodIn Ts (wsV own idx C y ws)) (hk : kd b = ci) (hcl : vwCl[ci]? = some (C, T, N)) (hyC : y.cls = C) (hci : ci < 8) (hn : as.length = n) (hR : f2 + 1 ≤ fr ∧ 8 + (mL + 11) + l2 ≤ lo) (hst : pA (.ref b :: as) rest = st) (hrest : rest.length ≤ 8) (hd : decode cc pc = .ok (.invokevirtual idx, 3)) (kk : AW K (pc + 3) ls (r.toList ++ rest) σ') : AW K pc ls st σ := by
  subst hst
  obtain ⟨p, l, e, R, s, m, args, below, meth, c, cells, slots, Q, g⟩ := K
  obtain ⟨hx, hb, hown, hts, hGK, hfr, hlo, hcel, hslo⟩ := hK
  intro H locs jl hRh hS hsz hl
  obtain ⟨⟨ws', hw⟩, hm1, hm2, hm3⟩ := hM
  obtain ⟨q0, -, he⟩ := wL_obj (g := g) (σ := σ) hk hci
  have hstk : (pA (.ref b :: as) rest).map (cv g) = (as.map (cv g)).reverse ++ .ref (gL g b) :: rest.map (cv g) := by rw [pA_eq]; simp [cv]
  rw [hstk]
  exact s_callE (va_runV (As := as.map (cv g)) (rest := rest.map (cv g)) ⟨hx, hb, hsz.symm, hown, hts⟩ hc (cwV n hts hG hw rfl rfl ⟨hyC, hm1, hm2, hm3⟩ ⟨Nat.le_trans hR.1 hfr, Nat.le_trans hR.2 hlo⟩) ⟨cn_pre, va_recv hGK.2.1 hRh hcl he, fun U hU hW => ⟨rfl, by rw [hU]; exact hRh, by rw [hU]; exact (hGK.kept hS).moved hW⟩⟩ rfl (by rw [List.length_map]; exact hn) rfl rfl (lv_room (by rw [cv_sum]; exact hrest)) hd ⟨hcel, hslo⟩) hS hsz hl kk
theorem s_callS {y : MethodName} {ws : List Cond} {bytes : ByteArray} {mL f2 l2 n idx : Nat} {ret : Option FieldType} {as rest : List Value} {r : Option Value} {σ' : aS} (hK : OKc K cc own Ts fr lo) (hM : MD y ws bytes mL ret n) (hc : CN (kG K) (kL K) y ws f2 l2 as σ r σ') (hG : GoodIn Ts (va_wsS own idx y ws)) (hn : as.length = n) (hR : f2 + 1 ≤ fr ∧ 8 + (mL + 11) + l2 ≤ lo) (hst : pA as rest = st) (hrest : rest.length ≤ 8) (hd : decode cc pc = .ok (.invokestatic idx, 3)) (kk : AW K (pc + 3) ls (r.toList ++ rest) σ') : AW K pc ls st σ := by
  subst hst
  obtain ⟨p, l, e, R, s, m, args, below, meth, c, cells, slots, Q, g⟩ := K
  obtain ⟨hx, hb, hown, hts, hGK, hfr, hlo, hcel, hslo⟩ := hK
  intro H locs jl hRh hS hsz hl
  obtain ⟨⟨ws', hw⟩, hm1, hm2, hm3⟩ := hM
  have hstk : (pA as rest).map (cv g) = (as.map (cv g)).reverse ++ rest.map (cv g) := by rw [pA_eq]; simp
  rw [hstk]
  exact s_callE (va_runS (As := as.map (cv g)) (rest := rest.map (cv g)) ⟨hx, hb, hsz.symm, hown, hts⟩ hc (va_cwS n hts hG hw rfl rfl ⟨hm1, hm2, hm3⟩ ⟨Nat.le_trans hR.1 hfr, Nat.le_trans hR.2 hlo⟩) ⟨cn_pre, fun U hU hW => ⟨rfl, by rw [hU]; exact hRh, by rw [hU]; exact (hGK.kept hS).moved hW⟩⟩ rfl (by rw [List.length_map]; exact hn) rfl rfl (lv_room (by rw [cv_sum]; exact hrest)) hd ⟨hcel, hslo⟩) hS hsz hl kk
theorem s_callN {y : MethodName} {ws : List Cond} {bytes : ByteArray} {mL f2 l2 n idx : Nat} {ret : Option FieldType} {host : String} {as rest : List Value} {r : Option Value} {σ' : aS} (hK : OKc K cc own Ts fr lo) (hM : MD y ws bytes mL ret n) (hc : CN (kG K) (kL K) y ws f2 l2 as σ r σ') (hG : GoodIn Ts ws) (hnw : Cond.methodLinkNest own idx y host ∈ nwl) (hini : Cond.initialized y.cls ∈ Ts) (hsta : Cond.static y ∈ Ts) (hn : as.length = n) (hR : f2 + 1 ≤ fr ∧ 8 + (mL + 11) + l2 ≤ lo) (hst : pA as rest = st) (hrest : rest.length ≤ 8) (hd : decode cc pc = .ok (.invokestatic idx, 3)) (kk : AW K (pc + 3) ls (r.toList ++ rest) σ') : AW K pc ls st σ := by
  subst hst
  obtain ⟨p, l, e, R, s, m, args, below, meth, c, cells, slots, Q, g⟩ := K
  obtain ⟨hx, hb, hown, hts, hGK, hfr, hlo, hcel, hslo⟩ := hK
  intro H locs jl hRh hS hsz hl
  obtain ⟨⟨ws', hw⟩, hm1, hm2, hm3⟩ := hM
  have hstk : (pA as rest).map (cv g) = (as.map (cv g)).reverse ++ rest.map (cv g) := by rw [pA_eq]; simp
  rw [hstk]
  exact s_callE (va_runSN (As := as.map (cv g)) (rest := rest.map (cv g)) ⟨hx, hb, hsz.symm, hown, hts⟩ hc ⟨va_cnB n hts hG hw rfl rfl (hGK.2.2.1 _ hnw) (hts _ hini) ⟨hm1, hm2, hm3⟩ ⟨Nat.le_trans hR.1 hfr, Nat.le_trans hR.2 hlo⟩, hts _ hsta, trivial⟩ ⟨cn_pre, fun U hU hW => ⟨rfl, by rw [hU]; exact hRh, by rw [hU]; exact (hGK.kept hS).moved hW⟩⟩ rfl (by rw [List.length_map]; exact hn) rfl rfl (lv_room (by rw [cv_sum]; exact hrest)) hd ⟨hcel, hslo⟩) hS hsz hl kk
end AC
section AI
variable {K : KT} {cc : ByteArray} {own : String} {Ts : List Cond} {fr lo pc : Nat} {st : List Value} {σ : aS} {a0 a1 a2 a3 a4 a5 a6 a7 a8 : Option Value} {t : List (Option Value)}
theorem s_iload0 {x : Int32} (hK : OKc K cc own Ts fr lo) (hd : decode cc pc = .ok (.iload_n 0, 1)) (k : AW K (pc + 1) (some (.int x) :: t) (.int x :: st) σ) : AW K pc (some (.int x) :: t) st σ := s_iloadn hK hd rfl rfl k
theorem s_aload0 {o : Nat} (hK : OKc K cc own Ts fr lo) (hd : decode cc pc = .ok (.aload_n 0, 1)) (k : AW K (pc + 1) (some (.ref o) :: t) (.ref o :: st) σ) : AW K pc (some (.ref o) :: t) st σ := s_aloadn hK hd rfl rfl k
theorem s_istore0 {x : Int32} (hK : OKc K cc own Ts fr lo) (hd : decode cc pc = .ok (.istore_n 0, 1)) (k : AW K (pc + 1) (some (.int x) :: t) st σ) : AW K pc (a0 :: t) (.int x :: st) σ := s_istoren hK hd rfl (by simp only [List.length_cons]; omega) k
theorem s_astore0 {o : Nat} (hK : OKc K cc own Ts fr lo) (hd : decode cc pc = .ok (.astore_n 0, 1)) (k : AW K (pc + 1) (some (.ref o) :: t) st σ) : AW K pc (a0 :: t) (.ref o :: st) σ := s_astoren hK hd rfl (by simp only [List.length_cons]; omega) k
theorem s_iinc0 {z : Int} {x v : Int32} (hK : OKc K cc own Ts fr lo) (hd : decode cc pc = .ok (.iinc 0 z, 3)) (hv : x + Int32.ofInt z = v) (k : AW K (pc + 3) (some (.int v) :: t) st σ) : AW K pc (some (.int x) :: t) st σ := s_iincg hK hd rfl hv (by simp only [List.length_cons]; omega) k
theorem s_iload1 {x : Int32} (hK : OKc K cc own Ts fr lo) (hd : decode cc pc = .ok (.iload_n 1, 1)) (k : AW K (pc + 1) (a0 :: some (.int x) :: t) (.int x :: st) σ) : AW K pc (a0 :: some (.int x) :: t) st σ := s_iloadn hK hd rfl rfl k
theorem s_aload1 {o : Nat} (hK : OKc K cc own Ts fr lo) (hd : decode cc pc = .ok (.aload_n 1, 1)) (k : AW K (pc + 1) (a0 :: some (.ref o) :: t) (.ref o :: st) σ) : AW K pc (a0 :: some (.ref o) :: t) st σ := s_aloadn hK hd rfl rfl k
theorem s_istore1 {x : Int32} (hK : OKc K cc own Ts fr lo) (hd : decode cc pc = .ok (.istore_n 1, 1)) (k : AW K (pc + 1) (a0 :: some (.int x) :: t) st σ) : AW K pc (a0 :: a1 :: t) (.int x :: st) σ := s_istoren hK hd rfl (by simp only [List.length_cons]; omega) k
theorem s_astore1 {o : Nat} (hK : OKc K cc own Ts fr lo) (hd : decode cc pc = .ok (.astore_n 1, 1)) (k : AW K (pc + 1) (a0 :: some (.ref o) :: t) st σ) : AW K pc (a0 :: a1 :: t) (.ref o :: st) σ := s_astoren hK hd rfl (by simp only [List.length_cons]; omega) k
theorem s_iinc1 {z : Int} {x v : Int32} (hK : OKc K cc own Ts fr lo) (hd : decode cc pc = .ok (.iinc 1 z, 3)) (hv : x + Int32.ofInt z = v) (k : AW K (pc + 3) (a0 :: some (.int v) :: t) st σ) : AW K pc (a0 :: some (.int x) :: t) st σ := s_iincg hK hd rfl hv (by simp only [List.length_cons]; omega) k
theorem s_iload2 {x : Int32} (hK : OKc K cc own Ts fr lo) (hd : decode cc pc = .ok (.iload_n 2, 1)) (k : AW K (pc + 1) (a0 :: a1 :: some (.int x) :: t) (.int x :: st) σ) : AW K pc (a0 :: a1 :: some (.int x) :: t) st σ := s_iloadn hK hd rfl rfl k
theorem s_aload2 {o : Nat} (hK : OKc K cc own Ts fr lo) (hd : decode cc pc = .ok (.aload_n 2, 1)) (k : AW K (pc + 1) (a0 :: a1 :: some (.ref o) :: t) (.ref o :: st) σ) : AW K pc (a0 :: a1 :: some (.ref o) :: t) st σ := s_aloadn hK hd rfl rfl k
theorem s_istore2 {x : Int32} (hK : OKc K cc own Ts fr lo) (hd : decode cc pc = .ok (.istore_n 2, 1)) (k : AW K (pc + 1) (a0 :: a1 :: some (.int x) :: t) st σ) : AW K pc (a0 :: a1 :: a2 :: t) (.int x :: st) σ := s_istoren hK hd rfl (by simp only [List.length_cons]; omega) k
theorem s_astore2 {o : Nat} (hK : OKc K cc own Ts fr lo) (hd : decode cc pc = .ok (.astore_n 2, 1)) (k : AW K (pc + 1) (a0 :: a1 :: some (.ref o) :: t) st σ) : AW K pc (a0 :: a1 :: a2 :: t) (.ref o :: st) σ := s_astoren hK hd rfl (by simp only [List.length_cons]; omega) k
theorem s_iinc2 {z : Int} {x v : Int32} (hK : OKc K cc own Ts fr lo) (hd : decode cc pc = .ok (.iinc 2 z, 3)) (hv : x + Int32.ofInt z = v) (k : AW K (pc + 3) (a0 :: a1 :: some (.int v) :: t) st σ) : AW K pc (a0 :: a1 :: some (.int x) :: t) st σ := s_iincg hK hd rfl hv (by simp only [List.length_cons]; omega) k
theorem s_iload3 {x : Int32} (hK : OKc K cc own Ts fr lo) (hd : decode cc pc = .ok (.iload_n 3, 1)) (k : AW K (pc + 1) (a0 :: a1 :: a2 :: some (.int x) :: t) (.int x :: st) σ) : AW K pc (a0 :: a1 :: a2 :: some (.int x) :: t) st σ := s_iloadn hK hd rfl rfl k
theorem s_aload3 {o : Nat} (hK : OKc K cc own Ts fr lo) (hd : decode cc pc = .ok (.aload_n 3, 1)) (k : AW K (pc + 1) (a0 :: a1 :: a2 :: some (.ref o) :: t) (.ref o :: st) σ) : AW K pc (a0 :: a1 :: a2 :: some (.ref o) :: t) st σ := s_aloadn hK hd rfl rfl k
theorem s_istore3 {x : Int32} (hK : OKc K cc own Ts fr lo) (hd : decode cc pc = .ok (.istore_n 3, 1)) (k : AW K (pc + 1) (a0 :: a1 :: a2 :: some (.int x) :: t) st σ) : AW K pc (a0 :: a1 :: a2 :: a3 :: t) (.int x :: st) σ := s_istoren hK hd rfl (by simp only [List.length_cons]; omega) k
theorem s_astore3 {o : Nat} (hK : OKc K cc own Ts fr lo) (hd : decode cc pc = .ok (.astore_n 3, 1)) (k : AW K (pc + 1) (a0 :: a1 :: a2 :: some (.ref o) :: t) st σ) : AW K pc (a0 :: a1 :: a2 :: a3 :: t) (.ref o :: st) σ := s_astoren hK hd rfl (by simp only [List.length_cons]; omega) k
theorem s_iinc3 {z : Int} {x v : Int32} (hK : OKc K cc own Ts fr lo) (hd : decode cc pc = .ok (.iinc 3 z, 3)) (hv : x + Int32.ofInt z = v) (k : AW K (pc + 3) (a0 :: a1 :: a2 :: some (.int v) :: t) st σ) : AW K pc (a0 :: a1 :: a2 :: some (.int x) :: t) st σ := s_iincg hK hd rfl hv (by simp only [List.length_cons]; omega) k
theorem s_iload4 {x : Int32} (hK : OKc K cc own Ts fr lo) (hd : decode cc pc = .ok (.iload 4, 2)) (k : AW K (pc + 2) (a0 :: a1 :: a2 :: a3 :: some (.int x) :: t) (.int x :: st) σ) : AW K pc (a0 :: a1 :: a2 :: a3 :: some (.int x) :: t) st σ := s_iloadg hK hd rfl k
theorem s_aload4 {o : Nat} (hK : OKc K cc own Ts fr lo) (hd : decode cc pc = .ok (.aload 4, 2)) (k : AW K (pc + 2) (a0 :: a1 :: a2 :: a3 :: some (.ref o) :: t) (.ref o :: st) σ) : AW K pc (a0 :: a1 :: a2 :: a3 :: some (.ref o) :: t) st σ := s_aloadg hK hd rfl k
theorem s_istore4 {x : Int32} (hK : OKc K cc own Ts fr lo) (hd : decode cc pc = .ok (.istore 4, 2)) (k : AW K (pc + 2) (a0 :: a1 :: a2 :: a3 :: some (.int x) :: t) st σ) : AW K pc (a0 :: a1 :: a2 :: a3 :: a4 :: t) (.int x :: st) σ := s_istoreg hK hd (by simp only [List.length_cons]; omega) k
theorem s_astore4 {o : Nat} (hK : OKc K cc own Ts fr lo) (hd : decode cc pc = .ok (.astore 4, 2)) (k : AW K (pc + 2) (a0 :: a1 :: a2 :: a3 :: some (.ref o) :: t) st σ) : AW K pc (a0 :: a1 :: a2 :: a3 :: a4 :: t) (.ref o :: st) σ := s_astoreg hK hd (by simp only [List.length_cons]; omega) k
theorem s_iinc4 {z : Int} {x v : Int32} (hK : OKc K cc own Ts fr lo) (hd : decode cc pc = .ok (.iinc 4 z, 3)) (hv : x + Int32.ofInt z = v) (k : AW K (pc + 3) (a0 :: a1 :: a2 :: a3 :: some (.int v) :: t) st σ) : AW K pc (a0 :: a1 :: a2 :: a3 :: some (.int x) :: t) st σ := s_iincg hK hd rfl hv (by simp only [List.length_cons]; omega) k
theorem s_iload5 {x : Int32} (hK : OKc K cc own Ts fr lo) (hd : decode cc pc = .ok (.iload 5, 2)) (k : AW K (pc + 2) (a0 :: a1 :: a2 :: a3 :: a4 :: some (.int x) :: t) (.int x :: st) σ) : AW K pc (a0 :: a1 :: a2 :: a3 :: a4 :: some (.int x) :: t) st σ := s_iloadg hK hd rfl k
theorem s_aload5 {o : Nat} (hK : OKc K cc own Ts fr lo) (hd : decode cc pc = .ok (.aload 5, 2)) (k : AW K (pc + 2) (a0 :: a1 :: a2 :: a3 :: a4 :: some (.ref o) :: t) (.ref o :: st) σ) : AW K pc (a0 :: a1 :: a2 :: a3 :: a4 :: some (.ref o) :: t) st σ := s_aloadg hK hd rfl k
theorem s_istore5 {x : Int32} (hK : OKc K cc own Ts fr lo) (hd : decode cc pc = .ok (.istore 5, 2)) (k : AW K (pc + 2) (a0 :: a1 :: a2 :: a3 :: a4 :: some (.int x) :: t) st σ) : AW K pc (a0 :: a1 :: a2 :: a3 :: a4 :: a5 :: t) (.int x :: st) σ := s_istoreg hK hd (by simp only [List.length_cons]; omega) k
theorem s_astore5 {o : Nat} (hK : OKc K cc own Ts fr lo) (hd : decode cc pc = .ok (.astore 5, 2)) (k : AW K (pc + 2) (a0 :: a1 :: a2 :: a3 :: a4 :: some (.ref o) :: t) st σ) : AW K pc (a0 :: a1 :: a2 :: a3 :: a4 :: a5 :: t) (.ref o :: st) σ := s_astoreg hK hd (by simp only [List.length_cons]; omega) k
theorem s_iinc5 {z : Int} {x v : Int32} (hK : OKc K cc own Ts fr lo) (hd : decode cc pc = .ok (.iinc 5 z, 3)) (hv : x + Int32.ofInt z = v) (k : AW K (pc + 3) (a0 :: a1 :: a2 :: a3 :: a4 :: some (.int v) :: t) st σ) : AW K pc (a0 :: a1 :: a2 :: a3 :: a4 :: some (.int x) :: t) st σ := s_iincg hK hd rfl hv (by simp only [List.length_cons]; omega) k
theorem s_iload6 {x : Int32} (hK : OKc K cc own Ts fr lo) (hd : decode cc pc = .ok (.iload 6, 2)) (k : AW K (pc + 2) (a0 :: a1 :: a2 :: a3 :: a4 :: a5 :: some (.int x) :: t) (.int x :: st) σ) : AW K pc (a0 :: a1 :: a2 :: a3 :: a4 :: a5 :: some (.int x) :: t) st σ := s_iloadg hK hd rfl k
theorem s_aload6 {o : Nat} (hK : OKc K cc own Ts fr lo) (hd : decode cc pc = .ok (.aload 6, 2)) (k : AW K (pc + 2) (a0 :: a1 :: a2 :: a3 :: a4 :: a5 :: some (.ref o) :: t) (.ref o :: st) σ) : AW K pc (a0 :: a1 :: a2 :: a3 :: a4 :: a5 :: some (.ref o) :: t) st σ := s_aloadg hK hd rfl k
theorem s_istore6 {x : Int32} (hK : OKc K cc own Ts fr lo) (hd : decode cc pc = .ok (.istore 6, 2)) (k : AW K (pc + 2) (a0 :: a1 :: a2 :: a3 :: a4 :: a5 :: some (.int x) :: t) st σ) : AW K pc (a0 :: a1 :: a2 :: a3 :: a4 :: a5 :: a6 :: t) (.int x :: st) σ := s_istoreg hK hd (by simp only [List.length_cons]; omega) k
theorem s_astore6 {o : Nat} (hK : OKc K cc own Ts fr lo) (hd : decode cc pc = .ok (.astore 6, 2)) (k : AW K (pc + 2) (a0 :: a1 :: a2 :: a3 :: a4 :: a5 :: some (.ref o) :: t) st σ) : AW K pc (a0 :: a1 :: a2 :: a3 :: a4 :: a5 :: a6 :: t) (.ref o :: st) σ := s_astoreg hK hd (by simp only [List.length_cons]; omega) k
theorem s_iinc6 {z : Int} {x v : Int32} (hK : OKc K cc own Ts fr lo) (hd : decode cc pc = .ok (.iinc 6 z, 3)) (hv : x + Int32.ofInt z = v) (k : AW K (pc + 3) (a0 :: a1 :: a2 :: a3 :: a4 :: a5 :: some (.int v) :: t) st σ) : AW K pc (a0 :: a1 :: a2 :: a3 :: a4 :: a5 :: some (.int x) :: t) st σ := s_iincg hK hd rfl hv (by simp only [List.length_cons]; omega) k
theorem s_iload7 {x : Int32} (hK : OKc K cc own Ts fr lo) (hd : decode cc pc = .ok (.iload 7, 2)) (k : AW K (pc + 2) (a0 :: a1 :: a2 :: a3 :: a4 :: a5 :: a6 :: some (.int x) :: t) (.int x :: st) σ) : AW K pc (a0 :: a1 :: a2 :: a3 :: a4 :: a5 :: a6 :: some (.int x) :: t) st σ := s_iloadg hK hd rfl k
theorem s_aload7 {o : Nat} (hK : OKc K cc own Ts fr lo) (hd : decode cc pc = .ok (.aload 7, 2)) (k : AW K (pc + 2) (a0 :: a1 :: a2 :: a3 :: a4 :: a5 :: a6 :: some (.ref o) :: t) (.ref o :: st) σ) : AW K pc (a0 :: a1 :: a2 :: a3 :: a4 :: a5 :: a6 :: some (.ref o) :: t) st σ := s_aloadg hK hd rfl k
theorem s_istore7 {x : Int32} (hK : OKc K cc own Ts fr lo) (hd : decode cc pc = .ok (.istore 7, 2)) (k : AW K (pc + 2) (a0 :: a1 :: a2 :: a3 :: a4 :: a5 :: a6 :: some (.int x) :: t) st σ) : AW K pc (a0 :: a1 :: a2 :: a3 :: a4 :: a5 :: a6 :: a7 :: t) (.int x :: st) σ := s_istoreg hK hd (by simp only [List.length_cons]; omega) k
theorem s_astore7 {o : Nat} (hK : OKc K cc own Ts fr lo) (hd : decode cc pc = .ok (.astore 7, 2)) (k : AW K (pc + 2) (a0 :: a1 :: a2 :: a3 :: a4 :: a5 :: a6 :: some (.ref o) :: t) st σ) : AW K pc (a0 :: a1 :: a2 :: a3 :: a4 :: a5 :: a6 :: a7 :: t) (.ref o :: st) σ := s_astoreg hK hd (by simp only [List.length_cons]; omega) k
theorem s_iinc7 {z : Int} {x v : Int32} (hK : OKc K cc own Ts fr lo) (hd : decode cc pc = .ok (.iinc 7 z, 3)) (hv : x + Int32.ofInt z = v) (k : AW K (pc + 3) (a0 :: a1 :: a2 :: a3 :: a4 :: a5 :: a6 :: some (.int v) :: t) st σ) : AW K pc (a0 :: a1 :: a2 :: a3 :: a4 :: a5 :: a6 :: some (.int x) :: t) st σ := s_iincg hK hd rfl hv (by simp only [List.length_cons]; omega) k
theorem s_iload8 {x : Int32} (hK : OKc K cc own Ts fr lo) (hd : decode cc pc = .ok (.iload 8, 2)) (k : AW K (pc + 2) (a0 :: a1 :: a2 :: a3 :: a4 :: a5 :: a6 :: a7 :: some (.int x) :: t) (.int x :: st) σ) : AW K pc (a0 :: a1 :: a2 :: a3 :: a4 :: a5 :: a6 :: a7 :: some (.int x) :: t) st σ := s_iloadg hK hd rfl k
theorem s_aload8 {o : Nat} (hK : OKc K cc own Ts fr lo) (hd : decode cc pc = .ok (.aload 8, 2)) (k : AW K (pc + 2) (a0 :: a1 :: a2 :: a3 :: a4 :: a5 :: a6 :: a7 :: some (.ref o) :: t) (.ref o :: st) σ) : AW K pc (a0 :: a1 :: a2 :: a3 :: a4 :: a5 :: a6 :: a7 :: some (.ref o) :: t) st σ := s_aloadg hK hd rfl k
theorem s_istore8 {x : Int32} (hK : OKc K cc own Ts fr lo) (hd : decode cc pc = .ok (.istore 8, 2)) (k : AW K (pc + 2) (a0 :: a1 :: a2 :: a3 :: a4 :: a5 :: a6 :: a7 :: some (.int x) :: t) st σ) : AW K pc (a0 :: a1 :: a2 :: a3 :: a4 :: a5 :: a6 :: a7 :: a8 :: t) (.int x :: st) σ := s_istoreg hK hd (by simp only [List.length_cons]; omega) k
theorem s_astore8 {o : Nat} (hK : OKc K cc own Ts fr lo) (hd : decode cc pc = .ok (.astore 8, 2)) (k : AW K (pc + 2) (a0 :: a1 :: a2 :: a3 :: a4 :: a5 :: a6 :: a7 :: some (.ref o) :: t) st σ) : AW K pc (a0 :: a1 :: a2 :: a3 :: a4 :: a5 :: a6 :: a7 :: a8 :: t) (.ref o :: st) σ := s_astoreg hK hd (by simp only [List.length_cons]; omega) k
theorem s_iinc8 {z : Int} {x v : Int32} (hK : OKc K cc own Ts fr lo) (hd : decode cc pc = .ok (.iinc 8 z, 3)) (hv : x + Int32.ofInt z = v) (k : AW K (pc + 3) (a0 :: a1 :: a2 :: a3 :: a4 :: a5 :: a6 :: a7 :: some (.int v) :: t) st σ) : AW K pc (a0 :: a1 :: a2 :: a3 :: a4 :: a5 :: a6 :: a7 :: some (.int x) :: t) st σ := s_iincg hK hd rfl hv (by simp only [List.length_cons]; omega) k
end AI
theorem rf_0_0 {o : Nat} (h : kd o = 0) : rf o 0 = o + 1 := by simp [rf, h]
theorem rf_0_1 {o : Nat} (h : kd o = 0) : rf o 1 = o + 2 := by simp [rf, h]
theorem rf_0_2 {o : Nat} (h : kd o = 0) : rf o 2 = o + 3 := by simp [rf, h]
theorem rf_0_3 {o : Nat} (h : kd o = 0) : rf o 3 = o + 4 := by simp [rf, h]
theorem rf_0_4 {o : Nat} (h : kd o = 0) : rf o 4 = o + 9 := by simp [rf, h]
theorem rf_1_0 {o : Nat} (h : kd o = 1) : rf o 0 = o + 4 := by simp [rf, h]
theorem rf_2_0 {o : Nat} (h : kd o = 2) : rf o 0 = 602 := by simp [rf, h]
theorem rf_3_0 {o : Nat} (h : kd o = 3) : rf o 0 = o + 1 := by simp [rf, h]
theorem rf_4_0 {o : Nat} (h : kd o = 4) : rf o 0 = 604 := by simp [rf, h]
theorem rf_4_4 {o : Nat} (h : kd o = 4) : rf o 4 = 605 := by simp [rf, h]
theorem rf_4_5 {o : Nat} (h : kd o = 4) : rf o 5 = 606 := by simp [rf, h]
theorem rf_5_0 {o : Nat} (h : kd o = 5) : rf o 0 = o + 10 := by simp [rf, h]
theorem rf_5_1 {o : Nat} (h : kd o = 5) : rf o 1 = o + 1 := by simp [rf, h]
theorem rf_5_2 {o : Nat} (h : kd o = 5) : rf o 2 = o + 2 := by simp [rf, h]
theorem rf_5_6 {o : Nat} (h : kd o = 5) : rf o 6 = o + 20 := by simp [rf, h]
theorem rf_5_7 {o : Nat} (h : kd o = 5) : rf o 7 = o + 30 := by simp [rf, h]
theorem rf_6_0 {o : Nat} (h : kd o = 6) : rf o 0 = 0 := by simp [rf, h]
theorem rf_6_1 {o : Nat} (h : kd o = 6) : rf o 1 = 601 := by simp [rf, h]
theorem rf_6_2 {o : Nat} (h : kd o = 6) : rf o 2 = 603 := by simp [rf, h]
theorem rf_6_3 {o : Nat} (h : kd o = 6) : rf o 3 = 607 := by simp [rf, h]
theorem rf_6_4 {o : Nat} (h : kd o = 6) : rf o 4 = 608 := by simp [rf, h]
theorem rf_7_1 {o : Nat} (h : kd o = 7) : rf o 1 = 701 := by simp [rf, h]
theorem rf_7_2 {o : Nat} (h : kd o = 7) : rf o 2 = 702 := by simp [rf, h]
theorem rf_7_4 {o : Nat} (h : kd o = 7) : rf o 4 = 703 := by simp [rf, h]
theorem rf_7_6 {o : Nat} (h : kd o = 7) : rf o 6 = 704 := by simp [rf, h]
theorem rf_7_7 {o : Nat} (h : kd o = 7) : rf o 7 = 705 := by simp [rf, h]
theorem rf_7_11 {o : Nat} (h : kd o = 7) : rf o 11 = 706 := by simp [rf, h]
theorem kd_lt {o : Nat} (h : kd o < 10) : o < 707 := by
  rcases Nat.lt_or_ge o 707 with q | q
  · exact q
  · exact absurd h (by unfold kd; rw [if_neg (by omega), if_neg (by omega)]; decide)
theorem kC {o : Nat} (h : kd o = 1) : kd (o + 4) = 8 := (show ∀ o, o < 707 → kd o = 1 → kd (o + 4) = 8 by decide +kernel) o (kd_lt (by omega)) h
theorem lC {o : Nat} (h : kd o = 1) : ln (o + 4) = 12 := (show ∀ o, o < 707 → kd o = 1 → ln (o + 4) = 12 by decide +kernel) o (kd_lt (by omega)) h
theorem kB1 {o : Nat} (h : kd o = 0) : kd (o + 1) = 1 := (show ∀ o, o < 707 → kd o = 0 → kd (o + 1) = 1 by decide +kernel) o (kd_lt (by omega)) h
theorem kB2 {o : Nat} (h : kd o = 0) : kd (o + 2) = 1 := (show ∀ o, o < 707 → kd o = 0 → kd (o + 2) = 1 by decide +kernel) o (kd_lt (by omega)) h
theorem kB3 {o : Nat} (h : kd o = 0) : kd (o + 3) = 1 := (show ∀ o, o < 707 → kd o = 0 → kd (o + 3) = 1 by decide +kernel) o (kd_lt (by omega)) h
theorem kB4 {o : Nat} (h : kd o = 0) : kd (o + 4) = 1 := (show ∀ o, o < 707 → kd o = 0 → kd (o + 4) = 1 by decide +kernel) o (kd_lt (by omega)) h
theorem kBw {o : Nat} (h : kd o = 0) : kd (o + 9) = 8 := (show ∀ o, o < 707 → kd o = 0 → kd (o + 9) = 8 by decide +kernel) o (kd_lt (by omega)) h
theorem lBw {o : Nat} (h : kd o = 0) : ln (o + 9) = 192 := (show ∀ o, o < 707 → kd o = 0 → ln (o + 9) = 192 by decide +kernel) o (kd_lt (by omega)) h
theorem kS1 {o : Nat} (h : kd o = 5) : kd (o + 1) = 8 := (show ∀ o, o < 707 → kd o = 5 → kd (o + 1) = 8 by decide +kernel) o (kd_lt (by omega)) h
theorem lS1 {o : Nat} (h : kd o = 5) : ln (o + 1) = 5 := (show ∀ o, o < 707 → kd o = 5 → ln (o + 1) = 5 by decide +kernel) o (kd_lt (by omega)) h
theorem kS2 {o : Nat} (h : kd o = 5) : kd (o + 2) = 3 := (show ∀ o, o < 707 → kd o = 5 → kd (o + 2) = 3 by decide +kernel) o (kd_lt (by omega)) h
theorem kS10 {o : Nat} (h : kd o = 5) : kd (o + 10) = 0 := (show ∀ o, o < 707 → kd o = 5 → kd (o + 10) = 0 by decide +kernel) o (kd_lt (by omega)) h
theorem kS20 {o : Nat} (h : kd o = 5) : kd (o + 20) = 0 := (show ∀ o, o < 707 → kd o = 5 → kd (o + 20) = 0 by decide +kernel) o (kd_lt (by omega)) h
theorem kS30 {o : Nat} (h : kd o = 5) : kd (o + 30) = 0 := (show ∀ o, o < 707 → kd o = 5 → kd (o + 30) = 0 by decide +kernel) o (kd_lt (by omega)) h
theorem kLp {o : Nat} (h : kd o = 3) : kd (o + 1) = 8 := (show ∀ o, o < 707 → kd o = 3 → kd (o + 1) = 8 by decide +kernel) o (kd_lt (by omega)) h
theorem lLp {o : Nat} (h : kd o = 3) : ln (o + 1) = 72 := (show ∀ o, o < 707 → kd o = 3 → ln (o + 1) = 72 by decide +kernel) o (kd_lt (by omega)) h
end
section
set_option maxRecDepth 20000 in
theorem ggX0_init_X1_init : GoodIn wsX0_init wsX1_init := goodIn_r _ [15, 16, 2, 3, 11, 17, 18] (by decide +kernel) (by decide +kernel)
set_option maxRecDepth 20000 in
theorem gX0_init_X1_init : GoodIn wsX0_init (wsX1_init) := ggX0_init_X1_init
theorem dX0_init_0 : decode cX0_init 0 = .ok (.aload_n 0, 1) := by decide +kernel
theorem dX0_init_1 : decode cX0_init 1 = .ok (.invokespecial 3, 3) := by decide +kernel
theorem dX0_init_4 : decode cX0_init 4 = .ok (.aload_n 0, 1) := by decide +kernel
theorem dX0_init_5 : decode cX0_init 5 = .ok (.new 9, 3) := by decide +kernel
theorem dX0_init_8 : decode cX0_init 8 = .ok (.dup, 1) := by decide +kernel
theorem dX0_init_9 : decode cX0_init 9 = .ok (.invokespecial 11, 3) := by decide +kernel
theorem dX0_init_12 : decode cX0_init 12 = .ok (.putfield 12, 3) := by decide +kernel
theorem dX0_init_15 : decode cX0_init 15 = .ok (.aload_n 0, 1) := by decide +kernel
theorem dX0_init_16 : decode cX0_init 16 = .ok (.new 9, 3) := by decide +kernel
theorem dX0_init_19 : decode cX0_init 19 = .ok (.dup, 1) := by decide +kernel
theorem dX0_init_20 : decode cX0_init 20 = .ok (.invokespecial 11, 3) := by decide +kernel
theorem dX0_init_23 : decode cX0_init 23 = .ok (.putfield 18, 3) := by decide +kernel
theorem dX0_init_26 : decode cX0_init 26 = .ok (.aload_n 0, 1) := by decide +kernel
theorem dX0_init_27 : decode cX0_init 27 = .ok (.new 9, 3) := by decide +kernel
theorem dX0_init_30 : decode cX0_init 30 = .ok (.dup, 1) := by decide +kernel
theorem dX0_init_31 : decode cX0_init 31 = .ok (.invokespecial 11, 3) := by decide +kernel
theorem dX0_init_34 : decode cX0_init 34 = .ok (.putfield 21, 3) := by decide +kernel
theorem dX0_init_37 : decode cX0_init 37 = .ok (.aload_n 0, 1) := by decide +kernel
theorem dX0_init_38 : decode cX0_init 38 = .ok (.new 9, 3) := by decide +kernel
theorem dX0_init_41 : decode cX0_init 41 = .ok (.dup, 1) := by decide +kernel
theorem dX0_init_42 : decode cX0_init 42 = .ok (.invokespecial 11, 3) := by decide +kernel
theorem dX0_init_45 : decode cX0_init 45 = .ok (.putfield 24, 3) := by decide +kernel
theorem dX0_init_48 : decode cX0_init 48 = .ok (.aload_n 0, 1) := by decide +kernel
theorem dX0_init_49 : decode cX0_init 49 = .ok (.sipush 192, 3) := by decide +kernel
theorem dX0_init_52 : decode cX0_init 52 = .ok (.newarray .int, 2) := by decide +kernel
theorem dX0_init_54 : decode cX0_init 54 = .ok (.putfield 27, 3) := by decide +kernel
theorem dX0_init_57 : decode cX0_init 57 = .ok (.return_, 1) := by decide +kernel
set_option maxRecDepth 20000 in
theorem ggX0_becomeLike_X1_becomeLike : GoodIn wsX0_becomeLike wsX1_becomeLike := goodIn_r _ [14, 15, 16, 7, 8, 9, 22] (by decide +kernel) (by decide +kernel)
set_option maxRecDepth 20000 in
theorem gX0_becomeLike_X1_becomeLike : GoodIn wsX0_becomeLike (wsV RX0 31 RX1 yX1_becomeLike wsX1_becomeLike) := goodIn_app (goodIn_of _ (by decide +kernel)) ggX0_becomeLike_X1_becomeLike
theorem dX0_becomeLike_0 : decode cX0_becomeLike 0 = .ok (.aload_n 0, 1) := by decide +kernel
theorem dX0_becomeLike_1 : decode cX0_becomeLike 1 = .ok (.getfield 12, 3) := by decide +kernel
theorem dX0_becomeLike_4 : decode cX0_becomeLike 4 = .ok (.aload_n 1, 1) := by decide +kernel
theorem dX0_becomeLike_5 : decode cX0_becomeLike 5 = .ok (.getfield 12, 3) := by decide +kernel
theorem dX0_becomeLike_8 : decode cX0_becomeLike 8 = .ok (.invokevirtual 31, 3) := by decide +kernel
theorem dX0_becomeLike_11 : decode cX0_becomeLike 11 = .ok (.aload_n 0, 1) := by decide +kernel
theorem dX0_becomeLike_12 : decode cX0_becomeLike 12 = .ok (.getfield 18, 3) := by decide +kernel
theorem dX0_becomeLike_15 : decode cX0_becomeLike 15 = .ok (.aload_n 1, 1) := by decide +kernel
theorem dX0_becomeLike_16 : decode cX0_becomeLike 16 = .ok (.getfield 18, 3) := by decide +kernel
theorem dX0_becomeLike_19 : decode cX0_becomeLike 19 = .ok (.invokevirtual 31, 3) := by decide +kernel
theorem dX0_becomeLike_22 : decode cX0_becomeLike 22 = .ok (.aload_n 0, 1) := by decide +kernel
theorem dX0_becomeLike_23 : decode cX0_becomeLike 23 = .ok (.getfield 21, 3) := by decide +kernel
theorem dX0_becomeLike_26 : decode cX0_becomeLike 26 = .ok (.aload_n 1, 1) := by decide +kernel
theorem dX0_becomeLike_27 : decode cX0_becomeLike 27 = .ok (.getfield 21, 3) := by decide +kernel
theorem dX0_becomeLike_30 : decode cX0_becomeLike 30 = .ok (.invokevirtual 31, 3) := by decide +kernel
theorem dX0_becomeLike_33 : decode cX0_becomeLike 33 = .ok (.aload_n 0, 1) := by decide +kernel
theorem dX0_becomeLike_34 : decode cX0_becomeLike 34 = .ok (.getfield 24, 3) := by decide +kernel
theorem dX0_becomeLike_37 : decode cX0_becomeLike 37 = .ok (.aload_n 1, 1) := by decide +kernel
theorem dX0_becomeLike_38 : decode cX0_becomeLike 38 = .ok (.getfield 24, 3) := by decide +kernel
theorem dX0_becomeLike_41 : decode cX0_becomeLike 41 = .ok (.invokevirtual 31, 3) := by decide +kernel
theorem dX0_becomeLike_44 : decode cX0_becomeLike 44 = .ok (.aload_n 1, 1) := by decide +kernel
theorem dX0_becomeLike_45 : decode cX0_becomeLike 45 = .ok (.getfield 27, 3) := by decide +kernel
theorem dX0_becomeLike_48 : decode cX0_becomeLike 48 = .ok (.iconst 0, 1) := by decide +kernel
theorem dX0_becomeLike_49 : decode cX0_becomeLike 49 = .ok (.aload_n 0, 1) := by decide +kernel
theorem dX0_becomeLike_50 : decode cX0_becomeLike 50 = .ok (.getfield 27, 3) := by decide +kernel
theorem dX0_becomeLike_53 : decode cX0_becomeLike 53 = .ok (.iconst 0, 1) := by decide +kernel
theorem dX0_becomeLike_54 : decode cX0_becomeLike 54 = .ok (.sipush 192, 3) := by decide +kernel
theorem dX0_becomeLike_57 : decode cX0_becomeLike 57 = .ok (.invokestatic 35, 3) := by decide +kernel
theorem dX0_becomeLike_60 : decode cX0_becomeLike 60 = .ok (.return_, 1) := by decide +kernel
set_option maxRecDepth 20000 in
theorem ggX0_kindAt_X1_has : GoodIn wsX0_kindAt wsX1_has := goodIn_r _ [7, 8, 9, 10, 11, 17] (by decide +kernel) (by decide +kernel)
set_option maxRecDepth 20000 in
theorem gX0_kindAt_X1_has : GoodIn wsX0_kindAt (wsV RX0 41 RX1 yX1_has wsX1_has) := goodIn_app (goodIn_of _ (by decide +kernel)) ggX0_kindAt_X1_has
theorem dX0_kindAt_0 : decode cX0_kindAt 0 = .ok (.aload_n 0, 1) := by decide +kernel
theorem dX0_kindAt_1 : decode cX0_kindAt 1 = .ok (.getfield 18, 3) := by decide +kernel
theorem dX0_kindAt_4 : decode cX0_kindAt 4 = .ok (.iload_n 1, 1) := by decide +kernel
theorem dX0_kindAt_5 : decode cX0_kindAt 5 = .ok (.iload_n 2, 1) := by decide +kernel
theorem dX0_kindAt_6 : decode cX0_kindAt 6 = .ok (.invokevirtual 41, 3) := by decide +kernel
theorem dX0_kindAt_9 : decode cX0_kindAt 9 = .ok (.ifCond .eq 5, 3) := by decide +kernel
theorem dX0_kindAt_12 : decode cX0_kindAt 12 = .ok (.iconst 2, 1) := by decide +kernel
theorem dX0_kindAt_13 : decode cX0_kindAt 13 = .ok (.ireturn, 1) := by decide +kernel
theorem dX0_kindAt_14 : decode cX0_kindAt 14 = .ok (.aload_n 0, 1) := by decide +kernel
theorem dX0_kindAt_15 : decode cX0_kindAt 15 = .ok (.getfield 12, 3) := by decide +kernel
theorem dX0_kindAt_18 : decode cX0_kindAt 18 = .ok (.iload_n 1, 1) := by decide +kernel
theorem dX0_kindAt_19 : decode cX0_kindAt 19 = .ok (.iload_n 2, 1) := by decide +kernel
theorem dX0_kindAt_20 : decode cX0_kindAt 20 = .ok (.invokevirtual 41, 3) := by decide +kernel
theorem dX0_kindAt_23 : decode cX0_kindAt 23 = .ok (.ifCond .eq 7, 3) := by decide +kernel
theorem dX0_kindAt_26 : decode cX0_kindAt 26 = .ok (.iconst 1, 1) := by decide +kernel
theorem dX0_kindAt_27 : decode cX0_kindAt 27 = .ok (.goto 4, 3) := by decide +kernel
theorem dX0_kindAt_30 : decode cX0_kindAt 30 = .ok (.iconst 0, 1) := by decide +kernel
theorem dX0_kindAt_31 : decode cX0_kindAt 31 = .ok (.ireturn, 1) := by decide +kernel
set_option maxRecDepth 20000 in
theorem ggX0_paintedCells_X1_size : GoodIn wsX0_paintedCells wsX1_size := goodIn_r _ [7, 8, 9, 10, 11, 12, 13, 14, 15, 21] (by decide +kernel) (by decide +kernel)
set_option maxRecDepth 20000 in
theorem gX0_paintedCells_X1_size : GoodIn wsX0_paintedCells (wsV RX0 45 RX1 yX1_size wsX1_size) := goodIn_app (goodIn_of _ (by decide +kernel)) ggX0_paintedCells_X1_size
theorem dX0_paintedCells_0 : decode cX0_paintedCells 0 = .ok (.aload_n 0, 1) := by decide +kernel
theorem dX0_paintedCells_1 : decode cX0_paintedCells 1 = .ok (.getfield 12, 3) := by decide +kernel
theorem dX0_paintedCells_4 : decode cX0_paintedCells 4 = .ok (.invokevirtual 45, 3) := by decide +kernel
theorem dX0_paintedCells_7 : decode cX0_paintedCells 7 = .ok (.aload_n 0, 1) := by decide +kernel
theorem dX0_paintedCells_8 : decode cX0_paintedCells 8 = .ok (.getfield 18, 3) := by decide +kernel
theorem dX0_paintedCells_11 : decode cX0_paintedCells 11 = .ok (.invokevirtual 45, 3) := by decide +kernel
theorem dX0_paintedCells_14 : decode cX0_paintedCells 14 = .ok (.iadd, 1) := by decide +kernel
theorem dX0_paintedCells_15 : decode cX0_paintedCells 15 = .ok (.ireturn, 1) := by decide +kernel
set_option maxRecDepth 20000 in
theorem ggX0_fillArea_X0_kindAt : GoodIn wsX0_fillArea wsX0_kindAt := goodIn_r _ [7, 2, 1, 8, 9, 10, 11, 12, 13, 14, 15, 16, 23, 24, 25, 26, 27, 28] (by decide +kernel) (by decide +kernel)
set_option maxRecDepth 20000 in
theorem gX0_fillArea_X0_kindAt : GoodIn wsX0_fillArea (wsV RX0 49 RX0 yX0_kindAt wsX0_kindAt) := goodIn_app (goodIn_of _ (by decide +kernel)) ggX0_fillArea_X0_kindAt
set_option maxRecDepth 20000 in
theorem ggX0_fillArea_X6_oneIf : GoodIn wsX0_fillArea wsX6_oneIf := goodIn_r _ [18] (by decide +kernel) (by decide +kernel)
set_option maxRecDepth 20000 in
theorem gX0_fillArea_X6_oneIf_n53 : GoodIn wsX0_fillArea (wsX6_oneIf) := ggX0_fillArea_X6_oneIf
set_option maxRecDepth 20000 in
theorem ggX0_fillArea_X1_put : GoodIn wsX0_fillArea wsX1_put := goodIn_r _ [22, 13, 14, 15, 16, 28] (by decide +kernel) (by decide +kernel)
set_option maxRecDepth 20000 in
theorem gX0_fillArea_X1_put : GoodIn wsX0_fillArea (wsV RX0 57 RX1 yX1_put wsX1_put) := goodIn_app (goodIn_of _ (by decide +kernel)) ggX0_fillArea_X1_put
theorem dX0_fillArea_0 : decode cX0_fillArea 0 = .ok (.iconst 0, 1) := by decide +kernel
theorem dX0_fillArea_1 : decode cX0_fillArea 1 = .ok (.istore 6, 2) := by decide +kernel
theorem dX0_fillArea_3 : decode cX0_fillArea 3 = .ok (.iload_n 2, 1) := by decide +kernel
theorem dX0_fillArea_4 : decode cX0_fillArea 4 = .ok (.istore 7, 2) := by decide +kernel
theorem dX0_fillArea_6 : decode cX0_fillArea 6 = .ok (.iload 7, 2) := by decide +kernel
theorem dX0_fillArea_8 : decode cX0_fillArea 8 = .ok (.iload_n 2, 1) := by decide +kernel
theorem dX0_fillArea_9 : decode cX0_fillArea 9 = .ok (.iload 4, 2) := by decide +kernel
theorem dX0_fillArea_11 : decode cX0_fillArea 11 = .ok (.iadd, 1) := by decide +kernel
theorem dX0_fillArea_12 : decode cX0_fillArea 12 = .ok (.if_icmp .ge 96, 3) := by decide +kernel
theorem dX0_fillArea_15 : decode cX0_fillArea 15 = .ok (.iload_n 1, 1) := by decide +kernel
theorem dX0_fillArea_16 : decode cX0_fillArea 16 = .ok (.istore 8, 2) := by decide +kernel
theorem dX0_fillArea_18 : decode cX0_fillArea 18 = .ok (.iload 8, 2) := by decide +kernel
theorem dX0_fillArea_20 : decode cX0_fillArea 20 = .ok (.iload_n 1, 1) := by decide +kernel
theorem dX0_fillArea_21 : decode cX0_fillArea 21 = .ok (.iload_n 3, 1) := by decide +kernel
theorem dX0_fillArea_22 : decode cX0_fillArea 22 = .ok (.iadd, 1) := by decide +kernel
theorem dX0_fillArea_23 : decode cX0_fillArea 23 = .ok (.if_icmp .ge 79, 3) := by decide +kernel
theorem dX0_fillArea_26 : decode cX0_fillArea 26 = .ok (.iload 6, 2) := by decide +kernel
theorem dX0_fillArea_28 : decode cX0_fillArea 28 = .ok (.aload_n 0, 1) := by decide +kernel
theorem dX0_fillArea_29 : decode cX0_fillArea 29 = .ok (.iload 8, 2) := by decide +kernel
theorem dX0_fillArea_31 : decode cX0_fillArea 31 = .ok (.iload 7, 2) := by decide +kernel
theorem dX0_fillArea_33 : decode cX0_fillArea 33 = .ok (.invokevirtual 49, 3) := by decide +kernel
theorem dX0_fillArea_36 : decode cX0_fillArea 36 = .ok (.iload 5, 2) := by decide +kernel
theorem dX0_fillArea_38 : decode cX0_fillArea 38 = .ok (.if_icmp .eq 7, 3) := by decide +kernel
theorem dX0_fillArea_41 : decode cX0_fillArea 41 = .ok (.iconst 1, 1) := by decide +kernel
theorem dX0_fillArea_42 : decode cX0_fillArea 42 = .ok (.goto 4, 3) := by decide +kernel
theorem dX0_fillArea_45 : decode cX0_fillArea 45 = .ok (.iconst 0, 1) := by decide +kernel
theorem dX0_fillArea_46 : decode cX0_fillArea 46 = .ok (.invokestatic 53, 3) := by decide +kernel
theorem dX0_fillArea_49 : decode cX0_fillArea 49 = .ok (.iadd, 1) := by decide +kernel
theorem dX0_fillArea_50 : decode cX0_fillArea 50 = .ok (.istore 6, 2) := by decide +kernel
theorem dX0_fillArea_52 : decode cX0_fillArea 52 = .ok (.aload_n 0, 1) := by decide +kernel
theorem dX0_fillArea_53 : decode cX0_fillArea 53 = .ok (.getfield 12, 3) := by decide +kernel
theorem dX0_fillArea_56 : decode cX0_fillArea 56 = .ok (.iload 8, 2) := by decide +kernel
theorem dX0_fillArea_58 : decode cX0_fillArea 58 = .ok (.iload 7, 2) := by decide +kernel
theorem dX0_fillArea_60 : decode cX0_fillArea 60 = .ok (.iload 5, 2) := by decide +kernel
theorem dX0_fillArea_62 : decode cX0_fillArea 62 = .ok (.iconst 1, 1) := by decide +kernel
theorem dX0_fillArea_63 : decode cX0_fillArea 63 = .ok (.if_icmp .ne 7, 3) := by decide +kernel
theorem dX0_fillArea_66 : decode cX0_fillArea 66 = .ok (.iconst 1, 1) := by decide +kernel
theorem dX0_fillArea_67 : decode cX0_fillArea 67 = .ok (.goto 4, 3) := by decide +kernel
theorem dX0_fillArea_70 : decode cX0_fillArea 70 = .ok (.iconst 0, 1) := by decide +kernel
theorem dX0_fillArea_71 : decode cX0_fillArea 71 = .ok (.invokevirtual 57, 3) := by decide +kernel
theorem dX0_fillArea_74 : decode cX0_fillArea 74 = .ok (.aload_n 0, 1) := by decide +kernel
theorem dX0_fillArea_75 : decode cX0_fillArea 75 = .ok (.getfield 18, 3) := by decide +kernel
theorem dX0_fillArea_78 : decode cX0_fillArea 78 = .ok (.iload 8, 2) := by decide +kernel
theorem dX0_fillArea_80 : decode cX0_fillArea 80 = .ok (.iload 7, 2) := by decide +kernel
theorem dX0_fillArea_82 : decode cX0_fillArea 82 = .ok (.iload 5, 2) := by decide +kernel
theorem dX0_fillArea_84 : decode cX0_fillArea 84 = .ok (.iconst 2, 1) := by decide +kernel
theorem dX0_fillArea_85 : decode cX0_fillArea 85 = .ok (.if_icmp .ne 7, 3) := by decide +kernel
theorem dX0_fillArea_88 : decode cX0_fillArea 88 = .ok (.iconst 1, 1) := by decide +kernel
theorem dX0_fillArea_89 : decode cX0_fillArea 89 = .ok (.goto 4, 3) := by decide +kernel
theorem dX0_fillArea_92 : decode cX0_fillArea 92 = .ok (.iconst 0, 1) := by decide +kernel
theorem dX0_fillArea_93 : decode cX0_fillArea 93 = .ok (.invokevirtual 57, 3) := by decide +kernel
theorem dX0_fillArea_96 : decode cX0_fillArea 96 = .ok (.iinc 8 1, 3) := by decide +kernel
theorem dX0_fillArea_99 : decode cX0_fillArea 99 = .ok (.goto (-81), 3) := by decide +kernel
theorem dX0_fillArea_102 : decode cX0_fillArea 102 = .ok (.iinc 7 1, 3) := by decide +kernel
theorem dX0_fillArea_105 : decode cX0_fillArea 105 = .ok (.goto (-99), 3) := by decide +kernel
theorem dX0_fillArea_108 : decode cX0_fillArea 108 = .ok (.iload 6, 2) := by decide +kernel
theorem dX0_fillArea_110 : decode cX0_fillArea 110 = .ok (.ireturn, 1) := by decide +kernel
set_option maxRecDepth 20000 in
theorem ggX0_cutAnew_X1_becomeLike : GoodIn wsX0_cutAnew wsX1_becomeLike := goodIn_r _ [9, 10, 11, 12, 13, 14, 38] (by decide +kernel) (by decide +kernel)
set_option maxRecDepth 20000 in
theorem gX0_cutAnew_X1_becomeLike : GoodIn wsX0_cutAnew (wsV RX0 31 RX1 yX1_becomeLike wsX1_becomeLike) := goodIn_app (goodIn_of _ (by decide +kernel)) ggX0_cutAnew_X1_becomeLike
set_option maxRecDepth 20000 in
theorem ggX0_cutAnew_J7_fill_53178 : GoodIn wsX0_cutAnew wsJ7_fill_53178 := goodIn_r _ [18] (by decide +kernel) (by decide +kernel)
set_option maxRecDepth 20000 in
theorem gX0_cutAnew_J7_fill_53178 : GoodIn wsX0_cutAnew (va_wsS RX0 61 yJ7_fill_53178 wsJ7_fill_53178) := goodIn_app (goodIn_of _ (by decide +kernel)) ggX0_cutAnew_J7_fill_53178
set_option maxRecDepth 20000 in
theorem ggX0_cutAnew_X0_cutColour : GoodIn wsX0_cutAnew wsX0_cutColour := goodIn_r _ [23, 24, 2, 5, 6, 7, 8, 9, 10, 11, 12, 13, 14, 25, 26, 27, 28, 29, 30, 31, 32, 33, 34, 35, 36, 37, 38] (by decide +kernel) (by decide +kernel)
set_option maxRecDepth 20000 in
theorem gX0_cutAnew_X0_cutColour : GoodIn wsX0_cutAnew (wsV RX0 67 RX0 yX0_cutColour wsX0_cutColour) := goodIn_app (goodIn_of _ (by decide +kernel)) ggX0_cutAnew_X0_cutColour
theorem dX0_cutAnew_0 : decode cX0_cutAnew 0 = .ok (.aload_n 0, 1) := by decide +kernel
theorem dX0_cutAnew_1 : decode cX0_cutAnew 1 = .ok (.getfield 21, 3) := by decide +kernel
theorem dX0_cutAnew_4 : decode cX0_cutAnew 4 = .ok (.aload_n 0, 1) := by decide +kernel
theorem dX0_cutAnew_5 : decode cX0_cutAnew 5 = .ok (.getfield 18, 3) := by decide +kernel
theorem dX0_cutAnew_8 : decode cX0_cutAnew 8 = .ok (.invokevirtual 31, 3) := by decide +kernel
theorem dX0_cutAnew_11 : decode cX0_cutAnew 11 = .ok (.aload_n 0, 1) := by decide +kernel
theorem dX0_cutAnew_12 : decode cX0_cutAnew 12 = .ok (.getfield 27, 3) := by decide +kernel
theorem dX0_cutAnew_15 : decode cX0_cutAnew 15 = .ok (.iconst 0, 1) := by decide +kernel
theorem dX0_cutAnew_16 : decode cX0_cutAnew 16 = .ok (.invokestatic 61, 3) := by decide +kernel
theorem dX0_cutAnew_19 : decode cX0_cutAnew 19 = .ok (.aload_n 0, 1) := by decide +kernel
theorem dX0_cutAnew_20 : decode cX0_cutAnew 20 = .ok (.aload_n 0, 1) := by decide +kernel
theorem dX0_cutAnew_21 : decode cX0_cutAnew 21 = .ok (.getfield 24, 3) := by decide +kernel
theorem dX0_cutAnew_24 : decode cX0_cutAnew 24 = .ok (.iload_n 1, 1) := by decide +kernel
theorem dX0_cutAnew_25 : decode cX0_cutAnew 25 = .ok (.invokevirtual 67, 3) := by decide +kernel
theorem dX0_cutAnew_28 : decode cX0_cutAnew 28 = .ok (.return_, 1) := by decide +kernel
set_option maxRecDepth 20000 in
theorem ggX0_cutColour_X1_becomeLike : GoodIn wsX0_cutColour wsX1_becomeLike := goodIn_r _ [7, 8, 9, 10, 11, 12, 26] (by decide +kernel) (by decide +kernel)
set_option maxRecDepth 20000 in
theorem gX0_cutColour_X1_becomeLike : GoodIn wsX0_cutColour (wsV RX0 31 RX1 yX1_becomeLike wsX1_becomeLike) := goodIn_app (goodIn_of _ (by decide +kernel)) ggX0_cutColour_X1_becomeLike
set_option maxRecDepth 20000 in
theorem ggX0_cutColour_X1_growInto : GoodIn wsX0_cutColour wsX1_growInto := goodIn_r _ [16, 8, 17, 18, 19, 6, 20, 26] (by decide +kernel) (by decide +kernel)
set_option maxRecDepth 20000 in
theorem gX0_cutColour_X1_growInto : GoodIn wsX0_cutColour (wsV RX0 71 RX1 yX1_growInto wsX1_growInto) := goodIn_app (goodIn_of _ (by decide +kernel)) ggX0_cutColour_X1_growInto
theorem dX0_cutColour_0 : decode cX0_cutColour 0 = .ok (.aload_n 1, 1) := by decide +kernel
theorem dX0_cutColour_1 : decode cX0_cutColour 1 = .ok (.aload_n 0, 1) := by decide +kernel
theorem dX0_cutColour_2 : decode cX0_cutColour 2 = .ok (.getfield 12, 3) := by decide +kernel
theorem dX0_cutColour_5 : decode cX0_cutColour 5 = .ok (.invokevirtual 31, 3) := by decide +kernel
theorem dX0_cutColour_8 : decode cX0_cutColour 8 = .ok (.iconst 0, 1) := by decide +kernel
theorem dX0_cutColour_9 : decode cX0_cutColour 9 = .ok (.istore_n 3, 1) := by decide +kernel
theorem dX0_cutColour_10 : decode cX0_cutColour 10 = .ok (.iload_n 3, 1) := by decide +kernel
theorem dX0_cutColour_11 : decode cX0_cutColour 11 = .ok (.iload_n 2, 1) := by decide +kernel
theorem dX0_cutColour_12 : decode cX0_cutColour 12 = .ok (.if_icmp .ge 17, 3) := by decide +kernel
theorem dX0_cutColour_15 : decode cX0_cutColour 15 = .ok (.aload_n 1, 1) := by decide +kernel
theorem dX0_cutColour_16 : decode cX0_cutColour 16 = .ok (.aload_n 0, 1) := by decide +kernel
theorem dX0_cutColour_17 : decode cX0_cutColour 17 = .ok (.getfield 18, 3) := by decide +kernel
theorem dX0_cutColour_20 : decode cX0_cutColour 20 = .ok (.invokevirtual 71, 3) := by decide +kernel
theorem dX0_cutColour_23 : decode cX0_cutColour 23 = .ok (.iinc 3 1, 3) := by decide +kernel
theorem dX0_cutColour_26 : decode cX0_cutColour 26 = .ok (.goto (-16), 3) := by decide +kernel
theorem dX0_cutColour_29 : decode cX0_cutColour 29 = .ok (.return_, 1) := by decide +kernel
set_option maxRecDepth 20000 in
theorem ggX0_wearAt_X6_isPlace : GoodIn wsX0_wearAt wsX6_isPlace := goodIn_r _ [4] (by decide +kernel) (by decide +kernel)
set_option maxRecDepth 20000 in
theorem gX0_wearAt_X6_isPlace_n74 : GoodIn wsX0_wearAt (wsX6_isPlace) := ggX0_wearAt_X6_isPlace
theorem dX0_wearAt_0 : decode cX0_wearAt 0 = .ok (.iload_n 1, 1) := by decide +kernel
theorem dX0_wearAt_1 : decode cX0_wearAt 1 = .ok (.iload_n 2, 1) := by decide +kernel
theorem dX0_wearAt_2 : decode cX0_wearAt 2 = .ok (.invokestatic 74, 3) := by decide +kernel
theorem dX0_wearAt_5 : decode cX0_wearAt 5 = .ok (.ifCond .eq 17, 3) := by decide +kernel
theorem dX0_wearAt_8 : decode cX0_wearAt 8 = .ok (.aload_n 0, 1) := by decide +kernel
theorem dX0_wearAt_9 : decode cX0_wearAt 9 = .ok (.getfield 27, 3) := by decide +kernel
theorem dX0_wearAt_12 : decode cX0_wearAt 12 = .ok (.iload_n 2, 1) := by decide +kernel
theorem dX0_wearAt_13 : decode cX0_wearAt 13 = .ok (.bipush 16, 2) := by decide +kernel
theorem dX0_wearAt_15 : decode cX0_wearAt 15 = .ok (.imul, 1) := by decide +kernel
theorem dX0_wearAt_16 : decode cX0_wearAt 16 = .ok (.iload_n 1, 1) := by decide +kernel
theorem dX0_wearAt_17 : decode cX0_wearAt 17 = .ok (.iadd, 1) := by decide +kernel
theorem dX0_wearAt_18 : decode cX0_wearAt 18 = .ok (.iaload, 1) := by decide +kernel
theorem dX0_wearAt_19 : decode cX0_wearAt 19 = .ok (.goto 4, 3) := by decide +kernel
theorem dX0_wearAt_22 : decode cX0_wearAt 22 = .ok (.iconst 0, 1) := by decide +kernel
theorem dX0_wearAt_23 : decode cX0_wearAt 23 = .ok (.ireturn, 1) := by decide +kernel
set_option maxRecDepth 20000 in
theorem ggX0_clearWear_X6_isPlace : GoodIn wsX0_clearWear wsX6_isPlace := goodIn_r _ [4] (by decide +kernel) (by decide +kernel)
set_option maxRecDepth 20000 in
theorem gX0_clearWear_X6_isPlace_n74 : GoodIn wsX0_clearWear (wsX6_isPlace) := ggX0_clearWear_X6_isPlace
theorem dX0_clearWear_0 : decode cX0_clearWear 0 = .ok (.iload_n 1, 1) := by decide +kernel
theorem dX0_clearWear_1 : decode cX0_clearWear 1 = .ok (.iload_n 2, 1) := by decide +kernel
theorem dX0_clearWear_2 : decode cX0_clearWear 2 = .ok (.invokestatic 74, 3) := by decide +kernel
theorem dX0_clearWear_5 : decode cX0_clearWear 5 = .ok (.ifCond .eq 15, 3) := by decide +kernel
theorem dX0_clearWear_8 : decode cX0_clearWear 8 = .ok (.aload_n 0, 1) := by decide +kernel
theorem dX0_clearWear_9 : decode cX0_clearWear 9 = .ok (.getfield 27, 3) := by decide +kernel
theorem dX0_clearWear_12 : decode cX0_clearWear 12 = .ok (.iload_n 2, 1) := by decide +kernel
theorem dX0_clearWear_13 : decode cX0_clearWear 13 = .ok (.bipush 16, 2) := by decide +kernel
theorem dX0_clearWear_15 : decode cX0_clearWear 15 = .ok (.imul, 1) := by decide +kernel
theorem dX0_clearWear_16 : decode cX0_clearWear 16 = .ok (.iload_n 1, 1) := by decide +kernel
theorem dX0_clearWear_17 : decode cX0_clearWear 17 = .ok (.iadd, 1) := by decide +kernel
theorem dX0_clearWear_18 : decode cX0_clearWear 18 = .ok (.iconst 0, 1) := by decide +kernel
theorem dX0_clearWear_19 : decode cX0_clearWear 19 = .ok (.iastore, 1) := by decide +kernel
theorem dX0_clearWear_20 : decode cX0_clearWear 20 = .ok (.return_, 1) := by decide +kernel
set_option maxRecDepth 20000 in
theorem ggX0_isWorn_X1_has : GoodIn wsX0_isWorn wsX1_has := goodIn_r _ [6, 7, 8, 9, 10, 22] (by decide +kernel) (by decide +kernel)
set_option maxRecDepth 20000 in
theorem gX0_isWorn_X1_has : GoodIn wsX0_isWorn (wsV RX0 41 RX1 yX1_has wsX1_has) := goodIn_app (goodIn_of _ (by decide +kernel)) ggX0_isWorn_X1_has
set_option maxRecDepth 20000 in
theorem ggX0_isWorn_X0_wearAt : GoodIn wsX0_isWorn wsX0_wearAt := goodIn_r _ [15, 16, 8, 9, 10, 17, 18, 19, 20, 21] (by decide +kernel) (by decide +kernel)
set_option maxRecDepth 20000 in
theorem gX0_isWorn_X0_wearAt : GoodIn wsX0_isWorn (wsV RX0 77 RX0 yX0_wearAt wsX0_wearAt) := goodIn_app (goodIn_of _ (by decide +kernel)) ggX0_isWorn_X0_wearAt
theorem dX0_isWorn_0 : decode cX0_isWorn 0 = .ok (.aload_n 0, 1) := by decide +kernel
theorem dX0_isWorn_1 : decode cX0_isWorn 1 = .ok (.getfield 21, 3) := by decide +kernel
theorem dX0_isWorn_4 : decode cX0_isWorn 4 = .ok (.iload_n 1, 1) := by decide +kernel
theorem dX0_isWorn_5 : decode cX0_isWorn 5 = .ok (.iload_n 2, 1) := by decide +kernel
theorem dX0_isWorn_6 : decode cX0_isWorn 6 = .ok (.invokevirtual 41, 3) := by decide +kernel
theorem dX0_isWorn_9 : decode cX0_isWorn 9 = .ok (.ifCond .eq 17, 3) := by decide +kernel
theorem dX0_isWorn_12 : decode cX0_isWorn 12 = .ok (.aload_n 0, 1) := by decide +kernel
theorem dX0_isWorn_13 : decode cX0_isWorn 13 = .ok (.iload_n 1, 1) := by decide +kernel
theorem dX0_isWorn_14 : decode cX0_isWorn 14 = .ok (.iload_n 2, 1) := by decide +kernel
theorem dX0_isWorn_15 : decode cX0_isWorn 15 = .ok (.invokevirtual 77, 3) := by decide +kernel
theorem dX0_isWorn_18 : decode cX0_isWorn 18 = .ok (.iload_n 3, 1) := by decide +kernel
theorem dX0_isWorn_19 : decode cX0_isWorn 19 = .ok (.if_icmp .le 7, 3) := by decide +kernel
theorem dX0_isWorn_22 : decode cX0_isWorn 22 = .ok (.iconst 1, 1) := by decide +kernel
theorem dX0_isWorn_23 : decode cX0_isWorn 23 = .ok (.goto 4, 3) := by decide +kernel
theorem dX0_isWorn_26 : decode cX0_isWorn 26 = .ok (.iconst 0, 1) := by decide +kernel
theorem dX0_isWorn_27 : decode cX0_isWorn 27 = .ok (.ireturn, 1) := by decide +kernel
set_option maxRecDepth 20000 in
theorem ggX0_findInk_X6_oneIf : GoodIn wsX0_findInk wsX6_oneIf := goodIn_r _ [5] (by decide +kernel) (by decide +kernel)
set_option maxRecDepth 20000 in
theorem gX0_findInk_X6_oneIf_n53 : GoodIn wsX0_findInk (wsX6_oneIf) := ggX0_findInk_X6_oneIf
set_option maxRecDepth 20000 in
theorem ggX0_findInk_X1_row : GoodIn wsX0_findInk wsX1_row := goodIn_r _ [10, 11, 22] (by decide +kernel) (by decide +kernel)
set_option maxRecDepth 20000 in
theorem gX0_findInk_X1_row : GoodIn wsX0_findInk (wsV RX0 80 RX1 yX1_row wsX1_row) := goodIn_app (goodIn_of _ (by decide +kernel)) ggX0_findInk_X1_row
set_option maxRecDepth 20000 in
theorem ggX0_findInk_X1_putRow : GoodIn wsX0_findInk wsX1_putRow := goodIn_r _ [15, 11, 16, 22] (by decide +kernel) (by decide +kernel)
set_option maxRecDepth 20000 in
theorem gX0_findInk_X1_putRow : GoodIn wsX0_findInk (wsV RX0 84 RX1 yX1_putRow wsX1_putRow) := goodIn_app (goodIn_of _ (by decide +kernel)) ggX0_findInk_X1_putRow
theorem dX0_findInk_0 : decode cX0_findInk 0 = .ok (.iconst 0, 1) := by decide +kernel
theorem dX0_findInk_1 : decode cX0_findInk 1 = .ok (.istore_n 3, 1) := by decide +kernel
theorem dX0_findInk_2 : decode cX0_findInk 2 = .ok (.iload_n 3, 1) := by decide +kernel
theorem dX0_findInk_3 : decode cX0_findInk 3 = .ok (.bipush 12, 2) := by decide +kernel
theorem dX0_findInk_5 : decode cX0_findInk 5 = .ok (.if_icmp .ge 78, 3) := by decide +kernel
theorem dX0_findInk_8 : decode cX0_findInk 8 = .ok (.iconst 0, 1) := by decide +kernel
theorem dX0_findInk_9 : decode cX0_findInk 9 = .ok (.istore 4, 2) := by decide +kernel
theorem dX0_findInk_11 : decode cX0_findInk 11 = .ok (.iconst 0, 1) := by decide +kernel
theorem dX0_findInk_12 : decode cX0_findInk 12 = .ok (.istore 5, 2) := by decide +kernel
theorem dX0_findInk_14 : decode cX0_findInk 14 = .ok (.iload 5, 2) := by decide +kernel
theorem dX0_findInk_16 : decode cX0_findInk 16 = .ok (.bipush 16, 2) := by decide +kernel
theorem dX0_findInk_18 : decode cX0_findInk 18 = .ok (.if_icmp .ge 41, 3) := by decide +kernel
theorem dX0_findInk_21 : decode cX0_findInk 21 = .ok (.iload 4, 2) := by decide +kernel
theorem dX0_findInk_23 : decode cX0_findInk 23 = .ok (.aload_n 0, 1) := by decide +kernel
theorem dX0_findInk_24 : decode cX0_findInk 24 = .ok (.getfield 27, 3) := by decide +kernel
theorem dX0_findInk_27 : decode cX0_findInk 27 = .ok (.iload_n 3, 1) := by decide +kernel
theorem dX0_findInk_28 : decode cX0_findInk 28 = .ok (.bipush 16, 2) := by decide +kernel
theorem dX0_findInk_30 : decode cX0_findInk 30 = .ok (.imul, 1) := by decide +kernel
theorem dX0_findInk_31 : decode cX0_findInk 31 = .ok (.iload 5, 2) := by decide +kernel
theorem dX0_findInk_33 : decode cX0_findInk 33 = .ok (.iadd, 1) := by decide +kernel
theorem dX0_findInk_34 : decode cX0_findInk 34 = .ok (.iaload, 1) := by decide +kernel
theorem dX0_findInk_35 : decode cX0_findInk 35 = .ok (.iload_n 2, 1) := by decide +kernel
theorem dX0_findInk_36 : decode cX0_findInk 36 = .ok (.if_icmp .le 7, 3) := by decide +kernel
theorem dX0_findInk_39 : decode cX0_findInk 39 = .ok (.iconst 1, 1) := by decide +kernel
theorem dX0_findInk_40 : decode cX0_findInk 40 = .ok (.goto 4, 3) := by decide +kernel
theorem dX0_findInk_43 : decode cX0_findInk 43 = .ok (.iconst 0, 1) := by decide +kernel
theorem dX0_findInk_44 : decode cX0_findInk 44 = .ok (.invokestatic 53, 3) := by decide +kernel
theorem dX0_findInk_47 : decode cX0_findInk 47 = .ok (.iload 5, 2) := by decide +kernel
theorem dX0_findInk_49 : decode cX0_findInk 49 = .ok (.ishl, 1) := by decide +kernel
theorem dX0_findInk_50 : decode cX0_findInk 50 = .ok (.ior, 1) := by decide +kernel
theorem dX0_findInk_51 : decode cX0_findInk 51 = .ok (.istore 4, 2) := by decide +kernel
theorem dX0_findInk_53 : decode cX0_findInk 53 = .ok (.iinc 5 1, 3) := by decide +kernel
theorem dX0_findInk_56 : decode cX0_findInk 56 = .ok (.goto (-42), 3) := by decide +kernel
theorem dX0_findInk_59 : decode cX0_findInk 59 = .ok (.aload_n 1, 1) := by decide +kernel
theorem dX0_findInk_60 : decode cX0_findInk 60 = .ok (.iload_n 3, 1) := by decide +kernel
theorem dX0_findInk_61 : decode cX0_findInk 61 = .ok (.aload_n 0, 1) := by decide +kernel
theorem dX0_findInk_62 : decode cX0_findInk 62 = .ok (.getfield 21, 3) := by decide +kernel
theorem dX0_findInk_65 : decode cX0_findInk 65 = .ok (.iload_n 3, 1) := by decide +kernel
theorem dX0_findInk_66 : decode cX0_findInk 66 = .ok (.invokevirtual 80, 3) := by decide +kernel
theorem dX0_findInk_69 : decode cX0_findInk 69 = .ok (.iload 4, 2) := by decide +kernel
theorem dX0_findInk_71 : decode cX0_findInk 71 = .ok (.iconst (-1), 1) := by decide +kernel
theorem dX0_findInk_72 : decode cX0_findInk 72 = .ok (.ixor, 1) := by decide +kernel
theorem dX0_findInk_73 : decode cX0_findInk 73 = .ok (.iand, 1) := by decide +kernel
theorem dX0_findInk_74 : decode cX0_findInk 74 = .ok (.invokevirtual 84, 3) := by decide +kernel
theorem dX0_findInk_77 : decode cX0_findInk 77 = .ok (.iinc 3 1, 3) := by decide +kernel
theorem dX0_findInk_80 : decode cX0_findInk 80 = .ok (.goto (-78), 3) := by decide +kernel
theorem dX0_findInk_83 : decode cX0_findInk 83 = .ok (.return_, 1) := by decide +kernel
set_option maxRecDepth 20000 in
theorem ggX0_gaps_X1_row : GoodIn wsX0_gaps wsX1_row := goodIn_r _ [7, 8, 27] (by decide +kernel) (by decide +kernel)
set_option maxRecDepth 20000 in
theorem gX0_gaps_X1_row : GoodIn wsX0_gaps (wsV RX0 80 RX1 yX1_row wsX1_row) := goodIn_app (goodIn_of _ (by decide +kernel)) ggX0_gaps_X1_row
set_option maxRecDepth 20000 in
theorem ggX0_gaps_X1_shiftedRow : GoodIn wsX0_gaps wsX1_shiftedRow := goodIn_r _ [12, 13, 14, 4, 5, 6, 7, 8, 27] (by decide +kernel) (by decide +kernel)
set_option maxRecDepth 20000 in
theorem gX0_gaps_X1_shiftedRow : GoodIn wsX0_gaps (wsV RX0 88 RX1 yX1_shiftedRow wsX1_shiftedRow) := goodIn_app (goodIn_of _ (by decide +kernel)) ggX0_gaps_X1_shiftedRow
set_option maxRecDepth 20000 in
theorem ggX0_gaps_J6_bitCount_0f7a4 : GoodIn wsX0_gaps wsJ6_bitCount_0f7a4 := goodIn_r _ [18, 19, 20, 21] (by decide +kernel) (by decide +kernel)
set_option maxRecDepth 20000 in
theorem gX0_gaps_J6_bitCount_0f7a4 : GoodIn wsX0_gaps (va_wsS RX0 92 yJ6_bitCount_0f7a4 wsJ6_bitCount_0f7a4) := goodIn_app (goodIn_of _ (by decide +kernel)) ggX0_gaps_J6_bitCount_0f7a4
theorem dX0_gaps_0 : decode cX0_gaps 0 = .ok (.iconst 0, 1) := by decide +kernel
theorem dX0_gaps_1 : decode cX0_gaps 1 = .ok (.istore 5, 2) := by decide +kernel
theorem dX0_gaps_3 : decode cX0_gaps 3 = .ok (.iconst 0, 1) := by decide +kernel
theorem dX0_gaps_4 : decode cX0_gaps 4 = .ok (.istore 6, 2) := by decide +kernel
theorem dX0_gaps_6 : decode cX0_gaps 6 = .ok (.iload 6, 2) := by decide +kernel
theorem dX0_gaps_8 : decode cX0_gaps 8 = .ok (.bipush 12, 2) := by decide +kernel
theorem dX0_gaps_10 : decode cX0_gaps 10 = .ok (.if_icmp .ge 59, 3) := by decide +kernel
theorem dX0_gaps_13 : decode cX0_gaps 13 = .ok (.aload_n 1, 1) := by decide +kernel
theorem dX0_gaps_14 : decode cX0_gaps 14 = .ok (.iload 6, 2) := by decide +kernel
theorem dX0_gaps_16 : decode cX0_gaps 16 = .ok (.invokevirtual 80, 3) := by decide +kernel
theorem dX0_gaps_19 : decode cX0_gaps 19 = .ok (.aload_n 2, 1) := by decide +kernel
theorem dX0_gaps_20 : decode cX0_gaps 20 = .ok (.iload 6, 2) := by decide +kernel
theorem dX0_gaps_22 : decode cX0_gaps 22 = .ok (.iload_n 3, 1) := by decide +kernel
theorem dX0_gaps_23 : decode cX0_gaps 23 = .ok (.iload 4, 2) := by decide +kernel
theorem dX0_gaps_25 : decode cX0_gaps 25 = .ok (.invokevirtual 88, 3) := by decide +kernel
theorem dX0_gaps_28 : decode cX0_gaps 28 = .ok (.ior, 1) := by decide +kernel
theorem dX0_gaps_29 : decode cX0_gaps 29 = .ok (.istore 7, 2) := by decide +kernel
theorem dX0_gaps_31 : decode cX0_gaps 31 = .ok (.iload 5, 2) := by decide +kernel
theorem dX0_gaps_33 : decode cX0_gaps 33 = .ok (.aload_n 0, 1) := by decide +kernel
theorem dX0_gaps_34 : decode cX0_gaps 34 = .ok (.getfield 12, 3) := by decide +kernel
theorem dX0_gaps_37 : decode cX0_gaps 37 = .ok (.iload 6, 2) := by decide +kernel
theorem dX0_gaps_39 : decode cX0_gaps 39 = .ok (.invokevirtual 80, 3) := by decide +kernel
theorem dX0_gaps_42 : decode cX0_gaps 42 = .ok (.aload_n 0, 1) := by decide +kernel
theorem dX0_gaps_43 : decode cX0_gaps 43 = .ok (.getfield 18, 3) := by decide +kernel
theorem dX0_gaps_46 : decode cX0_gaps 46 = .ok (.iload 6, 2) := by decide +kernel
theorem dX0_gaps_48 : decode cX0_gaps 48 = .ok (.invokevirtual 80, 3) := by decide +kernel
theorem dX0_gaps_51 : decode cX0_gaps 51 = .ok (.ior, 1) := by decide +kernel
theorem dX0_gaps_52 : decode cX0_gaps 52 = .ok (.iload 7, 2) := by decide +kernel
theorem dX0_gaps_54 : decode cX0_gaps 54 = .ok (.iconst (-1), 1) := by decide +kernel
theorem dX0_gaps_55 : decode cX0_gaps 55 = .ok (.ixor, 1) := by decide +kernel
theorem dX0_gaps_56 : decode cX0_gaps 56 = .ok (.iand, 1) := by decide +kernel
theorem dX0_gaps_57 : decode cX0_gaps 57 = .ok (.invokestatic 92, 3) := by decide +kernel
theorem dX0_gaps_60 : decode cX0_gaps 60 = .ok (.iadd, 1) := by decide +kernel
theorem dX0_gaps_61 : decode cX0_gaps 61 = .ok (.istore 5, 2) := by decide +kernel
theorem dX0_gaps_63 : decode cX0_gaps 63 = .ok (.iinc 6 1, 3) := by decide +kernel
theorem dX0_gaps_66 : decode cX0_gaps 66 = .ok (.goto (-60), 3) := by decide +kernel
theorem dX0_gaps_69 : decode cX0_gaps 69 = .ok (.iload 5, 2) := by decide +kernel
theorem dX0_gaps_71 : decode cX0_gaps 71 = .ok (.ireturn, 1) := by decide +kernel
set_option maxRecDepth 20000 in
theorem ggX0_spills_X1_row : GoodIn wsX0_spills wsX1_row := goodIn_r _ [7, 8, 27] (by decide +kernel) (by decide +kernel)
set_option maxRecDepth 20000 in
theorem gX0_spills_X1_row : GoodIn wsX0_spills (wsV RX0 80 RX1 yX1_row wsX1_row) := goodIn_app (goodIn_of _ (by decide +kernel)) ggX0_spills_X1_row
set_option maxRecDepth 20000 in
theorem ggX0_spills_X1_shiftedRow : GoodIn wsX0_spills wsX1_shiftedRow := goodIn_r _ [12, 13, 14, 4, 5, 6, 7, 8, 27] (by decide +kernel) (by decide +kernel)
set_option maxRecDepth 20000 in
theorem gX0_spills_X1_shiftedRow : GoodIn wsX0_spills (wsV RX0 88 RX1 yX1_shiftedRow wsX1_shiftedRow) := goodIn_app (goodIn_of _ (by decide +kernel)) ggX0_spills_X1_shiftedRow
set_option maxRecDepth 20000 in
theorem ggX0_spills_J6_bitCount_0f7a4 : GoodIn wsX0_spills wsJ6_bitCount_0f7a4 := goodIn_r _ [18, 19, 20, 21] (by decide +kernel) (by decide +kernel)
set_option maxRecDepth 20000 in
theorem gX0_spills_J6_bitCount_0f7a4 : GoodIn wsX0_spills (va_wsS RX0 92 yJ6_bitCount_0f7a4 wsJ6_bitCount_0f7a4) := goodIn_app (goodIn_of _ (by decide +kernel)) ggX0_spills_J6_bitCount_0f7a4
theorem dX0_spills_0 : decode cX0_spills 0 = .ok (.iconst 0, 1) := by decide +kernel
theorem dX0_spills_1 : decode cX0_spills 1 = .ok (.istore 4, 2) := by decide +kernel
theorem dX0_spills_3 : decode cX0_spills 3 = .ok (.iconst 0, 1) := by decide +kernel
theorem dX0_spills_4 : decode cX0_spills 4 = .ok (.istore 5, 2) := by decide +kernel
theorem dX0_spills_6 : decode cX0_spills 6 = .ok (.iload 5, 2) := by decide +kernel
theorem dX0_spills_8 : decode cX0_spills 8 = .ok (.bipush 12, 2) := by decide +kernel
theorem dX0_spills_10 : decode cX0_spills 10 = .ok (.if_icmp .ge 51, 3) := by decide +kernel
theorem dX0_spills_13 : decode cX0_spills 13 = .ok (.aload_n 0, 1) := by decide +kernel
theorem dX0_spills_14 : decode cX0_spills 14 = .ok (.getfield 12, 3) := by decide +kernel
theorem dX0_spills_17 : decode cX0_spills 17 = .ok (.iload 5, 2) := by decide +kernel
theorem dX0_spills_19 : decode cX0_spills 19 = .ok (.invokevirtual 80, 3) := by decide +kernel
theorem dX0_spills_22 : decode cX0_spills 22 = .ok (.aload_n 0, 1) := by decide +kernel
theorem dX0_spills_23 : decode cX0_spills 23 = .ok (.getfield 18, 3) := by decide +kernel
theorem dX0_spills_26 : decode cX0_spills 26 = .ok (.iload 5, 2) := by decide +kernel
theorem dX0_spills_28 : decode cX0_spills 28 = .ok (.invokevirtual 80, 3) := by decide +kernel
theorem dX0_spills_31 : decode cX0_spills 31 = .ok (.ior, 1) := by decide +kernel
theorem dX0_spills_32 : decode cX0_spills 32 = .ok (.istore 6, 2) := by decide +kernel
theorem dX0_spills_34 : decode cX0_spills 34 = .ok (.iload 4, 2) := by decide +kernel
theorem dX0_spills_36 : decode cX0_spills 36 = .ok (.aload_n 1, 1) := by decide +kernel
theorem dX0_spills_37 : decode cX0_spills 37 = .ok (.iload 5, 2) := by decide +kernel
theorem dX0_spills_39 : decode cX0_spills 39 = .ok (.iload_n 2, 1) := by decide +kernel
theorem dX0_spills_40 : decode cX0_spills 40 = .ok (.iload_n 3, 1) := by decide +kernel
theorem dX0_spills_41 : decode cX0_spills 41 = .ok (.invokevirtual 88, 3) := by decide +kernel
theorem dX0_spills_44 : decode cX0_spills 44 = .ok (.iload 6, 2) := by decide +kernel
theorem dX0_spills_46 : decode cX0_spills 46 = .ok (.iconst (-1), 1) := by decide +kernel
theorem dX0_spills_47 : decode cX0_spills 47 = .ok (.ixor, 1) := by decide +kernel
theorem dX0_spills_48 : decode cX0_spills 48 = .ok (.iand, 1) := by decide +kernel
theorem dX0_spills_49 : decode cX0_spills 49 = .ok (.invokestatic 92, 3) := by decide +kernel
theorem dX0_spills_52 : decode cX0_spills 52 = .ok (.iadd, 1) := by decide +kernel
theorem dX0_spills_53 : decode cX0_spills 53 = .ok (.istore 4, 2) := by decide +kernel
theorem dX0_spills_55 : decode cX0_spills 55 = .ok (.iinc 5 1, 3) := by decide +kernel
theorem dX0_spills_58 : decode cX0_spills 58 = .ok (.goto (-52), 3) := by decide +kernel
theorem dX0_spills_61 : decode cX0_spills 61 = .ok (.iload 4, 2) := by decide +kernel
theorem dX0_spills_63 : decode cX0_spills 63 = .ok (.ireturn, 1) := by decide +kernel
set_option maxRecDepth 20000 in
theorem ggX0_lostLines_X1_row : GoodIn wsX0_lostLines wsX1_row := goodIn_r _ [6, 7, 20] (by decide +kernel) (by decide +kernel)
set_option maxRecDepth 20000 in
theorem gX0_lostLines_X1_row : GoodIn wsX0_lostLines (wsV RX0 80 RX1 yX1_row wsX1_row) := goodIn_app (goodIn_of _ (by decide +kernel)) ggX0_lostLines_X1_row
set_option maxRecDepth 20000 in
theorem ggX0_lostLines_J6_bitCount_0f7a4 : GoodIn wsX0_lostLines wsJ6_bitCount_0f7a4 := goodIn_r _ [11, 12, 13, 14] (by decide +kernel) (by decide +kernel)
set_option maxRecDepth 20000 in
theorem gX0_lostLines_J6_bitCount_0f7a4 : GoodIn wsX0_lostLines (va_wsS RX0 92 yJ6_bitCount_0f7a4 wsJ6_bitCount_0f7a4) := goodIn_app (goodIn_of _ (by decide +kernel)) ggX0_lostLines_J6_bitCount_0f7a4
theorem dX0_lostLines_0 : decode cX0_lostLines 0 = .ok (.iconst 0, 1) := by decide +kernel
theorem dX0_lostLines_1 : decode cX0_lostLines 1 = .ok (.istore_n 2, 1) := by decide +kernel
theorem dX0_lostLines_2 : decode cX0_lostLines 2 = .ok (.iconst 0, 1) := by decide +kernel
theorem dX0_lostLines_3 : decode cX0_lostLines 3 = .ok (.istore_n 3, 1) := by decide +kernel
theorem dX0_lostLines_4 : decode cX0_lostLines 4 = .ok (.iload_n 3, 1) := by decide +kernel
theorem dX0_lostLines_5 : decode cX0_lostLines 5 = .ok (.bipush 12, 2) := by decide +kernel
theorem dX0_lostLines_7 : decode cX0_lostLines 7 = .ok (.if_icmp .ge 31, 3) := by decide +kernel
theorem dX0_lostLines_10 : decode cX0_lostLines 10 = .ok (.iload_n 2, 1) := by decide +kernel
theorem dX0_lostLines_11 : decode cX0_lostLines 11 = .ok (.aload_n 0, 1) := by decide +kernel
theorem dX0_lostLines_12 : decode cX0_lostLines 12 = .ok (.getfield 18, 3) := by decide +kernel
theorem dX0_lostLines_15 : decode cX0_lostLines 15 = .ok (.iload_n 3, 1) := by decide +kernel
theorem dX0_lostLines_16 : decode cX0_lostLines 16 = .ok (.invokevirtual 80, 3) := by decide +kernel
theorem dX0_lostLines_19 : decode cX0_lostLines 19 = .ok (.aload_n 1, 1) := by decide +kernel
theorem dX0_lostLines_20 : decode cX0_lostLines 20 = .ok (.iload_n 3, 1) := by decide +kernel
theorem dX0_lostLines_21 : decode cX0_lostLines 21 = .ok (.invokevirtual 80, 3) := by decide +kernel
theorem dX0_lostLines_24 : decode cX0_lostLines 24 = .ok (.iconst (-1), 1) := by decide +kernel
theorem dX0_lostLines_25 : decode cX0_lostLines 25 = .ok (.ixor, 1) := by decide +kernel
theorem dX0_lostLines_26 : decode cX0_lostLines 26 = .ok (.iand, 1) := by decide +kernel
theorem dX0_lostLines_27 : decode cX0_lostLines 27 = .ok (.invokestatic 92, 3) := by decide +kernel
theorem dX0_lostLines_30 : decode cX0_lostLines 30 = .ok (.iadd, 1) := by decide +kernel
theorem dX0_lostLines_31 : decode cX0_lostLines 31 = .ok (.istore_n 2, 1) := by decide +kernel
theorem dX0_lostLines_32 : decode cX0_lostLines 32 = .ok (.iinc 3 1, 3) := by decide +kernel
theorem dX0_lostLines_35 : decode cX0_lostLines 35 = .ok (.goto (-31), 3) := by decide +kernel
theorem dX0_lostLines_38 : decode cX0_lostLines 38 = .ok (.iload_n 2, 1) := by decide +kernel
theorem dX0_lostLines_39 : decode cX0_lostLines 39 = .ok (.ireturn, 1) := by decide +kernel
set_option maxRecDepth 20000 in
theorem ggX0_wearDown_X1_has : GoodIn wsX0_wearDown wsX1_has := goodIn_r _ [6, 7, 8, 9, 10, 27] (by decide +kernel) (by decide +kernel)
set_option maxRecDepth 20000 in
theorem gX0_wearDown_X1_has : GoodIn wsX0_wearDown (wsV RX0 41 RX1 yX1_has wsX1_has) := goodIn_app (goodIn_of _ (by decide +kernel)) ggX0_wearDown_X1_has
set_option maxRecDepth 20000 in
theorem ggX0_wearDown_X0_wearOfPrint : GoodIn wsX0_wearDown wsX0_wearOfPrint := goodIn_r _ [14, 15, 16, 17, 5, 18, 19, 3, 4, 6, 7, 8, 9, 10, 20, 21, 27] (by decide +kernel) (by decide +kernel)
set_option maxRecDepth 20000 in
theorem gX0_wearDown_X0_wearOfPrint : GoodIn wsX0_wearDown (va_wsS RX0 97 yX0_wearOfPrint wsX0_wearOfPrint) := goodIn_app (goodIn_of _ (by decide +kernel)) ggX0_wearDown_X0_wearOfPrint
theorem dX0_wearDown_0 : decode cX0_wearDown 0 = .ok (.iconst 0, 1) := by decide +kernel
theorem dX0_wearDown_1 : decode cX0_wearDown 1 = .ok (.istore_n 2, 1) := by decide +kernel
theorem dX0_wearDown_2 : decode cX0_wearDown 2 = .ok (.iload_n 2, 1) := by decide +kernel
theorem dX0_wearDown_3 : decode cX0_wearDown 3 = .ok (.bipush 12, 2) := by decide +kernel
theorem dX0_wearDown_5 : decode cX0_wearDown 5 = .ok (.if_icmp .ge 52, 3) := by decide +kernel
theorem dX0_wearDown_8 : decode cX0_wearDown 8 = .ok (.iconst 0, 1) := by decide +kernel
theorem dX0_wearDown_9 : decode cX0_wearDown 9 = .ok (.istore_n 3, 1) := by decide +kernel
theorem dX0_wearDown_10 : decode cX0_wearDown 10 = .ok (.iload_n 3, 1) := by decide +kernel
theorem dX0_wearDown_11 : decode cX0_wearDown 11 = .ok (.bipush 16, 2) := by decide +kernel
theorem dX0_wearDown_13 : decode cX0_wearDown 13 = .ok (.if_icmp .ge 38, 3) := by decide +kernel
theorem dX0_wearDown_16 : decode cX0_wearDown 16 = .ok (.aload_n 1, 1) := by decide +kernel
theorem dX0_wearDown_17 : decode cX0_wearDown 17 = .ok (.iload_n 3, 1) := by decide +kernel
theorem dX0_wearDown_18 : decode cX0_wearDown 18 = .ok (.iload_n 2, 1) := by decide +kernel
theorem dX0_wearDown_19 : decode cX0_wearDown 19 = .ok (.invokevirtual 41, 3) := by decide +kernel
theorem dX0_wearDown_22 : decode cX0_wearDown 22 = .ok (.ifCond .eq 23, 3) := by decide +kernel
theorem dX0_wearDown_25 : decode cX0_wearDown 25 = .ok (.aload_n 0, 1) := by decide +kernel
theorem dX0_wearDown_26 : decode cX0_wearDown 26 = .ok (.getfield 27, 3) := by decide +kernel
theorem dX0_wearDown_29 : decode cX0_wearDown 29 = .ok (.iload_n 2, 1) := by decide +kernel
theorem dX0_wearDown_30 : decode cX0_wearDown 30 = .ok (.bipush 16, 2) := by decide +kernel
theorem dX0_wearDown_32 : decode cX0_wearDown 32 = .ok (.imul, 1) := by decide +kernel
theorem dX0_wearDown_33 : decode cX0_wearDown 33 = .ok (.iload_n 3, 1) := by decide +kernel
theorem dX0_wearDown_34 : decode cX0_wearDown 34 = .ok (.iadd, 1) := by decide +kernel
theorem dX0_wearDown_35 : decode cX0_wearDown 35 = .ok (.dup2, 1) := by decide +kernel
theorem dX0_wearDown_36 : decode cX0_wearDown 36 = .ok (.iaload, 1) := by decide +kernel
theorem dX0_wearDown_37 : decode cX0_wearDown 37 = .ok (.aload_n 1, 1) := by decide +kernel
theorem dX0_wearDown_38 : decode cX0_wearDown 38 = .ok (.iload_n 3, 1) := by decide +kernel
theorem dX0_wearDown_39 : decode cX0_wearDown 39 = .ok (.iload_n 2, 1) := by decide +kernel
theorem dX0_wearDown_40 : decode cX0_wearDown 40 = .ok (.invokestatic 97, 3) := by decide +kernel
theorem dX0_wearDown_43 : decode cX0_wearDown 43 = .ok (.iadd, 1) := by decide +kernel
theorem dX0_wearDown_44 : decode cX0_wearDown 44 = .ok (.iastore, 1) := by decide +kernel
theorem dX0_wearDown_45 : decode cX0_wearDown 45 = .ok (.iinc 3 1, 3) := by decide +kernel
theorem dX0_wearDown_48 : decode cX0_wearDown 48 = .ok (.goto (-38), 3) := by decide +kernel
theorem dX0_wearDown_51 : decode cX0_wearDown 51 = .ok (.iinc 2 1, 3) := by decide +kernel
theorem dX0_wearDown_54 : decode cX0_wearDown 54 = .ok (.goto (-52), 3) := by decide +kernel
theorem dX0_wearDown_57 : decode cX0_wearDown 57 = .ok (.return_, 1) := by decide +kernel
set_option maxRecDepth 20000 in
theorem ggX0_printsUntilWorn_X0_wearOfPrint : GoodIn wsX0_printsUntilWorn wsX0_wearOfPrint := goodIn_r _ [9, 10, 11, 12, 13, 14, 15, 16, 17, 18, 19, 20, 21, 22, 23, 24, 31] (by decide +kernel) (by decide +kernel)
set_option maxRecDepth 20000 in
theorem gX0_printsUntilWorn_X0_wearOfPrint : GoodIn wsX0_printsUntilWorn (va_wsS RX0 97 yX0_wearOfPrint wsX0_wearOfPrint) := goodIn_app (goodIn_of _ (by decide +kernel)) ggX0_printsUntilWorn_X0_wearOfPrint
set_option maxRecDepth 20000 in
theorem ggX0_printsUntilWorn_X1_has : GoodIn wsX0_printsUntilWorn wsX1_has := goodIn_r _ [18, 19, 20, 21, 22, 31] (by decide +kernel) (by decide +kernel)
set_option maxRecDepth 20000 in
theorem gX0_printsUntilWorn_X1_has : GoodIn wsX0_printsUntilWorn (wsV RX0 41 RX1 yX1_has wsX1_has) := goodIn_app (goodIn_of _ (by decide +kernel)) ggX0_printsUntilWorn_X1_has
theorem dX0_printsUntilWorn_0 : decode cX0_printsUntilWorn 0 = .ok (.sipush 501, 3) := by decide +kernel
theorem dX0_printsUntilWorn_3 : decode cX0_printsUntilWorn 3 = .ok (.istore_n 3, 1) := by decide +kernel
theorem dX0_printsUntilWorn_4 : decode cX0_printsUntilWorn 4 = .ok (.iconst 0, 1) := by decide +kernel
theorem dX0_printsUntilWorn_5 : decode cX0_printsUntilWorn 5 = .ok (.istore 4, 2) := by decide +kernel
theorem dX0_printsUntilWorn_7 : decode cX0_printsUntilWorn 7 = .ok (.iload 4, 2) := by decide +kernel
theorem dX0_printsUntilWorn_9 : decode cX0_printsUntilWorn 9 = .ok (.bipush 12, 2) := by decide +kernel
theorem dX0_printsUntilWorn_11 : decode cX0_printsUntilWorn 11 = .ok (.if_icmp .ge 76, 3) := by decide +kernel
theorem dX0_printsUntilWorn_14 : decode cX0_printsUntilWorn 14 = .ok (.iconst 0, 1) := by decide +kernel
theorem dX0_printsUntilWorn_15 : decode cX0_printsUntilWorn 15 = .ok (.istore 5, 2) := by decide +kernel
theorem dX0_printsUntilWorn_17 : decode cX0_printsUntilWorn 17 = .ok (.iload 5, 2) := by decide +kernel
theorem dX0_printsUntilWorn_19 : decode cX0_printsUntilWorn 19 = .ok (.bipush 16, 2) := by decide +kernel
theorem dX0_printsUntilWorn_21 : decode cX0_printsUntilWorn 21 = .ok (.if_icmp .ge 60, 3) := by decide +kernel
theorem dX0_printsUntilWorn_24 : decode cX0_printsUntilWorn 24 = .ok (.aload_n 1, 1) := by decide +kernel
theorem dX0_printsUntilWorn_25 : decode cX0_printsUntilWorn 25 = .ok (.iload 5, 2) := by decide +kernel
theorem dX0_printsUntilWorn_27 : decode cX0_printsUntilWorn 27 = .ok (.iload 4, 2) := by decide +kernel
theorem dX0_printsUntilWorn_29 : decode cX0_printsUntilWorn 29 = .ok (.invokestatic 97, 3) := by decide +kernel
theorem dX0_printsUntilWorn_32 : decode cX0_printsUntilWorn 32 = .ok (.istore 6, 2) := by decide +kernel
theorem dX0_printsUntilWorn_34 : decode cX0_printsUntilWorn 34 = .ok (.aload_n 1, 1) := by decide +kernel
theorem dX0_printsUntilWorn_35 : decode cX0_printsUntilWorn 35 = .ok (.iload 5, 2) := by decide +kernel
theorem dX0_printsUntilWorn_37 : decode cX0_printsUntilWorn 37 = .ok (.iload 4, 2) := by decide +kernel
theorem dX0_printsUntilWorn_39 : decode cX0_printsUntilWorn 39 = .ok (.invokevirtual 41, 3) := by decide +kernel
theorem dX0_printsUntilWorn_42 : decode cX0_printsUntilWorn 42 = .ok (.ifCond .eq 33, 3) := by decide +kernel
theorem dX0_printsUntilWorn_45 : decode cX0_printsUntilWorn 45 = .ok (.iload 6, 2) := by decide +kernel
theorem dX0_printsUntilWorn_47 : decode cX0_printsUntilWorn 47 = .ok (.ifCond .le 28, 3) := by decide +kernel
theorem dX0_printsUntilWorn_50 : decode cX0_printsUntilWorn 50 = .ok (.iload_n 3, 1) := by decide +kernel
theorem dX0_printsUntilWorn_51 : decode cX0_printsUntilWorn 51 = .ok (.iload_n 2, 1) := by decide +kernel
theorem dX0_printsUntilWorn_52 : decode cX0_printsUntilWorn 52 = .ok (.aload_n 0, 1) := by decide +kernel
theorem dX0_printsUntilWorn_53 : decode cX0_printsUntilWorn 53 = .ok (.getfield 27, 3) := by decide +kernel
theorem dX0_printsUntilWorn_56 : decode cX0_printsUntilWorn 56 = .ok (.iload 4, 2) := by decide +kernel
theorem dX0_printsUntilWorn_58 : decode cX0_printsUntilWorn 58 = .ok (.bipush 16, 2) := by decide +kernel
theorem dX0_printsUntilWorn_60 : decode cX0_printsUntilWorn 60 = .ok (.imul, 1) := by decide +kernel
theorem dX0_printsUntilWorn_61 : decode cX0_printsUntilWorn 61 = .ok (.iload 5, 2) := by decide +kernel
theorem dX0_printsUntilWorn_63 : decode cX0_printsUntilWorn 63 = .ok (.iadd, 1) := by decide +kernel
theorem dX0_printsUntilWorn_64 : decode cX0_printsUntilWorn 64 = .ok (.iaload, 1) := by decide +kernel
theorem dX0_printsUntilWorn_65 : decode cX0_printsUntilWorn 65 = .ok (.isub, 1) := by decide +kernel
theorem dX0_printsUntilWorn_66 : decode cX0_printsUntilWorn 66 = .ok (.iload 6, 2) := by decide +kernel
theorem dX0_printsUntilWorn_68 : decode cX0_printsUntilWorn 68 = .ok (.idiv, 1) := by decide +kernel
theorem dX0_printsUntilWorn_69 : decode cX0_printsUntilWorn 69 = .ok (.iconst 1, 1) := by decide +kernel
theorem dX0_printsUntilWorn_70 : decode cX0_printsUntilWorn 70 = .ok (.iadd, 1) := by decide +kernel
theorem dX0_printsUntilWorn_71 : decode cX0_printsUntilWorn 71 = .ok (.invokestatic 101, 3) := by decide +kernel
theorem dX0_printsUntilWorn_74 : decode cX0_printsUntilWorn 74 = .ok (.istore_n 3, 1) := by decide +kernel
theorem dX0_printsUntilWorn_75 : decode cX0_printsUntilWorn 75 = .ok (.iinc 5 1, 3) := by decide +kernel
theorem dX0_printsUntilWorn_78 : decode cX0_printsUntilWorn 78 = .ok (.goto (-61), 3) := by decide +kernel
theorem dX0_printsUntilWorn_81 : decode cX0_printsUntilWorn 81 = .ok (.iinc 4 1, 3) := by decide +kernel
theorem dX0_printsUntilWorn_84 : decode cX0_printsUntilWorn 84 = .ok (.goto (-77), 3) := by decide +kernel
theorem dX0_printsUntilWorn_87 : decode cX0_printsUntilWorn 87 = .ok (.iload_n 3, 1) := by decide +kernel
theorem dX0_printsUntilWorn_88 : decode cX0_printsUntilWorn 88 = .ok (.ireturn, 1) := by decide +kernel
set_option maxRecDepth 20000 in
theorem ggX0_wearOfPrint_X1_neighbors : GoodIn wsX0_wearOfPrint wsX1_neighbors := goodIn_r _ [5, 6, 7, 8, 4, 9, 10, 11, 12, 13, 14, 15, 16] (by decide +kernel) (by decide +kernel)
set_option maxRecDepth 20000 in
theorem gX0_wearOfPrint_X1_neighbors : GoodIn wsX0_wearOfPrint (wsV RX0 106 RX1 yX1_neighbors wsX1_neighbors) := goodIn_app (goodIn_of _ (by decide +kernel)) ggX0_wearOfPrint_X1_neighbors
theorem dX0_wearOfPrint_0 : decode cX0_wearOfPrint 0 = .ok (.iconst 5, 1) := by decide +kernel
theorem dX0_wearOfPrint_1 : decode cX0_wearOfPrint 1 = .ok (.aload_n 0, 1) := by decide +kernel
theorem dX0_wearOfPrint_2 : decode cX0_wearOfPrint 2 = .ok (.iload_n 1, 1) := by decide +kernel
theorem dX0_wearOfPrint_3 : decode cX0_wearOfPrint 3 = .ok (.iload_n 2, 1) := by decide +kernel
theorem dX0_wearOfPrint_4 : decode cX0_wearOfPrint 4 = .ok (.invokevirtual 106, 3) := by decide +kernel
theorem dX0_wearOfPrint_7 : decode cX0_wearOfPrint 7 = .ok (.isub, 1) := by decide +kernel
theorem dX0_wearOfPrint_8 : decode cX0_wearOfPrint 8 = .ok (.ireturn, 1) := by decide +kernel
theorem dX1_init_0 : decode cX1_init 0 = .ok (.aload_n 0, 1) := by decide +kernel
theorem dX1_init_1 : decode cX1_init 1 = .ok (.invokespecial 3, 3) := by decide +kernel
theorem dX1_init_4 : decode cX1_init 4 = .ok (.aload_n 0, 1) := by decide +kernel
theorem dX1_init_5 : decode cX1_init 5 = .ok (.bipush 12, 2) := by decide +kernel
theorem dX1_init_7 : decode cX1_init 7 = .ok (.newarray .int, 2) := by decide +kernel
theorem dX1_init_9 : decode cX1_init 9 = .ok (.putfield 9, 3) := by decide +kernel
theorem dX1_init_12 : decode cX1_init 12 = .ok (.return_, 1) := by decide +kernel
theorem dX1_becomeLike_0 : decode cX1_becomeLike 0 = .ok (.aload_n 1, 1) := by decide +kernel
theorem dX1_becomeLike_1 : decode cX1_becomeLike 1 = .ok (.getfield 9, 3) := by decide +kernel
theorem dX1_becomeLike_4 : decode cX1_becomeLike 4 = .ok (.iconst 0, 1) := by decide +kernel
theorem dX1_becomeLike_5 : decode cX1_becomeLike 5 = .ok (.aload_n 0, 1) := by decide +kernel
theorem dX1_becomeLike_6 : decode cX1_becomeLike 6 = .ok (.getfield 9, 3) := by decide +kernel
theorem dX1_becomeLike_9 : decode cX1_becomeLike 9 = .ok (.iconst 0, 1) := by decide +kernel
theorem dX1_becomeLike_10 : decode cX1_becomeLike 10 = .ok (.bipush 12, 2) := by decide +kernel
theorem dX1_becomeLike_12 : decode cX1_becomeLike 12 = .ok (.invokestatic 15, 3) := by decide +kernel
theorem dX1_becomeLike_15 : decode cX1_becomeLike 15 = .ok (.return_, 1) := by decide +kernel
theorem dX1_row_0 : decode cX1_row 0 = .ok (.iload_n 1, 1) := by decide +kernel
theorem dX1_row_1 : decode cX1_row 1 = .ok (.ifCond .lt 18, 3) := by decide +kernel
theorem dX1_row_4 : decode cX1_row 4 = .ok (.iload_n 1, 1) := by decide +kernel
theorem dX1_row_5 : decode cX1_row 5 = .ok (.bipush 12, 2) := by decide +kernel
theorem dX1_row_7 : decode cX1_row 7 = .ok (.if_icmp .ge 12, 3) := by decide +kernel
theorem dX1_row_10 : decode cX1_row 10 = .ok (.aload_n 0, 1) := by decide +kernel
theorem dX1_row_11 : decode cX1_row 11 = .ok (.getfield 9, 3) := by decide +kernel
theorem dX1_row_14 : decode cX1_row 14 = .ok (.iload_n 1, 1) := by decide +kernel
theorem dX1_row_15 : decode cX1_row 15 = .ok (.iaload, 1) := by decide +kernel
theorem dX1_row_16 : decode cX1_row 16 = .ok (.goto 4, 3) := by decide +kernel
theorem dX1_row_19 : decode cX1_row 19 = .ok (.iconst 0, 1) := by decide +kernel
theorem dX1_row_20 : decode cX1_row 20 = .ok (.ireturn, 1) := by decide +kernel
theorem dX1_putRow_0 : decode cX1_putRow 0 = .ok (.iload_n 1, 1) := by decide +kernel
theorem dX1_putRow_1 : decode cX1_putRow 1 = .ok (.ifCond .lt 19, 3) := by decide +kernel
theorem dX1_putRow_4 : decode cX1_putRow 4 = .ok (.iload_n 1, 1) := by decide +kernel
theorem dX1_putRow_5 : decode cX1_putRow 5 = .ok (.bipush 12, 2) := by decide +kernel
theorem dX1_putRow_7 : decode cX1_putRow 7 = .ok (.if_icmp .ge 13, 3) := by decide +kernel
theorem dX1_putRow_10 : decode cX1_putRow 10 = .ok (.aload_n 0, 1) := by decide +kernel
theorem dX1_putRow_11 : decode cX1_putRow 11 = .ok (.getfield 9, 3) := by decide +kernel
theorem dX1_putRow_14 : decode cX1_putRow 14 = .ok (.iload_n 1, 1) := by decide +kernel
theorem dX1_putRow_15 : decode cX1_putRow 15 = .ok (.iload_n 2, 1) := by decide +kernel
theorem dX1_putRow_16 : decode cX1_putRow 16 = .ok (.ldc 21, 2) := by decide +kernel
theorem dX1_putRow_18 : decode cX1_putRow 18 = .ok (.iand, 1) := by decide +kernel
theorem dX1_putRow_19 : decode cX1_putRow 19 = .ok (.iastore, 1) := by decide +kernel
theorem dX1_putRow_20 : decode cX1_putRow 20 = .ok (.return_, 1) := by decide +kernel
set_option maxRecDepth 20000 in
theorem ggX1_has_X6_isPlace : GoodIn wsX1_has wsX6_isPlace := goodIn_r _ [4] (by decide +kernel) (by decide +kernel)
set_option maxRecDepth 20000 in
theorem gX1_has_X6_isPlace_n22 : GoodIn wsX1_has (wsX6_isPlace) := ggX1_has_X6_isPlace
theorem dX1_has_0 : decode cX1_has 0 = .ok (.iload_n 1, 1) := by decide +kernel
theorem dX1_has_1 : decode cX1_has 1 = .ok (.iload_n 2, 1) := by decide +kernel
theorem dX1_has_2 : decode cX1_has 2 = .ok (.invokestatic 22, 3) := by decide +kernel
theorem dX1_has_5 : decode cX1_has 5 = .ok (.ifCond .eq 21, 3) := by decide +kernel
theorem dX1_has_8 : decode cX1_has 8 = .ok (.aload_n 0, 1) := by decide +kernel
theorem dX1_has_9 : decode cX1_has 9 = .ok (.getfield 9, 3) := by decide +kernel
theorem dX1_has_12 : decode cX1_has 12 = .ok (.iload_n 2, 1) := by decide +kernel
theorem dX1_has_13 : decode cX1_has 13 = .ok (.iaload, 1) := by decide +kernel
theorem dX1_has_14 : decode cX1_has 14 = .ok (.iload_n 1, 1) := by decide +kernel
theorem dX1_has_15 : decode cX1_has 15 = .ok (.ishr, 1) := by decide +kernel
theorem dX1_has_16 : decode cX1_has 16 = .ok (.iconst 1, 1) := by decide +kernel
theorem dX1_has_17 : decode cX1_has 17 = .ok (.iand, 1) := by decide +kernel
theorem dX1_has_18 : decode cX1_has 18 = .ok (.iconst 1, 1) := by decide +kernel
theorem dX1_has_19 : decode cX1_has 19 = .ok (.if_icmp .ne 7, 3) := by decide +kernel
theorem dX1_has_22 : decode cX1_has 22 = .ok (.iconst 1, 1) := by decide +kernel
theorem dX1_has_23 : decode cX1_has 23 = .ok (.goto 4, 3) := by decide +kernel
theorem dX1_has_26 : decode cX1_has 26 = .ok (.iconst 0, 1) := by decide +kernel
theorem dX1_has_27 : decode cX1_has 27 = .ok (.ireturn, 1) := by decide +kernel
set_option maxRecDepth 20000 in
theorem ggX1_put_X6_isPlace : GoodIn wsX1_put wsX6_isPlace := goodIn_r _ [4] (by decide +kernel) (by decide +kernel)
set_option maxRecDepth 20000 in
theorem gX1_put_X6_isPlace_n22 : GoodIn wsX1_put (wsX6_isPlace) := ggX1_put_X6_isPlace
theorem dX1_put_0 : decode cX1_put 0 = .ok (.iload_n 1, 1) := by decide +kernel
theorem dX1_put_1 : decode cX1_put 1 = .ok (.iload_n 2, 1) := by decide +kernel
theorem dX1_put_2 : decode cX1_put 2 = .ok (.invokestatic 22, 3) := by decide +kernel
theorem dX1_put_5 : decode cX1_put 5 = .ok (.ifCond .eq 38, 3) := by decide +kernel
theorem dX1_put_8 : decode cX1_put 8 = .ok (.aload_n 0, 1) := by decide +kernel
theorem dX1_put_9 : decode cX1_put 9 = .ok (.getfield 9, 3) := by decide +kernel
theorem dX1_put_12 : decode cX1_put 12 = .ok (.iload_n 2, 1) := by decide +kernel
theorem dX1_put_13 : decode cX1_put 13 = .ok (.iload_n 3, 1) := by decide +kernel
theorem dX1_put_14 : decode cX1_put 14 = .ok (.ifCond .eq 16, 3) := by decide +kernel
theorem dX1_put_17 : decode cX1_put 17 = .ok (.aload_n 0, 1) := by decide +kernel
theorem dX1_put_18 : decode cX1_put 18 = .ok (.getfield 9, 3) := by decide +kernel
theorem dX1_put_21 : decode cX1_put 21 = .ok (.iload_n 2, 1) := by decide +kernel
theorem dX1_put_22 : decode cX1_put 22 = .ok (.iaload, 1) := by decide +kernel
theorem dX1_put_23 : decode cX1_put 23 = .ok (.iconst 1, 1) := by decide +kernel
theorem dX1_put_24 : decode cX1_put 24 = .ok (.iload_n 1, 1) := by decide +kernel
theorem dX1_put_25 : decode cX1_put 25 = .ok (.ishl, 1) := by decide +kernel
theorem dX1_put_26 : decode cX1_put 26 = .ok (.ior, 1) := by decide +kernel
theorem dX1_put_27 : decode cX1_put 27 = .ok (.goto 15, 3) := by decide +kernel
theorem dX1_put_30 : decode cX1_put 30 = .ok (.aload_n 0, 1) := by decide +kernel
theorem dX1_put_31 : decode cX1_put 31 = .ok (.getfield 9, 3) := by decide +kernel
theorem dX1_put_34 : decode cX1_put 34 = .ok (.iload_n 2, 1) := by decide +kernel
theorem dX1_put_35 : decode cX1_put 35 = .ok (.iaload, 1) := by decide +kernel
theorem dX1_put_36 : decode cX1_put 36 = .ok (.iconst 1, 1) := by decide +kernel
theorem dX1_put_37 : decode cX1_put 37 = .ok (.iload_n 1, 1) := by decide +kernel
theorem dX1_put_38 : decode cX1_put 38 = .ok (.ishl, 1) := by decide +kernel
theorem dX1_put_39 : decode cX1_put 39 = .ok (.iconst (-1), 1) := by decide +kernel
theorem dX1_put_40 : decode cX1_put 40 = .ok (.ixor, 1) := by decide +kernel
theorem dX1_put_41 : decode cX1_put 41 = .ok (.iand, 1) := by decide +kernel
theorem dX1_put_42 : decode cX1_put 42 = .ok (.iastore, 1) := by decide +kernel
theorem dX1_put_43 : decode cX1_put 43 = .ok (.return_, 1) := by decide +kernel
set_option maxRecDepth 20000 in
theorem ggX1_size_J6_bitCount_0f7a4 : GoodIn wsX1_size wsJ6_bitCount_0f7a4 := goodIn_r _ [5, 6, 7, 8] (by decide +kernel) (by decide +kernel)
set_option maxRecDepth 20000 in
theorem gX1_size_J6_bitCount_0f7a4 : GoodIn wsX1_size (va_wsS RX1 26 yJ6_bitCount_0f7a4 wsJ6_bitCount_0f7a4) := goodIn_app (goodIn_of _ (by decide +kernel)) ggX1_size_J6_bitCount_0f7a4
theorem dX1_size_0 : decode cX1_size 0 = .ok (.iconst 0, 1) := by decide +kernel
theorem dX1_size_1 : decode cX1_size 1 = .ok (.istore_n 1, 1) := by decide +kernel
theorem dX1_size_2 : decode cX1_size 2 = .ok (.iconst 0, 1) := by decide +kernel
theorem dX1_size_3 : decode cX1_size 3 = .ok (.istore_n 2, 1) := by decide +kernel
theorem dX1_size_4 : decode cX1_size 4 = .ok (.iload_n 2, 1) := by decide +kernel
theorem dX1_size_5 : decode cX1_size 5 = .ok (.bipush 12, 2) := by decide +kernel
theorem dX1_size_7 : decode cX1_size 7 = .ok (.if_icmp .ge 21, 3) := by decide +kernel
theorem dX1_size_10 : decode cX1_size 10 = .ok (.iload_n 1, 1) := by decide +kernel
theorem dX1_size_11 : decode cX1_size 11 = .ok (.aload_n 0, 1) := by decide +kernel
theorem dX1_size_12 : decode cX1_size 12 = .ok (.getfield 9, 3) := by decide +kernel
theorem dX1_size_15 : decode cX1_size 15 = .ok (.iload_n 2, 1) := by decide +kernel
theorem dX1_size_16 : decode cX1_size 16 = .ok (.iaload, 1) := by decide +kernel
theorem dX1_size_17 : decode cX1_size 17 = .ok (.invokestatic 26, 3) := by decide +kernel
theorem dX1_size_20 : decode cX1_size 20 = .ok (.iadd, 1) := by decide +kernel
theorem dX1_size_21 : decode cX1_size 21 = .ok (.istore_n 1, 1) := by decide +kernel
theorem dX1_size_22 : decode cX1_size 22 = .ok (.iinc 2 1, 3) := by decide +kernel
theorem dX1_size_25 : decode cX1_size 25 = .ok (.goto (-21), 3) := by decide +kernel
theorem dX1_size_28 : decode cX1_size 28 = .ok (.iload_n 1, 1) := by decide +kernel
theorem dX1_size_29 : decode cX1_size 29 = .ok (.ireturn, 1) := by decide +kernel
set_option maxRecDepth 20000 in
theorem ggX1_shiftedRow_X1_row : GoodIn wsX1_shiftedRow wsX1_row := goodIn_r _ [6, 7, 8] (by decide +kernel) (by decide +kernel)
set_option maxRecDepth 20000 in
theorem gX1_shiftedRow_X1_row : GoodIn wsX1_shiftedRow (wsV RX1 32 RX1 yX1_row wsX1_row) := goodIn_app (goodIn_of _ (by decide +kernel)) ggX1_shiftedRow_X1_row
theorem dX1_shiftedRow_0 : decode cX1_shiftedRow 0 = .ok (.aload_n 0, 1) := by decide +kernel
theorem dX1_shiftedRow_1 : decode cX1_shiftedRow 1 = .ok (.iload_n 1, 1) := by decide +kernel
theorem dX1_shiftedRow_2 : decode cX1_shiftedRow 2 = .ok (.iload_n 3, 1) := by decide +kernel
theorem dX1_shiftedRow_3 : decode cX1_shiftedRow 3 = .ok (.isub, 1) := by decide +kernel
theorem dX1_shiftedRow_4 : decode cX1_shiftedRow 4 = .ok (.invokevirtual 32, 3) := by decide +kernel
theorem dX1_shiftedRow_7 : decode cX1_shiftedRow 7 = .ok (.istore 4, 2) := by decide +kernel
theorem dX1_shiftedRow_9 : decode cX1_shiftedRow 9 = .ok (.iload_n 2, 1) := by decide +kernel
theorem dX1_shiftedRow_10 : decode cX1_shiftedRow 10 = .ok (.ifCond .lt 13, 3) := by decide +kernel
theorem dX1_shiftedRow_13 : decode cX1_shiftedRow 13 = .ok (.iload 4, 2) := by decide +kernel
theorem dX1_shiftedRow_15 : decode cX1_shiftedRow 15 = .ok (.iload_n 2, 1) := by decide +kernel
theorem dX1_shiftedRow_16 : decode cX1_shiftedRow 16 = .ok (.ishl, 1) := by decide +kernel
theorem dX1_shiftedRow_17 : decode cX1_shiftedRow 17 = .ok (.ldc 21, 2) := by decide +kernel
theorem dX1_shiftedRow_19 : decode cX1_shiftedRow 19 = .ok (.iand, 1) := by decide +kernel
theorem dX1_shiftedRow_20 : decode cX1_shiftedRow 20 = .ok (.goto 8, 3) := by decide +kernel
theorem dX1_shiftedRow_23 : decode cX1_shiftedRow 23 = .ok (.iload 4, 2) := by decide +kernel
theorem dX1_shiftedRow_25 : decode cX1_shiftedRow 25 = .ok (.iload_n 2, 1) := by decide +kernel
theorem dX1_shiftedRow_26 : decode cX1_shiftedRow 26 = .ok (.ineg, 1) := by decide +kernel
theorem dX1_shiftedRow_27 : decode cX1_shiftedRow 27 = .ok (.ishr, 1) := by decide +kernel
theorem dX1_shiftedRow_28 : decode cX1_shiftedRow 28 = .ok (.ireturn, 1) := by decide +kernel
set_option maxRecDepth 20000 in
theorem ggX1_growInto_X1_row : GoodIn wsX1_growInto wsX1_row := goodIn_r _ [6, 1, 7] (by decide +kernel) (by decide +kernel)
set_option maxRecDepth 20000 in
theorem gX1_growInto_X1_row : GoodIn wsX1_growInto (wsV RX1 32 RX1 yX1_row wsX1_row) := goodIn_app (goodIn_of _ (by decide +kernel)) ggX1_growInto_X1_row
theorem dX1_growInto_0 : decode cX1_growInto 0 = .ok (.iconst 0, 1) := by decide +kernel
theorem dX1_growInto_1 : decode cX1_growInto 1 = .ok (.istore_n 2, 1) := by decide +kernel
theorem dX1_growInto_2 : decode cX1_growInto 2 = .ok (.iconst 0, 1) := by decide +kernel
theorem dX1_growInto_3 : decode cX1_growInto 3 = .ok (.istore_n 3, 1) := by decide +kernel
theorem dX1_growInto_4 : decode cX1_growInto 4 = .ok (.iload_n 3, 1) := by decide +kernel
theorem dX1_growInto_5 : decode cX1_growInto 5 = .ok (.bipush 12, 2) := by decide +kernel
theorem dX1_growInto_7 : decode cX1_growInto 7 = .ok (.if_icmp .ge 58, 3) := by decide +kernel
theorem dX1_growInto_10 : decode cX1_growInto 10 = .ok (.aload_n 0, 1) := by decide +kernel
theorem dX1_growInto_11 : decode cX1_growInto 11 = .ok (.getfield 9, 3) := by decide +kernel
theorem dX1_growInto_14 : decode cX1_growInto 14 = .ok (.iload_n 3, 1) := by decide +kernel
theorem dX1_growInto_15 : decode cX1_growInto 15 = .ok (.iaload, 1) := by decide +kernel
theorem dX1_growInto_16 : decode cX1_growInto 16 = .ok (.istore 4, 2) := by decide +kernel
theorem dX1_growInto_18 : decode cX1_growInto 18 = .ok (.iload_n 2, 1) := by decide +kernel
theorem dX1_growInto_19 : decode cX1_growInto 19 = .ok (.aload_n 0, 1) := by decide +kernel
theorem dX1_growInto_20 : decode cX1_growInto 20 = .ok (.iload_n 3, 1) := by decide +kernel
theorem dX1_growInto_21 : decode cX1_growInto 21 = .ok (.iconst 1, 1) := by decide +kernel
theorem dX1_growInto_22 : decode cX1_growInto 22 = .ok (.iadd, 1) := by decide +kernel
theorem dX1_growInto_23 : decode cX1_growInto 23 = .ok (.invokevirtual 32, 3) := by decide +kernel
theorem dX1_growInto_26 : decode cX1_growInto 26 = .ok (.ior, 1) := by decide +kernel
theorem dX1_growInto_27 : decode cX1_growInto 27 = .ok (.iload 4, 2) := by decide +kernel
theorem dX1_growInto_29 : decode cX1_growInto 29 = .ok (.iconst 1, 1) := by decide +kernel
theorem dX1_growInto_30 : decode cX1_growInto 30 = .ok (.ishl, 1) := by decide +kernel
theorem dX1_growInto_31 : decode cX1_growInto 31 = .ok (.ior, 1) := by decide +kernel
theorem dX1_growInto_32 : decode cX1_growInto 32 = .ok (.iload 4, 2) := by decide +kernel
theorem dX1_growInto_34 : decode cX1_growInto 34 = .ok (.iconst 1, 1) := by decide +kernel
theorem dX1_growInto_35 : decode cX1_growInto 35 = .ok (.ishr, 1) := by decide +kernel
theorem dX1_growInto_36 : decode cX1_growInto 36 = .ok (.ior, 1) := by decide +kernel
theorem dX1_growInto_37 : decode cX1_growInto 37 = .ok (.istore 5, 2) := by decide +kernel
theorem dX1_growInto_39 : decode cX1_growInto 39 = .ok (.aload_n 0, 1) := by decide +kernel
theorem dX1_growInto_40 : decode cX1_growInto 40 = .ok (.getfield 9, 3) := by decide +kernel
theorem dX1_growInto_43 : decode cX1_growInto 43 = .ok (.iload_n 3, 1) := by decide +kernel
theorem dX1_growInto_44 : decode cX1_growInto 44 = .ok (.iload 4, 2) := by decide +kernel
theorem dX1_growInto_46 : decode cX1_growInto 46 = .ok (.iload 5, 2) := by decide +kernel
theorem dX1_growInto_48 : decode cX1_growInto 48 = .ok (.aload_n 1, 1) := by decide +kernel
theorem dX1_growInto_49 : decode cX1_growInto 49 = .ok (.iload_n 3, 1) := by decide +kernel
theorem dX1_growInto_50 : decode cX1_growInto 50 = .ok (.invokevirtual 32, 3) := by decide +kernel
theorem dX1_growInto_53 : decode cX1_growInto 53 = .ok (.iand, 1) := by decide +kernel
theorem dX1_growInto_54 : decode cX1_growInto 54 = .ok (.ior, 1) := by decide +kernel
theorem dX1_growInto_55 : decode cX1_growInto 55 = .ok (.iastore, 1) := by decide +kernel
theorem dX1_growInto_56 : decode cX1_growInto 56 = .ok (.iload 4, 2) := by decide +kernel
theorem dX1_growInto_58 : decode cX1_growInto 58 = .ok (.istore_n 2, 1) := by decide +kernel
theorem dX1_growInto_59 : decode cX1_growInto 59 = .ok (.iinc 3 1, 3) := by decide +kernel
theorem dX1_growInto_62 : decode cX1_growInto 62 = .ok (.goto (-58), 3) := by decide +kernel
theorem dX1_growInto_65 : decode cX1_growInto 65 = .ok (.return_, 1) := by decide +kernel
set_option maxRecDepth 20000 in
theorem ggX1_neighbors_X1_has : GoodIn wsX1_neighbors wsX1_has := goodIn_r _ [5, 6, 7, 8, 9, 12] (by decide +kernel) (by decide +kernel)
set_option maxRecDepth 20000 in
theorem gX1_neighbors_X1_has : GoodIn wsX1_neighbors (wsV RX1 35 RX1 yX1_has wsX1_has) := goodIn_app (goodIn_of _ (by decide +kernel)) ggX1_neighbors_X1_has
set_option maxRecDepth 20000 in
theorem ggX1_neighbors_X6_oneIf : GoodIn wsX1_neighbors wsX6_oneIf := goodIn_r _ [11] (by decide +kernel) (by decide +kernel)
set_option maxRecDepth 20000 in
theorem gX1_neighbors_X6_oneIf_n38 : GoodIn wsX1_neighbors (wsX6_oneIf) := ggX1_neighbors_X6_oneIf
theorem dX1_neighbors_0 : decode cX1_neighbors 0 = .ok (.aload_n 0, 1) := by decide +kernel
theorem dX1_neighbors_1 : decode cX1_neighbors 1 = .ok (.iload_n 1, 1) := by decide +kernel
theorem dX1_neighbors_2 : decode cX1_neighbors 2 = .ok (.iconst 1, 1) := by decide +kernel
theorem dX1_neighbors_3 : decode cX1_neighbors 3 = .ok (.isub, 1) := by decide +kernel
theorem dX1_neighbors_4 : decode cX1_neighbors 4 = .ok (.iload_n 2, 1) := by decide +kernel
theorem dX1_neighbors_5 : decode cX1_neighbors 5 = .ok (.invokevirtual 35, 3) := by decide +kernel
theorem dX1_neighbors_8 : decode cX1_neighbors 8 = .ok (.invokestatic 38, 3) := by decide +kernel
theorem dX1_neighbors_11 : decode cX1_neighbors 11 = .ok (.aload_n 0, 1) := by decide +kernel
theorem dX1_neighbors_12 : decode cX1_neighbors 12 = .ok (.iload_n 1, 1) := by decide +kernel
theorem dX1_neighbors_13 : decode cX1_neighbors 13 = .ok (.iconst 1, 1) := by decide +kernel
theorem dX1_neighbors_14 : decode cX1_neighbors 14 = .ok (.iadd, 1) := by decide +kernel
theorem dX1_neighbors_15 : decode cX1_neighbors 15 = .ok (.iload_n 2, 1) := by decide +kernel
theorem dX1_neighbors_16 : decode cX1_neighbors 16 = .ok (.invokevirtual 35, 3) := by decide +kernel
theorem dX1_neighbors_19 : decode cX1_neighbors 19 = .ok (.invokestatic 38, 3) := by decide +kernel
theorem dX1_neighbors_22 : decode cX1_neighbors 22 = .ok (.iadd, 1) := by decide +kernel
theorem dX1_neighbors_23 : decode cX1_neighbors 23 = .ok (.aload_n 0, 1) := by decide +kernel
theorem dX1_neighbors_24 : decode cX1_neighbors 24 = .ok (.iload_n 1, 1) := by decide +kernel
theorem dX1_neighbors_25 : decode cX1_neighbors 25 = .ok (.iload_n 2, 1) := by decide +kernel
theorem dX1_neighbors_26 : decode cX1_neighbors 26 = .ok (.iconst 1, 1) := by decide +kernel
theorem dX1_neighbors_27 : decode cX1_neighbors 27 = .ok (.isub, 1) := by decide +kernel
theorem dX1_neighbors_28 : decode cX1_neighbors 28 = .ok (.invokevirtual 35, 3) := by decide +kernel
theorem dX1_neighbors_31 : decode cX1_neighbors 31 = .ok (.invokestatic 38, 3) := by decide +kernel
theorem dX1_neighbors_34 : decode cX1_neighbors 34 = .ok (.iadd, 1) := by decide +kernel
theorem dX1_neighbors_35 : decode cX1_neighbors 35 = .ok (.aload_n 0, 1) := by decide +kernel
theorem dX1_neighbors_36 : decode cX1_neighbors 36 = .ok (.iload_n 1, 1) := by decide +kernel
theorem dX1_neighbors_37 : decode cX1_neighbors 37 = .ok (.iload_n 2, 1) := by decide +kernel
theorem dX1_neighbors_38 : decode cX1_neighbors 38 = .ok (.iconst 1, 1) := by decide +kernel
theorem dX1_neighbors_39 : decode cX1_neighbors 39 = .ok (.iadd, 1) := by decide +kernel
theorem dX1_neighbors_40 : decode cX1_neighbors 40 = .ok (.invokevirtual 35, 3) := by decide +kernel
theorem dX1_neighbors_43 : decode cX1_neighbors 43 = .ok (.invokestatic 38, 3) := by decide +kernel
theorem dX1_neighbors_46 : decode cX1_neighbors 46 = .ok (.iadd, 1) := by decide +kernel
theorem dX1_neighbors_47 : decode cX1_neighbors 47 = .ok (.ireturn, 1) := by decide +kernel
set_option maxRecDepth 20000 in
theorem ggX2_init_X5_init : GoodIn wsX2_init wsX5_init := goodIn_r _ [12, 13, 2, 3, 14, 15, 16, 17, 18, 19, 20, 21, 22, 23, 24, 25, 26, 27, 28, 29, 30, 31, 32, 33, 34, 35, 36, 37, 38, 39, 40, 41, 42, 43, 44, 45, 46, 47, 48, 49, 50, 51, 52, 53, 54, 55, 56, 57, 58, 72, 73, 74, 75, 76, 62, 63, 64, 65, 66, 67, 68, 69, 70, 71, 77, 78, 79, 80] (by decide +kernel) (by decide +kernel)
set_option maxRecDepth 20000 in
theorem gX2_init_X5_init : GoodIn wsX2_init (wsX5_init) := ggX2_init_X5_init
theorem dX2_init_0 : decode cX2_init 0 = .ok (.aload_n 0, 1) := by decide +kernel
theorem dX2_init_1 : decode cX2_init 1 = .ok (.invokespecial 3, 3) := by decide +kernel
theorem dX2_init_4 : decode cX2_init 4 = .ok (.aload_n 0, 1) := by decide +kernel
theorem dX2_init_5 : decode cX2_init 5 = .ok (.iconst 5, 1) := by decide +kernel
theorem dX2_init_6 : decode cX2_init 6 = .ok (.anewarray 9, 3) := by decide +kernel
theorem dX2_init_9 : decode cX2_init 9 = .ok (.putfield 11, 3) := by decide +kernel
theorem dX2_init_12 : decode cX2_init 12 = .ok (.iconst 0, 1) := by decide +kernel
theorem dX2_init_13 : decode cX2_init 13 = .ok (.istore_n 1, 1) := by decide +kernel
theorem dX2_init_14 : decode cX2_init 14 = .ok (.iload_n 1, 1) := by decide +kernel
theorem dX2_init_15 : decode cX2_init 15 = .ok (.iconst 5, 1) := by decide +kernel
theorem dX2_init_16 : decode cX2_init 16 = .ok (.if_icmp .ge 22, 3) := by decide +kernel
theorem dX2_init_19 : decode cX2_init 19 = .ok (.aload_n 0, 1) := by decide +kernel
theorem dX2_init_20 : decode cX2_init 20 = .ok (.getfield 11, 3) := by decide +kernel
theorem dX2_init_23 : decode cX2_init 23 = .ok (.iload_n 1, 1) := by decide +kernel
theorem dX2_init_24 : decode cX2_init 24 = .ok (.new 9, 3) := by decide +kernel
theorem dX2_init_27 : decode cX2_init 27 = .ok (.dup, 1) := by decide +kernel
theorem dX2_init_28 : decode cX2_init 28 = .ok (.invokespecial 17, 3) := by decide +kernel
theorem dX2_init_31 : decode cX2_init 31 = .ok (.aastore, 1) := by decide +kernel
theorem dX2_init_32 : decode cX2_init 32 = .ok (.iinc 1 1, 3) := by decide +kernel
theorem dX2_init_35 : decode cX2_init 35 = .ok (.goto (-21), 3) := by decide +kernel
theorem dX2_init_38 : decode cX2_init 38 = .ok (.aload_n 0, 1) := by decide +kernel
theorem dX2_init_39 : decode cX2_init 39 = .ok (.iconst 0, 1) := by decide +kernel
theorem dX2_init_40 : decode cX2_init 40 = .ok (.putfield 18, 3) := by decide +kernel
theorem dX2_init_43 : decode cX2_init 43 = .ok (.aload_n 0, 1) := by decide +kernel
theorem dX2_init_44 : decode cX2_init 44 = .ok (.iconst 0, 1) := by decide +kernel
theorem dX2_init_45 : decode cX2_init 45 = .ok (.putfield 22, 3) := by decide +kernel
theorem dX2_init_48 : decode cX2_init 48 = .ok (.return_, 1) := by decide +kernel
theorem dX2_size_0 : decode cX2_size 0 = .ok (.aload_n 0, 1) := by decide +kernel
theorem dX2_size_1 : decode cX2_size 1 = .ok (.getfield 18, 3) := by decide +kernel
theorem dX2_size_4 : decode cX2_size 4 = .ok (.ireturn, 1) := by decide +kernel
set_option maxRecDepth 20000 in
theorem ggX2_keep_X5_becomeLike : GoodIn wsX2_keep wsX5_becomeLike := goodIn_r _ [12, 13, 14, 15, 16, 17, 18, 19, 20, 21, 22, 23, 24, 25, 26, 27, 28, 29, 30, 31, 32, 33, 34, 35, 36, 37, 38, 39, 40, 41, 42, 43, 44, 45, 46, 47, 48, 49, 50, 51, 52, 53, 57, 58, 59, 60, 61, 62, 63, 64, 65, 66, 67, 68, 69, 70, 71, 72, 73, 74, 75] (by decide +kernel) (by decide +kernel)
set_option maxRecDepth 20000 in
theorem gX2_keep_X5_becomeLike : GoodIn wsX2_keep (wsV RX2 25 RX5 yX5_becomeLike wsX5_becomeLike) := goodIn_app (goodIn_of _ (by decide +kernel)) ggX2_keep_X5_becomeLike
theorem dX2_keep_0 : decode cX2_keep 0 = .ok (.aload_n 0, 1) := by decide +kernel
theorem dX2_keep_1 : decode cX2_keep 1 = .ok (.getfield 11, 3) := by decide +kernel
theorem dX2_keep_4 : decode cX2_keep 4 = .ok (.aload_n 0, 1) := by decide +kernel
theorem dX2_keep_5 : decode cX2_keep 5 = .ok (.getfield 22, 3) := by decide +kernel
theorem dX2_keep_8 : decode cX2_keep 8 = .ok (.aaload, 1) := by decide +kernel
theorem dX2_keep_9 : decode cX2_keep 9 = .ok (.astore_n 2, 1) := by decide +kernel
theorem dX2_keep_10 : decode cX2_keep 10 = .ok (.aload_n 2, 1) := by decide +kernel
theorem dX2_keep_11 : decode cX2_keep 11 = .ok (.ifnull 8, 3) := by decide +kernel
theorem dX2_keep_14 : decode cX2_keep 14 = .ok (.aload_n 2, 1) := by decide +kernel
theorem dX2_keep_15 : decode cX2_keep 15 = .ok (.aload_n 1, 1) := by decide +kernel
theorem dX2_keep_16 : decode cX2_keep 16 = .ok (.invokevirtual 25, 3) := by decide +kernel
theorem dX2_keep_19 : decode cX2_keep 19 = .ok (.aload_n 0, 1) := by decide +kernel
theorem dX2_keep_20 : decode cX2_keep 20 = .ok (.aload_n 0, 1) := by decide +kernel
theorem dX2_keep_21 : decode cX2_keep 21 = .ok (.getfield 22, 3) := by decide +kernel
theorem dX2_keep_24 : decode cX2_keep 24 = .ok (.iconst 1, 1) := by decide +kernel
theorem dX2_keep_25 : decode cX2_keep 25 = .ok (.iadd, 1) := by decide +kernel
theorem dX2_keep_26 : decode cX2_keep 26 = .ok (.iconst 5, 1) := by decide +kernel
theorem dX2_keep_27 : decode cX2_keep 27 = .ok (.irem, 1) := by decide +kernel
theorem dX2_keep_28 : decode cX2_keep 28 = .ok (.putfield 22, 3) := by decide +kernel
theorem dX2_keep_31 : decode cX2_keep 31 = .ok (.aload_n 0, 1) := by decide +kernel
theorem dX2_keep_32 : decode cX2_keep 32 = .ok (.aload_n 0, 1) := by decide +kernel
theorem dX2_keep_33 : decode cX2_keep 33 = .ok (.getfield 18, 3) := by decide +kernel
theorem dX2_keep_36 : decode cX2_keep 36 = .ok (.iconst 1, 1) := by decide +kernel
theorem dX2_keep_37 : decode cX2_keep 37 = .ok (.iadd, 1) := by decide +kernel
theorem dX2_keep_38 : decode cX2_keep 38 = .ok (.iconst 5, 1) := by decide +kernel
theorem dX2_keep_39 : decode cX2_keep 39 = .ok (.invokestatic 29, 3) := by decide +kernel
theorem dX2_keep_42 : decode cX2_keep 42 = .ok (.putfield 18, 3) := by decide +kernel
theorem dX2_keep_45 : decode cX2_keep 45 = .ok (.return_, 1) := by decide +kernel
set_option maxRecDepth 20000 in
theorem ggX2_giveBack_X5_becomeLike : GoodIn wsX2_giveBack wsX5_becomeLike := goodIn_r _ [12, 13, 14, 15, 16, 17, 18, 19, 20, 21, 22, 23, 24, 25, 26, 27, 28, 29, 30, 31, 32, 33, 34, 35, 36, 37, 38, 39, 40, 41, 42, 43, 44, 45, 46, 47, 48, 49, 50, 51, 52, 53, 57, 58, 59, 60, 61, 62, 63, 64, 65, 66, 67, 68, 69, 70, 71, 72, 73, 74, 75] (by decide +kernel) (by decide +kernel)
set_option maxRecDepth 20000 in
theorem gX2_giveBack_X5_becomeLike : GoodIn wsX2_giveBack (wsV RX2 25 RX5 yX5_becomeLike wsX5_becomeLike) := goodIn_app (goodIn_of _ (by decide +kernel)) ggX2_giveBack_X5_becomeLike
theorem dX2_giveBack_0 : decode cX2_giveBack 0 = .ok (.aload_n 0, 1) := by decide +kernel
theorem dX2_giveBack_1 : decode cX2_giveBack 1 = .ok (.aload_n 0, 1) := by decide +kernel
theorem dX2_giveBack_2 : decode cX2_giveBack 2 = .ok (.getfield 22, 3) := by decide +kernel
theorem dX2_giveBack_5 : decode cX2_giveBack 5 = .ok (.iconst 5, 1) := by decide +kernel
theorem dX2_giveBack_6 : decode cX2_giveBack 6 = .ok (.iadd, 1) := by decide +kernel
theorem dX2_giveBack_7 : decode cX2_giveBack 7 = .ok (.iconst 1, 1) := by decide +kernel
theorem dX2_giveBack_8 : decode cX2_giveBack 8 = .ok (.isub, 1) := by decide +kernel
theorem dX2_giveBack_9 : decode cX2_giveBack 9 = .ok (.iconst 5, 1) := by decide +kernel
theorem dX2_giveBack_10 : decode cX2_giveBack 10 = .ok (.irem, 1) := by decide +kernel
theorem dX2_giveBack_11 : decode cX2_giveBack 11 = .ok (.putfield 22, 3) := by decide +kernel
theorem dX2_giveBack_14 : decode cX2_giveBack 14 = .ok (.aload_n 0, 1) := by decide +kernel
theorem dX2_giveBack_15 : decode cX2_giveBack 15 = .ok (.aload_n 0, 1) := by decide +kernel
theorem dX2_giveBack_16 : decode cX2_giveBack 16 = .ok (.getfield 18, 3) := by decide +kernel
theorem dX2_giveBack_19 : decode cX2_giveBack 19 = .ok (.iconst 1, 1) := by decide +kernel
theorem dX2_giveBack_20 : decode cX2_giveBack 20 = .ok (.isub, 1) := by decide +kernel
theorem dX2_giveBack_21 : decode cX2_giveBack 21 = .ok (.iconst 0, 1) := by decide +kernel
theorem dX2_giveBack_22 : decode cX2_giveBack 22 = .ok (.invokestatic 35, 3) := by decide +kernel
theorem dX2_giveBack_25 : decode cX2_giveBack 25 = .ok (.putfield 18, 3) := by decide +kernel
theorem dX2_giveBack_28 : decode cX2_giveBack 28 = .ok (.aload_n 0, 1) := by decide +kernel
theorem dX2_giveBack_29 : decode cX2_giveBack 29 = .ok (.getfield 11, 3) := by decide +kernel
theorem dX2_giveBack_32 : decode cX2_giveBack 32 = .ok (.aload_n 0, 1) := by decide +kernel
theorem dX2_giveBack_33 : decode cX2_giveBack 33 = .ok (.getfield 22, 3) := by decide +kernel
theorem dX2_giveBack_36 : decode cX2_giveBack 36 = .ok (.aaload, 1) := by decide +kernel
theorem dX2_giveBack_37 : decode cX2_giveBack 37 = .ok (.astore_n 2, 1) := by decide +kernel
theorem dX2_giveBack_38 : decode cX2_giveBack 38 = .ok (.aload_n 2, 1) := by decide +kernel
theorem dX2_giveBack_39 : decode cX2_giveBack 39 = .ok (.ifnull 8, 3) := by decide +kernel
theorem dX2_giveBack_42 : decode cX2_giveBack 42 = .ok (.aload_n 1, 1) := by decide +kernel
theorem dX2_giveBack_43 : decode cX2_giveBack 43 = .ok (.aload_n 2, 1) := by decide +kernel
theorem dX2_giveBack_44 : decode cX2_giveBack 44 = .ok (.invokevirtual 25, 3) := by decide +kernel
theorem dX2_giveBack_47 : decode cX2_giveBack 47 = .ok (.return_, 1) := by decide +kernel
theorem dX3_init_0 : decode cX3_init 0 = .ok (.aload_n 0, 1) := by decide +kernel
theorem dX3_init_1 : decode cX3_init 1 = .ok (.invokespecial 3, 3) := by decide +kernel
theorem dX3_init_4 : decode cX3_init 4 = .ok (.aload_n 0, 1) := by decide +kernel
theorem dX3_init_5 : decode cX3_init 5 = .ok (.bipush 72, 2) := by decide +kernel
theorem dX3_init_7 : decode cX3_init 7 = .ok (.newarray .int, 2) := by decide +kernel
theorem dX3_init_9 : decode cX3_init 9 = .ok (.putfield 9, 3) := by decide +kernel
theorem dX3_init_12 : decode cX3_init 12 = .ok (.aload_n 0, 1) := by decide +kernel
theorem dX3_init_13 : decode cX3_init 13 = .ok (.iconst 0, 1) := by decide +kernel
theorem dX3_init_14 : decode cX3_init 14 = .ok (.putfield 15, 3) := by decide +kernel
theorem dX3_init_17 : decode cX3_init 17 = .ok (.aload_n 0, 1) := by decide +kernel
theorem dX3_init_18 : decode cX3_init 18 = .ok (.iconst 0, 1) := by decide +kernel
theorem dX3_init_19 : decode cX3_init 19 = .ok (.putfield 19, 3) := by decide +kernel
theorem dX3_init_22 : decode cX3_init 22 = .ok (.return_, 1) := by decide +kernel
theorem dX3_becomeLike_0 : decode cX3_becomeLike 0 = .ok (.aload_n 1, 1) := by decide +kernel
theorem dX3_becomeLike_1 : decode cX3_becomeLike 1 = .ok (.getfield 9, 3) := by decide +kernel
theorem dX3_becomeLike_4 : decode cX3_becomeLike 4 = .ok (.iconst 0, 1) := by decide +kernel
theorem dX3_becomeLike_5 : decode cX3_becomeLike 5 = .ok (.aload_n 0, 1) := by decide +kernel
theorem dX3_becomeLike_6 : decode cX3_becomeLike 6 = .ok (.getfield 9, 3) := by decide +kernel
theorem dX3_becomeLike_9 : decode cX3_becomeLike 9 = .ok (.iconst 0, 1) := by decide +kernel
theorem dX3_becomeLike_10 : decode cX3_becomeLike 10 = .ok (.bipush 72, 2) := by decide +kernel
theorem dX3_becomeLike_12 : decode cX3_becomeLike 12 = .ok (.invokestatic 22, 3) := by decide +kernel
theorem dX3_becomeLike_15 : decode cX3_becomeLike 15 = .ok (.aload_n 0, 1) := by decide +kernel
theorem dX3_becomeLike_16 : decode cX3_becomeLike 16 = .ok (.aload_n 1, 1) := by decide +kernel
theorem dX3_becomeLike_17 : decode cX3_becomeLike 17 = .ok (.getfield 15, 3) := by decide +kernel
theorem dX3_becomeLike_20 : decode cX3_becomeLike 20 = .ok (.putfield 15, 3) := by decide +kernel
theorem dX3_becomeLike_23 : decode cX3_becomeLike 23 = .ok (.aload_n 0, 1) := by decide +kernel
theorem dX3_becomeLike_24 : decode cX3_becomeLike 24 = .ok (.aload_n 1, 1) := by decide +kernel
theorem dX3_becomeLike_25 : decode cX3_becomeLike 25 = .ok (.getfield 19, 3) := by decide +kernel
theorem dX3_becomeLike_28 : decode cX3_becomeLike 28 = .ok (.putfield 19, 3) := by decide +kernel
theorem dX3_becomeLike_31 : decode cX3_becomeLike 31 = .ok (.return_, 1) := by decide +kernel
theorem dX3_size_0 : decode cX3_size 0 = .ok (.aload_n 0, 1) := by decide +kernel
theorem dX3_size_1 : decode cX3_size 1 = .ok (.getfield 15, 3) := by decide +kernel
theorem dX3_size_4 : decode cX3_size 4 = .ok (.ireturn, 1) := by decide +kernel
theorem dX3_addProof_0 : decode cX3_addProof 0 = .ok (.aload_n 0, 1) := by decide +kernel
theorem dX3_addProof_1 : decode cX3_addProof 1 = .ok (.aload_n 0, 1) := by decide +kernel
theorem dX3_addProof_2 : decode cX3_addProof 2 = .ok (.getfield 19, 3) := by decide +kernel
theorem dX3_addProof_5 : decode cX3_addProof 5 = .ok (.iconst 1, 1) := by decide +kernel
theorem dX3_addProof_6 : decode cX3_addProof 6 = .ok (.iadd, 1) := by decide +kernel
theorem dX3_addProof_7 : decode cX3_addProof 7 = .ok (.bipush 12, 2) := by decide +kernel
theorem dX3_addProof_9 : decode cX3_addProof 9 = .ok (.irem, 1) := by decide +kernel
theorem dX3_addProof_10 : decode cX3_addProof 10 = .ok (.putfield 19, 3) := by decide +kernel
theorem dX3_addProof_13 : decode cX3_addProof 13 = .ok (.aload_n 0, 1) := by decide +kernel
theorem dX3_addProof_14 : decode cX3_addProof 14 = .ok (.aload_n 0, 1) := by decide +kernel
theorem dX3_addProof_15 : decode cX3_addProof 15 = .ok (.getfield 15, 3) := by decide +kernel
theorem dX3_addProof_18 : decode cX3_addProof 18 = .ok (.iconst 1, 1) := by decide +kernel
theorem dX3_addProof_19 : decode cX3_addProof 19 = .ok (.iadd, 1) := by decide +kernel
theorem dX3_addProof_20 : decode cX3_addProof 20 = .ok (.bipush 12, 2) := by decide +kernel
theorem dX3_addProof_22 : decode cX3_addProof 22 = .ok (.invokestatic 28, 3) := by decide +kernel
theorem dX3_addProof_25 : decode cX3_addProof 25 = .ok (.putfield 15, 3) := by decide +kernel
theorem dX3_addProof_28 : decode cX3_addProof 28 = .ok (.aload_n 0, 1) := by decide +kernel
theorem dX3_addProof_29 : decode cX3_addProof 29 = .ok (.getfield 9, 3) := by decide +kernel
theorem dX3_addProof_32 : decode cX3_addProof 32 = .ok (.aload_n 0, 1) := by decide +kernel
theorem dX3_addProof_33 : decode cX3_addProof 33 = .ok (.getfield 19, 3) := by decide +kernel
theorem dX3_addProof_36 : decode cX3_addProof 36 = .ok (.bipush 6, 2) := by decide +kernel
theorem dX3_addProof_38 : decode cX3_addProof 38 = .ok (.imul, 1) := by decide +kernel
theorem dX3_addProof_39 : decode cX3_addProof 39 = .ok (.iload_n 1, 1) := by decide +kernel
theorem dX3_addProof_40 : decode cX3_addProof 40 = .ok (.iastore, 1) := by decide +kernel
theorem dX3_addProof_41 : decode cX3_addProof 41 = .ok (.aload_n 0, 1) := by decide +kernel
theorem dX3_addProof_42 : decode cX3_addProof 42 = .ok (.getfield 9, 3) := by decide +kernel
theorem dX3_addProof_45 : decode cX3_addProof 45 = .ok (.aload_n 0, 1) := by decide +kernel
theorem dX3_addProof_46 : decode cX3_addProof 46 = .ok (.getfield 19, 3) := by decide +kernel
theorem dX3_addProof_49 : decode cX3_addProof 49 = .ok (.bipush 6, 2) := by decide +kernel
theorem dX3_addProof_51 : decode cX3_addProof 51 = .ok (.imul, 1) := by decide +kernel
theorem dX3_addProof_52 : decode cX3_addProof 52 = .ok (.iconst 1, 1) := by decide +kernel
theorem dX3_addProof_53 : decode cX3_addProof 53 = .ok (.iadd, 1) := by decide +kernel
theorem dX3_addProof_54 : decode cX3_addProof 54 = .ok (.iload_n 2, 1) := by decide +kernel
theorem dX3_addProof_55 : decode cX3_addProof 55 = .ok (.bipush 8, 2) := by decide +kernel
theorem dX3_addProof_57 : decode cX3_addProof 57 = .ok (.iadd, 1) := by decide +kernel
theorem dX3_addProof_58 : decode cX3_addProof 58 = .ok (.iastore, 1) := by decide +kernel
theorem dX3_addProof_59 : decode cX3_addProof 59 = .ok (.aload_n 0, 1) := by decide +kernel
theorem dX3_addProof_60 : decode cX3_addProof 60 = .ok (.getfield 9, 3) := by decide +kernel
theorem dX3_addProof_63 : decode cX3_addProof 63 = .ok (.aload_n 0, 1) := by decide +kernel
theorem dX3_addProof_64 : decode cX3_addProof 64 = .ok (.getfield 19, 3) := by decide +kernel
theorem dX3_addProof_67 : decode cX3_addProof 67 = .ok (.bipush 6, 2) := by decide +kernel
theorem dX3_addProof_69 : decode cX3_addProof 69 = .ok (.imul, 1) := by decide +kernel
theorem dX3_addProof_70 : decode cX3_addProof 70 = .ok (.iconst 2, 1) := by decide +kernel
theorem dX3_addProof_71 : decode cX3_addProof 71 = .ok (.iadd, 1) := by decide +kernel
theorem dX3_addProof_72 : decode cX3_addProof 72 = .ok (.iload_n 3, 1) := by decide +kernel
theorem dX3_addProof_73 : decode cX3_addProof 73 = .ok (.bipush 8, 2) := by decide +kernel
theorem dX3_addProof_75 : decode cX3_addProof 75 = .ok (.iadd, 1) := by decide +kernel
theorem dX3_addProof_76 : decode cX3_addProof 76 = .ok (.iastore, 1) := by decide +kernel
theorem dX3_addProof_77 : decode cX3_addProof 77 = .ok (.return_, 1) := by decide +kernel
theorem dX3_addFaults_0 : decode cX3_addFaults 0 = .ok (.aload_n 0, 1) := by decide +kernel
theorem dX3_addFaults_1 : decode cX3_addFaults 1 = .ok (.getfield 9, 3) := by decide +kernel
theorem dX3_addFaults_4 : decode cX3_addFaults 4 = .ok (.aload_n 0, 1) := by decide +kernel
theorem dX3_addFaults_5 : decode cX3_addFaults 5 = .ok (.getfield 19, 3) := by decide +kernel
theorem dX3_addFaults_8 : decode cX3_addFaults 8 = .ok (.bipush 6, 2) := by decide +kernel
theorem dX3_addFaults_10 : decode cX3_addFaults 10 = .ok (.imul, 1) := by decide +kernel
theorem dX3_addFaults_11 : decode cX3_addFaults 11 = .ok (.iconst 3, 1) := by decide +kernel
theorem dX3_addFaults_12 : decode cX3_addFaults 12 = .ok (.iadd, 1) := by decide +kernel
theorem dX3_addFaults_13 : decode cX3_addFaults 13 = .ok (.iload_n 1, 1) := by decide +kernel
theorem dX3_addFaults_14 : decode cX3_addFaults 14 = .ok (.iastore, 1) := by decide +kernel
theorem dX3_addFaults_15 : decode cX3_addFaults 15 = .ok (.aload_n 0, 1) := by decide +kernel
theorem dX3_addFaults_16 : decode cX3_addFaults 16 = .ok (.getfield 9, 3) := by decide +kernel
theorem dX3_addFaults_19 : decode cX3_addFaults 19 = .ok (.aload_n 0, 1) := by decide +kernel
theorem dX3_addFaults_20 : decode cX3_addFaults 20 = .ok (.getfield 19, 3) := by decide +kernel
theorem dX3_addFaults_23 : decode cX3_addFaults 23 = .ok (.bipush 6, 2) := by decide +kernel
theorem dX3_addFaults_25 : decode cX3_addFaults 25 = .ok (.imul, 1) := by decide +kernel
theorem dX3_addFaults_26 : decode cX3_addFaults 26 = .ok (.iconst 4, 1) := by decide +kernel
theorem dX3_addFaults_27 : decode cX3_addFaults 27 = .ok (.iadd, 1) := by decide +kernel
theorem dX3_addFaults_28 : decode cX3_addFaults 28 = .ok (.iload_n 2, 1) := by decide +kernel
theorem dX3_addFaults_29 : decode cX3_addFaults 29 = .ok (.iastore, 1) := by decide +kernel
theorem dX3_addFaults_30 : decode cX3_addFaults 30 = .ok (.aload_n 0, 1) := by decide +kernel
theorem dX3_addFaults_31 : decode cX3_addFaults 31 = .ok (.getfield 9, 3) := by decide +kernel
theorem dX3_addFaults_34 : decode cX3_addFaults 34 = .ok (.aload_n 0, 1) := by decide +kernel
theorem dX3_addFaults_35 : decode cX3_addFaults 35 = .ok (.getfield 19, 3) := by decide +kernel
theorem dX3_addFaults_38 : decode cX3_addFaults 38 = .ok (.bipush 6, 2) := by decide +kernel
theorem dX3_addFaults_40 : decode cX3_addFaults 40 = .ok (.imul, 1) := by decide +kernel
theorem dX3_addFaults_41 : decode cX3_addFaults 41 = .ok (.iconst 5, 1) := by decide +kernel
theorem dX3_addFaults_42 : decode cX3_addFaults 42 = .ok (.iadd, 1) := by decide +kernel
theorem dX3_addFaults_43 : decode cX3_addFaults 43 = .ok (.iload_n 3, 1) := by decide +kernel
theorem dX3_addFaults_44 : decode cX3_addFaults 44 = .ok (.iastore, 1) := by decide +kernel
theorem dX3_addFaults_45 : decode cX3_addFaults 45 = .ok (.return_, 1) := by decide +kernel
set_option maxRecDepth 20000 in
theorem ggX3_partOf_X6_isWithin : GoodIn wsX3_partOf wsX6_isWithin := goodIn_r _ [5] (by decide +kernel) (by decide +kernel)
set_option maxRecDepth 20000 in
theorem gX3_partOf_X6_isWithin_n34 : GoodIn wsX3_partOf (wsX6_isWithin) := ggX3_partOf_X6_isWithin
theorem dX3_partOf_0 : decode cX3_partOf 0 = .ok (.iload_n 1, 1) := by decide +kernel
theorem dX3_partOf_1 : decode cX3_partOf 1 = .ok (.iconst 0, 1) := by decide +kernel
theorem dX3_partOf_2 : decode cX3_partOf 2 = .ok (.bipush 11, 2) := by decide +kernel
theorem dX3_partOf_4 : decode cX3_partOf 4 = .ok (.invokestatic 34, 3) := by decide +kernel
theorem dX3_partOf_7 : decode cX3_partOf 7 = .ok (.ifCond .eq 12, 3) := by decide +kernel
theorem dX3_partOf_10 : decode cX3_partOf 10 = .ok (.iload_n 2, 1) := by decide +kernel
theorem dX3_partOf_11 : decode cX3_partOf 11 = .ok (.iconst 0, 1) := by decide +kernel
theorem dX3_partOf_12 : decode cX3_partOf 12 = .ok (.iconst 5, 1) := by decide +kernel
theorem dX3_partOf_13 : decode cX3_partOf 13 = .ok (.invokestatic 34, 3) := by decide +kernel
theorem dX3_partOf_16 : decode cX3_partOf 16 = .ok (.ifCond .ne 5, 3) := by decide +kernel
theorem dX3_partOf_19 : decode cX3_partOf 19 = .ok (.iconst 0, 1) := by decide +kernel
theorem dX3_partOf_20 : decode cX3_partOf 20 = .ok (.ireturn, 1) := by decide +kernel
theorem dX3_partOf_21 : decode cX3_partOf 21 = .ok (.aload_n 0, 1) := by decide +kernel
theorem dX3_partOf_22 : decode cX3_partOf 22 = .ok (.getfield 19, 3) := by decide +kernel
theorem dX3_partOf_25 : decode cX3_partOf 25 = .ok (.bipush 12, 2) := by decide +kernel
theorem dX3_partOf_27 : decode cX3_partOf 27 = .ok (.iadd, 1) := by decide +kernel
theorem dX3_partOf_28 : decode cX3_partOf 28 = .ok (.iload_n 1, 1) := by decide +kernel
theorem dX3_partOf_29 : decode cX3_partOf 29 = .ok (.isub, 1) := by decide +kernel
theorem dX3_partOf_30 : decode cX3_partOf 30 = .ok (.bipush 12, 2) := by decide +kernel
theorem dX3_partOf_32 : decode cX3_partOf 32 = .ok (.irem, 1) := by decide +kernel
theorem dX3_partOf_33 : decode cX3_partOf 33 = .ok (.istore_n 3, 1) := by decide +kernel
theorem dX3_partOf_34 : decode cX3_partOf 34 = .ok (.aload_n 0, 1) := by decide +kernel
theorem dX3_partOf_35 : decode cX3_partOf 35 = .ok (.getfield 9, 3) := by decide +kernel
theorem dX3_partOf_38 : decode cX3_partOf 38 = .ok (.iload_n 3, 1) := by decide +kernel
theorem dX3_partOf_39 : decode cX3_partOf 39 = .ok (.bipush 6, 2) := by decide +kernel
theorem dX3_partOf_41 : decode cX3_partOf 41 = .ok (.imul, 1) := by decide +kernel
theorem dX3_partOf_42 : decode cX3_partOf 42 = .ok (.iload_n 2, 1) := by decide +kernel
theorem dX3_partOf_43 : decode cX3_partOf 43 = .ok (.iadd, 1) := by decide +kernel
theorem dX3_partOf_44 : decode cX3_partOf 44 = .ok (.iaload, 1) := by decide +kernel
theorem dX3_partOf_45 : decode cX3_partOf 45 = .ok (.ireturn, 1) := by decide +kernel
end
section
set_option maxRecDepth 20000 in
theorem ggX4_init_X1_init : GoodIn wsX4_init wsX1_init := goodIn_r _ [16, 17, 2, 3, 4, 18, 25] (by decide +kernel) (by decide +kernel)
set_option maxRecDepth 20000 in
theorem gX4_init_X1_init : GoodIn wsX4_init (wsX1_init) := ggX4_init_X1_init
theorem dX4_init_0 : decode cX4_init 0 = .ok (.aload_n 0, 1) := by decide +kernel
theorem dX4_init_1 : decode cX4_init 1 = .ok (.invokespecial 3, 3) := by decide +kernel
theorem dX4_init_4 : decode cX4_init 4 = .ok (.aload_n 0, 1) := by decide +kernel
theorem dX4_init_5 : decode cX4_init 5 = .ok (.sipush 140, 3) := by decide +kernel
theorem dX4_init_8 : decode cX4_init 8 = .ok (.newarray .int, 2) := by decide +kernel
theorem dX4_init_10 : decode cX4_init 10 = .ok (.putfield 9, 3) := by decide +kernel
theorem dX4_init_13 : decode cX4_init 13 = .ok (.aload_n 0, 1) := by decide +kernel
theorem dX4_init_14 : decode cX4_init 14 = .ok (.iconst 0, 1) := by decide +kernel
theorem dX4_init_15 : decode cX4_init 15 = .ok (.putfield 15, 3) := by decide +kernel
theorem dX4_init_18 : decode cX4_init 18 = .ok (.aload_n 0, 1) := by decide +kernel
theorem dX4_init_19 : decode cX4_init 19 = .ok (.iconst 0, 1) := by decide +kernel
theorem dX4_init_20 : decode cX4_init 20 = .ok (.putfield 19, 3) := by decide +kernel
theorem dX4_init_23 : decode cX4_init 23 = .ok (.aload_n 0, 1) := by decide +kernel
theorem dX4_init_24 : decode cX4_init 24 = .ok (.iconst (-1), 1) := by decide +kernel
theorem dX4_init_25 : decode cX4_init 25 = .ok (.putfield 22, 3) := by decide +kernel
theorem dX4_init_28 : decode cX4_init 28 = .ok (.aload_n 0, 1) := by decide +kernel
theorem dX4_init_29 : decode cX4_init 29 = .ok (.new 25, 3) := by decide +kernel
theorem dX4_init_32 : decode cX4_init 32 = .ok (.dup, 1) := by decide +kernel
theorem dX4_init_33 : decode cX4_init 33 = .ok (.invokespecial 27, 3) := by decide +kernel
theorem dX4_init_36 : decode cX4_init 36 = .ok (.putfield 28, 3) := by decide +kernel
theorem dX4_init_39 : decode cX4_init 39 = .ok (.aload_n 0, 1) := by decide +kernel
theorem dX4_init_40 : decode cX4_init 40 = .ok (.new 25, 3) := by decide +kernel
theorem dX4_init_43 : decode cX4_init 43 = .ok (.dup, 1) := by decide +kernel
theorem dX4_init_44 : decode cX4_init 44 = .ok (.invokespecial 27, 3) := by decide +kernel
theorem dX4_init_47 : decode cX4_init 47 = .ok (.putfield 32, 3) := by decide +kernel
theorem dX4_init_50 : decode cX4_init 50 = .ok (.return_, 1) := by decide +kernel
theorem dX4_length_0 : decode cX4_length 0 = .ok (.aload_n 0, 1) := by decide +kernel
theorem dX4_length_1 : decode cX4_length 1 = .ok (.getfield 15, 3) := by decide +kernel
theorem dX4_length_4 : decode cX4_length 4 = .ok (.ireturn, 1) := by decide +kernel
theorem dX4_addCharacter_0 : decode cX4_addCharacter 0 = .ok (.aload_n 0, 1) := by decide +kernel
theorem dX4_addCharacter_1 : decode cX4_addCharacter 1 = .ok (.getfield 15, 3) := by decide +kernel
theorem dX4_addCharacter_4 : decode cX4_addCharacter 4 = .ok (.sipush 140, 3) := by decide +kernel
theorem dX4_addCharacter_7 : decode cX4_addCharacter 7 = .ok (.if_icmp .ge 23, 3) := by decide +kernel
theorem dX4_addCharacter_10 : decode cX4_addCharacter 10 = .ok (.aload_n 0, 1) := by decide +kernel
theorem dX4_addCharacter_11 : decode cX4_addCharacter 11 = .ok (.getfield 9, 3) := by decide +kernel
theorem dX4_addCharacter_14 : decode cX4_addCharacter 14 = .ok (.aload_n 0, 1) := by decide +kernel
theorem dX4_addCharacter_15 : decode cX4_addCharacter 15 = .ok (.getfield 15, 3) := by decide +kernel
theorem dX4_addCharacter_18 : decode cX4_addCharacter 18 = .ok (.iload_n 1, 1) := by decide +kernel
theorem dX4_addCharacter_19 : decode cX4_addCharacter 19 = .ok (.iastore, 1) := by decide +kernel
theorem dX4_addCharacter_20 : decode cX4_addCharacter 20 = .ok (.aload_n 0, 1) := by decide +kernel
theorem dX4_addCharacter_21 : decode cX4_addCharacter 21 = .ok (.dup, 1) := by decide +kernel
theorem dX4_addCharacter_22 : decode cX4_addCharacter 22 = .ok (.getfield 15, 3) := by decide +kernel
theorem dX4_addCharacter_25 : decode cX4_addCharacter 25 = .ok (.iconst 1, 1) := by decide +kernel
theorem dX4_addCharacter_26 : decode cX4_addCharacter 26 = .ok (.iadd, 1) := by decide +kernel
theorem dX4_addCharacter_27 : decode cX4_addCharacter 27 = .ok (.putfield 15, 3) := by decide +kernel
theorem dX4_addCharacter_30 : decode cX4_addCharacter 30 = .ok (.return_, 1) := by decide +kernel
theorem dX4_forgetText_0 : decode cX4_forgetText 0 = .ok (.aload_n 0, 1) := by decide +kernel
theorem dX4_forgetText_1 : decode cX4_forgetText 1 = .ok (.iconst 0, 1) := by decide +kernel
theorem dX4_forgetText_2 : decode cX4_forgetText 2 = .ok (.putfield 15, 3) := by decide +kernel
theorem dX4_forgetText_5 : decode cX4_forgetText 5 = .ok (.return_, 1) := by decide +kernel
set_option maxRecDepth 20000 in
theorem ggX4_handPictureTo_X1_becomeLike : GoodIn wsX4_handPictureTo wsX1_becomeLike := goodIn_r _ [9, 10, 11, 12, 13, 14, 26] (by decide +kernel) (by decide +kernel)
set_option maxRecDepth 20000 in
theorem gX4_handPictureTo_X1_becomeLike : GoodIn wsX4_handPictureTo (wsV RX4 38 RX1 yX1_becomeLike wsX1_becomeLike) := goodIn_app (goodIn_of _ (by decide +kernel)) ggX4_handPictureTo_X1_becomeLike
theorem dX4_handPictureTo_0 : decode cX4_handPictureTo 0 = .ok (.aload_n 1, 1) := by decide +kernel
theorem dX4_handPictureTo_1 : decode cX4_handPictureTo 1 = .ok (.getfield 35, 3) := by decide +kernel
theorem dX4_handPictureTo_4 : decode cX4_handPictureTo 4 = .ok (.aload_n 0, 1) := by decide +kernel
theorem dX4_handPictureTo_5 : decode cX4_handPictureTo 5 = .ok (.getfield 28, 3) := by decide +kernel
theorem dX4_handPictureTo_8 : decode cX4_handPictureTo 8 = .ok (.invokevirtual 38, 3) := by decide +kernel
theorem dX4_handPictureTo_11 : decode cX4_handPictureTo 11 = .ok (.aload_n 1, 1) := by decide +kernel
theorem dX4_handPictureTo_12 : decode cX4_handPictureTo 12 = .ok (.getfield 42, 3) := by decide +kernel
theorem dX4_handPictureTo_15 : decode cX4_handPictureTo 15 = .ok (.aload_n 0, 1) := by decide +kernel
theorem dX4_handPictureTo_16 : decode cX4_handPictureTo 16 = .ok (.getfield 32, 3) := by decide +kernel
theorem dX4_handPictureTo_19 : decode cX4_handPictureTo 19 = .ok (.invokevirtual 38, 3) := by decide +kernel
theorem dX4_handPictureTo_22 : decode cX4_handPictureTo 22 = .ok (.return_, 1) := by decide +kernel
set_option maxRecDepth 20000 in
theorem ggX4_readText_X1_becomeLike : GoodIn wsX4_readText wsX1_becomeLike := goodIn_r _ [12, 13, 14, 15, 16, 17, 74] (by decide +kernel) (by decide +kernel)
set_option maxRecDepth 20000 in
theorem gX4_readText_X1_becomeLike : GoodIn wsX4_readText (wsV RX4 38 RX1 yX1_becomeLike wsX1_becomeLike) := goodIn_app (goodIn_of _ (by decide +kernel)) ggX4_readText_X1_becomeLike
set_option maxRecDepth 20000 in
theorem ggX4_readText_X4_skipSpaces : GoodIn wsX4_readText wsX4_skipSpaces := goodIn_r _ [22, 5, 7, 23, 24, 25, 21, 26, 27, 63, 64, 65, 66, 67, 68] (by decide +kernel) (by decide +kernel)
set_option maxRecDepth 20000 in
theorem gX4_readText_X4_skipSpaces : GoodIn wsX4_readText (wsV RX4 43 RX4 yX4_skipSpaces wsX4_skipSpaces) := goodIn_app (goodIn_of _ (by decide +kernel)) ggX4_readText_X4_skipSpaces
set_option maxRecDepth 20000 in
theorem ggX4_readText_X4_readItem : GoodIn wsX4_readText wsX4_readItem := goodIn_r _ [31, 5, 32, 33, 34, 21, 35, 7, 36, 37, 38, 39, 23, 24, 25, 26, 27, 40, 41, 42, 43, 44, 45, 46, 47, 48, 49, 6, 18, 19, 20, 22, 50, 51, 52, 53, 1, 3, 54, 55, 56, 11, 57, 13, 58, 59, 60, 61, 62, 63, 64, 65, 66, 67, 68, 74] (by decide +kernel) (by decide +kernel)
set_option maxRecDepth 20000 in
theorem gX4_readText_X4_readItem : GoodIn wsX4_readText (wsV RX4 46 RX4 yX4_readItem wsX4_readItem) := goodIn_app (goodIn_of _ (by decide +kernel)) ggX4_readText_X4_readItem
theorem dX4_readText_0 : decode cX4_readText 0 = .ok (.aload_n 0, 1) := by decide +kernel
theorem dX4_readText_1 : decode cX4_readText 1 = .ok (.getfield 28, 3) := by decide +kernel
theorem dX4_readText_4 : decode cX4_readText 4 = .ok (.aload_n 1, 1) := by decide +kernel
theorem dX4_readText_5 : decode cX4_readText 5 = .ok (.getfield 35, 3) := by decide +kernel
theorem dX4_readText_8 : decode cX4_readText 8 = .ok (.invokevirtual 38, 3) := by decide +kernel
theorem dX4_readText_11 : decode cX4_readText 11 = .ok (.aload_n 0, 1) := by decide +kernel
theorem dX4_readText_12 : decode cX4_readText 12 = .ok (.getfield 32, 3) := by decide +kernel
theorem dX4_readText_15 : decode cX4_readText 15 = .ok (.aload_n 1, 1) := by decide +kernel
theorem dX4_readText_16 : decode cX4_readText 16 = .ok (.getfield 42, 3) := by decide +kernel
theorem dX4_readText_19 : decode cX4_readText 19 = .ok (.invokevirtual 38, 3) := by decide +kernel
theorem dX4_readText_22 : decode cX4_readText 22 = .ok (.aload_n 0, 1) := by decide +kernel
theorem dX4_readText_23 : decode cX4_readText 23 = .ok (.iconst 0, 1) := by decide +kernel
theorem dX4_readText_24 : decode cX4_readText 24 = .ok (.putfield 19, 3) := by decide +kernel
theorem dX4_readText_27 : decode cX4_readText 27 = .ok (.aload_n 0, 1) := by decide +kernel
theorem dX4_readText_28 : decode cX4_readText 28 = .ok (.iconst (-1), 1) := by decide +kernel
theorem dX4_readText_29 : decode cX4_readText 29 = .ok (.putfield 22, 3) := by decide +kernel
theorem dX4_readText_32 : decode cX4_readText 32 = .ok (.iconst 0, 1) := by decide +kernel
theorem dX4_readText_33 : decode cX4_readText 33 = .ok (.istore_n 2, 1) := by decide +kernel
theorem dX4_readText_34 : decode cX4_readText 34 = .ok (.iload_n 2, 1) := by decide +kernel
theorem dX4_readText_35 : decode cX4_readText 35 = .ok (.sipush 140, 3) := by decide +kernel
theorem dX4_readText_38 : decode cX4_readText 38 = .ok (.if_icmp .gt 46, 3) := by decide +kernel
theorem dX4_readText_41 : decode cX4_readText 41 = .ok (.aload_n 0, 1) := by decide +kernel
theorem dX4_readText_42 : decode cX4_readText 42 = .ok (.invokevirtual 43, 3) := by decide +kernel
theorem dX4_readText_45 : decode cX4_readText 45 = .ok (.aload_n 0, 1) := by decide +kernel
theorem dX4_readText_46 : decode cX4_readText 46 = .ok (.getfield 19, 3) := by decide +kernel
theorem dX4_readText_49 : decode cX4_readText 49 = .ok (.aload_n 0, 1) := by decide +kernel
theorem dX4_readText_50 : decode cX4_readText 50 = .ok (.getfield 15, 3) := by decide +kernel
theorem dX4_readText_53 : decode cX4_readText 53 = .ok (.if_icmp .lt 5, 3) := by decide +kernel
theorem dX4_readText_56 : decode cX4_readText 56 = .ok (.iload_n 2, 1) := by decide +kernel
theorem dX4_readText_57 : decode cX4_readText 57 = .ok (.ireturn, 1) := by decide +kernel
theorem dX4_readText_58 : decode cX4_readText 58 = .ok (.aload_n 0, 1) := by decide +kernel
theorem dX4_readText_59 : decode cX4_readText 59 = .ok (.invokevirtual 46, 3) := by decide +kernel
theorem dX4_readText_62 : decode cX4_readText 62 = .ok (.aload_n 0, 1) := by decide +kernel
theorem dX4_readText_63 : decode cX4_readText 63 = .ok (.getfield 22, 3) := by decide +kernel
theorem dX4_readText_66 : decode cX4_readText 66 = .ok (.ifCond .lt 12, 3) := by decide +kernel
theorem dX4_readText_69 : decode cX4_readText 69 = .ok (.sipush (-2000), 3) := by decide +kernel
theorem dX4_readText_72 : decode cX4_readText 72 = .ok (.aload_n 0, 1) := by decide +kernel
theorem dX4_readText_73 : decode cX4_readText 73 = .ok (.getfield 22, 3) := by decide +kernel
theorem dX4_readText_76 : decode cX4_readText 76 = .ok (.isub, 1) := by decide +kernel
theorem dX4_readText_77 : decode cX4_readText 77 = .ok (.ireturn, 1) := by decide +kernel
theorem dX4_readText_78 : decode cX4_readText 78 = .ok (.iinc 2 1, 3) := by decide +kernel
theorem dX4_readText_81 : decode cX4_readText 81 = .ok (.goto (-47), 3) := by decide +kernel
theorem dX4_readText_84 : decode cX4_readText 84 = .ok (.sipush (-2000), 3) := by decide +kernel
theorem dX4_readText_87 : decode cX4_readText 87 = .ok (.aload_n 0, 1) := by decide +kernel
theorem dX4_readText_88 : decode cX4_readText 88 = .ok (.getfield 15, 3) := by decide +kernel
theorem dX4_readText_91 : decode cX4_readText 91 = .ok (.isub, 1) := by decide +kernel
theorem dX4_readText_92 : decode cX4_readText 92 = .ok (.ireturn, 1) := by decide +kernel
set_option maxRecDepth 20000 in
theorem ggX4_readItem_X4_readNumber : GoodIn wsX4_readItem wsX4_readNumber := goodIn_r _ [6, 1, 7, 8, 9, 10, 11, 12, 13, 14, 5, 15, 16, 17, 18, 19, 20, 21, 22, 23, 24, 25, 26, 27, 49, 50, 51, 52, 53, 54] (by decide +kernel) (by decide +kernel)
set_option maxRecDepth 20000 in
theorem gX4_readItem_X4_readNumber : GoodIn wsX4_readItem (wsV RX4 49 RX4 yX4_readNumber wsX4_readNumber) := goodIn_app (goodIn_of _ (by decide +kernel)) ggX4_readItem_X4_readNumber
set_option maxRecDepth 20000 in
theorem ggX4_readItem_X4_skipSpaces : GoodIn wsX4_readItem wsX4_skipSpaces := goodIn_r _ [31, 1, 7, 12, 13, 14, 5, 15, 16, 49, 50, 51, 52, 53, 54] (by decide +kernel) (by decide +kernel)
set_option maxRecDepth 20000 in
theorem gX4_readItem_X4_skipSpaces : GoodIn wsX4_readItem (wsV RX4 43 RX4 yX4_skipSpaces wsX4_skipSpaces) := goodIn_app (goodIn_of _ (by decide +kernel)) ggX4_readItem_X4_skipSpaces
set_option maxRecDepth 20000 in
theorem ggX4_readItem_X4_here : GoodIn wsX4_readItem wsX4_here := goodIn_r _ [15, 1, 7, 16, 49, 50, 51, 52, 53, 54] (by decide +kernel) (by decide +kernel)
set_option maxRecDepth 20000 in
theorem gX4_readItem_X4_here : GoodIn wsX4_readItem (wsV RX4 53 RX4 yX4_here wsX4_here) := goodIn_app (goodIn_of _ (by decide +kernel)) ggX4_readItem_X4_here
set_option maxRecDepth 20000 in
theorem ggX4_readItem_X4_failAt : GoodIn wsX4_readItem wsX4_failAt := goodIn_r _ [26, 27, 49, 50, 51, 52, 53, 54] (by decide +kernel) (by decide +kernel)
set_option maxRecDepth 20000 in
theorem gX4_readItem_X4_failAt : GoodIn wsX4_readItem (wsV RX4 57 RX4 yX4_failAt wsX4_failAt) := goodIn_app (goodIn_of _ (by decide +kernel)) ggX4_readItem_X4_failAt
set_option maxRecDepth 20000 in
theorem ggX4_readItem_X4_readRuns : GoodIn wsX4_readItem wsX4_readRuns := goodIn_r _ [35, 1, 36, 37, 27, 28, 29, 30, 5, 31, 7, 12, 13, 14, 15, 16, 38, 39, 40, 41, 42, 43, 44, 2, 3, 4, 6, 8, 9, 10, 11, 17, 18, 19, 20, 21, 22, 23, 24, 25, 26, 45, 46, 47, 48, 49, 50, 51, 52, 53, 54, 55] (by decide +kernel) (by decide +kernel)
set_option maxRecDepth 20000 in
theorem gX4_readItem_X4_readRuns : GoodIn wsX4_readItem (wsV RX4 61 RX4 yX4_readRuns wsX4_readRuns) := goodIn_app (goodIn_of _ (by decide +kernel)) ggX4_readItem_X4_readRuns
theorem dX4_readItem_0 : decode cX4_readItem 0 = .ok (.aload_n 0, 1) := by decide +kernel
theorem dX4_readItem_1 : decode cX4_readItem 1 = .ok (.iconst 0, 1) := by decide +kernel
theorem dX4_readItem_2 : decode cX4_readItem 2 = .ok (.bipush 11, 2) := by decide +kernel
theorem dX4_readItem_4 : decode cX4_readItem 4 = .ok (.invokevirtual 49, 3) := by decide +kernel
theorem dX4_readItem_7 : decode cX4_readItem 7 = .ok (.istore_n 1, 1) := by decide +kernel
theorem dX4_readItem_8 : decode cX4_readItem 8 = .ok (.iload_n 1, 1) := by decide +kernel
theorem dX4_readItem_9 : decode cX4_readItem 9 = .ok (.iconst (-1), 1) := by decide +kernel
theorem dX4_readItem_10 : decode cX4_readItem 10 = .ok (.if_icmp .ne 4, 3) := by decide +kernel
theorem dX4_readItem_13 : decode cX4_readItem 13 = .ok (.return_, 1) := by decide +kernel
theorem dX4_readItem_14 : decode cX4_readItem 14 = .ok (.aload_n 0, 1) := by decide +kernel
theorem dX4_readItem_15 : decode cX4_readItem 15 = .ok (.invokevirtual 43, 3) := by decide +kernel
theorem dX4_readItem_18 : decode cX4_readItem 18 = .ok (.aload_n 0, 1) := by decide +kernel
theorem dX4_readItem_19 : decode cX4_readItem 19 = .ok (.invokevirtual 53, 3) := by decide +kernel
theorem dX4_readItem_22 : decode cX4_readItem 22 = .ok (.bipush 58, 2) := by decide +kernel
theorem dX4_readItem_24 : decode cX4_readItem 24 = .ok (.if_icmp .eq 12, 3) := by decide +kernel
theorem dX4_readItem_27 : decode cX4_readItem 27 = .ok (.aload_n 0, 1) := by decide +kernel
theorem dX4_readItem_28 : decode cX4_readItem 28 = .ok (.aload_n 0, 1) := by decide +kernel
theorem dX4_readItem_29 : decode cX4_readItem 29 = .ok (.getfield 19, 3) := by decide +kernel
theorem dX4_readItem_32 : decode cX4_readItem 32 = .ok (.invokevirtual 57, 3) := by decide +kernel
theorem dX4_readItem_35 : decode cX4_readItem 35 = .ok (.return_, 1) := by decide +kernel
theorem dX4_readItem_36 : decode cX4_readItem 36 = .ok (.aload_n 0, 1) := by decide +kernel
theorem dX4_readItem_37 : decode cX4_readItem 37 = .ok (.dup, 1) := by decide +kernel
theorem dX4_readItem_38 : decode cX4_readItem 38 = .ok (.getfield 19, 3) := by decide +kernel
theorem dX4_readItem_41 : decode cX4_readItem 41 = .ok (.iconst 1, 1) := by decide +kernel
theorem dX4_readItem_42 : decode cX4_readItem 42 = .ok (.iadd, 1) := by decide +kernel
theorem dX4_readItem_43 : decode cX4_readItem 43 = .ok (.putfield 19, 3) := by decide +kernel
theorem dX4_readItem_46 : decode cX4_readItem 46 = .ok (.aload_n 0, 1) := by decide +kernel
theorem dX4_readItem_47 : decode cX4_readItem 47 = .ok (.iload_n 1, 1) := by decide +kernel
theorem dX4_readItem_48 : decode cX4_readItem 48 = .ok (.invokevirtual 61, 3) := by decide +kernel
theorem dX4_readItem_51 : decode cX4_readItem 51 = .ok (.return_, 1) := by decide +kernel
set_option maxRecDepth 20000 in
theorem ggX4_readRuns_X4_skipSpaces : GoodIn wsX4_readRuns wsX4_skipSpaces := goodIn_r _ [9, 1, 10, 11, 12, 13, 8, 14, 15, 45, 46, 47, 48, 49, 50] (by decide +kernel) (by decide +kernel)
set_option maxRecDepth 20000 in
theorem gX4_readRuns_X4_skipSpaces : GoodIn wsX4_readRuns (wsV RX4 43 RX4 yX4_skipSpaces wsX4_skipSpaces) := goodIn_app (goodIn_of _ (by decide +kernel)) ggX4_readRuns_X4_skipSpaces
set_option maxRecDepth 20000 in
theorem ggX4_readRuns_X4_here : GoodIn wsX4_readRuns wsX4_here := goodIn_r _ [14, 1, 10, 15, 45, 46, 47, 48, 49, 50] (by decide +kernel) (by decide +kernel)
set_option maxRecDepth 20000 in
theorem gX4_readRuns_X4_here : GoodIn wsX4_readRuns (wsV RX4 53 RX4 yX4_here wsX4_here) := goodIn_app (goodIn_of _ (by decide +kernel)) ggX4_readRuns_X4_here
set_option maxRecDepth 20000 in
theorem ggX4_readRuns_X1_putRow : GoodIn wsX4_readRuns wsX1_putRow := goodIn_r _ [20, 21, 22, 51] (by decide +kernel) (by decide +kernel)
set_option maxRecDepth 20000 in
theorem gX4_readRuns_X1_putRow : GoodIn wsX4_readRuns (wsV RX4 64 RX1 yX1_putRow wsX1_putRow) := goodIn_app (goodIn_of _ (by decide +kernel)) ggX4_readRuns_X1_putRow
set_option maxRecDepth 20000 in
theorem ggX4_readRuns_X4_readNumber : GoodIn wsX4_readRuns wsX4_readNumber := goodIn_r _ [26, 1, 10, 27, 28, 29, 30, 11, 12, 13, 8, 14, 15, 31, 32, 33, 34, 35, 36, 37, 38, 39, 40, 4, 45, 46, 47, 48, 49, 50] (by decide +kernel) (by decide +kernel)
set_option maxRecDepth 20000 in
theorem gX4_readRuns_X4_readNumber : GoodIn wsX4_readRuns (wsV RX4 49 RX4 yX4_readNumber wsX4_readNumber) := goodIn_app (goodIn_of _ (by decide +kernel)) ggX4_readRuns_X4_readNumber
set_option maxRecDepth 20000 in
theorem ggX4_readRuns_X4_readKind : GoodIn wsX4_readRuns wsX4_readKind := goodIn_r _ [44, 1, 5, 6, 7, 8, 9, 10, 11, 12, 13, 14, 15, 37, 38, 39, 40, 4, 45, 46, 47, 48, 49, 50] (by decide +kernel) (by decide +kernel)
set_option maxRecDepth 20000 in
theorem gX4_readRuns_X4_readKind : GoodIn wsX4_readRuns (wsV RX4 68 RX4 yX4_readKind wsX4_readKind) := goodIn_app (goodIn_of _ (by decide +kernel)) ggX4_readRuns_X4_readKind
theorem dX4_readRuns_0 : decode cX4_readRuns 0 = .ok (.iconst 0, 1) := by decide +kernel
theorem dX4_readRuns_1 : decode cX4_readRuns 1 = .ok (.istore_n 2, 1) := by decide +kernel
theorem dX4_readRuns_2 : decode cX4_readRuns 2 = .ok (.iconst 0, 1) := by decide +kernel
theorem dX4_readRuns_3 : decode cX4_readRuns 3 = .ok (.istore_n 3, 1) := by decide +kernel
theorem dX4_readRuns_4 : decode cX4_readRuns 4 = .ok (.iconst 0, 1) := by decide +kernel
theorem dX4_readRuns_5 : decode cX4_readRuns 5 = .ok (.istore 4, 2) := by decide +kernel
theorem dX4_readRuns_7 : decode cX4_readRuns 7 = .ok (.iconst 0, 1) := by decide +kernel
theorem dX4_readRuns_8 : decode cX4_readRuns 8 = .ok (.istore 5, 2) := by decide +kernel
theorem dX4_readRuns_10 : decode cX4_readRuns 10 = .ok (.iload 5, 2) := by decide +kernel
theorem dX4_readRuns_12 : decode cX4_readRuns 12 = .ok (.bipush 16, 2) := by decide +kernel
theorem dX4_readRuns_14 : decode cX4_readRuns 14 = .ok (.if_icmp .gt 137, 3) := by decide +kernel
theorem dX4_readRuns_17 : decode cX4_readRuns 17 = .ok (.aload_n 0, 1) := by decide +kernel
theorem dX4_readRuns_18 : decode cX4_readRuns 18 = .ok (.invokevirtual 43, 3) := by decide +kernel
theorem dX4_readRuns_21 : decode cX4_readRuns 21 = .ok (.aload_n 0, 1) := by decide +kernel
theorem dX4_readRuns_22 : decode cX4_readRuns 22 = .ok (.invokevirtual 53, 3) := by decide +kernel
theorem dX4_readRuns_25 : decode cX4_readRuns 25 = .ok (.bipush 59, 2) := by decide +kernel
theorem dX4_readRuns_27 : decode cX4_readRuns 27 = .ok (.if_icmp .ne 39, 3) := by decide +kernel
theorem dX4_readRuns_30 : decode cX4_readRuns 30 = .ok (.iload_n 2, 1) := by decide +kernel
theorem dX4_readRuns_31 : decode cX4_readRuns 31 = .ok (.bipush 16, 2) := by decide +kernel
theorem dX4_readRuns_33 : decode cX4_readRuns 33 = .ok (.if_icmp .ne 33, 3) := by decide +kernel
theorem dX4_readRuns_36 : decode cX4_readRuns 36 = .ok (.aload_n 0, 1) := by decide +kernel
theorem dX4_readRuns_37 : decode cX4_readRuns 37 = .ok (.dup, 1) := by decide +kernel
theorem dX4_readRuns_38 : decode cX4_readRuns 38 = .ok (.getfield 19, 3) := by decide +kernel
theorem dX4_readRuns_41 : decode cX4_readRuns 41 = .ok (.iconst 1, 1) := by decide +kernel
theorem dX4_readRuns_42 : decode cX4_readRuns 42 = .ok (.iadd, 1) := by decide +kernel
theorem dX4_readRuns_43 : decode cX4_readRuns 43 = .ok (.putfield 19, 3) := by decide +kernel
theorem dX4_readRuns_46 : decode cX4_readRuns 46 = .ok (.aload_n 0, 1) := by decide +kernel
theorem dX4_readRuns_47 : decode cX4_readRuns 47 = .ok (.getfield 28, 3) := by decide +kernel
theorem dX4_readRuns_50 : decode cX4_readRuns 50 = .ok (.iload_n 1, 1) := by decide +kernel
theorem dX4_readRuns_51 : decode cX4_readRuns 51 = .ok (.iload_n 3, 1) := by decide +kernel
theorem dX4_readRuns_52 : decode cX4_readRuns 52 = .ok (.invokevirtual 64, 3) := by decide +kernel
theorem dX4_readRuns_55 : decode cX4_readRuns 55 = .ok (.aload_n 0, 1) := by decide +kernel
theorem dX4_readRuns_56 : decode cX4_readRuns 56 = .ok (.getfield 32, 3) := by decide +kernel
theorem dX4_readRuns_59 : decode cX4_readRuns 59 = .ok (.iload_n 1, 1) := by decide +kernel
theorem dX4_readRuns_60 : decode cX4_readRuns 60 = .ok (.iload 4, 2) := by decide +kernel
theorem dX4_readRuns_62 : decode cX4_readRuns 62 = .ok (.invokevirtual 64, 3) := by decide +kernel
theorem dX4_readRuns_65 : decode cX4_readRuns 65 = .ok (.return_, 1) := by decide +kernel
theorem dX4_readRuns_66 : decode cX4_readRuns 66 = .ok (.aload_n 0, 1) := by decide +kernel
theorem dX4_readRuns_67 : decode cX4_readRuns 67 = .ok (.iconst 1, 1) := by decide +kernel
theorem dX4_readRuns_68 : decode cX4_readRuns 68 = .ok (.bipush 16, 2) := by decide +kernel
theorem dX4_readRuns_70 : decode cX4_readRuns 70 = .ok (.iload_n 2, 1) := by decide +kernel
theorem dX4_readRuns_71 : decode cX4_readRuns 71 = .ok (.isub, 1) := by decide +kernel
theorem dX4_readRuns_72 : decode cX4_readRuns 72 = .ok (.invokevirtual 49, 3) := by decide +kernel
theorem dX4_readRuns_75 : decode cX4_readRuns 75 = .ok (.istore 6, 2) := by decide +kernel
theorem dX4_readRuns_77 : decode cX4_readRuns 77 = .ok (.iload 6, 2) := by decide +kernel
theorem dX4_readRuns_79 : decode cX4_readRuns 79 = .ok (.iconst (-1), 1) := by decide +kernel
theorem dX4_readRuns_80 : decode cX4_readRuns 80 = .ok (.if_icmp .ne 4, 3) := by decide +kernel
theorem dX4_readRuns_83 : decode cX4_readRuns 83 = .ok (.return_, 1) := by decide +kernel
theorem dX4_readRuns_84 : decode cX4_readRuns 84 = .ok (.aload_n 0, 1) := by decide +kernel
theorem dX4_readRuns_85 : decode cX4_readRuns 85 = .ok (.invokevirtual 68, 3) := by decide +kernel
theorem dX4_readRuns_88 : decode cX4_readRuns 88 = .ok (.istore 7, 2) := by decide +kernel
theorem dX4_readRuns_90 : decode cX4_readRuns 90 = .ok (.aload_n 0, 1) := by decide +kernel
theorem dX4_readRuns_91 : decode cX4_readRuns 91 = .ok (.getfield 22, 3) := by decide +kernel
theorem dX4_readRuns_94 : decode cX4_readRuns 94 = .ok (.ifCond .lt 4, 3) := by decide +kernel
theorem dX4_readRuns_97 : decode cX4_readRuns 97 = .ok (.return_, 1) := by decide +kernel
theorem dX4_readRuns_98 : decode cX4_readRuns 98 = .ok (.iconst 1, 1) := by decide +kernel
theorem dX4_readRuns_99 : decode cX4_readRuns 99 = .ok (.iload 6, 2) := by decide +kernel
theorem dX4_readRuns_101 : decode cX4_readRuns 101 = .ok (.ishl, 1) := by decide +kernel
theorem dX4_readRuns_102 : decode cX4_readRuns 102 = .ok (.iconst 1, 1) := by decide +kernel
theorem dX4_readRuns_103 : decode cX4_readRuns 103 = .ok (.isub, 1) := by decide +kernel
theorem dX4_readRuns_104 : decode cX4_readRuns 104 = .ok (.iload_n 2, 1) := by decide +kernel
theorem dX4_readRuns_105 : decode cX4_readRuns 105 = .ok (.ishl, 1) := by decide +kernel
theorem dX4_readRuns_106 : decode cX4_readRuns 106 = .ok (.istore 8, 2) := by decide +kernel
theorem dX4_readRuns_108 : decode cX4_readRuns 108 = .ok (.iload_n 3, 1) := by decide +kernel
theorem dX4_readRuns_109 : decode cX4_readRuns 109 = .ok (.iload 7, 2) := by decide +kernel
theorem dX4_readRuns_111 : decode cX4_readRuns 111 = .ok (.iconst 1, 1) := by decide +kernel
theorem dX4_readRuns_112 : decode cX4_readRuns 112 = .ok (.if_icmp .ne 8, 3) := by decide +kernel
theorem dX4_readRuns_115 : decode cX4_readRuns 115 = .ok (.iload 8, 2) := by decide +kernel
theorem dX4_readRuns_117 : decode cX4_readRuns 117 = .ok (.goto 4, 3) := by decide +kernel
theorem dX4_readRuns_120 : decode cX4_readRuns 120 = .ok (.iconst 0, 1) := by decide +kernel
theorem dX4_readRuns_121 : decode cX4_readRuns 121 = .ok (.ior, 1) := by decide +kernel
theorem dX4_readRuns_122 : decode cX4_readRuns 122 = .ok (.istore_n 3, 1) := by decide +kernel
theorem dX4_readRuns_123 : decode cX4_readRuns 123 = .ok (.iload 4, 2) := by decide +kernel
theorem dX4_readRuns_125 : decode cX4_readRuns 125 = .ok (.iload 7, 2) := by decide +kernel
theorem dX4_readRuns_127 : decode cX4_readRuns 127 = .ok (.iconst 2, 1) := by decide +kernel
theorem dX4_readRuns_128 : decode cX4_readRuns 128 = .ok (.if_icmp .ne 8, 3) := by decide +kernel
theorem dX4_readRuns_131 : decode cX4_readRuns 131 = .ok (.iload 8, 2) := by decide +kernel
theorem dX4_readRuns_133 : decode cX4_readRuns 133 = .ok (.goto 4, 3) := by decide +kernel
theorem dX4_readRuns_136 : decode cX4_readRuns 136 = .ok (.iconst 0, 1) := by decide +kernel
theorem dX4_readRuns_137 : decode cX4_readRuns 137 = .ok (.ior, 1) := by decide +kernel
theorem dX4_readRuns_138 : decode cX4_readRuns 138 = .ok (.istore 4, 2) := by decide +kernel
theorem dX4_readRuns_140 : decode cX4_readRuns 140 = .ok (.iload_n 2, 1) := by decide +kernel
theorem dX4_readRuns_141 : decode cX4_readRuns 141 = .ok (.iload 6, 2) := by decide +kernel
theorem dX4_readRuns_143 : decode cX4_readRuns 143 = .ok (.iadd, 1) := by decide +kernel
theorem dX4_readRuns_144 : decode cX4_readRuns 144 = .ok (.istore_n 2, 1) := by decide +kernel
theorem dX4_readRuns_145 : decode cX4_readRuns 145 = .ok (.iinc 5 1, 3) := by decide +kernel
theorem dX4_readRuns_148 : decode cX4_readRuns 148 = .ok (.goto (-138), 3) := by decide +kernel
theorem dX4_readRuns_151 : decode cX4_readRuns 151 = .ok (.return_, 1) := by decide +kernel
set_option maxRecDepth 20000 in
theorem ggX4_readKind_X4_skipSpaces : GoodIn wsX4_readKind wsX4_skipSpaces := goodIn_r _ [6, 1, 7, 8, 9, 10, 5, 11, 12, 18, 19, 20, 21, 22, 23] (by decide +kernel) (by decide +kernel)
set_option maxRecDepth 20000 in
theorem gX4_readKind_X4_skipSpaces : GoodIn wsX4_readKind (wsV RX4 43 RX4 yX4_skipSpaces wsX4_skipSpaces) := goodIn_app (goodIn_of _ (by decide +kernel)) ggX4_readKind_X4_skipSpaces
set_option maxRecDepth 20000 in
theorem ggX4_readKind_X4_here : GoodIn wsX4_readKind wsX4_here := goodIn_r _ [11, 1, 7, 12, 18, 19, 20, 21, 22, 23] (by decide +kernel) (by decide +kernel)
set_option maxRecDepth 20000 in
theorem gX4_readKind_X4_here : GoodIn wsX4_readKind (wsV RX4 53 RX4 yX4_here wsX4_here) := goodIn_app (goodIn_of _ (by decide +kernel)) ggX4_readKind_X4_here
set_option maxRecDepth 20000 in
theorem ggX4_readKind_X4_failAt : GoodIn wsX4_readKind wsX4_failAt := goodIn_r _ [16, 17, 18, 19, 20, 21, 22, 23] (by decide +kernel) (by decide +kernel)
set_option maxRecDepth 20000 in
theorem gX4_readKind_X4_failAt : GoodIn wsX4_readKind (wsV RX4 57 RX4 yX4_failAt wsX4_failAt) := goodIn_app (goodIn_of _ (by decide +kernel)) ggX4_readKind_X4_failAt
theorem dX4_readKind_0 : decode cX4_readKind 0 = .ok (.aload_n 0, 1) := by decide +kernel
theorem dX4_readKind_1 : decode cX4_readKind 1 = .ok (.invokevirtual 43, 3) := by decide +kernel
theorem dX4_readKind_4 : decode cX4_readKind 4 = .ok (.aload_n 0, 1) := by decide +kernel
theorem dX4_readKind_5 : decode cX4_readKind 5 = .ok (.invokevirtual 53, 3) := by decide +kernel
theorem dX4_readKind_8 : decode cX4_readKind 8 = .ok (.istore_n 1, 1) := by decide +kernel
theorem dX4_readKind_9 : decode cX4_readKind 9 = .ok (.iload_n 1, 1) := by decide +kernel
theorem dX4_readKind_10 : decode cX4_readKind 10 = .ok (.bipush 119, 2) := by decide +kernel
theorem dX4_readKind_12 : decode cX4_readKind 12 = .ok (.if_icmp .eq 25, 3) := by decide +kernel
theorem dX4_readKind_15 : decode cX4_readKind 15 = .ok (.iload_n 1, 1) := by decide +kernel
theorem dX4_readKind_16 : decode cX4_readKind 16 = .ok (.bipush 99, 2) := by decide +kernel
theorem dX4_readKind_18 : decode cX4_readKind 18 = .ok (.if_icmp .eq 19, 3) := by decide +kernel
theorem dX4_readKind_21 : decode cX4_readKind 21 = .ok (.iload_n 1, 1) := by decide +kernel
theorem dX4_readKind_22 : decode cX4_readKind 22 = .ok (.bipush 108, 2) := by decide +kernel
theorem dX4_readKind_24 : decode cX4_readKind 24 = .ok (.if_icmp .eq 13, 3) := by decide +kernel
theorem dX4_readKind_27 : decode cX4_readKind 27 = .ok (.aload_n 0, 1) := by decide +kernel
theorem dX4_readKind_28 : decode cX4_readKind 28 = .ok (.aload_n 0, 1) := by decide +kernel
theorem dX4_readKind_29 : decode cX4_readKind 29 = .ok (.getfield 19, 3) := by decide +kernel
theorem dX4_readKind_32 : decode cX4_readKind 32 = .ok (.invokevirtual 57, 3) := by decide +kernel
theorem dX4_readKind_35 : decode cX4_readKind 35 = .ok (.iconst 0, 1) := by decide +kernel
theorem dX4_readKind_36 : decode cX4_readKind 36 = .ok (.ireturn, 1) := by decide +kernel
theorem dX4_readKind_37 : decode cX4_readKind 37 = .ok (.aload_n 0, 1) := by decide +kernel
theorem dX4_readKind_38 : decode cX4_readKind 38 = .ok (.dup, 1) := by decide +kernel
theorem dX4_readKind_39 : decode cX4_readKind 39 = .ok (.getfield 19, 3) := by decide +kernel
theorem dX4_readKind_42 : decode cX4_readKind 42 = .ok (.iconst 1, 1) := by decide +kernel
theorem dX4_readKind_43 : decode cX4_readKind 43 = .ok (.iadd, 1) := by decide +kernel
theorem dX4_readKind_44 : decode cX4_readKind 44 = .ok (.putfield 19, 3) := by decide +kernel
theorem dX4_readKind_47 : decode cX4_readKind 47 = .ok (.iload_n 1, 1) := by decide +kernel
theorem dX4_readKind_48 : decode cX4_readKind 48 = .ok (.bipush 119, 2) := by decide +kernel
theorem dX4_readKind_50 : decode cX4_readKind 50 = .ok (.if_icmp .ne 5, 3) := by decide +kernel
theorem dX4_readKind_53 : decode cX4_readKind 53 = .ok (.iconst 0, 1) := by decide +kernel
theorem dX4_readKind_54 : decode cX4_readKind 54 = .ok (.ireturn, 1) := by decide +kernel
theorem dX4_readKind_55 : decode cX4_readKind 55 = .ok (.iload_n 1, 1) := by decide +kernel
theorem dX4_readKind_56 : decode cX4_readKind 56 = .ok (.bipush 99, 2) := by decide +kernel
theorem dX4_readKind_58 : decode cX4_readKind 58 = .ok (.if_icmp .ne 7, 3) := by decide +kernel
theorem dX4_readKind_61 : decode cX4_readKind 61 = .ok (.iconst 1, 1) := by decide +kernel
theorem dX4_readKind_62 : decode cX4_readKind 62 = .ok (.goto 4, 3) := by decide +kernel
theorem dX4_readKind_65 : decode cX4_readKind 65 = .ok (.iconst 2, 1) := by decide +kernel
theorem dX4_readKind_66 : decode cX4_readKind 66 = .ok (.ireturn, 1) := by decide +kernel
set_option maxRecDepth 20000 in
theorem ggX4_readNumber_X4_here : GoodIn wsX4_readNumber wsX4_here := goodIn_r _ [11, 1, 2, 12, 24, 25, 26, 27, 28, 29] (by decide +kernel) (by decide +kernel)
set_option maxRecDepth 20000 in
theorem gX4_readNumber_X4_here : GoodIn wsX4_readNumber (wsV RX4 53 RX4 yX4_here wsX4_here) := goodIn_app (goodIn_of _ (by decide +kernel)) ggX4_readNumber_X4_here
set_option maxRecDepth 20000 in
theorem ggX4_readNumber_X4_isDigit : GoodIn wsX4_readNumber wsX4_isDigit := goodIn_r _ [15] (by decide +kernel) (by decide +kernel)
set_option maxRecDepth 20000 in
theorem gX4_readNumber_X4_isDigit : GoodIn wsX4_readNumber (va_wsS RX4 71 yX4_isDigit wsX4_isDigit) := goodIn_app (goodIn_of _ (by decide +kernel)) ggX4_readNumber_X4_isDigit
set_option maxRecDepth 20000 in
theorem ggX4_readNumber_X6_isWithin : GoodIn wsX4_readNumber wsX6_isWithin := goodIn_r _ [18] (by decide +kernel) (by decide +kernel)
set_option maxRecDepth 20000 in
theorem gX4_readNumber_X6_isWithin_n80 : GoodIn wsX4_readNumber (wsX6_isWithin) := ggX4_readNumber_X6_isWithin
set_option maxRecDepth 20000 in
theorem ggX4_readNumber_X4_failAt : GoodIn wsX4_readNumber wsX4_failAt := goodIn_r _ [22, 23, 24, 25, 26, 27, 28, 29] (by decide +kernel) (by decide +kernel)
set_option maxRecDepth 20000 in
theorem gX4_readNumber_X4_failAt : GoodIn wsX4_readNumber (wsV RX4 57 RX4 yX4_failAt wsX4_failAt) := goodIn_app (goodIn_of _ (by decide +kernel)) ggX4_readNumber_X4_failAt
theorem dX4_readNumber_0 : decode cX4_readNumber 0 = .ok (.aload_n 0, 1) := by decide +kernel
theorem dX4_readNumber_1 : decode cX4_readNumber 1 = .ok (.getfield 19, 3) := by decide +kernel
theorem dX4_readNumber_4 : decode cX4_readNumber 4 = .ok (.istore_n 3, 1) := by decide +kernel
theorem dX4_readNumber_5 : decode cX4_readNumber 5 = .ok (.aload_n 0, 1) := by decide +kernel
theorem dX4_readNumber_6 : decode cX4_readNumber 6 = .ok (.invokevirtual 53, 3) := by decide +kernel
theorem dX4_readNumber_9 : decode cX4_readNumber 9 = .ok (.bipush 48, 2) := by decide +kernel
theorem dX4_readNumber_11 : decode cX4_readNumber 11 = .ok (.if_icmp .ne 7, 3) := by decide +kernel
theorem dX4_readNumber_14 : decode cX4_readNumber 14 = .ok (.iconst 1, 1) := by decide +kernel
theorem dX4_readNumber_15 : decode cX4_readNumber 15 = .ok (.goto 4, 3) := by decide +kernel
theorem dX4_readNumber_18 : decode cX4_readNumber 18 = .ok (.iconst 0, 1) := by decide +kernel
theorem dX4_readNumber_19 : decode cX4_readNumber 19 = .ok (.istore 4, 2) := by decide +kernel
theorem dX4_readNumber_21 : decode cX4_readNumber 21 = .ok (.iconst 0, 1) := by decide +kernel
theorem dX4_readNumber_22 : decode cX4_readNumber 22 = .ok (.istore 5, 2) := by decide +kernel
theorem dX4_readNumber_24 : decode cX4_readNumber 24 = .ok (.aload_n 0, 1) := by decide +kernel
theorem dX4_readNumber_25 : decode cX4_readNumber 25 = .ok (.getfield 19, 3) := by decide +kernel
theorem dX4_readNumber_28 : decode cX4_readNumber 28 = .ok (.aload_n 0, 1) := by decide +kernel
theorem dX4_readNumber_29 : decode cX4_readNumber 29 = .ok (.getfield 15, 3) := by decide +kernel
theorem dX4_readNumber_32 : decode cX4_readNumber 32 = .ok (.if_icmp .ge 47, 3) := by decide +kernel
theorem dX4_readNumber_35 : decode cX4_readNumber 35 = .ok (.aload_n 0, 1) := by decide +kernel
theorem dX4_readNumber_36 : decode cX4_readNumber 36 = .ok (.invokevirtual 53, 3) := by decide +kernel
theorem dX4_readNumber_39 : decode cX4_readNumber 39 = .ok (.invokestatic 71, 3) := by decide +kernel
theorem dX4_readNumber_42 : decode cX4_readNumber 42 = .ok (.ifCond .eq 37, 3) := by decide +kernel
theorem dX4_readNumber_45 : decode cX4_readNumber 45 = .ok (.iload 5, 2) := by decide +kernel
theorem dX4_readNumber_47 : decode cX4_readNumber 47 = .ok (.bipush 10, 2) := by decide +kernel
theorem dX4_readNumber_49 : decode cX4_readNumber 49 = .ok (.imul, 1) := by decide +kernel
theorem dX4_readNumber_50 : decode cX4_readNumber 50 = .ok (.aload_n 0, 1) := by decide +kernel
theorem dX4_readNumber_51 : decode cX4_readNumber 51 = .ok (.invokevirtual 53, 3) := by decide +kernel
theorem dX4_readNumber_54 : decode cX4_readNumber 54 = .ok (.iadd, 1) := by decide +kernel
theorem dX4_readNumber_55 : decode cX4_readNumber 55 = .ok (.bipush 48, 2) := by decide +kernel
theorem dX4_readNumber_57 : decode cX4_readNumber 57 = .ok (.isub, 1) := by decide +kernel
theorem dX4_readNumber_58 : decode cX4_readNumber 58 = .ok (.sipush 140, 3) := by decide +kernel
theorem dX4_readNumber_61 : decode cX4_readNumber 61 = .ok (.invokestatic 75, 3) := by decide +kernel
theorem dX4_readNumber_64 : decode cX4_readNumber 64 = .ok (.istore 5, 2) := by decide +kernel
theorem dX4_readNumber_66 : decode cX4_readNumber 66 = .ok (.aload_n 0, 1) := by decide +kernel
theorem dX4_readNumber_67 : decode cX4_readNumber 67 = .ok (.dup, 1) := by decide +kernel
theorem dX4_readNumber_68 : decode cX4_readNumber 68 = .ok (.getfield 19, 3) := by decide +kernel
theorem dX4_readNumber_71 : decode cX4_readNumber 71 = .ok (.iconst 1, 1) := by decide +kernel
theorem dX4_readNumber_72 : decode cX4_readNumber 72 = .ok (.iadd, 1) := by decide +kernel
theorem dX4_readNumber_73 : decode cX4_readNumber 73 = .ok (.putfield 19, 3) := by decide +kernel
theorem dX4_readNumber_76 : decode cX4_readNumber 76 = .ok (.goto (-52), 3) := by decide +kernel
theorem dX4_readNumber_79 : decode cX4_readNumber 79 = .ok (.iload 4, 2) := by decide +kernel
theorem dX4_readNumber_81 : decode cX4_readNumber 81 = .ok (.ifCond .eq 17, 3) := by decide +kernel
theorem dX4_readNumber_84 : decode cX4_readNumber 84 = .ok (.aload_n 0, 1) := by decide +kernel
theorem dX4_readNumber_85 : decode cX4_readNumber 85 = .ok (.getfield 19, 3) := by decide +kernel
theorem dX4_readNumber_88 : decode cX4_readNumber 88 = .ok (.iload_n 3, 1) := by decide +kernel
theorem dX4_readNumber_89 : decode cX4_readNumber 89 = .ok (.isub, 1) := by decide +kernel
theorem dX4_readNumber_90 : decode cX4_readNumber 90 = .ok (.iconst 1, 1) := by decide +kernel
theorem dX4_readNumber_91 : decode cX4_readNumber 91 = .ok (.if_icmp .le 7, 3) := by decide +kernel
theorem dX4_readNumber_94 : decode cX4_readNumber 94 = .ok (.iconst 1, 1) := by decide +kernel
theorem dX4_readNumber_95 : decode cX4_readNumber 95 = .ok (.goto 4, 3) := by decide +kernel
theorem dX4_readNumber_98 : decode cX4_readNumber 98 = .ok (.iconst 0, 1) := by decide +kernel
theorem dX4_readNumber_99 : decode cX4_readNumber 99 = .ok (.istore 6, 2) := by decide +kernel
theorem dX4_readNumber_101 : decode cX4_readNumber 101 = .ok (.aload_n 0, 1) := by decide +kernel
theorem dX4_readNumber_102 : decode cX4_readNumber 102 = .ok (.getfield 19, 3) := by decide +kernel
theorem dX4_readNumber_105 : decode cX4_readNumber 105 = .ok (.iload_n 3, 1) := by decide +kernel
theorem dX4_readNumber_106 : decode cX4_readNumber 106 = .ok (.if_icmp .eq 18, 3) := by decide +kernel
theorem dX4_readNumber_109 : decode cX4_readNumber 109 = .ok (.iload 6, 2) := by decide +kernel
theorem dX4_readNumber_111 : decode cX4_readNumber 111 = .ok (.ifCond .ne 13, 3) := by decide +kernel
theorem dX4_readNumber_114 : decode cX4_readNumber 114 = .ok (.iload 5, 2) := by decide +kernel
theorem dX4_readNumber_116 : decode cX4_readNumber 116 = .ok (.iload_n 1, 1) := by decide +kernel
theorem dX4_readNumber_117 : decode cX4_readNumber 117 = .ok (.iload_n 2, 1) := by decide +kernel
theorem dX4_readNumber_118 : decode cX4_readNumber 118 = .ok (.invokestatic 80, 3) := by decide +kernel
theorem dX4_readNumber_121 : decode cX4_readNumber 121 = .ok (.ifCond .ne 10, 3) := by decide +kernel
theorem dX4_readNumber_124 : decode cX4_readNumber 124 = .ok (.aload_n 0, 1) := by decide +kernel
theorem dX4_readNumber_125 : decode cX4_readNumber 125 = .ok (.iload_n 3, 1) := by decide +kernel
theorem dX4_readNumber_126 : decode cX4_readNumber 126 = .ok (.invokevirtual 57, 3) := by decide +kernel
theorem dX4_readNumber_129 : decode cX4_readNumber 129 = .ok (.iconst (-1), 1) := by decide +kernel
theorem dX4_readNumber_130 : decode cX4_readNumber 130 = .ok (.ireturn, 1) := by decide +kernel
theorem dX4_readNumber_131 : decode cX4_readNumber 131 = .ok (.iload 5, 2) := by decide +kernel
theorem dX4_readNumber_133 : decode cX4_readNumber 133 = .ok (.ireturn, 1) := by decide +kernel
theorem dX4_isDigit_0 : decode cX4_isDigit 0 = .ok (.iload_n 0, 1) := by decide +kernel
theorem dX4_isDigit_1 : decode cX4_isDigit 1 = .ok (.bipush 48, 2) := by decide +kernel
theorem dX4_isDigit_3 : decode cX4_isDigit 3 = .ok (.if_icmp .lt 13, 3) := by decide +kernel
theorem dX4_isDigit_6 : decode cX4_isDigit 6 = .ok (.iload_n 0, 1) := by decide +kernel
theorem dX4_isDigit_7 : decode cX4_isDigit 7 = .ok (.bipush 57, 2) := by decide +kernel
theorem dX4_isDigit_9 : decode cX4_isDigit 9 = .ok (.if_icmp .gt 7, 3) := by decide +kernel
theorem dX4_isDigit_12 : decode cX4_isDigit 12 = .ok (.iconst 1, 1) := by decide +kernel
theorem dX4_isDigit_13 : decode cX4_isDigit 13 = .ok (.goto 4, 3) := by decide +kernel
theorem dX4_isDigit_16 : decode cX4_isDigit 16 = .ok (.iconst 0, 1) := by decide +kernel
theorem dX4_isDigit_17 : decode cX4_isDigit 17 = .ok (.ireturn, 1) := by decide +kernel
set_option maxRecDepth 20000 in
theorem ggX4_skipSpaces_X4_here : GoodIn wsX4_skipSpaces wsX4_here := goodIn_r _ [7, 1, 2, 8, 9, 10, 11, 12, 13, 14] (by decide +kernel) (by decide +kernel)
set_option maxRecDepth 20000 in
theorem gX4_skipSpaces_X4_here : GoodIn wsX4_skipSpaces (wsV RX4 53 RX4 yX4_here wsX4_here) := goodIn_app (goodIn_of _ (by decide +kernel)) ggX4_skipSpaces_X4_here
theorem dX4_skipSpaces_0 : decode cX4_skipSpaces 0 = .ok (.aload_n 0, 1) := by decide +kernel
theorem dX4_skipSpaces_1 : decode cX4_skipSpaces 1 = .ok (.getfield 19, 3) := by decide +kernel
theorem dX4_skipSpaces_4 : decode cX4_skipSpaces 4 = .ok (.aload_n 0, 1) := by decide +kernel
theorem dX4_skipSpaces_5 : decode cX4_skipSpaces 5 = .ok (.getfield 15, 3) := by decide +kernel
theorem dX4_skipSpaces_8 : decode cX4_skipSpaces 8 = .ok (.if_icmp .ge 25, 3) := by decide +kernel
theorem dX4_skipSpaces_11 : decode cX4_skipSpaces 11 = .ok (.aload_n 0, 1) := by decide +kernel
theorem dX4_skipSpaces_12 : decode cX4_skipSpaces 12 = .ok (.invokevirtual 53, 3) := by decide +kernel
theorem dX4_skipSpaces_15 : decode cX4_skipSpaces 15 = .ok (.bipush 32, 2) := by decide +kernel
theorem dX4_skipSpaces_17 : decode cX4_skipSpaces 17 = .ok (.if_icmp .ne 16, 3) := by decide +kernel
theorem dX4_skipSpaces_20 : decode cX4_skipSpaces 20 = .ok (.aload_n 0, 1) := by decide +kernel
theorem dX4_skipSpaces_21 : decode cX4_skipSpaces 21 = .ok (.dup, 1) := by decide +kernel
theorem dX4_skipSpaces_22 : decode cX4_skipSpaces 22 = .ok (.getfield 19, 3) := by decide +kernel
theorem dX4_skipSpaces_25 : decode cX4_skipSpaces 25 = .ok (.iconst 1, 1) := by decide +kernel
theorem dX4_skipSpaces_26 : decode cX4_skipSpaces 26 = .ok (.iadd, 1) := by decide +kernel
theorem dX4_skipSpaces_27 : decode cX4_skipSpaces 27 = .ok (.putfield 19, 3) := by decide +kernel
theorem dX4_skipSpaces_30 : decode cX4_skipSpaces 30 = .ok (.goto (-30), 3) := by decide +kernel
theorem dX4_skipSpaces_33 : decode cX4_skipSpaces 33 = .ok (.return_, 1) := by decide +kernel
theorem dX4_here_0 : decode cX4_here 0 = .ok (.aload_n 0, 1) := by decide +kernel
theorem dX4_here_1 : decode cX4_here 1 = .ok (.getfield 19, 3) := by decide +kernel
theorem dX4_here_4 : decode cX4_here 4 = .ok (.ifCond .lt 36, 3) := by decide +kernel
theorem dX4_here_7 : decode cX4_here 7 = .ok (.aload_n 0, 1) := by decide +kernel
theorem dX4_here_8 : decode cX4_here 8 = .ok (.getfield 19, 3) := by decide +kernel
theorem dX4_here_11 : decode cX4_here 11 = .ok (.aload_n 0, 1) := by decide +kernel
theorem dX4_here_12 : decode cX4_here 12 = .ok (.getfield 15, 3) := by decide +kernel
theorem dX4_here_15 : decode cX4_here 15 = .ok (.if_icmp .ge 25, 3) := by decide +kernel
theorem dX4_here_18 : decode cX4_here 18 = .ok (.aload_n 0, 1) := by decide +kernel
theorem dX4_here_19 : decode cX4_here 19 = .ok (.getfield 19, 3) := by decide +kernel
theorem dX4_here_22 : decode cX4_here 22 = .ok (.sipush 140, 3) := by decide +kernel
theorem dX4_here_25 : decode cX4_here 25 = .ok (.if_icmp .ge 15, 3) := by decide +kernel
theorem dX4_here_28 : decode cX4_here 28 = .ok (.aload_n 0, 1) := by decide +kernel
theorem dX4_here_29 : decode cX4_here 29 = .ok (.getfield 9, 3) := by decide +kernel
theorem dX4_here_32 : decode cX4_here 32 = .ok (.aload_n 0, 1) := by decide +kernel
theorem dX4_here_33 : decode cX4_here 33 = .ok (.getfield 19, 3) := by decide +kernel
theorem dX4_here_36 : decode cX4_here 36 = .ok (.iaload, 1) := by decide +kernel
theorem dX4_here_37 : decode cX4_here 37 = .ok (.goto 4, 3) := by decide +kernel
theorem dX4_here_40 : decode cX4_here 40 = .ok (.iconst 0, 1) := by decide +kernel
theorem dX4_here_41 : decode cX4_here 41 = .ok (.ireturn, 1) := by decide +kernel
theorem dX4_failAt_0 : decode cX4_failAt 0 = .ok (.aload_n 0, 1) := by decide +kernel
theorem dX4_failAt_1 : decode cX4_failAt 1 = .ok (.iload_n 1, 1) := by decide +kernel
theorem dX4_failAt_2 : decode cX4_failAt 2 = .ok (.putfield 22, 3) := by decide +kernel
theorem dX4_failAt_5 : decode cX4_failAt 5 = .ok (.return_, 1) := by decide +kernel
set_option maxRecDepth 20000 in
theorem ggX5_init_X0_init : GoodIn wsX5_init wsX0_init := goodIn_r _ [27, 28, 2, 3, 29, 30, 31, 32, 33, 34, 35, 8, 36, 37, 38, 39, 40, 41, 67, 49, 50, 51, 52, 53] (by decide +kernel) (by decide +kernel)
set_option maxRecDepth 20000 in
theorem gX5_init_X0_init : GoodIn wsX5_init (wsX0_init) := ggX5_init_X0_init
set_option maxRecDepth 20000 in
theorem ggX5_init_X3_init : GoodIn wsX5_init wsX3_init := goodIn_r _ [44, 45, 2, 3, 8, 46, 47, 48, 64, 65, 66] (by decide +kernel) (by decide +kernel)
set_option maxRecDepth 20000 in
theorem gX5_init_X3_init : GoodIn wsX5_init (wsX3_init) := ggX5_init_X3_init
theorem dX5_init_0 : decode cX5_init 0 = .ok (.aload_n 0, 1) := by decide +kernel
theorem dX5_init_1 : decode cX5_init 1 = .ok (.invokespecial 3, 3) := by decide +kernel
theorem dX5_init_4 : decode cX5_init 4 = .ok (.aload_n 0, 1) := by decide +kernel
theorem dX5_init_5 : decode cX5_init 5 = .ok (.new 9, 3) := by decide +kernel
theorem dX5_init_8 : decode cX5_init 8 = .ok (.dup, 1) := by decide +kernel
theorem dX5_init_9 : decode cX5_init 9 = .ok (.invokespecial 11, 3) := by decide +kernel
theorem dX5_init_12 : decode cX5_init 12 = .ok (.putfield 12, 3) := by decide +kernel
theorem dX5_init_15 : decode cX5_init 15 = .ok (.aload_n 0, 1) := by decide +kernel
theorem dX5_init_16 : decode cX5_init 16 = .ok (.iconst 5, 1) := by decide +kernel
theorem dX5_init_17 : decode cX5_init 17 = .ok (.newarray .int, 2) := by decide +kernel
theorem dX5_init_19 : decode cX5_init 19 = .ok (.putfield 18, 3) := by decide +kernel
theorem dX5_init_22 : decode cX5_init 22 = .ok (.getstatic 22, 3) := by decide +kernel
theorem dX5_init_25 : decode cX5_init 25 = .ok (.iconst 0, 1) := by decide +kernel
theorem dX5_init_26 : decode cX5_init 26 = .ok (.aload_n 0, 1) := by decide +kernel
theorem dX5_init_27 : decode cX5_init 27 = .ok (.getfield 18, 3) := by decide +kernel
theorem dX5_init_30 : decode cX5_init 30 = .ok (.iconst 0, 1) := by decide +kernel
theorem dX5_init_31 : decode cX5_init 31 = .ok (.iconst 5, 1) := by decide +kernel
theorem dX5_init_32 : decode cX5_init 32 = .ok (.invokestatic 25, 3) := by decide +kernel
theorem dX5_init_35 : decode cX5_init 35 = .ok (.aload_n 0, 1) := by decide +kernel
theorem dX5_init_36 : decode cX5_init 36 = .ok (.new 31, 3) := by decide +kernel
theorem dX5_init_39 : decode cX5_init 39 = .ok (.dup, 1) := by decide +kernel
theorem dX5_init_40 : decode cX5_init 40 = .ok (.invokespecial 33, 3) := by decide +kernel
theorem dX5_init_43 : decode cX5_init 43 = .ok (.putfield 34, 3) := by decide +kernel
theorem dX5_init_46 : decode cX5_init 46 = .ok (.aload_n 0, 1) := by decide +kernel
theorem dX5_init_47 : decode cX5_init 47 = .ok (.iconst 0, 1) := by decide +kernel
theorem dX5_init_48 : decode cX5_init 48 = .ok (.putfield 38, 3) := by decide +kernel
theorem dX5_init_51 : decode cX5_init 51 = .ok (.aload_n 0, 1) := by decide +kernel
theorem dX5_init_52 : decode cX5_init 52 = .ok (.iconst 0, 1) := by decide +kernel
theorem dX5_init_53 : decode cX5_init 53 = .ok (.putfield 42, 3) := by decide +kernel
theorem dX5_init_56 : decode cX5_init 56 = .ok (.aload_n 0, 1) := by decide +kernel
theorem dX5_init_57 : decode cX5_init 57 = .ok (.iconst 0, 1) := by decide +kernel
theorem dX5_init_58 : decode cX5_init 58 = .ok (.putfield 45, 3) := by decide +kernel
theorem dX5_init_61 : decode cX5_init 61 = .ok (.aload_n 0, 1) := by decide +kernel
theorem dX5_init_62 : decode cX5_init 62 = .ok (.new 9, 3) := by decide +kernel
theorem dX5_init_65 : decode cX5_init 65 = .ok (.dup, 1) := by decide +kernel
theorem dX5_init_66 : decode cX5_init 66 = .ok (.invokespecial 11, 3) := by decide +kernel
theorem dX5_init_69 : decode cX5_init 69 = .ok (.putfield 48, 3) := by decide +kernel
theorem dX5_init_72 : decode cX5_init 72 = .ok (.aload_n 0, 1) := by decide +kernel
theorem dX5_init_73 : decode cX5_init 73 = .ok (.new 9, 3) := by decide +kernel
theorem dX5_init_76 : decode cX5_init 76 = .ok (.dup, 1) := by decide +kernel
theorem dX5_init_77 : decode cX5_init 77 = .ok (.invokespecial 11, 3) := by decide +kernel
theorem dX5_init_80 : decode cX5_init 80 = .ok (.putfield 51, 3) := by decide +kernel
theorem dX5_init_83 : decode cX5_init 83 = .ok (.aload_n 0, 1) := by decide +kernel
theorem dX5_init_84 : decode cX5_init 84 = .ok (.iconst 0, 1) := by decide +kernel
theorem dX5_init_85 : decode cX5_init 85 = .ok (.putfield 54, 3) := by decide +kernel
theorem dX5_init_88 : decode cX5_init 88 = .ok (.aload_n 0, 1) := by decide +kernel
theorem dX5_init_89 : decode cX5_init 89 = .ok (.iconst 0, 1) := by decide +kernel
theorem dX5_init_90 : decode cX5_init 90 = .ok (.putfield 58, 3) := by decide +kernel
theorem dX5_init_93 : decode cX5_init 93 = .ok (.return_, 1) := by decide +kernel
set_option maxRecDepth 20000 in
theorem ggX5_becomeLike_X0_becomeLike : GoodIn wsX5_becomeLike wsX0_becomeLike := goodIn_r _ [19, 20, 21, 22, 23, 24, 25, 4, 5, 6, 26, 27, 28, 29, 30, 31, 32, 52, 53, 54, 55, 56, 57] (by decide +kernel) (by decide +kernel)
set_option maxRecDepth 20000 in
theorem gX5_becomeLike_X0_becomeLike : GoodIn wsX5_becomeLike (wsV RX5 61 RX0 yX0_becomeLike wsX0_becomeLike) := goodIn_app (goodIn_of _ (by decide +kernel)) ggX5_becomeLike_X0_becomeLike
set_option maxRecDepth 20000 in
theorem ggX5_becomeLike_X3_becomeLike : GoodIn wsX5_becomeLike wsX3_becomeLike := goodIn_r _ [37, 38, 39, 4, 5, 6, 40, 41, 58, 59, 60] (by decide +kernel) (by decide +kernel)
set_option maxRecDepth 20000 in
theorem gX5_becomeLike_X3_becomeLike : GoodIn wsX5_becomeLike (wsV RX5 65 RX3 yX3_becomeLike wsX3_becomeLike) := goodIn_app (goodIn_of _ (by decide +kernel)) ggX5_becomeLike_X3_becomeLike
theorem dX5_becomeLike_0 : decode cX5_becomeLike 0 = .ok (.aload_n 0, 1) := by decide +kernel
theorem dX5_becomeLike_1 : decode cX5_becomeLike 1 = .ok (.getfield 12, 3) := by decide +kernel
theorem dX5_becomeLike_4 : decode cX5_becomeLike 4 = .ok (.aload_n 1, 1) := by decide +kernel
theorem dX5_becomeLike_5 : decode cX5_becomeLike 5 = .ok (.getfield 12, 3) := by decide +kernel
theorem dX5_becomeLike_8 : decode cX5_becomeLike 8 = .ok (.invokevirtual 61, 3) := by decide +kernel
theorem dX5_becomeLike_11 : decode cX5_becomeLike 11 = .ok (.aload_n 1, 1) := by decide +kernel
theorem dX5_becomeLike_12 : decode cX5_becomeLike 12 = .ok (.getfield 18, 3) := by decide +kernel
theorem dX5_becomeLike_15 : decode cX5_becomeLike 15 = .ok (.iconst 0, 1) := by decide +kernel
theorem dX5_becomeLike_16 : decode cX5_becomeLike 16 = .ok (.aload_n 0, 1) := by decide +kernel
theorem dX5_becomeLike_17 : decode cX5_becomeLike 17 = .ok (.getfield 18, 3) := by decide +kernel
theorem dX5_becomeLike_20 : decode cX5_becomeLike 20 = .ok (.iconst 0, 1) := by decide +kernel
theorem dX5_becomeLike_21 : decode cX5_becomeLike 21 = .ok (.iconst 5, 1) := by decide +kernel
theorem dX5_becomeLike_22 : decode cX5_becomeLike 22 = .ok (.invokestatic 25, 3) := by decide +kernel
theorem dX5_becomeLike_25 : decode cX5_becomeLike 25 = .ok (.aload_n 0, 1) := by decide +kernel
theorem dX5_becomeLike_26 : decode cX5_becomeLike 26 = .ok (.getfield 34, 3) := by decide +kernel
theorem dX5_becomeLike_29 : decode cX5_becomeLike 29 = .ok (.aload_n 1, 1) := by decide +kernel
theorem dX5_becomeLike_30 : decode cX5_becomeLike 30 = .ok (.getfield 34, 3) := by decide +kernel
theorem dX5_becomeLike_33 : decode cX5_becomeLike 33 = .ok (.invokevirtual 65, 3) := by decide +kernel
theorem dX5_becomeLike_36 : decode cX5_becomeLike 36 = .ok (.aload_n 0, 1) := by decide +kernel
theorem dX5_becomeLike_37 : decode cX5_becomeLike 37 = .ok (.aload_n 1, 1) := by decide +kernel
theorem dX5_becomeLike_38 : decode cX5_becomeLike 38 = .ok (.getfield 38, 3) := by decide +kernel
theorem dX5_becomeLike_41 : decode cX5_becomeLike 41 = .ok (.putfield 38, 3) := by decide +kernel
theorem dX5_becomeLike_44 : decode cX5_becomeLike 44 = .ok (.aload_n 0, 1) := by decide +kernel
theorem dX5_becomeLike_45 : decode cX5_becomeLike 45 = .ok (.aload_n 1, 1) := by decide +kernel
theorem dX5_becomeLike_46 : decode cX5_becomeLike 46 = .ok (.getfield 42, 3) := by decide +kernel
theorem dX5_becomeLike_49 : decode cX5_becomeLike 49 = .ok (.putfield 42, 3) := by decide +kernel
theorem dX5_becomeLike_52 : decode cX5_becomeLike 52 = .ok (.aload_n 0, 1) := by decide +kernel
theorem dX5_becomeLike_53 : decode cX5_becomeLike 53 = .ok (.aload_n 1, 1) := by decide +kernel
theorem dX5_becomeLike_54 : decode cX5_becomeLike 54 = .ok (.getfield 45, 3) := by decide +kernel
theorem dX5_becomeLike_57 : decode cX5_becomeLike 57 = .ok (.putfield 45, 3) := by decide +kernel
theorem dX5_becomeLike_60 : decode cX5_becomeLike 60 = .ok (.aload_n 0, 1) := by decide +kernel
theorem dX5_becomeLike_61 : decode cX5_becomeLike 61 = .ok (.getfield 48, 3) := by decide +kernel
theorem dX5_becomeLike_64 : decode cX5_becomeLike 64 = .ok (.aload_n 1, 1) := by decide +kernel
theorem dX5_becomeLike_65 : decode cX5_becomeLike 65 = .ok (.getfield 48, 3) := by decide +kernel
theorem dX5_becomeLike_68 : decode cX5_becomeLike 68 = .ok (.invokevirtual 61, 3) := by decide +kernel
theorem dX5_becomeLike_71 : decode cX5_becomeLike 71 = .ok (.aload_n 0, 1) := by decide +kernel
theorem dX5_becomeLike_72 : decode cX5_becomeLike 72 = .ok (.getfield 51, 3) := by decide +kernel
theorem dX5_becomeLike_75 : decode cX5_becomeLike 75 = .ok (.aload_n 1, 1) := by decide +kernel
theorem dX5_becomeLike_76 : decode cX5_becomeLike 76 = .ok (.getfield 51, 3) := by decide +kernel
theorem dX5_becomeLike_79 : decode cX5_becomeLike 79 = .ok (.invokevirtual 61, 3) := by decide +kernel
theorem dX5_becomeLike_82 : decode cX5_becomeLike 82 = .ok (.aload_n 0, 1) := by decide +kernel
theorem dX5_becomeLike_83 : decode cX5_becomeLike 83 = .ok (.aload_n 1, 1) := by decide +kernel
theorem dX5_becomeLike_84 : decode cX5_becomeLike 84 = .ok (.getfield 54, 3) := by decide +kernel
theorem dX5_becomeLike_87 : decode cX5_becomeLike 87 = .ok (.putfield 54, 3) := by decide +kernel
theorem dX5_becomeLike_90 : decode cX5_becomeLike 90 = .ok (.aload_n 0, 1) := by decide +kernel
theorem dX5_becomeLike_91 : decode cX5_becomeLike 91 = .ok (.aload_n 1, 1) := by decide +kernel
theorem dX5_becomeLike_92 : decode cX5_becomeLike 92 = .ok (.getfield 58, 3) := by decide +kernel
theorem dX5_becomeLike_95 : decode cX5_becomeLike 95 = .ok (.putfield 58, 3) := by decide +kernel
theorem dX5_becomeLike_98 : decode cX5_becomeLike 98 = .ok (.return_, 1) := by decide +kernel
theorem dX5_hardness_0 : decode cX5_hardness 0 = .ok (.aload_n 0, 1) := by decide +kernel
theorem dX5_hardness_1 : decode cX5_hardness 1 = .ok (.getfield 18, 3) := by decide +kernel
theorem dX5_hardness_4 : decode cX5_hardness 4 = .ok (.iconst 3, 1) := by decide +kernel
theorem dX5_hardness_5 : decode cX5_hardness 5 = .ok (.iaload, 1) := by decide +kernel
theorem dX5_hardness_6 : decode cX5_hardness 6 = .ok (.ireturn, 1) := by decide +kernel
theorem dX5_driftX_0 : decode cX5_driftX 0 = .ok (.aload_n 0, 1) := by decide +kernel
theorem dX5_driftX_1 : decode cX5_driftX 1 = .ok (.getfield 18, 3) := by decide +kernel
theorem dX5_driftX_4 : decode cX5_driftX 4 = .ok (.iconst 0, 1) := by decide +kernel
theorem dX5_driftX_5 : decode cX5_driftX 5 = .ok (.iaload, 1) := by decide +kernel
theorem dX5_driftX_6 : decode cX5_driftX 6 = .ok (.bipush 50, 2) := by decide +kernel
theorem dX5_driftX_8 : decode cX5_driftX 8 = .ok (.isub, 1) := by decide +kernel
theorem dX5_driftX_9 : decode cX5_driftX 9 = .ok (.aload_n 0, 1) := by decide +kernel
theorem dX5_driftX_10 : decode cX5_driftX 10 = .ok (.getfield 18, 3) := by decide +kernel
theorem dX5_driftX_13 : decode cX5_driftX 13 = .ok (.iconst 1, 1) := by decide +kernel
theorem dX5_driftX_14 : decode cX5_driftX 14 = .ok (.iaload, 1) := by decide +kernel
theorem dX5_driftX_15 : decode cX5_driftX 15 = .ok (.imul, 1) := by decide +kernel
theorem dX5_driftX_16 : decode cX5_driftX 16 = .ok (.bipush 50, 2) := by decide +kernel
theorem dX5_driftX_18 : decode cX5_driftX 18 = .ok (.idiv, 1) := by decide +kernel
theorem dX5_driftX_19 : decode cX5_driftX 19 = .ok (.ireturn, 1) := by decide +kernel
theorem dX5_driftY_0 : decode cX5_driftY 0 = .ok (.aload_n 0, 1) := by decide +kernel
theorem dX5_driftY_1 : decode cX5_driftY 1 = .ok (.getfield 18, 3) := by decide +kernel
theorem dX5_driftY_4 : decode cX5_driftY 4 = .ok (.iconst 0, 1) := by decide +kernel
theorem dX5_driftY_5 : decode cX5_driftY 5 = .ok (.iaload, 1) := by decide +kernel
theorem dX5_driftY_6 : decode cX5_driftY 6 = .ok (.bipush 50, 2) := by decide +kernel
theorem dX5_driftY_8 : decode cX5_driftY 8 = .ok (.isub, 1) := by decide +kernel
theorem dX5_driftY_9 : decode cX5_driftY 9 = .ok (.aload_n 0, 1) := by decide +kernel
theorem dX5_driftY_10 : decode cX5_driftY 10 = .ok (.getfield 18, 3) := by decide +kernel
theorem dX5_driftY_13 : decode cX5_driftY 13 = .ok (.iconst 2, 1) := by decide +kernel
theorem dX5_driftY_14 : decode cX5_driftY 14 = .ok (.iaload, 1) := by decide +kernel
theorem dX5_driftY_15 : decode cX5_driftY 15 = .ok (.imul, 1) := by decide +kernel
theorem dX5_driftY_16 : decode cX5_driftY 16 = .ok (.bipush 50, 2) := by decide +kernel
theorem dX5_driftY_18 : decode cX5_driftY 18 = .ok (.idiv, 1) := by decide +kernel
theorem dX5_driftY_19 : decode cX5_driftY 19 = .ok (.ireturn, 1) := by decide +kernel
set_option maxRecDepth 20000 in
theorem ggX5_shiftX_X5_driftX : GoodIn wsX5_shiftX wsX5_driftX := goodIn_r _ [6, 7, 8, 9, 10, 11, 12, 13, 14, 15, 16, 17] (by decide +kernel) (by decide +kernel)
set_option maxRecDepth 20000 in
theorem gX5_shiftX_X5_driftX : GoodIn wsX5_shiftX (wsV RX5 68 RX5 yX5_driftX wsX5_driftX) := goodIn_app (goodIn_of _ (by decide +kernel)) ggX5_shiftX_X5_driftX
theorem dX5_shiftX_0 : decode cX5_shiftX 0 = .ok (.aload_n 0, 1) := by decide +kernel
theorem dX5_shiftX_1 : decode cX5_shiftX 1 = .ok (.getfield 38, 3) := by decide +kernel
theorem dX5_shiftX_4 : decode cX5_shiftX 4 = .ok (.aload_n 0, 1) := by decide +kernel
theorem dX5_shiftX_5 : decode cX5_shiftX 5 = .ok (.invokevirtual 68, 3) := by decide +kernel
theorem dX5_shiftX_8 : decode cX5_shiftX 8 = .ok (.iadd, 1) := by decide +kernel
theorem dX5_shiftX_9 : decode cX5_shiftX 9 = .ok (.ireturn, 1) := by decide +kernel
set_option maxRecDepth 20000 in
theorem ggX5_shiftY_X5_driftY : GoodIn wsX5_shiftY wsX5_driftY := goodIn_r _ [6, 7, 8, 9, 10, 11, 12, 13, 14, 15, 16, 17] (by decide +kernel) (by decide +kernel)
set_option maxRecDepth 20000 in
theorem gX5_shiftY_X5_driftY : GoodIn wsX5_shiftY (wsV RX5 72 RX5 yX5_driftY wsX5_driftY) := goodIn_app (goodIn_of _ (by decide +kernel)) ggX5_shiftY_X5_driftY
theorem dX5_shiftY_0 : decode cX5_shiftY 0 = .ok (.aload_n 0, 1) := by decide +kernel
theorem dX5_shiftY_1 : decode cX5_shiftY 1 = .ok (.getfield 42, 3) := by decide +kernel
theorem dX5_shiftY_4 : decode cX5_shiftY 4 = .ok (.aload_n 0, 1) := by decide +kernel
theorem dX5_shiftY_5 : decode cX5_shiftY 5 = .ok (.invokevirtual 72, 3) := by decide +kernel
theorem dX5_shiftY_8 : decode cX5_shiftY 8 = .ok (.iadd, 1) := by decide +kernel
theorem dX5_shiftY_9 : decode cX5_shiftY 9 = .ok (.ireturn, 1) := by decide +kernel
theorem dX5_dry_0 : decode cX5_dry 0 = .ok (.aload_n 0, 1) := by decide +kernel
theorem dX5_dry_1 : decode cX5_dry 1 = .ok (.getfield 18, 3) := by decide +kernel
theorem dX5_dry_4 : decode cX5_dry 4 = .ok (.iconst 0, 1) := by decide +kernel
theorem dX5_dry_5 : decode cX5_dry 5 = .ok (.iconst 0, 1) := by decide +kernel
theorem dX5_dry_6 : decode cX5_dry 6 = .ok (.aload_n 0, 1) := by decide +kernel
theorem dX5_dry_7 : decode cX5_dry 7 = .ok (.getfield 18, 3) := by decide +kernel
theorem dX5_dry_10 : decode cX5_dry 10 = .ok (.iconst 0, 1) := by decide +kernel
theorem dX5_dry_11 : decode cX5_dry 11 = .ok (.iaload, 1) := by decide +kernel
theorem dX5_dry_12 : decode cX5_dry 12 = .ok (.aload_n 0, 1) := by decide +kernel
theorem dX5_dry_13 : decode cX5_dry 13 = .ok (.getfield 18, 3) := by decide +kernel
theorem dX5_dry_16 : decode cX5_dry 16 = .ok (.iconst 4, 1) := by decide +kernel
theorem dX5_dry_17 : decode cX5_dry 17 = .ok (.iaload, 1) := by decide +kernel
theorem dX5_dry_18 : decode cX5_dry 18 = .ok (.isub, 1) := by decide +kernel
theorem dX5_dry_19 : decode cX5_dry 19 = .ok (.invokestatic 75, 3) := by decide +kernel
theorem dX5_dry_22 : decode cX5_dry 22 = .ok (.iastore, 1) := by decide +kernel
theorem dX5_dry_23 : decode cX5_dry 23 = .ok (.return_, 1) := by decide +kernel
theorem dX5_isTaken_0 : decode cX5_isTaken 0 = .ok (.iload_n 1, 1) := by decide +kernel
theorem dX5_isTaken_1 : decode cX5_isTaken 1 = .ok (.ifCond .ne 10, 3) := by decide +kernel
theorem dX5_isTaken_4 : decode cX5_isTaken 4 = .ok (.aload_n 0, 1) := by decide +kernel
theorem dX5_isTaken_5 : decode cX5_isTaken 5 = .ok (.getfield 54, 3) := by decide +kernel
theorem dX5_isTaken_8 : decode cX5_isTaken 8 = .ok (.goto 7, 3) := by decide +kernel
theorem dX5_isTaken_11 : decode cX5_isTaken 11 = .ok (.aload_n 0, 1) := by decide +kernel
theorem dX5_isTaken_12 : decode cX5_isTaken 12 = .ok (.getfield 58, 3) := by decide +kernel
theorem dX5_isTaken_15 : decode cX5_isTaken 15 = .ok (.ireturn, 1) := by decide +kernel
set_option maxRecDepth 20000 in
theorem ggX5_snapshots_X6_oneIf : GoodIn wsX5_snapshots wsX6_oneIf := goodIn_r _ [5] (by decide +kernel) (by decide +kernel)
set_option maxRecDepth 20000 in
theorem gX5_snapshots_X6_oneIf_n81 : GoodIn wsX5_snapshots (wsX6_oneIf) := ggX5_snapshots_X6_oneIf
theorem dX5_snapshots_0 : decode cX5_snapshots 0 = .ok (.aload_n 0, 1) := by decide +kernel
theorem dX5_snapshots_1 : decode cX5_snapshots 1 = .ok (.getfield 54, 3) := by decide +kernel
theorem dX5_snapshots_4 : decode cX5_snapshots 4 = .ok (.invokestatic 81, 3) := by decide +kernel
theorem dX5_snapshots_7 : decode cX5_snapshots 7 = .ok (.aload_n 0, 1) := by decide +kernel
theorem dX5_snapshots_8 : decode cX5_snapshots 8 = .ok (.getfield 58, 3) := by decide +kernel
theorem dX5_snapshots_11 : decode cX5_snapshots 11 = .ok (.invokestatic 81, 3) := by decide +kernel
theorem dX5_snapshots_14 : decode cX5_snapshots 14 = .ok (.iadd, 1) := by decide +kernel
theorem dX5_snapshots_15 : decode cX5_snapshots 15 = .ok (.ireturn, 1) := by decide +kernel
set_option maxRecDepth 20000 in
theorem ggX5_takeSnapshot_X5_snapshotIn : GoodIn wsX5_takeSnapshot wsX5_snapshotIn := goodIn_r _ [8, 9, 10, 32, 33, 34, 35, 36, 37, 38, 39, 40, 41] (by decide +kernel) (by decide +kernel)
set_option maxRecDepth 20000 in
theorem gX5_takeSnapshot_X5_snapshotIn : GoodIn wsX5_takeSnapshot (wsV RX5 85 RX5 yX5_snapshotIn wsX5_snapshotIn) := goodIn_app (goodIn_of _ (by decide +kernel)) ggX5_takeSnapshot_X5_snapshotIn
set_option maxRecDepth 20000 in
theorem ggX5_takeSnapshot_X0_becomeLike : GoodIn wsX5_takeSnapshot wsX0_becomeLike := goodIn_r _ [15, 16, 17, 18, 19, 20, 21, 22, 23, 24, 25, 26, 27, 28, 29, 30, 31, 42, 43, 44, 45, 46, 47] (by decide +kernel) (by decide +kernel)
set_option maxRecDepth 20000 in
theorem gX5_takeSnapshot_X0_becomeLike : GoodIn wsX5_takeSnapshot (wsV RX5 61 RX0 yX0_becomeLike wsX0_becomeLike) := goodIn_app (goodIn_of _ (by decide +kernel)) ggX5_takeSnapshot_X0_becomeLike
theorem dX5_takeSnapshot_0 : decode cX5_takeSnapshot 0 = .ok (.aload_n 0, 1) := by decide +kernel
theorem dX5_takeSnapshot_1 : decode cX5_takeSnapshot 1 = .ok (.iload_n 1, 1) := by decide +kernel
theorem dX5_takeSnapshot_2 : decode cX5_takeSnapshot 2 = .ok (.invokevirtual 85, 3) := by decide +kernel
theorem dX5_takeSnapshot_5 : decode cX5_takeSnapshot 5 = .ok (.aload_n 0, 1) := by decide +kernel
theorem dX5_takeSnapshot_6 : decode cX5_takeSnapshot 6 = .ok (.getfield 12, 3) := by decide +kernel
theorem dX5_takeSnapshot_9 : decode cX5_takeSnapshot 9 = .ok (.invokevirtual 61, 3) := by decide +kernel
theorem dX5_takeSnapshot_12 : decode cX5_takeSnapshot 12 = .ok (.aload_n 0, 1) := by decide +kernel
theorem dX5_takeSnapshot_13 : decode cX5_takeSnapshot 13 = .ok (.aload_n 0, 1) := by decide +kernel
theorem dX5_takeSnapshot_14 : decode cX5_takeSnapshot 14 = .ok (.getfield 54, 3) := by decide +kernel
theorem dX5_takeSnapshot_17 : decode cX5_takeSnapshot 17 = .ok (.ifCond .ne 7, 3) := by decide +kernel
theorem dX5_takeSnapshot_20 : decode cX5_takeSnapshot 20 = .ok (.iload_n 1, 1) := by decide +kernel
theorem dX5_takeSnapshot_21 : decode cX5_takeSnapshot 21 = .ok (.ifCond .ne 7, 3) := by decide +kernel
theorem dX5_takeSnapshot_24 : decode cX5_takeSnapshot 24 = .ok (.iconst 1, 1) := by decide +kernel
theorem dX5_takeSnapshot_25 : decode cX5_takeSnapshot 25 = .ok (.goto 4, 3) := by decide +kernel
theorem dX5_takeSnapshot_28 : decode cX5_takeSnapshot 28 = .ok (.iconst 0, 1) := by decide +kernel
theorem dX5_takeSnapshot_29 : decode cX5_takeSnapshot 29 = .ok (.putfield 54, 3) := by decide +kernel
theorem dX5_takeSnapshot_32 : decode cX5_takeSnapshot 32 = .ok (.aload_n 0, 1) := by decide +kernel
theorem dX5_takeSnapshot_33 : decode cX5_takeSnapshot 33 = .ok (.aload_n 0, 1) := by decide +kernel
theorem dX5_takeSnapshot_34 : decode cX5_takeSnapshot 34 = .ok (.getfield 58, 3) := by decide +kernel
theorem dX5_takeSnapshot_37 : decode cX5_takeSnapshot 37 = .ok (.ifCond .ne 8, 3) := by decide +kernel
theorem dX5_takeSnapshot_40 : decode cX5_takeSnapshot 40 = .ok (.iload_n 1, 1) := by decide +kernel
theorem dX5_takeSnapshot_41 : decode cX5_takeSnapshot 41 = .ok (.iconst 1, 1) := by decide +kernel
theorem dX5_takeSnapshot_42 : decode cX5_takeSnapshot 42 = .ok (.if_icmp .ne 7, 3) := by decide +kernel
theorem dX5_takeSnapshot_45 : decode cX5_takeSnapshot 45 = .ok (.iconst 1, 1) := by decide +kernel
theorem dX5_takeSnapshot_46 : decode cX5_takeSnapshot 46 = .ok (.goto 4, 3) := by decide +kernel
theorem dX5_takeSnapshot_49 : decode cX5_takeSnapshot 49 = .ok (.iconst 0, 1) := by decide +kernel
theorem dX5_takeSnapshot_50 : decode cX5_takeSnapshot 50 = .ok (.putfield 58, 3) := by decide +kernel
theorem dX5_takeSnapshot_53 : decode cX5_takeSnapshot 53 = .ok (.return_, 1) := by decide +kernel
set_option maxRecDepth 20000 in
theorem ggX5_restoreSnapshot_X5_snapshotIn : GoodIn wsX5_restoreSnapshot wsX5_snapshotIn := goodIn_r _ [6, 7, 8, 30, 31, 32, 33, 34, 35, 36, 37, 38, 39] (by decide +kernel) (by decide +kernel)
set_option maxRecDepth 20000 in
theorem gX5_restoreSnapshot_X5_snapshotIn : GoodIn wsX5_restoreSnapshot (wsV RX5 85 RX5 yX5_snapshotIn wsX5_snapshotIn) := goodIn_app (goodIn_of _ (by decide +kernel)) ggX5_restoreSnapshot_X5_snapshotIn
set_option maxRecDepth 20000 in
theorem ggX5_restoreSnapshot_X0_becomeLike : GoodIn wsX5_restoreSnapshot wsX0_becomeLike := goodIn_r _ [13, 14, 15, 16, 17, 18, 19, 20, 21, 22, 23, 24, 25, 26, 27, 28, 29, 40, 41, 42, 43, 44, 45] (by decide +kernel) (by decide +kernel)
set_option maxRecDepth 20000 in
theorem gX5_restoreSnapshot_X0_becomeLike : GoodIn wsX5_restoreSnapshot (wsV RX5 61 RX0 yX0_becomeLike wsX0_becomeLike) := goodIn_app (goodIn_of _ (by decide +kernel)) ggX5_restoreSnapshot_X0_becomeLike
theorem dX5_restoreSnapshot_0 : decode cX5_restoreSnapshot 0 = .ok (.aload_n 0, 1) := by decide +kernel
theorem dX5_restoreSnapshot_1 : decode cX5_restoreSnapshot 1 = .ok (.getfield 12, 3) := by decide +kernel
theorem dX5_restoreSnapshot_4 : decode cX5_restoreSnapshot 4 = .ok (.aload_n 0, 1) := by decide +kernel
theorem dX5_restoreSnapshot_5 : decode cX5_restoreSnapshot 5 = .ok (.iload_n 1, 1) := by decide +kernel
theorem dX5_restoreSnapshot_6 : decode cX5_restoreSnapshot 6 = .ok (.invokevirtual 85, 3) := by decide +kernel
theorem dX5_restoreSnapshot_9 : decode cX5_restoreSnapshot 9 = .ok (.invokevirtual 61, 3) := by decide +kernel
theorem dX5_restoreSnapshot_12 : decode cX5_restoreSnapshot 12 = .ok (.return_, 1) := by decide +kernel
theorem dX5_snapshotIn_0 : decode cX5_snapshotIn 0 = .ok (.iload_n 1, 1) := by decide +kernel
theorem dX5_snapshotIn_1 : decode cX5_snapshotIn 1 = .ok (.ifCond .ne 10, 3) := by decide +kernel
theorem dX5_snapshotIn_4 : decode cX5_snapshotIn 4 = .ok (.aload_n 0, 1) := by decide +kernel
theorem dX5_snapshotIn_5 : decode cX5_snapshotIn 5 = .ok (.getfield 48, 3) := by decide +kernel
theorem dX5_snapshotIn_8 : decode cX5_snapshotIn 8 = .ok (.goto 7, 3) := by decide +kernel
theorem dX5_snapshotIn_11 : decode cX5_snapshotIn 11 = .ok (.aload_n 0, 1) := by decide +kernel
theorem dX5_snapshotIn_12 : decode cX5_snapshotIn 12 = .ok (.getfield 51, 3) := by decide +kernel
theorem dX5_snapshotIn_15 : decode cX5_snapshotIn 15 = .ok (.areturn, 1) := by decide +kernel
end
section
set_option maxRecDepth 20000 in
theorem ggX6_init_X5_init : GoodIn wsX6_init wsX5_init := goodIn_r _ [23, 24, 2, 3, 25, 26, 27, 28, 29, 30, 31, 32, 33, 34, 35, 36, 37, 38, 39, 40, 41, 42, 43, 44, 45, 46, 47, 48, 49, 50, 17, 18, 51, 52, 53, 54, 55, 56, 57, 58, 59, 60, 61, 62, 63, 64, 65, 66, 67, 115, 116, 117, 118, 119, 90, 91, 92, 93, 94, 95, 96, 97, 98, 99, 120, 121, 122, 114] (by decide +kernel) (by decide +kernel)
set_option maxRecDepth 20000 in
theorem gX6_init_X5_init : GoodIn wsX6_init (wsX5_init) := ggX6_init_X5_init
set_option maxRecDepth 20000 in
theorem ggX6_init_X2_init : GoodIn wsX6_init wsX2_init := goodIn_r _ [70, 71, 2, 3, 72, 73, 5, 6, 74, 75, 76, 22, 23, 24, 25, 26, 27, 28, 29, 30, 31, 32, 33, 34, 35, 36, 37, 38, 39, 40, 41, 42, 43, 44, 45, 46, 47, 48, 49, 50, 17, 18, 51, 52, 53, 54, 55, 56, 57, 58, 59, 60, 61, 62, 63, 64, 65, 66, 67, 105, 106, 107, 90, 91, 92, 93, 94, 95, 96, 97, 98, 99, 115, 116, 117, 118, 119, 120, 121, 122, 114] (by decide +kernel) (by decide +kernel)
set_option maxRecDepth 20000 in
theorem gX6_init_X2_init : GoodIn wsX6_init (wsX2_init) := ggX6_init_X2_init
set_option maxRecDepth 20000 in
theorem ggX6_init_X4_init : GoodIn wsX6_init wsX4_init := goodIn_r _ [79, 80, 2, 3, 29, 81, 82, 83, 84, 85, 17, 18, 86, 87, 88, 57, 58, 59, 60, 108, 109, 110, 111, 112, 113, 114] (by decide +kernel) (by decide +kernel)
set_option maxRecDepth 20000 in
theorem gX6_init_X4_init : GoodIn wsX6_init (wsX4_init) := ggX6_init_X4_init
set_option maxRecDepth 20000 in
theorem ggX6_init_X1_init : GoodIn wsX6_init wsX1_init := goodIn_r _ [58, 59, 2, 3, 29, 60, 114] (by decide +kernel) (by decide +kernel)
set_option maxRecDepth 20000 in
theorem gX6_init_X1_init : GoodIn wsX6_init (wsX1_init) := ggX6_init_X1_init
theorem dX6_init_0 : decode cX6_init 0 = .ok (.aload_n 0, 1) := by decide +kernel
theorem dX6_init_1 : decode cX6_init 1 = .ok (.invokespecial 1, 3) := by decide +kernel
theorem dX6_init_4 : decode cX6_init 4 = .ok (.aload_n 0, 1) := by decide +kernel
theorem dX6_init_5 : decode cX6_init 5 = .ok (.new 7, 3) := by decide +kernel
theorem dX6_init_8 : decode cX6_init 8 = .ok (.dup, 1) := by decide +kernel
theorem dX6_init_9 : decode cX6_init 9 = .ok (.invokespecial 9, 3) := by decide +kernel
theorem dX6_init_12 : decode cX6_init 12 = .ok (.putfield 10, 3) := by decide +kernel
theorem dX6_init_15 : decode cX6_init 15 = .ok (.aload_n 0, 1) := by decide +kernel
theorem dX6_init_16 : decode cX6_init 16 = .ok (.new 16, 3) := by decide +kernel
theorem dX6_init_19 : decode cX6_init 19 = .ok (.dup, 1) := by decide +kernel
theorem dX6_init_20 : decode cX6_init 20 = .ok (.invokespecial 18, 3) := by decide +kernel
theorem dX6_init_23 : decode cX6_init 23 = .ok (.putfield 19, 3) := by decide +kernel
theorem dX6_init_26 : decode cX6_init 26 = .ok (.aload_n 0, 1) := by decide +kernel
theorem dX6_init_27 : decode cX6_init 27 = .ok (.new 23, 3) := by decide +kernel
theorem dX6_init_30 : decode cX6_init 30 = .ok (.dup, 1) := by decide +kernel
theorem dX6_init_31 : decode cX6_init 31 = .ok (.invokespecial 25, 3) := by decide +kernel
theorem dX6_init_34 : decode cX6_init 34 = .ok (.putfield 26, 3) := by decide +kernel
theorem dX6_init_37 : decode cX6_init 37 = .ok (.aload_n 0, 1) := by decide +kernel
theorem dX6_init_38 : decode cX6_init 38 = .ok (.new 30, 3) := by decide +kernel
theorem dX6_init_41 : decode cX6_init 41 = .ok (.dup, 1) := by decide +kernel
theorem dX6_init_42 : decode cX6_init 42 = .ok (.invokespecial 32, 3) := by decide +kernel
theorem dX6_init_45 : decode cX6_init 45 = .ok (.putfield 33, 3) := by decide +kernel
theorem dX6_init_48 : decode cX6_init 48 = .ok (.aload_n 0, 1) := by decide +kernel
theorem dX6_init_49 : decode cX6_init 49 = .ok (.new 30, 3) := by decide +kernel
theorem dX6_init_52 : decode cX6_init 52 = .ok (.dup, 1) := by decide +kernel
theorem dX6_init_53 : decode cX6_init 53 = .ok (.invokespecial 32, 3) := by decide +kernel
theorem dX6_init_56 : decode cX6_init 56 = .ok (.putfield 37, 3) := by decide +kernel
theorem dX6_init_59 : decode cX6_init 59 = .ok (.return_, 1) := by decide +kernel
set_option maxRecDepth 20000 in
theorem ggX6_paint_X6_isPlace : GoodIn wsX6_paint wsX6_isPlace := goodIn_r _ [7] (by decide +kernel) (by decide +kernel)
set_option maxRecDepth 20000 in
theorem gX6_paint_X6_isPlace : GoodIn wsX6_paint (va_wsS RX6 40 yX6_isPlace wsX6_isPlace) := goodIn_app (goodIn_of _ (by decide +kernel)) ggX6_paint_X6_isPlace
set_option maxRecDepth 20000 in
theorem ggX6_paint_X6_isWithin : GoodIn wsX6_paint wsX6_isWithin := goodIn_r _ [10] (by decide +kernel) (by decide +kernel)
set_option maxRecDepth 20000 in
theorem gX6_paint_X6_isWithin : GoodIn wsX6_paint (va_wsS RX6 44 yX6_isWithin wsX6_isWithin) := goodIn_app (goodIn_of _ (by decide +kernel)) ggX6_paint_X6_isWithin
set_option maxRecDepth 20000 in
theorem ggX6_paint_X2_keep : GoodIn wsX6_paint wsX2_keep := goodIn_r _ [15, 16, 17, 18, 19, 20, 21, 22, 23, 24, 25, 26, 27, 28, 29, 30, 31, 32, 33, 34, 35, 36, 37, 38, 39, 40, 41, 42, 43, 44, 45, 46, 47, 48, 49, 50, 51, 52, 53, 54, 55, 56, 57, 58, 59, 60, 61, 62, 63, 64, 65, 66, 67, 68, 102, 103, 104, 92, 93, 94, 95, 96, 97, 98, 99, 100, 101, 105, 106, 107, 108, 109, 110, 111, 112, 113] (by decide +kernel) (by decide +kernel)
set_option maxRecDepth 20000 in
theorem gX6_paint_X2_keep : GoodIn wsX6_paint (wsV RX6 48 RX2 yX2_keep wsX2_keep) := goodIn_app (goodIn_of _ (by decide +kernel)) ggX6_paint_X2_keep
set_option maxRecDepth 20000 in
theorem ggX6_paint_X0_fillArea : GoodIn wsX6_paint wsX0_fillArea := goodIn_r _ [72, 47, 48, 73, 74, 75, 45, 76, 77, 78, 79, 56, 80, 58, 5, 6, 7, 81, 82, 83, 84, 85, 86, 105, 106, 107, 108, 109, 110] (by decide +kernel) (by decide +kernel)
set_option maxRecDepth 20000 in
theorem gX6_paint_X0_fillArea : GoodIn wsX6_paint (wsV RX6 56 RX0 yX0_fillArea wsX0_fillArea) := goodIn_app (goodIn_of _ (by decide +kernel)) ggX6_paint_X0_fillArea
theorem dX6_paint_0 : decode cX6_paint 0 = .ok (.iload_n 1, 1) := by decide +kernel
theorem dX6_paint_1 : decode cX6_paint 1 = .ok (.iload_n 2, 1) := by decide +kernel
theorem dX6_paint_2 : decode cX6_paint 2 = .ok (.invokestatic 40, 3) := by decide +kernel
theorem dX6_paint_5 : decode cX6_paint 5 = .ok (.ifCond .eq 38, 3) := by decide +kernel
theorem dX6_paint_8 : decode cX6_paint 8 = .ok (.iload_n 3, 1) := by decide +kernel
theorem dX6_paint_9 : decode cX6_paint 9 = .ok (.iconst 1, 1) := by decide +kernel
theorem dX6_paint_10 : decode cX6_paint 10 = .ok (.bipush 16, 2) := by decide +kernel
theorem dX6_paint_12 : decode cX6_paint 12 = .ok (.iload_n 1, 1) := by decide +kernel
theorem dX6_paint_13 : decode cX6_paint 13 = .ok (.isub, 1) := by decide +kernel
theorem dX6_paint_14 : decode cX6_paint 14 = .ok (.invokestatic 44, 3) := by decide +kernel
theorem dX6_paint_17 : decode cX6_paint 17 = .ok (.ifCond .eq 26, 3) := by decide +kernel
theorem dX6_paint_20 : decode cX6_paint 20 = .ok (.iload 4, 2) := by decide +kernel
theorem dX6_paint_22 : decode cX6_paint 22 = .ok (.iconst 1, 1) := by decide +kernel
theorem dX6_paint_23 : decode cX6_paint 23 = .ok (.bipush 12, 2) := by decide +kernel
theorem dX6_paint_25 : decode cX6_paint 25 = .ok (.iload_n 2, 1) := by decide +kernel
theorem dX6_paint_26 : decode cX6_paint 26 = .ok (.isub, 1) := by decide +kernel
theorem dX6_paint_27 : decode cX6_paint 27 = .ok (.invokestatic 44, 3) := by decide +kernel
theorem dX6_paint_30 : decode cX6_paint 30 = .ok (.ifCond .eq 13, 3) := by decide +kernel
theorem dX6_paint_33 : decode cX6_paint 33 = .ok (.iload 5, 2) := by decide +kernel
theorem dX6_paint_35 : decode cX6_paint 35 = .ok (.iconst 0, 1) := by decide +kernel
theorem dX6_paint_36 : decode cX6_paint 36 = .ok (.iconst 2, 1) := by decide +kernel
theorem dX6_paint_37 : decode cX6_paint 37 = .ok (.invokestatic 44, 3) := by decide +kernel
theorem dX6_paint_40 : decode cX6_paint 40 = .ok (.ifCond .ne 7, 3) := by decide +kernel
theorem dX6_paint_43 : decode cX6_paint 43 = .ok (.sipush (-1001), 3) := by decide +kernel
theorem dX6_paint_46 : decode cX6_paint 46 = .ok (.ireturn, 1) := by decide +kernel
theorem dX6_paint_47 : decode cX6_paint 47 = .ok (.aload_n 0, 1) := by decide +kernel
theorem dX6_paint_48 : decode cX6_paint 48 = .ok (.getfield 19, 3) := by decide +kernel
theorem dX6_paint_51 : decode cX6_paint 51 = .ok (.aload_n 0, 1) := by decide +kernel
theorem dX6_paint_52 : decode cX6_paint 52 = .ok (.getfield 10, 3) := by decide +kernel
theorem dX6_paint_55 : decode cX6_paint 55 = .ok (.invokevirtual 48, 3) := by decide +kernel
theorem dX6_paint_58 : decode cX6_paint 58 = .ok (.aload_n 0, 1) := by decide +kernel
theorem dX6_paint_59 : decode cX6_paint 59 = .ok (.getfield 10, 3) := by decide +kernel
theorem dX6_paint_62 : decode cX6_paint 62 = .ok (.getfield 52, 3) := by decide +kernel
theorem dX6_paint_65 : decode cX6_paint 65 = .ok (.iload_n 1, 1) := by decide +kernel
theorem dX6_paint_66 : decode cX6_paint 66 = .ok (.iload_n 2, 1) := by decide +kernel
theorem dX6_paint_67 : decode cX6_paint 67 = .ok (.iload_n 3, 1) := by decide +kernel
theorem dX6_paint_68 : decode cX6_paint 68 = .ok (.iload 4, 2) := by decide +kernel
theorem dX6_paint_70 : decode cX6_paint 70 = .ok (.iload 5, 2) := by decide +kernel
theorem dX6_paint_72 : decode cX6_paint 72 = .ok (.invokevirtual 56, 3) := by decide +kernel
theorem dX6_paint_75 : decode cX6_paint 75 = .ok (.ireturn, 1) := by decide +kernel
set_option maxRecDepth 20000 in
theorem ggX6_cut_X6_isWithin : GoodIn wsX6_cut wsX6_isWithin := goodIn_r _ [8] (by decide +kernel) (by decide +kernel)
set_option maxRecDepth 20000 in
theorem gX6_cut_X6_isWithin : GoodIn wsX6_cut (va_wsS RX6 44 yX6_isWithin wsX6_isWithin) := goodIn_app (goodIn_of _ (by decide +kernel)) ggX6_cut_X6_isWithin
set_option maxRecDepth 20000 in
theorem ggX6_cut_X2_keep : GoodIn wsX6_cut wsX2_keep := goodIn_r _ [13, 14, 15, 16, 17, 18, 19, 20, 21, 22, 23, 24, 25, 26, 27, 28, 29, 30, 31, 32, 33, 34, 35, 36, 37, 38, 39, 40, 41, 42, 43, 44, 45, 46, 47, 48, 49, 50, 51, 52, 53, 54, 55, 56, 57, 58, 59, 60, 61, 62, 63, 64, 65, 66, 118, 119, 120, 103, 104, 105, 106, 107, 108, 109, 110, 111, 112, 113, 114, 115, 116, 117, 121, 122, 123, 124] (by decide +kernel) (by decide +kernel)
set_option maxRecDepth 20000 in
theorem gX6_cut_X2_keep : GoodIn wsX6_cut (wsV RX6 48 RX2 yX2_keep wsX2_keep) := goodIn_app (goodIn_of _ (by decide +kernel)) ggX6_cut_X2_keep
set_option maxRecDepth 20000 in
theorem ggX6_cut_X0_cutAnew : GoodIn wsX6_cut wsX0_cutAnew := goodIn_r _ [70, 47, 46, 49, 48, 51, 52, 53, 54, 55, 56, 57, 29, 30, 31, 71, 72, 73, 74, 75, 76, 77, 43, 78, 45, 79, 80, 81, 82, 83, 84, 85, 86, 113, 114, 115, 116, 117, 121] (by decide +kernel) (by decide +kernel)
set_option maxRecDepth 20000 in
theorem gX6_cut_X0_cutAnew : GoodIn wsX6_cut (wsV RX6 62 RX0 yX0_cutAnew wsX0_cutAnew) := goodIn_app (goodIn_of _ (by decide +kernel)) ggX6_cut_X0_cutAnew
set_option maxRecDepth 20000 in
theorem ggX6_cut_X1_size : GoodIn wsX6_cut wsX1_size := goodIn_r _ [90, 56, 91, 92, 93, 94, 95, 96, 97, 121] (by decide +kernel) (by decide +kernel)
set_option maxRecDepth 20000 in
theorem gX6_cut_X1_size : GoodIn wsX6_cut (wsV RX6 69 RX1 yX1_size wsX1_size) := goodIn_app (goodIn_of _ (by decide +kernel)) ggX6_cut_X1_size
theorem dX6_cut_0 : decode cX6_cut 0 = .ok (.iload_n 1, 1) := by decide +kernel
theorem dX6_cut_1 : decode cX6_cut 1 = .ok (.iconst 0, 1) := by decide +kernel
theorem dX6_cut_2 : decode cX6_cut 2 = .ok (.iconst 4, 1) := by decide +kernel
theorem dX6_cut_3 : decode cX6_cut 3 = .ok (.invokestatic 44, 3) := by decide +kernel
theorem dX6_cut_6 : decode cX6_cut 6 = .ok (.ifCond .ne 7, 3) := by decide +kernel
theorem dX6_cut_9 : decode cX6_cut 9 = .ok (.sipush (-1001), 3) := by decide +kernel
theorem dX6_cut_12 : decode cX6_cut 12 = .ok (.ireturn, 1) := by decide +kernel
theorem dX6_cut_13 : decode cX6_cut 13 = .ok (.aload_n 0, 1) := by decide +kernel
theorem dX6_cut_14 : decode cX6_cut 14 = .ok (.getfield 19, 3) := by decide +kernel
theorem dX6_cut_17 : decode cX6_cut 17 = .ok (.aload_n 0, 1) := by decide +kernel
theorem dX6_cut_18 : decode cX6_cut 18 = .ok (.getfield 10, 3) := by decide +kernel
theorem dX6_cut_21 : decode cX6_cut 21 = .ok (.invokevirtual 48, 3) := by decide +kernel
theorem dX6_cut_24 : decode cX6_cut 24 = .ok (.aload_n 0, 1) := by decide +kernel
theorem dX6_cut_25 : decode cX6_cut 25 = .ok (.getfield 10, 3) := by decide +kernel
theorem dX6_cut_28 : decode cX6_cut 28 = .ok (.getfield 52, 3) := by decide +kernel
theorem dX6_cut_31 : decode cX6_cut 31 = .ok (.iload_n 1, 1) := by decide +kernel
theorem dX6_cut_32 : decode cX6_cut 32 = .ok (.invokevirtual 62, 3) := by decide +kernel
theorem dX6_cut_35 : decode cX6_cut 35 = .ok (.aload_n 0, 1) := by decide +kernel
theorem dX6_cut_36 : decode cX6_cut 36 = .ok (.getfield 10, 3) := by decide +kernel
theorem dX6_cut_39 : decode cX6_cut 39 = .ok (.getfield 52, 3) := by decide +kernel
theorem dX6_cut_42 : decode cX6_cut 42 = .ok (.getfield 66, 3) := by decide +kernel
theorem dX6_cut_45 : decode cX6_cut 45 = .ok (.invokevirtual 69, 3) := by decide +kernel
theorem dX6_cut_48 : decode cX6_cut 48 = .ok (.ireturn, 1) := by decide +kernel
set_option maxRecDepth 20000 in
theorem ggX6_carve_X6_isWithin : GoodIn wsX6_carve wsX6_isWithin := goodIn_r _ [9] (by decide +kernel) (by decide +kernel)
set_option maxRecDepth 20000 in
theorem gX6_carve_X6_isWithin : GoodIn wsX6_carve (va_wsS RX6 44 yX6_isWithin wsX6_isWithin) := goodIn_app (goodIn_of _ (by decide +kernel)) ggX6_carve_X6_isWithin
set_option maxRecDepth 20000 in
theorem ggX6_carve_X6_isPlace : GoodIn wsX6_carve wsX6_isPlace := goodIn_r _ [12] (by decide +kernel) (by decide +kernel)
set_option maxRecDepth 20000 in
theorem gX6_carve_X6_isPlace : GoodIn wsX6_carve (va_wsS RX6 40 yX6_isPlace wsX6_isPlace) := goodIn_app (goodIn_of _ (by decide +kernel)) ggX6_carve_X6_isPlace
set_option maxRecDepth 20000 in
theorem ggX6_carve_X2_keep : GoodIn wsX6_carve wsX2_keep := goodIn_r _ [17, 18, 19, 20, 21, 22, 23, 24, 25, 26, 27, 28, 29, 30, 31, 32, 33, 34, 35, 36, 37, 38, 39, 40, 41, 42, 43, 44, 45, 46, 47, 48, 49, 50, 51, 52, 53, 54, 55, 56, 57, 58, 59, 60, 61, 62, 63, 64, 65, 66, 67, 68, 69, 70, 106, 107, 108, 91, 92, 93, 94, 95, 96, 97, 98, 99, 100, 101, 102, 103, 104, 105, 109, 110, 111, 112] (by decide +kernel) (by decide +kernel)
set_option maxRecDepth 20000 in
theorem gX6_carve_X2_keep : GoodIn wsX6_carve (wsV RX6 48 RX2 yX2_keep wsX2_keep) := goodIn_app (goodIn_of _ (by decide +kernel)) ggX6_carve_X2_keep
set_option maxRecDepth 20000 in
theorem ggX6_carve_X1_has : GoodIn wsX6_carve wsX1_has := goodIn_r _ [74, 60, 11, 8, 12, 109] (by decide +kernel) (by decide +kernel)
set_option maxRecDepth 20000 in
theorem gX6_carve_X1_has : GoodIn wsX6_carve (wsV RX6 76 RX1 yX1_has wsX1_has) := goodIn_app (goodIn_of _ (by decide +kernel)) ggX6_carve_X1_has
set_option maxRecDepth 20000 in
theorem ggX6_carve_X6_oneIf : GoodIn wsX6_carve wsX6_oneIf := goodIn_r _ [77] (by decide +kernel) (by decide +kernel)
set_option maxRecDepth 20000 in
theorem gX6_carve_X6_oneIf : GoodIn wsX6_carve (va_wsS RX6 79 yX6_oneIf wsX6_oneIf) := goodIn_app (goodIn_of _ (by decide +kernel)) ggX6_carve_X6_oneIf
set_option maxRecDepth 20000 in
theorem ggX6_carve_X1_put : GoodIn wsX6_carve wsX1_put := goodIn_r _ [81, 60, 11, 8, 12, 109] (by decide +kernel) (by decide +kernel)
set_option maxRecDepth 20000 in
theorem gX6_carve_X1_put : GoodIn wsX6_carve (wsV RX6 83 RX1 yX1_put wsX1_put) := goodIn_app (goodIn_of _ (by decide +kernel)) ggX6_carve_X1_put
set_option maxRecDepth 20000 in
theorem ggX6_carve_X0_clearWear : GoodIn wsX6_carve wsX0_clearWear := goodIn_r _ [85, 53, 11, 8, 12, 101, 102, 103, 104, 105] (by decide +kernel) (by decide +kernel)
set_option maxRecDepth 20000 in
theorem gX6_carve_X0_clearWear : GoodIn wsX6_carve (wsV RX6 87 RX0 yX0_clearWear wsX0_clearWear) := goodIn_app (goodIn_of _ (by decide +kernel)) ggX6_carve_X0_clearWear
theorem dX6_carve_0 : decode cX6_carve 0 = .ok (.iload_n 1, 1) := by decide +kernel
theorem dX6_carve_1 : decode cX6_carve 1 = .ok (.iconst 0, 1) := by decide +kernel
theorem dX6_carve_2 : decode cX6_carve 2 = .ok (.iconst 1, 1) := by decide +kernel
theorem dX6_carve_3 : decode cX6_carve 3 = .ok (.invokestatic 44, 3) := by decide +kernel
theorem dX6_carve_6 : decode cX6_carve 6 = .ok (.ifCond .eq 21, 3) := by decide +kernel
theorem dX6_carve_9 : decode cX6_carve 9 = .ok (.iload_n 2, 1) := by decide +kernel
theorem dX6_carve_10 : decode cX6_carve 10 = .ok (.iload_n 3, 1) := by decide +kernel
theorem dX6_carve_11 : decode cX6_carve 11 = .ok (.invokestatic 40, 3) := by decide +kernel
theorem dX6_carve_14 : decode cX6_carve 14 = .ok (.ifCond .eq 13, 3) := by decide +kernel
theorem dX6_carve_17 : decode cX6_carve 17 = .ok (.iload 4, 2) := by decide +kernel
theorem dX6_carve_19 : decode cX6_carve 19 = .ok (.iconst 0, 1) := by decide +kernel
theorem dX6_carve_20 : decode cX6_carve 20 = .ok (.iconst 1, 1) := by decide +kernel
theorem dX6_carve_21 : decode cX6_carve 21 = .ok (.invokestatic 44, 3) := by decide +kernel
theorem dX6_carve_24 : decode cX6_carve 24 = .ok (.ifCond .ne 7, 3) := by decide +kernel
theorem dX6_carve_27 : decode cX6_carve 27 = .ok (.sipush (-1001), 3) := by decide +kernel
theorem dX6_carve_30 : decode cX6_carve 30 = .ok (.ireturn, 1) := by decide +kernel
theorem dX6_carve_31 : decode cX6_carve 31 = .ok (.aload_n 0, 1) := by decide +kernel
theorem dX6_carve_32 : decode cX6_carve 32 = .ok (.getfield 19, 3) := by decide +kernel
theorem dX6_carve_35 : decode cX6_carve 35 = .ok (.aload_n 0, 1) := by decide +kernel
theorem dX6_carve_36 : decode cX6_carve 36 = .ok (.getfield 10, 3) := by decide +kernel
theorem dX6_carve_39 : decode cX6_carve 39 = .ok (.invokevirtual 48, 3) := by decide +kernel
theorem dX6_carve_42 : decode cX6_carve 42 = .ok (.iload_n 1, 1) := by decide +kernel
theorem dX6_carve_43 : decode cX6_carve 43 = .ok (.ifCond .ne 16, 3) := by decide +kernel
theorem dX6_carve_46 : decode cX6_carve 46 = .ok (.aload_n 0, 1) := by decide +kernel
theorem dX6_carve_47 : decode cX6_carve 47 = .ok (.getfield 10, 3) := by decide +kernel
theorem dX6_carve_50 : decode cX6_carve 50 = .ok (.getfield 52, 3) := by decide +kernel
theorem dX6_carve_53 : decode cX6_carve 53 = .ok (.getfield 73, 3) := by decide +kernel
theorem dX6_carve_56 : decode cX6_carve 56 = .ok (.goto 13, 3) := by decide +kernel
theorem dX6_carve_59 : decode cX6_carve 59 = .ok (.aload_n 0, 1) := by decide +kernel
theorem dX6_carve_60 : decode cX6_carve 60 = .ok (.getfield 10, 3) := by decide +kernel
theorem dX6_carve_63 : decode cX6_carve 63 = .ok (.getfield 52, 3) := by decide +kernel
theorem dX6_carve_66 : decode cX6_carve 66 = .ok (.getfield 66, 3) := by decide +kernel
theorem dX6_carve_69 : decode cX6_carve 69 = .ok (.astore 5, 2) := by decide +kernel
theorem dX6_carve_71 : decode cX6_carve 71 = .ok (.aload 5, 2) := by decide +kernel
theorem dX6_carve_73 : decode cX6_carve 73 = .ok (.iload_n 2, 1) := by decide +kernel
theorem dX6_carve_74 : decode cX6_carve 74 = .ok (.iload_n 3, 1) := by decide +kernel
theorem dX6_carve_75 : decode cX6_carve 75 = .ok (.invokevirtual 76, 3) := by decide +kernel
theorem dX6_carve_78 : decode cX6_carve 78 = .ok (.invokestatic 79, 3) := by decide +kernel
theorem dX6_carve_81 : decode cX6_carve 81 = .ok (.istore 6, 2) := by decide +kernel
theorem dX6_carve_83 : decode cX6_carve 83 = .ok (.aload 5, 2) := by decide +kernel
theorem dX6_carve_85 : decode cX6_carve 85 = .ok (.iload_n 2, 1) := by decide +kernel
theorem dX6_carve_86 : decode cX6_carve 86 = .ok (.iload_n 3, 1) := by decide +kernel
theorem dX6_carve_87 : decode cX6_carve 87 = .ok (.iload 4, 2) := by decide +kernel
theorem dX6_carve_89 : decode cX6_carve 89 = .ok (.iconst 1, 1) := by decide +kernel
theorem dX6_carve_90 : decode cX6_carve 90 = .ok (.if_icmp .ne 7, 3) := by decide +kernel
theorem dX6_carve_93 : decode cX6_carve 93 = .ok (.iconst 1, 1) := by decide +kernel
theorem dX6_carve_94 : decode cX6_carve 94 = .ok (.goto 4, 3) := by decide +kernel
theorem dX6_carve_97 : decode cX6_carve 97 = .ok (.iconst 0, 1) := by decide +kernel
theorem dX6_carve_98 : decode cX6_carve 98 = .ok (.invokevirtual 83, 3) := by decide +kernel
theorem dX6_carve_101 : decode cX6_carve 101 = .ok (.iload_n 1, 1) := by decide +kernel
theorem dX6_carve_102 : decode cX6_carve 102 = .ok (.ifCond .ne 15, 3) := by decide +kernel
theorem dX6_carve_105 : decode cX6_carve 105 = .ok (.aload_n 0, 1) := by decide +kernel
theorem dX6_carve_106 : decode cX6_carve 106 = .ok (.getfield 10, 3) := by decide +kernel
theorem dX6_carve_109 : decode cX6_carve 109 = .ok (.getfield 52, 3) := by decide +kernel
theorem dX6_carve_112 : decode cX6_carve 112 = .ok (.iload_n 2, 1) := by decide +kernel
theorem dX6_carve_113 : decode cX6_carve 113 = .ok (.iload_n 3, 1) := by decide +kernel
theorem dX6_carve_114 : decode cX6_carve 114 = .ok (.invokevirtual 87, 3) := by decide +kernel
theorem dX6_carve_117 : decode cX6_carve 117 = .ok (.iload 6, 2) := by decide +kernel
theorem dX6_carve_119 : decode cX6_carve 119 = .ok (.ireturn, 1) := by decide +kernel
set_option maxRecDepth 20000 in
theorem ggX6_plug_X6_isPlace : GoodIn wsX6_plug wsX6_isPlace := goodIn_r _ [7] (by decide +kernel) (by decide +kernel)
set_option maxRecDepth 20000 in
theorem gX6_plug_X6_isPlace : GoodIn wsX6_plug (va_wsS RX6 40 yX6_isPlace wsX6_isPlace) := goodIn_app (goodIn_of _ (by decide +kernel)) ggX6_plug_X6_isPlace
set_option maxRecDepth 20000 in
theorem ggX6_plug_X5_hardness : GoodIn wsX6_plug wsX5_hardness := goodIn_r _ [12, 13, 127, 128, 129, 130, 131, 132, 133, 134, 135, 136] (by decide +kernel) (by decide +kernel)
set_option maxRecDepth 20000 in
theorem gX6_plug_X5_hardness : GoodIn wsX6_plug (wsV RX6 91 RX5 yX5_hardness wsX5_hardness) := goodIn_app (goodIn_of _ (by decide +kernel)) ggX6_plug_X5_hardness
set_option maxRecDepth 20000 in
theorem ggX6_plug_X0_isWorn : GoodIn wsX6_plug wsX0_isWorn := goodIn_r _ [18, 19, 20, 21, 22, 23, 24, 25, 5, 6, 7, 26, 27, 28, 17, 29, 30, 137, 138, 139, 140, 141, 142] (by decide +kernel) (by decide +kernel)
set_option maxRecDepth 20000 in
theorem gX6_plug_X0_isWorn : GoodIn wsX6_plug (wsV RX6 94 RX0 yX0_isWorn wsX0_isWorn) := goodIn_app (goodIn_of _ (by decide +kernel)) ggX6_plug_X0_isWorn
set_option maxRecDepth 20000 in
theorem ggX6_plug_X2_keep : GoodIn wsX6_plug wsX2_keep := goodIn_r _ [35, 36, 37, 38, 39, 40, 41, 42, 43, 44, 45, 11, 46, 47, 13, 48, 49, 50, 51, 52, 53, 54, 55, 56, 57, 58, 59, 60, 61, 62, 17, 63, 64, 65, 19, 66, 30, 67, 68, 69, 70, 23, 71, 25, 72, 73, 74, 75, 76, 77, 78, 79, 80, 81, 143, 144, 145, 127, 128, 129, 130, 131, 132, 133, 134, 135, 136, 137, 138, 139, 140, 141, 142, 146, 147, 148] (by decide +kernel) (by decide +kernel)
set_option maxRecDepth 20000 in
theorem gX6_plug_X2_keep : GoodIn wsX6_plug (wsV RX6 48 RX2 yX2_keep wsX2_keep) := goodIn_app (goodIn_of _ (by decide +kernel)) ggX6_plug_X2_keep
set_option maxRecDepth 20000 in
theorem ggX6_plug_X0_clearWear : GoodIn wsX6_plug wsX0_clearWear := goodIn_r _ [85, 30, 5, 6, 7, 137, 138, 139, 140, 141] (by decide +kernel) (by decide +kernel)
set_option maxRecDepth 20000 in
theorem gX6_plug_X0_clearWear : GoodIn wsX6_plug (wsV RX6 87 RX0 yX0_clearWear wsX0_clearWear) := goodIn_app (goodIn_of _ (by decide +kernel)) ggX6_plug_X0_clearWear
set_option maxRecDepth 20000 in
theorem ggX6_plug_X6_wornCells : GoodIn wsX6_plug wsX6_wornCells := goodIn_r _ [89, 1, 2, 90, 91, 92, 93, 94, 6, 95, 8, 9, 10, 11, 12, 13, 96, 97, 98, 17, 99, 30, 19, 100, 101, 102, 103, 104, 23, 105, 25, 106, 107, 108, 109, 110, 111, 112, 113, 114, 115, 116, 117, 118, 119, 120, 121, 122, 123, 124, 125, 126, 127, 128, 129, 130, 131, 132, 133, 134, 135, 136, 137, 138, 139, 140, 141, 142] (by decide +kernel) (by decide +kernel)
set_option maxRecDepth 20000 in
theorem gX6_plug_X6_wornCells : GoodIn wsX6_plug (wsV RX6 97 RX6 yX6_wornCells wsX6_wornCells) := goodIn_app (goodIn_of _ (by decide +kernel)) ggX6_plug_X6_wornCells
theorem dX6_plug_0 : decode cX6_plug 0 = .ok (.iload_n 1, 1) := by decide +kernel
theorem dX6_plug_1 : decode cX6_plug 1 = .ok (.iload_n 2, 1) := by decide +kernel
theorem dX6_plug_2 : decode cX6_plug 2 = .ok (.invokestatic 40, 3) := by decide +kernel
theorem dX6_plug_5 : decode cX6_plug 5 = .ok (.ifCond .ne 7, 3) := by decide +kernel
theorem dX6_plug_8 : decode cX6_plug 8 = .ok (.sipush (-1001), 3) := by decide +kernel
theorem dX6_plug_11 : decode cX6_plug 11 = .ok (.ireturn, 1) := by decide +kernel
theorem dX6_plug_12 : decode cX6_plug 12 = .ok (.aload_n 0, 1) := by decide +kernel
theorem dX6_plug_13 : decode cX6_plug 13 = .ok (.getfield 10, 3) := by decide +kernel
theorem dX6_plug_16 : decode cX6_plug 16 = .ok (.getfield 52, 3) := by decide +kernel
theorem dX6_plug_19 : decode cX6_plug 19 = .ok (.iload_n 1, 1) := by decide +kernel
theorem dX6_plug_20 : decode cX6_plug 20 = .ok (.iload_n 2, 1) := by decide +kernel
theorem dX6_plug_21 : decode cX6_plug 21 = .ok (.aload_n 0, 1) := by decide +kernel
theorem dX6_plug_22 : decode cX6_plug 22 = .ok (.getfield 10, 3) := by decide +kernel
theorem dX6_plug_25 : decode cX6_plug 25 = .ok (.invokevirtual 91, 3) := by decide +kernel
theorem dX6_plug_28 : decode cX6_plug 28 = .ok (.invokevirtual 94, 3) := by decide +kernel
theorem dX6_plug_31 : decode cX6_plug 31 = .ok (.ifCond .ne 7, 3) := by decide +kernel
theorem dX6_plug_34 : decode cX6_plug 34 = .ok (.sipush (-1002), 3) := by decide +kernel
theorem dX6_plug_37 : decode cX6_plug 37 = .ok (.ireturn, 1) := by decide +kernel
theorem dX6_plug_38 : decode cX6_plug 38 = .ok (.aload_n 0, 1) := by decide +kernel
theorem dX6_plug_39 : decode cX6_plug 39 = .ok (.getfield 19, 3) := by decide +kernel
theorem dX6_plug_42 : decode cX6_plug 42 = .ok (.aload_n 0, 1) := by decide +kernel
theorem dX6_plug_43 : decode cX6_plug 43 = .ok (.getfield 10, 3) := by decide +kernel
theorem dX6_plug_46 : decode cX6_plug 46 = .ok (.invokevirtual 48, 3) := by decide +kernel
theorem dX6_plug_49 : decode cX6_plug 49 = .ok (.aload_n 0, 1) := by decide +kernel
theorem dX6_plug_50 : decode cX6_plug 50 = .ok (.getfield 10, 3) := by decide +kernel
theorem dX6_plug_53 : decode cX6_plug 53 = .ok (.getfield 52, 3) := by decide +kernel
theorem dX6_plug_56 : decode cX6_plug 56 = .ok (.iload_n 1, 1) := by decide +kernel
theorem dX6_plug_57 : decode cX6_plug 57 = .ok (.iload_n 2, 1) := by decide +kernel
theorem dX6_plug_58 : decode cX6_plug 58 = .ok (.invokevirtual 87, 3) := by decide +kernel
theorem dX6_plug_61 : decode cX6_plug 61 = .ok (.aload_n 0, 1) := by decide +kernel
theorem dX6_plug_62 : decode cX6_plug 62 = .ok (.invokevirtual 97, 3) := by decide +kernel
theorem dX6_plug_65 : decode cX6_plug 65 = .ok (.ireturn, 1) := by decide +kernel
set_option maxRecDepth 20000 in
theorem ggX6_setPins_X6_isWithin : GoodIn wsX6_setPins wsX6_isWithin := goodIn_r _ [8] (by decide +kernel) (by decide +kernel)
set_option maxRecDepth 20000 in
theorem gX6_setPins_X6_isWithin : GoodIn wsX6_setPins (va_wsS RX6 44 yX6_isWithin wsX6_isWithin) := goodIn_app (goodIn_of _ (by decide +kernel)) ggX6_setPins_X6_isWithin
set_option maxRecDepth 20000 in
theorem ggX6_setPins_X2_keep : GoodIn wsX6_setPins wsX2_keep := goodIn_r _ [13, 14, 15, 16, 17, 18, 19, 20, 21, 22, 23, 24, 25, 26, 27, 28, 29, 30, 31, 32, 33, 34, 35, 36, 37, 38, 39, 40, 41, 42, 43, 44, 45, 46, 47, 48, 49, 50, 51, 52, 53, 54, 55, 56, 57, 58, 59, 60, 61, 62, 63, 64, 65, 66, 144, 145, 146, 134, 135, 136, 137, 138, 139, 140, 141, 142, 143, 147, 148, 149, 150, 151, 152, 153, 154, 155] (by decide +kernel) (by decide +kernel)
set_option maxRecDepth 20000 in
theorem gX6_setPins_X2_keep : GoodIn wsX6_setPins (wsV RX6 48 RX2 yX2_keep wsX2_keep) := goodIn_app (goodIn_of _ (by decide +kernel)) ggX6_setPins_X2_keep
set_option maxRecDepth 20000 in
theorem ggX6_setPins_X6_findInk : GoodIn wsX6_setPins wsX6_findInk := goodIn_r _ [70, 2, 71, 72, 73, 74, 75, 24, 76, 27, 77, 78, 79, 43, 80, 49, 47, 81, 7, 82, 83, 84, 85, 54, 86, 56, 87, 88, 89, 90, 91, 129, 130, 131, 132, 133, 134, 135, 136, 137, 138, 139, 140, 141, 142, 143, 147, 148, 149, 150, 151, 152] (by decide +kernel) (by decide +kernel)
set_option maxRecDepth 20000 in
theorem gX6_setPins_X6_findInk : GoodIn wsX6_setPins (wsV RX6 107 RX6 yX6_findInk wsX6_findInk) := goodIn_app (goodIn_of _ (by decide +kernel)) ggX6_setPins_X6_findInk
set_option maxRecDepth 20000 in
theorem ggX6_setPins_X5_shiftX : GoodIn wsX6_setPins wsX5_shiftX := goodIn_r _ [95, 33, 96, 97, 98, 24, 99, 27, 134, 135, 136, 137, 138, 139, 140, 141, 142, 143] (by decide +kernel) (by decide +kernel)
set_option maxRecDepth 20000 in
theorem gX6_setPins_X5_shiftX : GoodIn wsX6_setPins (wsV RX6 110 RX5 yX5_shiftX wsX5_shiftX) := goodIn_app (goodIn_of _ (by decide +kernel)) ggX6_setPins_X5_shiftX
set_option maxRecDepth 20000 in
theorem ggX6_setPins_X5_shiftY : GoodIn wsX6_setPins wsX5_shiftY := goodIn_r _ [103, 34, 104, 105, 106, 24, 107, 27, 134, 135, 136, 137, 138, 139, 140, 141, 142, 143] (by decide +kernel) (by decide +kernel)
set_option maxRecDepth 20000 in
theorem gX6_setPins_X5_shiftY : GoodIn wsX6_setPins (wsV RX6 113 RX5 yX5_shiftY wsX5_shiftY) := goodIn_app (goodIn_of _ (by decide +kernel)) ggX6_setPins_X5_shiftY
set_option maxRecDepth 20000 in
theorem ggX6_setPins_X6_gapsWith : GoodIn wsX6_setPins wsX6_gapsWith := goodIn_r _ [111, 2, 71, 72, 112, 113, 114, 115, 43, 116, 45, 46, 83, 84, 85, 54, 86, 56, 117, 118, 119, 120, 91, 121, 122, 123, 124, 125, 126, 127, 128, 129, 130, 131, 132, 133, 134, 135, 136, 137, 138, 139, 140, 141, 142, 143, 147, 148, 149, 150, 151, 152] (by decide +kernel) (by decide +kernel)
set_option maxRecDepth 20000 in
theorem gX6_setPins_X6_gapsWith : GoodIn wsX6_setPins (wsV RX6 116 RX6 yX6_gapsWith wsX6_gapsWith) := goodIn_app (goodIn_of _ (by decide +kernel)) ggX6_setPins_X6_gapsWith
theorem dX6_setPins_0 : decode cX6_setPins 0 = .ok (.iload_n 1, 1) := by decide +kernel
theorem dX6_setPins_1 : decode cX6_setPins 1 = .ok (.bipush (-4), 2) := by decide +kernel
theorem dX6_setPins_3 : decode cX6_setPins 3 = .ok (.iconst 4, 1) := by decide +kernel
theorem dX6_setPins_4 : decode cX6_setPins 4 = .ok (.invokestatic 44, 3) := by decide +kernel
theorem dX6_setPins_7 : decode cX6_setPins 7 = .ok (.ifCond .eq 13, 3) := by decide +kernel
theorem dX6_setPins_10 : decode cX6_setPins 10 = .ok (.iload_n 2, 1) := by decide +kernel
theorem dX6_setPins_11 : decode cX6_setPins 11 = .ok (.bipush (-4), 2) := by decide +kernel
theorem dX6_setPins_13 : decode cX6_setPins 13 = .ok (.iconst 4, 1) := by decide +kernel
theorem dX6_setPins_14 : decode cX6_setPins 14 = .ok (.invokestatic 44, 3) := by decide +kernel
theorem dX6_setPins_17 : decode cX6_setPins 17 = .ok (.ifCond .ne 7, 3) := by decide +kernel
theorem dX6_setPins_20 : decode cX6_setPins 20 = .ok (.sipush (-1001), 3) := by decide +kernel
theorem dX6_setPins_23 : decode cX6_setPins 23 = .ok (.ireturn, 1) := by decide +kernel
theorem dX6_setPins_24 : decode cX6_setPins 24 = .ok (.aload_n 0, 1) := by decide +kernel
theorem dX6_setPins_25 : decode cX6_setPins 25 = .ok (.getfield 19, 3) := by decide +kernel
theorem dX6_setPins_28 : decode cX6_setPins 28 = .ok (.aload_n 0, 1) := by decide +kernel
theorem dX6_setPins_29 : decode cX6_setPins 29 = .ok (.getfield 10, 3) := by decide +kernel
theorem dX6_setPins_32 : decode cX6_setPins 32 = .ok (.invokevirtual 48, 3) := by decide +kernel
theorem dX6_setPins_35 : decode cX6_setPins 35 = .ok (.aload_n 0, 1) := by decide +kernel
theorem dX6_setPins_36 : decode cX6_setPins 36 = .ok (.getfield 10, 3) := by decide +kernel
theorem dX6_setPins_39 : decode cX6_setPins 39 = .ok (.iload_n 1, 1) := by decide +kernel
theorem dX6_setPins_40 : decode cX6_setPins 40 = .ok (.putfield 100, 3) := by decide +kernel
theorem dX6_setPins_43 : decode cX6_setPins 43 = .ok (.aload_n 0, 1) := by decide +kernel
theorem dX6_setPins_44 : decode cX6_setPins 44 = .ok (.getfield 10, 3) := by decide +kernel
theorem dX6_setPins_47 : decode cX6_setPins 47 = .ok (.iload_n 2, 1) := by decide +kernel
theorem dX6_setPins_48 : decode cX6_setPins 48 = .ok (.putfield 104, 3) := by decide +kernel
theorem dX6_setPins_51 : decode cX6_setPins 51 = .ok (.aload_n 0, 1) := by decide +kernel
theorem dX6_setPins_52 : decode cX6_setPins 52 = .ok (.invokevirtual 107, 3) := by decide +kernel
theorem dX6_setPins_55 : decode cX6_setPins 55 = .ok (.aload_n 0, 1) := by decide +kernel
theorem dX6_setPins_56 : decode cX6_setPins 56 = .ok (.aload_n 0, 1) := by decide +kernel
theorem dX6_setPins_57 : decode cX6_setPins 57 = .ok (.getfield 10, 3) := by decide +kernel
theorem dX6_setPins_60 : decode cX6_setPins 60 = .ok (.invokevirtual 110, 3) := by decide +kernel
theorem dX6_setPins_63 : decode cX6_setPins 63 = .ok (.aload_n 0, 1) := by decide +kernel
theorem dX6_setPins_64 : decode cX6_setPins 64 = .ok (.getfield 10, 3) := by decide +kernel
theorem dX6_setPins_67 : decode cX6_setPins 67 = .ok (.invokevirtual 113, 3) := by decide +kernel
theorem dX6_setPins_70 : decode cX6_setPins 70 = .ok (.invokevirtual 116, 3) := by decide +kernel
theorem dX6_setPins_73 : decode cX6_setPins 73 = .ok (.ireturn, 1) := by decide +kernel
set_option maxRecDepth 20000 in
theorem ggX6_set_X6_isWithin : GoodIn wsX6_set wsX6_isWithin := goodIn_r _ [9] (by decide +kernel) (by decide +kernel)
set_option maxRecDepth 20000 in
theorem gX6_set_X6_isWithin : GoodIn wsX6_set (va_wsS RX6 44 yX6_isWithin wsX6_isWithin) := goodIn_app (goodIn_of _ (by decide +kernel)) ggX6_set_X6_isWithin
set_option maxRecDepth 20000 in
theorem ggX6_set_X2_keep : GoodIn wsX6_set wsX2_keep := goodIn_r _ [14, 15, 16, 17, 18, 19, 20, 21, 22, 23, 24, 25, 26, 27, 28, 29, 30, 31, 32, 33, 34, 35, 36, 37, 38, 39, 40, 41, 42, 43, 44, 45, 46, 47, 48, 49, 50, 51, 52, 53, 54, 55, 56, 57, 58, 59, 60, 61, 62, 63, 64, 65, 66, 67, 83, 84, 85, 73, 74, 75, 76, 77, 78, 79, 80, 81, 82, 86, 87, 88, 89, 90, 91, 92, 93, 94] (by decide +kernel) (by decide +kernel)
set_option maxRecDepth 20000 in
theorem gX6_set_X2_keep : GoodIn wsX6_set (wsV RX6 48 RX2 yX2_keep wsX2_keep) := goodIn_app (goodIn_of _ (by decide +kernel)) ggX6_set_X2_keep
theorem dX6_set_0 : decode cX6_set 0 = .ok (.iload_n 1, 1) := by decide +kernel
theorem dX6_set_1 : decode cX6_set 1 = .ok (.iconst 0, 1) := by decide +kernel
theorem dX6_set_2 : decode cX6_set 2 = .ok (.iconst 4, 1) := by decide +kernel
theorem dX6_set_3 : decode cX6_set 3 = .ok (.invokestatic 44, 3) := by decide +kernel
theorem dX6_set_6 : decode cX6_set 6 = .ok (.ifCond .eq 20, 3) := by decide +kernel
theorem dX6_set_9 : decode cX6_set 9 = .ok (.iload_n 2, 1) := by decide +kernel
theorem dX6_set_10 : decode cX6_set 10 = .ok (.getstatic 120, 3) := by decide +kernel
theorem dX6_set_13 : decode cX6_set 13 = .ok (.iload_n 1, 1) := by decide +kernel
theorem dX6_set_14 : decode cX6_set 14 = .ok (.iaload, 1) := by decide +kernel
theorem dX6_set_15 : decode cX6_set 15 = .ok (.getstatic 124, 3) := by decide +kernel
theorem dX6_set_18 : decode cX6_set 18 = .ok (.iload_n 1, 1) := by decide +kernel
theorem dX6_set_19 : decode cX6_set 19 = .ok (.iaload, 1) := by decide +kernel
theorem dX6_set_20 : decode cX6_set 20 = .ok (.invokestatic 44, 3) := by decide +kernel
theorem dX6_set_23 : decode cX6_set 23 = .ok (.ifCond .ne 7, 3) := by decide +kernel
theorem dX6_set_26 : decode cX6_set 26 = .ok (.sipush (-1001), 3) := by decide +kernel
theorem dX6_set_29 : decode cX6_set 29 = .ok (.ireturn, 1) := by decide +kernel
theorem dX6_set_30 : decode cX6_set 30 = .ok (.aload_n 0, 1) := by decide +kernel
theorem dX6_set_31 : decode cX6_set 31 = .ok (.getfield 19, 3) := by decide +kernel
theorem dX6_set_34 : decode cX6_set 34 = .ok (.aload_n 0, 1) := by decide +kernel
theorem dX6_set_35 : decode cX6_set 35 = .ok (.getfield 10, 3) := by decide +kernel
theorem dX6_set_38 : decode cX6_set 38 = .ok (.invokevirtual 48, 3) := by decide +kernel
theorem dX6_set_41 : decode cX6_set 41 = .ok (.aload_n 0, 1) := by decide +kernel
theorem dX6_set_42 : decode cX6_set 42 = .ok (.getfield 10, 3) := by decide +kernel
theorem dX6_set_45 : decode cX6_set 45 = .ok (.getfield 127, 3) := by decide +kernel
theorem dX6_set_48 : decode cX6_set 48 = .ok (.iload_n 1, 1) := by decide +kernel
theorem dX6_set_49 : decode cX6_set 49 = .ok (.iaload, 1) := by decide +kernel
theorem dX6_set_50 : decode cX6_set 50 = .ok (.istore_n 3, 1) := by decide +kernel
theorem dX6_set_51 : decode cX6_set 51 = .ok (.aload_n 0, 1) := by decide +kernel
theorem dX6_set_52 : decode cX6_set 52 = .ok (.getfield 10, 3) := by decide +kernel
theorem dX6_set_55 : decode cX6_set 55 = .ok (.getfield 127, 3) := by decide +kernel
theorem dX6_set_58 : decode cX6_set 58 = .ok (.iload_n 1, 1) := by decide +kernel
theorem dX6_set_59 : decode cX6_set 59 = .ok (.iload_n 2, 1) := by decide +kernel
theorem dX6_set_60 : decode cX6_set 60 = .ok (.iastore, 1) := by decide +kernel
theorem dX6_set_61 : decode cX6_set 61 = .ok (.iload_n 3, 1) := by decide +kernel
theorem dX6_set_62 : decode cX6_set 62 = .ok (.ireturn, 1) := by decide +kernel
set_option maxRecDepth 20000 in
theorem ggX6_print_X6_isWithin : GoodIn wsX6_print wsX6_isWithin := goodIn_r _ [7] (by decide +kernel) (by decide +kernel)
set_option maxRecDepth 20000 in
theorem gX6_print_X6_isWithin : GoodIn wsX6_print (va_wsS RX6 44 yX6_isWithin wsX6_isWithin) := goodIn_app (goodIn_of _ (by decide +kernel)) ggX6_print_X6_isWithin
set_option maxRecDepth 20000 in
theorem ggX6_print_X2_keep : GoodIn wsX6_print wsX2_keep := goodIn_r _ [12, 13, 14, 15, 16, 17, 18, 19, 20, 21, 22, 23, 24, 25, 26, 27, 28, 29, 30, 31, 32, 33, 34, 35, 36, 37, 38, 39, 40, 41, 42, 43, 44, 45, 46, 47, 48, 49, 50, 51, 52, 53, 54, 55, 56, 57, 58, 59, 60, 61, 62, 63, 64, 65, 194, 195, 196, 184, 185, 186, 187, 188, 189, 190, 191, 192, 193, 197, 198, 199, 200, 201, 202, 203, 204, 205] (by decide +kernel) (by decide +kernel)
set_option maxRecDepth 20000 in
theorem gX6_print_X2_keep : GoodIn wsX6_print (wsV RX6 48 RX2 yX2_keep wsX2_keep) := goodIn_app (goodIn_of _ (by decide +kernel)) ggX6_print_X2_keep
set_option maxRecDepth 20000 in
theorem ggX6_print_X6_makeOnePrint : GoodIn wsX6_print wsX6_makeOnePrint := goodIn_r _ [69, 1, 2, 70, 71, 72, 73, 74, 75, 6, 76, 77, 78, 79, 23, 80, 26, 81, 82, 83, 42, 84, 48, 46, 85, 86, 87, 88, 89, 53, 90, 55, 91, 92, 93, 94, 95, 96, 97, 98, 99, 32, 100, 101, 102, 103, 104, 105, 106, 107, 33, 108, 109, 110, 111, 112, 113, 114, 115, 116, 117, 118, 119, 120, 44, 45, 121, 122, 123, 124, 125, 126, 127, 128, 129, 130, 131, 132, 133, 134, 135, 60, 136, 65, 64, 137, 17, 18, 19, 62, 138, 139, 140, 141, 142, 143, 144, 145, 146, 147, 148, 149, 150, 151, 152, 153, 154, 155, 156, 157, 158, 159, 160, 161, 162, 163, 164, 165, 166, 167, 168, 169, 170, 171, 172, 173, 174, 175, 176, 177, 178, 179, 180, 181, 182, 183, 184, 185, 186, 187, 188, 189, 190, 191, 192, 193, 197, 198, 199, 200, 201, 202, 203, 204, 205] (by decide +kernel) (by decide +kernel)
set_option maxRecDepth 20000 in
theorem gX6_print_X6_makeOnePrint : GoodIn wsX6_print (wsV RX6 133 RX6 yX6_makeOnePrint wsX6_makeOnePrint) := goodIn_app (goodIn_of _ (by decide +kernel)) ggX6_print_X6_makeOnePrint
theorem dX6_print_0 : decode cX6_print 0 = .ok (.iload_n 1, 1) := by decide +kernel
theorem dX6_print_1 : decode cX6_print 1 = .ok (.iconst 1, 1) := by decide +kernel
theorem dX6_print_2 : decode cX6_print 2 = .ok (.bipush 100, 2) := by decide +kernel
theorem dX6_print_4 : decode cX6_print 4 = .ok (.invokestatic 44, 3) := by decide +kernel
theorem dX6_print_7 : decode cX6_print 7 = .ok (.ifCond .ne 7, 3) := by decide +kernel
theorem dX6_print_10 : decode cX6_print 10 = .ok (.sipush (-1001), 3) := by decide +kernel
theorem dX6_print_13 : decode cX6_print 13 = .ok (.ireturn, 1) := by decide +kernel
theorem dX6_print_14 : decode cX6_print 14 = .ok (.aload_n 0, 1) := by decide +kernel
theorem dX6_print_15 : decode cX6_print 15 = .ok (.getfield 10, 3) := by decide +kernel
theorem dX6_print_18 : decode cX6_print 18 = .ok (.getfield 130, 3) := by decide +kernel
theorem dX6_print_21 : decode cX6_print 21 = .ok (.iload_n 1, 1) := by decide +kernel
theorem dX6_print_22 : decode cX6_print 22 = .ok (.iadd, 1) := by decide +kernel
theorem dX6_print_23 : decode cX6_print 23 = .ok (.sipush 5000, 3) := by decide +kernel
theorem dX6_print_26 : decode cX6_print 26 = .ok (.if_icmp .le 7, 3) := by decide +kernel
theorem dX6_print_29 : decode cX6_print 29 = .ok (.sipush (-1003), 3) := by decide +kernel
theorem dX6_print_32 : decode cX6_print 32 = .ok (.ireturn, 1) := by decide +kernel
theorem dX6_print_33 : decode cX6_print 33 = .ok (.aload_n 0, 1) := by decide +kernel
theorem dX6_print_34 : decode cX6_print 34 = .ok (.getfield 19, 3) := by decide +kernel
theorem dX6_print_37 : decode cX6_print 37 = .ok (.aload_n 0, 1) := by decide +kernel
theorem dX6_print_38 : decode cX6_print 38 = .ok (.getfield 10, 3) := by decide +kernel
theorem dX6_print_41 : decode cX6_print 41 = .ok (.invokevirtual 48, 3) := by decide +kernel
theorem dX6_print_44 : decode cX6_print 44 = .ok (.iconst 0, 1) := by decide +kernel
theorem dX6_print_45 : decode cX6_print 45 = .ok (.istore_n 2, 1) := by decide +kernel
theorem dX6_print_46 : decode cX6_print 46 = .ok (.iconst 0, 1) := by decide +kernel
theorem dX6_print_47 : decode cX6_print 47 = .ok (.istore_n 3, 1) := by decide +kernel
theorem dX6_print_48 : decode cX6_print 48 = .ok (.iload_n 3, 1) := by decide +kernel
theorem dX6_print_49 : decode cX6_print 49 = .ok (.iload_n 1, 1) := by decide +kernel
theorem dX6_print_50 : decode cX6_print 50 = .ok (.if_icmp .ge 16, 3) := by decide +kernel
theorem dX6_print_53 : decode cX6_print 53 = .ok (.iload_n 2, 1) := by decide +kernel
theorem dX6_print_54 : decode cX6_print 54 = .ok (.aload_n 0, 1) := by decide +kernel
theorem dX6_print_55 : decode cX6_print 55 = .ok (.invokevirtual 133, 3) := by decide +kernel
theorem dX6_print_58 : decode cX6_print 58 = .ok (.iadd, 1) := by decide +kernel
theorem dX6_print_59 : decode cX6_print 59 = .ok (.istore_n 2, 1) := by decide +kernel
theorem dX6_print_60 : decode cX6_print 60 = .ok (.iinc 3 1, 3) := by decide +kernel
theorem dX6_print_63 : decode cX6_print 63 = .ok (.goto (-15), 3) := by decide +kernel
theorem dX6_print_66 : decode cX6_print 66 = .ok (.iload_n 2, 1) := by decide +kernel
theorem dX6_print_67 : decode cX6_print 67 = .ok (.ireturn, 1) := by decide +kernel
set_option maxRecDepth 20000 in
theorem ggX6_take_X6_isWithin : GoodIn wsX6_take wsX6_isWithin := goodIn_r _ [7] (by decide +kernel) (by decide +kernel)
set_option maxRecDepth 20000 in
theorem gX6_take_X6_isWithin : GoodIn wsX6_take (va_wsS RX6 44 yX6_isWithin wsX6_isWithin) := goodIn_app (goodIn_of _ (by decide +kernel)) ggX6_take_X6_isWithin
set_option maxRecDepth 20000 in
theorem ggX6_take_X2_keep : GoodIn wsX6_take wsX2_keep := goodIn_r _ [12, 13, 14, 15, 16, 17, 18, 19, 20, 21, 22, 23, 24, 25, 26, 27, 28, 29, 30, 31, 32, 33, 34, 35, 36, 37, 38, 39, 40, 41, 42, 43, 44, 45, 46, 47, 48, 49, 50, 51, 52, 53, 54, 55, 56, 57, 58, 59, 60, 61, 62, 63, 64, 65, 104, 105, 106, 94, 95, 96, 97, 98, 99, 100, 101, 102, 103, 107, 108, 109, 110, 111, 112, 113, 114, 115] (by decide +kernel) (by decide +kernel)
set_option maxRecDepth 20000 in
theorem gX6_take_X2_keep : GoodIn wsX6_take (wsV RX6 48 RX2 yX2_keep wsX2_keep) := goodIn_app (goodIn_of _ (by decide +kernel)) ggX6_take_X2_keep
set_option maxRecDepth 20000 in
theorem ggX6_take_X5_takeSnapshot : GoodIn wsX6_take wsX5_takeSnapshot := goodIn_r _ [69, 25, 37, 38, 70, 71, 72, 23, 73, 35, 36, 39, 40, 41, 42, 43, 44, 45, 46, 47, 48, 49, 28, 29, 30, 50, 51, 52, 53, 54, 55, 56, 94, 95, 96, 97, 98, 99, 100, 101, 102, 103, 107, 108, 109, 110, 111, 112] (by decide +kernel) (by decide +kernel)
set_option maxRecDepth 20000 in
theorem gX6_take_X5_takeSnapshot : GoodIn wsX6_take (wsV RX6 136 RX5 yX5_takeSnapshot wsX5_takeSnapshot) := goodIn_app (goodIn_of _ (by decide +kernel)) ggX6_take_X5_takeSnapshot
set_option maxRecDepth 20000 in
theorem ggX6_take_X0_paintedCells : GoodIn wsX6_take wsX0_paintedCells := goodIn_r _ [77, 44, 45, 78, 79, 80, 53, 81, 55, 82, 83, 84, 85, 86, 87, 88, 107, 108, 109, 110, 111, 112] (by decide +kernel) (by decide +kernel)
set_option maxRecDepth 20000 in
theorem gX6_take_X0_paintedCells : GoodIn wsX6_take (wsV RX6 139 RX0 yX0_paintedCells wsX0_paintedCells) := goodIn_app (goodIn_of _ (by decide +kernel)) ggX6_take_X0_paintedCells
theorem dX6_take_0 : decode cX6_take 0 = .ok (.iload_n 1, 1) := by decide +kernel
theorem dX6_take_1 : decode cX6_take 1 = .ok (.iconst 0, 1) := by decide +kernel
theorem dX6_take_2 : decode cX6_take 2 = .ok (.iconst 1, 1) := by decide +kernel
theorem dX6_take_3 : decode cX6_take 3 = .ok (.invokestatic 44, 3) := by decide +kernel
theorem dX6_take_6 : decode cX6_take 6 = .ok (.ifCond .ne 7, 3) := by decide +kernel
theorem dX6_take_9 : decode cX6_take 9 = .ok (.sipush (-1001), 3) := by decide +kernel
theorem dX6_take_12 : decode cX6_take 12 = .ok (.ireturn, 1) := by decide +kernel
theorem dX6_take_13 : decode cX6_take 13 = .ok (.aload_n 0, 1) := by decide +kernel
theorem dX6_take_14 : decode cX6_take 14 = .ok (.getfield 19, 3) := by decide +kernel
theorem dX6_take_17 : decode cX6_take 17 = .ok (.aload_n 0, 1) := by decide +kernel
theorem dX6_take_18 : decode cX6_take 18 = .ok (.getfield 10, 3) := by decide +kernel
theorem dX6_take_21 : decode cX6_take 21 = .ok (.invokevirtual 48, 3) := by decide +kernel
theorem dX6_take_24 : decode cX6_take 24 = .ok (.aload_n 0, 1) := by decide +kernel
theorem dX6_take_25 : decode cX6_take 25 = .ok (.getfield 10, 3) := by decide +kernel
theorem dX6_take_28 : decode cX6_take 28 = .ok (.iload_n 1, 1) := by decide +kernel
theorem dX6_take_29 : decode cX6_take 29 = .ok (.invokevirtual 136, 3) := by decide +kernel
theorem dX6_take_32 : decode cX6_take 32 = .ok (.aload_n 0, 1) := by decide +kernel
theorem dX6_take_33 : decode cX6_take 33 = .ok (.getfield 10, 3) := by decide +kernel
theorem dX6_take_36 : decode cX6_take 36 = .ok (.getfield 52, 3) := by decide +kernel
theorem dX6_take_39 : decode cX6_take 39 = .ok (.invokevirtual 139, 3) := by decide +kernel
theorem dX6_take_42 : decode cX6_take 42 = .ok (.ireturn, 1) := by decide +kernel
set_option maxRecDepth 20000 in
theorem ggX6_restore_X6_isWithin : GoodIn wsX6_restore wsX6_isWithin := goodIn_r _ [7] (by decide +kernel) (by decide +kernel)
set_option maxRecDepth 20000 in
theorem gX6_restore_X6_isWithin : GoodIn wsX6_restore (va_wsS RX6 44 yX6_isWithin wsX6_isWithin) := goodIn_app (goodIn_of _ (by decide +kernel)) ggX6_restore_X6_isWithin
set_option maxRecDepth 20000 in
theorem ggX6_restore_X5_isTaken : GoodIn wsX6_restore wsX5_isTaken := goodIn_r _ [12, 13, 14, 98, 99, 100, 101, 102, 103, 104, 105, 106, 107] (by decide +kernel) (by decide +kernel)
set_option maxRecDepth 20000 in
theorem gX6_restore_X5_isTaken : GoodIn wsX6_restore (wsV RX6 142 RX5 yX5_isTaken wsX5_isTaken) := goodIn_app (goodIn_of _ (by decide +kernel)) ggX6_restore_X5_isTaken
set_option maxRecDepth 20000 in
theorem ggX6_restore_X2_keep : GoodIn wsX6_restore wsX2_keep := goodIn_r _ [19, 20, 21, 22, 23, 24, 25, 26, 27, 28, 29, 11, 30, 31, 32, 33, 34, 35, 36, 37, 38, 39, 40, 41, 42, 13, 14, 43, 44, 45, 46, 47, 48, 49, 50, 51, 52, 53, 54, 55, 56, 57, 58, 59, 60, 61, 62, 63, 64, 65, 66, 67, 68, 69, 108, 109, 110, 98, 99, 100, 101, 102, 103, 104, 105, 106, 107, 111, 112, 113, 114, 115, 116, 117, 118, 119] (by decide +kernel) (by decide +kernel)
set_option maxRecDepth 20000 in
theorem gX6_restore_X2_keep : GoodIn wsX6_restore (wsV RX6 48 RX2 yX2_keep wsX2_keep) := goodIn_app (goodIn_of _ (by decide +kernel)) ggX6_restore_X2_keep
set_option maxRecDepth 20000 in
theorem ggX6_restore_X5_restoreSnapshot : GoodIn wsX6_restore wsX5_restoreSnapshot := goodIn_r _ [73, 31, 74, 75, 76, 11, 77, 41, 42, 43, 44, 45, 46, 47, 48, 49, 50, 51, 52, 53, 34, 35, 36, 54, 55, 56, 57, 58, 59, 60, 98, 99, 100, 101, 102, 103, 104, 105, 106, 107, 111, 112, 113, 114, 115, 116] (by decide +kernel) (by decide +kernel)
set_option maxRecDepth 20000 in
theorem gX6_restore_X5_restoreSnapshot : GoodIn wsX6_restore (wsV RX6 146 RX5 yX5_restoreSnapshot wsX5_restoreSnapshot) := goodIn_app (goodIn_of _ (by decide +kernel)) ggX6_restore_X5_restoreSnapshot
set_option maxRecDepth 20000 in
theorem ggX6_restore_X0_paintedCells : GoodIn wsX6_restore wsX0_paintedCells := goodIn_r _ [81, 48, 49, 82, 83, 84, 57, 85, 59, 86, 87, 88, 89, 90, 91, 92, 111, 112, 113, 114, 115, 116] (by decide +kernel) (by decide +kernel)
set_option maxRecDepth 20000 in
theorem gX6_restore_X0_paintedCells : GoodIn wsX6_restore (wsV RX6 139 RX0 yX0_paintedCells wsX0_paintedCells) := goodIn_app (goodIn_of _ (by decide +kernel)) ggX6_restore_X0_paintedCells
theorem dX6_restore_0 : decode cX6_restore 0 = .ok (.iload_n 1, 1) := by decide +kernel
theorem dX6_restore_1 : decode cX6_restore 1 = .ok (.iconst 0, 1) := by decide +kernel
theorem dX6_restore_2 : decode cX6_restore 2 = .ok (.iconst 1, 1) := by decide +kernel
theorem dX6_restore_3 : decode cX6_restore 3 = .ok (.invokestatic 44, 3) := by decide +kernel
theorem dX6_restore_6 : decode cX6_restore 6 = .ok (.ifCond .ne 7, 3) := by decide +kernel
theorem dX6_restore_9 : decode cX6_restore 9 = .ok (.sipush (-1001), 3) := by decide +kernel
theorem dX6_restore_12 : decode cX6_restore 12 = .ok (.ireturn, 1) := by decide +kernel
theorem dX6_restore_13 : decode cX6_restore 13 = .ok (.aload_n 0, 1) := by decide +kernel
theorem dX6_restore_14 : decode cX6_restore 14 = .ok (.getfield 10, 3) := by decide +kernel
theorem dX6_restore_17 : decode cX6_restore 17 = .ok (.iload_n 1, 1) := by decide +kernel
theorem dX6_restore_18 : decode cX6_restore 18 = .ok (.invokevirtual 142, 3) := by decide +kernel
theorem dX6_restore_21 : decode cX6_restore 21 = .ok (.ifCond .ne 7, 3) := by decide +kernel
theorem dX6_restore_24 : decode cX6_restore 24 = .ok (.sipush (-1002), 3) := by decide +kernel
theorem dX6_restore_27 : decode cX6_restore 27 = .ok (.ireturn, 1) := by decide +kernel
theorem dX6_restore_28 : decode cX6_restore 28 = .ok (.aload_n 0, 1) := by decide +kernel
theorem dX6_restore_29 : decode cX6_restore 29 = .ok (.getfield 19, 3) := by decide +kernel
theorem dX6_restore_32 : decode cX6_restore 32 = .ok (.aload_n 0, 1) := by decide +kernel
theorem dX6_restore_33 : decode cX6_restore 33 = .ok (.getfield 10, 3) := by decide +kernel
theorem dX6_restore_36 : decode cX6_restore 36 = .ok (.invokevirtual 48, 3) := by decide +kernel
theorem dX6_restore_39 : decode cX6_restore 39 = .ok (.aload_n 0, 1) := by decide +kernel
theorem dX6_restore_40 : decode cX6_restore 40 = .ok (.getfield 10, 3) := by decide +kernel
theorem dX6_restore_43 : decode cX6_restore 43 = .ok (.iload_n 1, 1) := by decide +kernel
theorem dX6_restore_44 : decode cX6_restore 44 = .ok (.invokevirtual 146, 3) := by decide +kernel
theorem dX6_restore_47 : decode cX6_restore 47 = .ok (.aload_n 0, 1) := by decide +kernel
theorem dX6_restore_48 : decode cX6_restore 48 = .ok (.getfield 10, 3) := by decide +kernel
theorem dX6_restore_51 : decode cX6_restore 51 = .ok (.getfield 52, 3) := by decide +kernel
theorem dX6_restore_54 : decode cX6_restore 54 = .ok (.invokevirtual 139, 3) := by decide +kernel
theorem dX6_restore_57 : decode cX6_restore 57 = .ok (.ireturn, 1) := by decide +kernel
set_option maxRecDepth 20000 in
theorem ggX6_undo_X2_size : GoodIn wsX6_undo wsX2_size := goodIn_r _ [7, 8, 70, 71, 72] (by decide +kernel) (by decide +kernel)
set_option maxRecDepth 20000 in
theorem gX6_undo_X2_size : GoodIn wsX6_undo (wsV RX6 149 RX2 yX2_size wsX2_size) := goodIn_app (goodIn_of _ (by decide +kernel)) ggX6_undo_X2_size
set_option maxRecDepth 20000 in
theorem ggX6_undo_X2_giveBack : GoodIn wsX6_undo wsX2_giveBack := goodIn_r _ [12, 13, 8, 14, 15, 16, 17, 18, 19, 20, 21, 22, 23, 24, 25, 26, 27, 28, 29, 30, 31, 32, 33, 34, 35, 36, 37, 38, 39, 40, 41, 42, 43, 44, 45, 46, 47, 48, 49, 50, 51, 52, 53, 54, 55, 56, 57, 58, 59, 60, 61, 62, 63, 64, 70, 71, 72, 73, 74, 75, 76, 77, 78, 79, 80, 81, 82, 83, 84, 85, 86, 87, 88, 89, 90, 91] (by decide +kernel) (by decide +kernel)
set_option maxRecDepth 20000 in
theorem gX6_undo_X2_giveBack : GoodIn wsX6_undo (wsV RX6 150 RX2 yX2_giveBack wsX2_giveBack) := goodIn_app (goodIn_of _ (by decide +kernel)) ggX6_undo_X2_giveBack
theorem dX6_undo_0 : decode cX6_undo 0 = .ok (.aload_n 0, 1) := by decide +kernel
theorem dX6_undo_1 : decode cX6_undo 1 = .ok (.getfield 19, 3) := by decide +kernel
theorem dX6_undo_4 : decode cX6_undo 4 = .ok (.invokevirtual 149, 3) := by decide +kernel
theorem dX6_undo_7 : decode cX6_undo 7 = .ok (.ifCond .ne 7, 3) := by decide +kernel
theorem dX6_undo_10 : decode cX6_undo 10 = .ok (.sipush (-1002), 3) := by decide +kernel
theorem dX6_undo_13 : decode cX6_undo 13 = .ok (.ireturn, 1) := by decide +kernel
theorem dX6_undo_14 : decode cX6_undo 14 = .ok (.aload_n 0, 1) := by decide +kernel
theorem dX6_undo_15 : decode cX6_undo 15 = .ok (.getfield 19, 3) := by decide +kernel
theorem dX6_undo_18 : decode cX6_undo 18 = .ok (.aload_n 0, 1) := by decide +kernel
theorem dX6_undo_19 : decode cX6_undo 19 = .ok (.getfield 10, 3) := by decide +kernel
theorem dX6_undo_22 : decode cX6_undo 22 = .ok (.invokevirtual 150, 3) := by decide +kernel
theorem dX6_undo_25 : decode cX6_undo 25 = .ok (.aload_n 0, 1) := by decide +kernel
theorem dX6_undo_26 : decode cX6_undo 26 = .ok (.getfield 19, 3) := by decide +kernel
theorem dX6_undo_29 : decode cX6_undo 29 = .ok (.invokevirtual 149, 3) := by decide +kernel
theorem dX6_undo_32 : decode cX6_undo 32 = .ok (.ireturn, 1) := by decide +kernel
set_option maxRecDepth 20000 in
theorem ggX6_append_X6_isWithin : GoodIn wsX6_append wsX6_isWithin := goodIn_r _ [5] (by decide +kernel) (by decide +kernel)
set_option maxRecDepth 20000 in
theorem gX6_append_X6_isWithin : GoodIn wsX6_append (va_wsS RX6 44 yX6_isWithin wsX6_isWithin) := goodIn_app (goodIn_of _ (by decide +kernel)) ggX6_append_X6_isWithin
set_option maxRecDepth 20000 in
theorem ggX6_append_X4_length : GoodIn wsX6_append wsX4_length := goodIn_r _ [10, 11, 22, 23, 24, 25, 26, 27] (by decide +kernel) (by decide +kernel)
set_option maxRecDepth 20000 in
theorem gX6_append_X4_length : GoodIn wsX6_append (wsV RX6 153 RX4 yX4_length wsX4_length) := goodIn_app (goodIn_of _ (by decide +kernel)) ggX6_append_X4_length
set_option maxRecDepth 20000 in
theorem ggX6_append_X4_addCharacter : GoodIn wsX6_append wsX4_addCharacter := goodIn_r _ [15, 11, 16, 22, 23, 24, 25, 26, 27] (by decide +kernel) (by decide +kernel)
set_option maxRecDepth 20000 in
theorem gX6_append_X4_addCharacter : GoodIn wsX6_append (wsV RX6 156 RX4 yX4_addCharacter wsX4_addCharacter) := goodIn_app (goodIn_of _ (by decide +kernel)) ggX6_append_X4_addCharacter
theorem dX6_append_0 : decode cX6_append 0 = .ok (.iload_n 1, 1) := by decide +kernel
theorem dX6_append_1 : decode cX6_append 1 = .ok (.iconst 1, 1) := by decide +kernel
theorem dX6_append_2 : decode cX6_append 2 = .ok (.sipush 255, 3) := by decide +kernel
theorem dX6_append_5 : decode cX6_append 5 = .ok (.invokestatic 44, 3) := by decide +kernel
theorem dX6_append_8 : decode cX6_append 8 = .ok (.ifCond .ne 7, 3) := by decide +kernel
theorem dX6_append_11 : decode cX6_append 11 = .ok (.sipush (-1001), 3) := by decide +kernel
theorem dX6_append_14 : decode cX6_append 14 = .ok (.ireturn, 1) := by decide +kernel
theorem dX6_append_15 : decode cX6_append 15 = .ok (.aload_n 0, 1) := by decide +kernel
theorem dX6_append_16 : decode cX6_append 16 = .ok (.getfield 26, 3) := by decide +kernel
theorem dX6_append_19 : decode cX6_append 19 = .ok (.invokevirtual 153, 3) := by decide +kernel
theorem dX6_append_22 : decode cX6_append 22 = .ok (.sipush 140, 3) := by decide +kernel
theorem dX6_append_25 : decode cX6_append 25 = .ok (.if_icmp .lt 7, 3) := by decide +kernel
theorem dX6_append_28 : decode cX6_append 28 = .ok (.sipush (-1003), 3) := by decide +kernel
theorem dX6_append_31 : decode cX6_append 31 = .ok (.ireturn, 1) := by decide +kernel
theorem dX6_append_32 : decode cX6_append 32 = .ok (.aload_n 0, 1) := by decide +kernel
theorem dX6_append_33 : decode cX6_append 33 = .ok (.getfield 26, 3) := by decide +kernel
theorem dX6_append_36 : decode cX6_append 36 = .ok (.iload_n 1, 1) := by decide +kernel
theorem dX6_append_37 : decode cX6_append 37 = .ok (.invokevirtual 156, 3) := by decide +kernel
theorem dX6_append_40 : decode cX6_append 40 = .ok (.aload_n 0, 1) := by decide +kernel
theorem dX6_append_41 : decode cX6_append 41 = .ok (.getfield 26, 3) := by decide +kernel
theorem dX6_append_44 : decode cX6_append 44 = .ok (.invokevirtual 153, 3) := by decide +kernel
theorem dX6_append_47 : decode cX6_append 47 = .ok (.ireturn, 1) := by decide +kernel
set_option maxRecDepth 20000 in
theorem ggX6_clearText_X4_length : GoodIn wsX6_clearText wsX4_length := goodIn_r _ [6, 7, 17, 18, 19, 20, 21, 22] (by decide +kernel) (by decide +kernel)
set_option maxRecDepth 20000 in
theorem gX6_clearText_X4_length : GoodIn wsX6_clearText (wsV RX6 153 RX4 yX4_length wsX4_length) := goodIn_app (goodIn_of _ (by decide +kernel)) ggX6_clearText_X4_length
set_option maxRecDepth 20000 in
theorem ggX6_clearText_X4_forgetText : GoodIn wsX6_clearText wsX4_forgetText := goodIn_r _ [11, 7, 17, 18, 19, 20, 21, 22] (by decide +kernel) (by decide +kernel)
set_option maxRecDepth 20000 in
theorem gX6_clearText_X4_forgetText : GoodIn wsX6_clearText (wsV RX6 159 RX4 yX4_forgetText wsX4_forgetText) := goodIn_app (goodIn_of _ (by decide +kernel)) ggX6_clearText_X4_forgetText
theorem dX6_clearText_0 : decode cX6_clearText 0 = .ok (.aload_n 0, 1) := by decide +kernel
theorem dX6_clearText_1 : decode cX6_clearText 1 = .ok (.getfield 26, 3) := by decide +kernel
theorem dX6_clearText_4 : decode cX6_clearText 4 = .ok (.invokevirtual 153, 3) := by decide +kernel
theorem dX6_clearText_7 : decode cX6_clearText 7 = .ok (.istore_n 1, 1) := by decide +kernel
theorem dX6_clearText_8 : decode cX6_clearText 8 = .ok (.aload_n 0, 1) := by decide +kernel
theorem dX6_clearText_9 : decode cX6_clearText 9 = .ok (.getfield 26, 3) := by decide +kernel
theorem dX6_clearText_12 : decode cX6_clearText 12 = .ok (.invokevirtual 159, 3) := by decide +kernel
theorem dX6_clearText_15 : decode cX6_clearText 15 = .ok (.iload_n 1, 1) := by decide +kernel
theorem dX6_clearText_16 : decode cX6_clearText 16 = .ok (.ireturn, 1) := by decide +kernel
set_option maxRecDepth 20000 in
theorem ggX6_load_X4_readText : GoodIn wsX6_load wsX4_readText := goodIn_r _ [9, 10, 11, 12, 13, 14, 15, 16, 17, 18, 19, 20, 21, 22, 23, 24, 25, 26, 27, 28, 29, 8, 30, 31, 32, 33, 34, 35, 36, 37, 38, 39, 40, 41, 42, 43, 44, 45, 46, 47, 48, 49, 50, 51, 52, 53, 54, 55, 56, 57, 58, 59, 60, 61, 62, 63, 64, 65, 66, 67, 68, 69, 70, 140, 141, 142, 143, 144, 145, 146, 147, 148, 149, 150, 151] (by decide +kernel) (by decide +kernel)
set_option maxRecDepth 20000 in
theorem gX6_load_X4_readText : GoodIn wsX6_load (wsV RX6 162 RX4 yX4_readText wsX4_readText) := goodIn_app (goodIn_of _ (by decide +kernel)) ggX6_load_X4_readText
set_option maxRecDepth 20000 in
theorem ggX6_load_X2_keep : GoodIn wsX6_load wsX2_keep := goodIn_r _ [75, 76, 77, 78, 79, 45, 46, 47, 80, 81, 82, 83, 84, 85, 86, 87, 24, 25, 26, 88, 89, 90, 91, 92, 93, 94, 95, 96, 97, 98, 99, 100, 101, 102, 103, 104, 105, 106, 107, 18, 19, 20, 21, 22, 23, 108, 109, 110, 111, 112, 113, 114, 115, 116, 152, 153, 154, 130, 131, 132, 133, 134, 135, 136, 137, 138, 139, 146, 147, 148, 149, 150, 151, 155, 156, 157] (by decide +kernel) (by decide +kernel)
set_option maxRecDepth 20000 in
theorem gX6_load_X2_keep : GoodIn wsX6_load (wsV RX6 48 RX2 yX2_keep wsX2_keep) := goodIn_app (goodIn_of _ (by decide +kernel)) ggX6_load_X2_keep
set_option maxRecDepth 20000 in
theorem ggX6_load_X4_handPictureTo : GoodIn wsX6_load wsX4_handPictureTo := goodIn_r _ [120, 11, 10, 13, 12, 17, 18, 19, 20, 21, 22, 23, 24, 25, 26, 146, 147, 148, 149, 150, 140, 141, 142, 143, 144, 145, 151] (by decide +kernel) (by decide +kernel)
set_option maxRecDepth 20000 in
theorem gX6_load_X4_handPictureTo : GoodIn wsX6_load (wsV RX6 166 RX4 yX4_handPictureTo wsX4_handPictureTo) := goodIn_app (goodIn_of _ (by decide +kernel)) ggX6_load_X4_handPictureTo
set_option maxRecDepth 20000 in
theorem ggX6_load_X4_forgetText : GoodIn wsX6_load wsX4_forgetText := goodIn_r _ [124, 16, 140, 141, 142, 143, 144, 145] (by decide +kernel) (by decide +kernel)
set_option maxRecDepth 20000 in
theorem gX6_load_X4_forgetText : GoodIn wsX6_load (wsV RX6 159 RX4 yX4_forgetText wsX4_forgetText) := goodIn_app (goodIn_of _ (by decide +kernel)) ggX6_load_X4_forgetText
theorem dX6_load_0 : decode cX6_load 0 = .ok (.aload_n 0, 1) := by decide +kernel
theorem dX6_load_1 : decode cX6_load 1 = .ok (.getfield 26, 3) := by decide +kernel
theorem dX6_load_4 : decode cX6_load 4 = .ok (.aload_n 0, 1) := by decide +kernel
theorem dX6_load_5 : decode cX6_load 5 = .ok (.getfield 10, 3) := by decide +kernel
theorem dX6_load_8 : decode cX6_load 8 = .ok (.getfield 52, 3) := by decide +kernel
theorem dX6_load_11 : decode cX6_load 11 = .ok (.invokevirtual 162, 3) := by decide +kernel
theorem dX6_load_14 : decode cX6_load 14 = .ok (.istore_n 1, 1) := by decide +kernel
theorem dX6_load_15 : decode cX6_load 15 = .ok (.iload_n 1, 1) := by decide +kernel
theorem dX6_load_16 : decode cX6_load 16 = .ok (.ifCond .ge 5, 3) := by decide +kernel
theorem dX6_load_19 : decode cX6_load 19 = .ok (.iload_n 1, 1) := by decide +kernel
theorem dX6_load_20 : decode cX6_load 20 = .ok (.ireturn, 1) := by decide +kernel
theorem dX6_load_21 : decode cX6_load 21 = .ok (.aload_n 0, 1) := by decide +kernel
theorem dX6_load_22 : decode cX6_load 22 = .ok (.getfield 19, 3) := by decide +kernel
theorem dX6_load_25 : decode cX6_load 25 = .ok (.aload_n 0, 1) := by decide +kernel
theorem dX6_load_26 : decode cX6_load 26 = .ok (.getfield 10, 3) := by decide +kernel
theorem dX6_load_29 : decode cX6_load 29 = .ok (.invokevirtual 48, 3) := by decide +kernel
theorem dX6_load_32 : decode cX6_load 32 = .ok (.aload_n 0, 1) := by decide +kernel
theorem dX6_load_33 : decode cX6_load 33 = .ok (.getfield 26, 3) := by decide +kernel
theorem dX6_load_36 : decode cX6_load 36 = .ok (.aload_n 0, 1) := by decide +kernel
theorem dX6_load_37 : decode cX6_load 37 = .ok (.getfield 10, 3) := by decide +kernel
theorem dX6_load_40 : decode cX6_load 40 = .ok (.getfield 52, 3) := by decide +kernel
theorem dX6_load_43 : decode cX6_load 43 = .ok (.invokevirtual 166, 3) := by decide +kernel
theorem dX6_load_46 : decode cX6_load 46 = .ok (.aload_n 0, 1) := by decide +kernel
theorem dX6_load_47 : decode cX6_load 47 = .ok (.getfield 26, 3) := by decide +kernel
theorem dX6_load_50 : decode cX6_load 50 = .ok (.invokevirtual 159, 3) := by decide +kernel
theorem dX6_load_53 : decode cX6_load 53 = .ok (.iload_n 1, 1) := by decide +kernel
theorem dX6_load_54 : decode cX6_load 54 = .ok (.ireturn, 1) := by decide +kernel
set_option maxRecDepth 20000 in
theorem ggX6_count_X5_shiftX : GoodIn wsX6_count wsX5_shiftX := goodIn_r _ [18, 19, 20, 21, 22, 17, 23, 24, 115, 116, 117, 118, 119, 120, 121, 122, 123, 124] (by decide +kernel) (by decide +kernel)
set_option maxRecDepth 20000 in
theorem gX6_count_X5_shiftX : GoodIn wsX6_count (wsV RX6 110 RX5 yX5_shiftX wsX5_shiftX) := goodIn_app (goodIn_of _ (by decide +kernel)) ggX6_count_X5_shiftX
set_option maxRecDepth 20000 in
theorem ggX6_count_X5_shiftY : GoodIn wsX6_count wsX5_shiftY := goodIn_r _ [28, 29, 30, 31, 32, 17, 33, 24, 115, 116, 117, 118, 119, 120, 121, 122, 123, 124] (by decide +kernel) (by decide +kernel)
set_option maxRecDepth 20000 in
theorem gX6_count_X5_shiftY : GoodIn wsX6_count (wsV RX6 113 RX5 yX5_shiftY wsX5_shiftY) := goodIn_app (goodIn_of _ (by decide +kernel)) ggX6_count_X5_shiftY
set_option maxRecDepth 20000 in
theorem ggX6_count_X0_paintedCells : GoodIn wsX6_count wsX0_paintedCells := goodIn_r _ [38, 39, 40, 41, 42, 43, 44, 45, 46, 47, 48, 49, 50, 51, 52, 53, 125, 126, 127, 128, 129, 130] (by decide +kernel) (by decide +kernel)
set_option maxRecDepth 20000 in
theorem gX6_count_X0_paintedCells : GoodIn wsX6_count (wsV RX6 139 RX0 yX0_paintedCells wsX0_paintedCells) := goodIn_app (goodIn_of _ (by decide +kernel)) ggX6_count_X0_paintedCells
set_option maxRecDepth 20000 in
theorem ggX6_count_X1_size : GoodIn wsX6_count wsX1_size := goodIn_r _ [45, 46, 47, 48, 49, 50, 51, 52, 53, 130] (by decide +kernel) (by decide +kernel)
set_option maxRecDepth 20000 in
theorem gX6_count_X1_size : GoodIn wsX6_count (wsV RX6 69 RX1 yX1_size wsX1_size) := goodIn_app (goodIn_of _ (by decide +kernel)) ggX6_count_X1_size
set_option maxRecDepth 20000 in
theorem ggX6_count_X6_wornCells : GoodIn wsX6_count wsX6_wornCells := goodIn_r _ [59, 1, 6, 9, 60, 61, 62, 63, 58, 64, 65, 66, 67, 17, 68, 24, 69, 70, 71, 37, 72, 73, 74, 75, 76, 77, 78, 79, 44, 80, 46, 81, 82, 83, 84, 85, 54, 42, 43, 45, 47, 48, 49, 50, 51, 52, 53, 110, 111, 112, 113, 114, 115, 116, 117, 118, 119, 120, 121, 122, 123, 124, 125, 126, 127, 128, 129, 130] (by decide +kernel) (by decide +kernel)
set_option maxRecDepth 20000 in
theorem gX6_count_X6_wornCells : GoodIn wsX6_count (wsV RX6 97 RX6 yX6_wornCells wsX6_wornCells) := goodIn_app (goodIn_of _ (by decide +kernel)) ggX6_count_X6_wornCells
set_option maxRecDepth 20000 in
theorem ggX6_count_X3_size : GoodIn wsX6_count wsX3_size := goodIn_r _ [90, 91, 131, 132, 133] (by decide +kernel) (by decide +kernel)
set_option maxRecDepth 20000 in
theorem gX6_count_X3_size : GoodIn wsX6_count (wsV RX6 180 RX3 yX3_size wsX3_size) := goodIn_app (goodIn_of _ (by decide +kernel)) ggX6_count_X3_size
set_option maxRecDepth 20000 in
theorem ggX6_count_X5_snapshots : GoodIn wsX6_count wsX5_snapshots := goodIn_r _ [95, 96, 97, 75, 58, 76, 115, 116, 117, 118, 119, 120, 121, 122, 123, 124] (by decide +kernel) (by decide +kernel)
set_option maxRecDepth 20000 in
theorem gX6_count_X5_snapshots : GoodIn wsX6_count (wsV RX6 183 RX5 yX5_snapshots wsX5_snapshots) := goodIn_app (goodIn_of _ (by decide +kernel)) ggX6_count_X5_snapshots
set_option maxRecDepth 20000 in
theorem ggX6_count_X2_size : GoodIn wsX6_count wsX2_size := goodIn_r _ [102, 103, 134, 135, 136] (by decide +kernel) (by decide +kernel)
set_option maxRecDepth 20000 in
theorem gX6_count_X2_size : GoodIn wsX6_count (wsV RX6 149 RX2 yX2_size wsX2_size) := goodIn_app (goodIn_of _ (by decide +kernel)) ggX6_count_X2_size
set_option maxRecDepth 20000 in
theorem ggX6_count_X4_length : GoodIn wsX6_count wsX4_length := goodIn_r _ [108, 109, 137, 138, 139, 140, 141, 142] (by decide +kernel) (by decide +kernel)
set_option maxRecDepth 20000 in
theorem gX6_count_X4_length : GoodIn wsX6_count (wsV RX6 153 RX4 yX4_length wsX4_length) := goodIn_app (goodIn_of _ (by decide +kernel)) ggX6_count_X4_length
theorem dX6_count_0 : decode cX6_count 0 = .ok (.iload_n 1, 1) := by decide +kernel
theorem dX6_count_1 : decode cX6_count 1 = .ok (.tableswitch 258 0 19 #[95, 103, 103, 103, 103, 103, 115, 123, 131, 139, 147, 162, 176, 190, 204, 218, 223, 234, 242, 250], 95) := by decide +kernel
theorem dX6_count_96 : decode cX6_count 96 = .ok (.aload_n 0, 1) := by decide +kernel
theorem dX6_count_97 : decode cX6_count 97 = .ok (.getfield 10, 3) := by decide +kernel
theorem dX6_count_100 : decode cX6_count 100 = .ok (.getfield 130, 3) := by decide +kernel
theorem dX6_count_103 : decode cX6_count 103 = .ok (.ireturn, 1) := by decide +kernel
theorem dX6_count_104 : decode cX6_count 104 = .ok (.aload_n 0, 1) := by decide +kernel
theorem dX6_count_105 : decode cX6_count 105 = .ok (.getfield 10, 3) := by decide +kernel
theorem dX6_count_108 : decode cX6_count 108 = .ok (.getfield 127, 3) := by decide +kernel
theorem dX6_count_111 : decode cX6_count 111 = .ok (.iload_n 1, 1) := by decide +kernel
theorem dX6_count_112 : decode cX6_count 112 = .ok (.iconst 1, 1) := by decide +kernel
theorem dX6_count_113 : decode cX6_count 113 = .ok (.isub, 1) := by decide +kernel
theorem dX6_count_114 : decode cX6_count 114 = .ok (.iaload, 1) := by decide +kernel
theorem dX6_count_115 : decode cX6_count 115 = .ok (.ireturn, 1) := by decide +kernel
theorem dX6_count_116 : decode cX6_count 116 = .ok (.aload_n 0, 1) := by decide +kernel
theorem dX6_count_117 : decode cX6_count 117 = .ok (.getfield 10, 3) := by decide +kernel
theorem dX6_count_120 : decode cX6_count 120 = .ok (.getfield 100, 3) := by decide +kernel
theorem dX6_count_123 : decode cX6_count 123 = .ok (.ireturn, 1) := by decide +kernel
theorem dX6_count_124 : decode cX6_count 124 = .ok (.aload_n 0, 1) := by decide +kernel
theorem dX6_count_125 : decode cX6_count 125 = .ok (.getfield 10, 3) := by decide +kernel
theorem dX6_count_128 : decode cX6_count 128 = .ok (.getfield 104, 3) := by decide +kernel
theorem dX6_count_131 : decode cX6_count 131 = .ok (.ireturn, 1) := by decide +kernel
theorem dX6_count_132 : decode cX6_count 132 = .ok (.aload_n 0, 1) := by decide +kernel
theorem dX6_count_133 : decode cX6_count 133 = .ok (.getfield 10, 3) := by decide +kernel
theorem dX6_count_136 : decode cX6_count 136 = .ok (.invokevirtual 110, 3) := by decide +kernel
theorem dX6_count_139 : decode cX6_count 139 = .ok (.ireturn, 1) := by decide +kernel
theorem dX6_count_140 : decode cX6_count 140 = .ok (.aload_n 0, 1) := by decide +kernel
theorem dX6_count_141 : decode cX6_count 141 = .ok (.getfield 10, 3) := by decide +kernel
theorem dX6_count_144 : decode cX6_count 144 = .ok (.invokevirtual 113, 3) := by decide +kernel
theorem dX6_count_147 : decode cX6_count 147 = .ok (.ireturn, 1) := by decide +kernel
theorem dX6_count_148 : decode cX6_count 148 = .ok (.sipush 192, 3) := by decide +kernel
theorem dX6_count_151 : decode cX6_count 151 = .ok (.aload_n 0, 1) := by decide +kernel
theorem dX6_count_152 : decode cX6_count 152 = .ok (.getfield 10, 3) := by decide +kernel
theorem dX6_count_155 : decode cX6_count 155 = .ok (.getfield 52, 3) := by decide +kernel
theorem dX6_count_158 : decode cX6_count 158 = .ok (.invokevirtual 139, 3) := by decide +kernel
theorem dX6_count_161 : decode cX6_count 161 = .ok (.isub, 1) := by decide +kernel
theorem dX6_count_162 : decode cX6_count 162 = .ok (.ireturn, 1) := by decide +kernel
theorem dX6_count_163 : decode cX6_count 163 = .ok (.aload_n 0, 1) := by decide +kernel
theorem dX6_count_164 : decode cX6_count 164 = .ok (.getfield 10, 3) := by decide +kernel
theorem dX6_count_167 : decode cX6_count 167 = .ok (.getfield 52, 3) := by decide +kernel
theorem dX6_count_170 : decode cX6_count 170 = .ok (.getfield 170, 3) := by decide +kernel
theorem dX6_count_173 : decode cX6_count 173 = .ok (.invokevirtual 69, 3) := by decide +kernel
theorem dX6_count_176 : decode cX6_count 176 = .ok (.ireturn, 1) := by decide +kernel
theorem dX6_count_177 : decode cX6_count 177 = .ok (.aload_n 0, 1) := by decide +kernel
theorem dX6_count_178 : decode cX6_count 178 = .ok (.getfield 10, 3) := by decide +kernel
theorem dX6_count_181 : decode cX6_count 181 = .ok (.getfield 52, 3) := by decide +kernel
theorem dX6_count_184 : decode cX6_count 184 = .ok (.getfield 173, 3) := by decide +kernel
theorem dX6_count_187 : decode cX6_count 187 = .ok (.invokevirtual 69, 3) := by decide +kernel
theorem dX6_count_190 : decode cX6_count 190 = .ok (.ireturn, 1) := by decide +kernel
theorem dX6_count_191 : decode cX6_count 191 = .ok (.aload_n 0, 1) := by decide +kernel
theorem dX6_count_192 : decode cX6_count 192 = .ok (.getfield 10, 3) := by decide +kernel
theorem dX6_count_195 : decode cX6_count 195 = .ok (.getfield 52, 3) := by decide +kernel
theorem dX6_count_198 : decode cX6_count 198 = .ok (.getfield 73, 3) := by decide +kernel
theorem dX6_count_201 : decode cX6_count 201 = .ok (.invokevirtual 69, 3) := by decide +kernel
theorem dX6_count_204 : decode cX6_count 204 = .ok (.ireturn, 1) := by decide +kernel
theorem dX6_count_205 : decode cX6_count 205 = .ok (.aload_n 0, 1) := by decide +kernel
theorem dX6_count_206 : decode cX6_count 206 = .ok (.getfield 10, 3) := by decide +kernel
theorem dX6_count_209 : decode cX6_count 209 = .ok (.getfield 52, 3) := by decide +kernel
theorem dX6_count_212 : decode cX6_count 212 = .ok (.getfield 66, 3) := by decide +kernel
theorem dX6_count_215 : decode cX6_count 215 = .ok (.invokevirtual 69, 3) := by decide +kernel
theorem dX6_count_218 : decode cX6_count 218 = .ok (.ireturn, 1) := by decide +kernel
theorem dX6_count_219 : decode cX6_count 219 = .ok (.aload_n 0, 1) := by decide +kernel
theorem dX6_count_220 : decode cX6_count 220 = .ok (.invokevirtual 97, 3) := by decide +kernel
theorem dX6_count_223 : decode cX6_count 223 = .ok (.ireturn, 1) := by decide +kernel
theorem dX6_count_224 : decode cX6_count 224 = .ok (.aload_n 0, 1) := by decide +kernel
theorem dX6_count_225 : decode cX6_count 225 = .ok (.getfield 10, 3) := by decide +kernel
theorem dX6_count_228 : decode cX6_count 228 = .ok (.getfield 176, 3) := by decide +kernel
theorem dX6_count_231 : decode cX6_count 231 = .ok (.invokevirtual 180, 3) := by decide +kernel
theorem dX6_count_234 : decode cX6_count 234 = .ok (.ireturn, 1) := by decide +kernel
theorem dX6_count_235 : decode cX6_count 235 = .ok (.aload_n 0, 1) := by decide +kernel
theorem dX6_count_236 : decode cX6_count 236 = .ok (.getfield 10, 3) := by decide +kernel
theorem dX6_count_239 : decode cX6_count 239 = .ok (.invokevirtual 183, 3) := by decide +kernel
theorem dX6_count_242 : decode cX6_count 242 = .ok (.ireturn, 1) := by decide +kernel
theorem dX6_count_243 : decode cX6_count 243 = .ok (.aload_n 0, 1) := by decide +kernel
theorem dX6_count_244 : decode cX6_count 244 = .ok (.getfield 19, 3) := by decide +kernel
theorem dX6_count_247 : decode cX6_count 247 = .ok (.invokevirtual 149, 3) := by decide +kernel
theorem dX6_count_250 : decode cX6_count 250 = .ok (.ireturn, 1) := by decide +kernel
theorem dX6_count_251 : decode cX6_count 251 = .ok (.aload_n 0, 1) := by decide +kernel
theorem dX6_count_252 : decode cX6_count 252 = .ok (.getfield 26, 3) := by decide +kernel
theorem dX6_count_255 : decode cX6_count 255 = .ok (.invokevirtual 153, 3) := by decide +kernel
theorem dX6_count_258 : decode cX6_count 258 = .ok (.ireturn, 1) := by decide +kernel
theorem dX6_count_259 : decode cX6_count 259 = .ok (.sipush (-1001), 3) := by decide +kernel
theorem dX6_count_262 : decode cX6_count 262 = .ok (.ireturn, 1) := by decide +kernel
set_option maxRecDepth 20000 in
theorem ggX6_cell_X6_isPlace : GoodIn wsX6_cell wsX6_isPlace := goodIn_r _ [8] (by decide +kernel) (by decide +kernel)
set_option maxRecDepth 20000 in
theorem gX6_cell_X6_isPlace : GoodIn wsX6_cell (va_wsS RX6 40 yX6_isPlace wsX6_isPlace) := goodIn_app (goodIn_of _ (by decide +kernel)) ggX6_cell_X6_isPlace
set_option maxRecDepth 20000 in
theorem ggX6_cell_X0_kindAt : GoodIn wsX6_cell wsX0_kindAt := goodIn_r _ [13, 14, 15, 16, 17, 18, 19, 20, 21, 6, 7, 8, 58, 59, 60, 61, 62, 63] (by decide +kernel) (by decide +kernel)
set_option maxRecDepth 20000 in
theorem gX6_cell_X0_kindAt : GoodIn wsX6_cell (wsV RX6 186 RX0 yX0_kindAt wsX0_kindAt) := goodIn_app (goodIn_of _ (by decide +kernel)) ggX6_cell_X0_kindAt
set_option maxRecDepth 20000 in
theorem ggX6_cell_X1_has : GoodIn wsX6_cell wsX1_has := goodIn_r _ [20, 21, 6, 7, 8, 63] (by decide +kernel) (by decide +kernel)
set_option maxRecDepth 20000 in
theorem gX6_cell_X1_has : GoodIn wsX6_cell (wsV RX6 76 RX1 yX1_has wsX1_has) := goodIn_app (goodIn_of _ (by decide +kernel)) ggX6_cell_X1_has
set_option maxRecDepth 20000 in
theorem ggX6_cell_X6_oneIf : GoodIn wsX6_cell wsX6_oneIf := goodIn_r _ [25] (by decide +kernel) (by decide +kernel)
set_option maxRecDepth 20000 in
theorem gX6_cell_X6_oneIf : GoodIn wsX6_cell (va_wsS RX6 79 yX6_oneIf wsX6_oneIf) := goodIn_app (goodIn_of _ (by decide +kernel)) ggX6_cell_X6_oneIf
set_option maxRecDepth 20000 in
theorem ggX6_cell_X0_wearAt : GoodIn wsX6_cell wsX0_wearAt := goodIn_r _ [29, 30, 6, 7, 8, 58, 59, 60, 61, 62] (by decide +kernel) (by decide +kernel)
set_option maxRecDepth 20000 in
theorem gX6_cell_X0_wearAt : GoodIn wsX6_cell (wsV RX6 189 RX0 yX0_wearAt wsX0_wearAt) := goodIn_app (goodIn_of _ (by decide +kernel)) ggX6_cell_X0_wearAt
set_option maxRecDepth 20000 in
theorem ggX6_cell_X5_hardness : GoodIn wsX6_cell wsX5_hardness := goodIn_r _ [35, 36, 48, 49, 50, 51, 52, 53, 54, 55, 56, 57] (by decide +kernel) (by decide +kernel)
set_option maxRecDepth 20000 in
theorem gX6_cell_X5_hardness : GoodIn wsX6_cell (wsV RX6 91 RX5 yX5_hardness wsX5_hardness) := goodIn_app (goodIn_of _ (by decide +kernel)) ggX6_cell_X5_hardness
set_option maxRecDepth 20000 in
theorem ggX6_cell_X0_isWorn : GoodIn wsX6_cell wsX0_isWorn := goodIn_r _ [40, 41, 16, 17, 18, 19, 20, 21, 6, 7, 8, 42, 27, 28, 12, 29, 30, 58, 59, 60, 61, 62, 63] (by decide +kernel) (by decide +kernel)
set_option maxRecDepth 20000 in
theorem gX6_cell_X0_isWorn : GoodIn wsX6_cell (wsV RX6 94 RX0 yX0_isWorn wsX0_isWorn) := goodIn_app (goodIn_of _ (by decide +kernel)) ggX6_cell_X0_isWorn
theorem dX6_cell_0 : decode cX6_cell 0 = .ok (.iload_n 1, 1) := by decide +kernel
theorem dX6_cell_1 : decode cX6_cell 1 = .ok (.iload_n 2, 1) := by decide +kernel
theorem dX6_cell_2 : decode cX6_cell 2 = .ok (.invokestatic 40, 3) := by decide +kernel
theorem dX6_cell_5 : decode cX6_cell 5 = .ok (.ifCond .ne 7, 3) := by decide +kernel
theorem dX6_cell_8 : decode cX6_cell 8 = .ok (.sipush (-1001), 3) := by decide +kernel
theorem dX6_cell_11 : decode cX6_cell 11 = .ok (.ireturn, 1) := by decide +kernel
theorem dX6_cell_12 : decode cX6_cell 12 = .ok (.iload_n 3, 1) := by decide +kernel
theorem dX6_cell_13 : decode cX6_cell 13 = .ok (.tableswitch 122 0 4 #[35, 48, 67, 86, 99], 35) := by decide +kernel
theorem dX6_cell_48 : decode cX6_cell 48 = .ok (.aload_n 0, 1) := by decide +kernel
theorem dX6_cell_49 : decode cX6_cell 49 = .ok (.getfield 10, 3) := by decide +kernel
theorem dX6_cell_52 : decode cX6_cell 52 = .ok (.getfield 52, 3) := by decide +kernel
theorem dX6_cell_55 : decode cX6_cell 55 = .ok (.iload_n 1, 1) := by decide +kernel
theorem dX6_cell_56 : decode cX6_cell 56 = .ok (.iload_n 2, 1) := by decide +kernel
theorem dX6_cell_57 : decode cX6_cell 57 = .ok (.invokevirtual 186, 3) := by decide +kernel
theorem dX6_cell_60 : decode cX6_cell 60 = .ok (.ireturn, 1) := by decide +kernel
theorem dX6_cell_61 : decode cX6_cell 61 = .ok (.aload_n 0, 1) := by decide +kernel
theorem dX6_cell_62 : decode cX6_cell 62 = .ok (.getfield 10, 3) := by decide +kernel
theorem dX6_cell_65 : decode cX6_cell 65 = .ok (.getfield 52, 3) := by decide +kernel
theorem dX6_cell_68 : decode cX6_cell 68 = .ok (.getfield 73, 3) := by decide +kernel
theorem dX6_cell_71 : decode cX6_cell 71 = .ok (.iload_n 1, 1) := by decide +kernel
theorem dX6_cell_72 : decode cX6_cell 72 = .ok (.iload_n 2, 1) := by decide +kernel
theorem dX6_cell_73 : decode cX6_cell 73 = .ok (.invokevirtual 76, 3) := by decide +kernel
theorem dX6_cell_76 : decode cX6_cell 76 = .ok (.invokestatic 79, 3) := by decide +kernel
theorem dX6_cell_79 : decode cX6_cell 79 = .ok (.ireturn, 1) := by decide +kernel
theorem dX6_cell_80 : decode cX6_cell 80 = .ok (.aload_n 0, 1) := by decide +kernel
theorem dX6_cell_81 : decode cX6_cell 81 = .ok (.getfield 10, 3) := by decide +kernel
theorem dX6_cell_84 : decode cX6_cell 84 = .ok (.getfield 52, 3) := by decide +kernel
theorem dX6_cell_87 : decode cX6_cell 87 = .ok (.getfield 66, 3) := by decide +kernel
theorem dX6_cell_90 : decode cX6_cell 90 = .ok (.iload_n 1, 1) := by decide +kernel
theorem dX6_cell_91 : decode cX6_cell 91 = .ok (.iload_n 2, 1) := by decide +kernel
theorem dX6_cell_92 : decode cX6_cell 92 = .ok (.invokevirtual 76, 3) := by decide +kernel
theorem dX6_cell_95 : decode cX6_cell 95 = .ok (.invokestatic 79, 3) := by decide +kernel
theorem dX6_cell_98 : decode cX6_cell 98 = .ok (.ireturn, 1) := by decide +kernel
theorem dX6_cell_99 : decode cX6_cell 99 = .ok (.aload_n 0, 1) := by decide +kernel
theorem dX6_cell_100 : decode cX6_cell 100 = .ok (.getfield 10, 3) := by decide +kernel
theorem dX6_cell_103 : decode cX6_cell 103 = .ok (.getfield 52, 3) := by decide +kernel
theorem dX6_cell_106 : decode cX6_cell 106 = .ok (.iload_n 1, 1) := by decide +kernel
theorem dX6_cell_107 : decode cX6_cell 107 = .ok (.iload_n 2, 1) := by decide +kernel
theorem dX6_cell_108 : decode cX6_cell 108 = .ok (.invokevirtual 189, 3) := by decide +kernel
theorem dX6_cell_111 : decode cX6_cell 111 = .ok (.ireturn, 1) := by decide +kernel
theorem dX6_cell_112 : decode cX6_cell 112 = .ok (.aload_n 0, 1) := by decide +kernel
theorem dX6_cell_113 : decode cX6_cell 113 = .ok (.getfield 10, 3) := by decide +kernel
theorem dX6_cell_116 : decode cX6_cell 116 = .ok (.getfield 52, 3) := by decide +kernel
theorem dX6_cell_119 : decode cX6_cell 119 = .ok (.iload_n 1, 1) := by decide +kernel
theorem dX6_cell_120 : decode cX6_cell 120 = .ok (.iload_n 2, 1) := by decide +kernel
theorem dX6_cell_121 : decode cX6_cell 121 = .ok (.aload_n 0, 1) := by decide +kernel
theorem dX6_cell_122 : decode cX6_cell 122 = .ok (.getfield 10, 3) := by decide +kernel
theorem dX6_cell_125 : decode cX6_cell 125 = .ok (.invokevirtual 91, 3) := by decide +kernel
theorem dX6_cell_128 : decode cX6_cell 128 = .ok (.invokevirtual 94, 3) := by decide +kernel
theorem dX6_cell_131 : decode cX6_cell 131 = .ok (.invokestatic 79, 3) := by decide +kernel
theorem dX6_cell_134 : decode cX6_cell 134 = .ok (.ireturn, 1) := by decide +kernel
theorem dX6_cell_135 : decode cX6_cell 135 = .ok (.sipush (-1001), 3) := by decide +kernel
theorem dX6_cell_138 : decode cX6_cell 138 = .ok (.ireturn, 1) := by decide +kernel
set_option maxRecDepth 20000 in
theorem ggX6_printed_X6_isPlace : GoodIn wsX6_printed wsX6_isPlace := goodIn_r _ [5] (by decide +kernel) (by decide +kernel)
set_option maxRecDepth 20000 in
theorem gX6_printed_X6_isPlace : GoodIn wsX6_printed (va_wsS RX6 40 yX6_isPlace wsX6_isPlace) := goodIn_app (goodIn_of _ (by decide +kernel)) ggX6_printed_X6_isPlace
set_option maxRecDepth 20000 in
theorem ggX6_printed_X6_isShift : GoodIn wsX6_printed wsX6_isShift := goodIn_r _ [8, 9, 10, 4, 11] (by decide +kernel) (by decide +kernel)
set_option maxRecDepth 20000 in
theorem gX6_printed_X6_isShift : GoodIn wsX6_printed (va_wsS RX6 192 yX6_isShift wsX6_isShift) := goodIn_app (goodIn_of _ (by decide +kernel)) ggX6_printed_X6_isShift
set_option maxRecDepth 20000 in
theorem ggX6_printed_X6_findInk : GoodIn wsX6_printed wsX6_findInk := goodIn_r _ [15, 16, 17, 1, 18, 19, 20, 21, 22, 23, 24, 25, 26, 27, 28, 29, 30, 31, 4, 32, 33, 34, 35, 36, 37, 38, 39, 40, 41, 42, 43, 54, 55, 56, 57, 58, 59, 60, 61, 62, 63, 64, 65, 66, 67, 68, 69, 70, 71, 72, 73, 74] (by decide +kernel) (by decide +kernel)
set_option maxRecDepth 20000 in
theorem gX6_printed_X6_findInk : GoodIn wsX6_printed (wsV RX6 107 RX6 yX6_findInk wsX6_findInk) := goodIn_app (goodIn_of _ (by decide +kernel)) ggX6_printed_X6_findInk
set_option maxRecDepth 20000 in
theorem ggX6_printed_X6_printsColour : GoodIn wsX6_printed wsX6_printsColour := goodIn_r _ [47, 16, 17, 48, 49, 50, 51, 36, 52, 38, 3, 4, 5, 54, 55, 56, 57, 58, 59, 60, 61, 62, 63, 64, 65, 66, 67, 68, 69, 70, 71, 72, 73, 74] (by decide +kernel) (by decide +kernel)
set_option maxRecDepth 20000 in
theorem gX6_printed_X6_printsColour : GoodIn wsX6_printed (wsV RX6 195 RX6 yX6_printsColour wsX6_printsColour) := goodIn_app (goodIn_of _ (by decide +kernel)) ggX6_printed_X6_printsColour
set_option maxRecDepth 20000 in
theorem ggX6_printed_X6_oneIf : GoodIn wsX6_printed wsX6_oneIf := goodIn_r _ [32] (by decide +kernel) (by decide +kernel)
set_option maxRecDepth 20000 in
theorem gX6_printed_X6_oneIf : GoodIn wsX6_printed (va_wsS RX6 79 yX6_oneIf wsX6_oneIf) := goodIn_app (goodIn_of _ (by decide +kernel)) ggX6_printed_X6_oneIf
set_option maxRecDepth 20000 in
theorem ggX6_printed_X1_has : GoodIn wsX6_printed wsX1_has := goodIn_r _ [52, 38, 3, 4, 5, 74] (by decide +kernel) (by decide +kernel)
set_option maxRecDepth 20000 in
theorem gX6_printed_X1_has : GoodIn wsX6_printed (wsV RX6 76 RX1 yX1_has wsX1_has) := goodIn_app (goodIn_of _ (by decide +kernel)) ggX6_printed_X1_has
theorem dX6_printed_0 : decode cX6_printed 0 = .ok (.iload_n 1, 1) := by decide +kernel
theorem dX6_printed_1 : decode cX6_printed 1 = .ok (.iload_n 2, 1) := by decide +kernel
theorem dX6_printed_2 : decode cX6_printed 2 = .ok (.invokestatic 40, 3) := by decide +kernel
theorem dX6_printed_5 : decode cX6_printed 5 = .ok (.ifCond .eq 12, 3) := by decide +kernel
theorem dX6_printed_8 : decode cX6_printed 8 = .ok (.iload_n 3, 1) := by decide +kernel
theorem dX6_printed_9 : decode cX6_printed 9 = .ok (.iload 4, 2) := by decide +kernel
theorem dX6_printed_11 : decode cX6_printed 11 = .ok (.invokestatic 192, 3) := by decide +kernel
theorem dX6_printed_14 : decode cX6_printed 14 = .ok (.ifCond .ne 7, 3) := by decide +kernel
theorem dX6_printed_17 : decode cX6_printed 17 = .ok (.sipush (-1001), 3) := by decide +kernel
theorem dX6_printed_20 : decode cX6_printed 20 = .ok (.ireturn, 1) := by decide +kernel
theorem dX6_printed_21 : decode cX6_printed 21 = .ok (.aload_n 0, 1) := by decide +kernel
theorem dX6_printed_22 : decode cX6_printed 22 = .ok (.invokevirtual 107, 3) := by decide +kernel
theorem dX6_printed_25 : decode cX6_printed 25 = .ok (.aload_n 0, 1) := by decide +kernel
theorem dX6_printed_26 : decode cX6_printed 26 = .ok (.iload_n 1, 1) := by decide +kernel
theorem dX6_printed_27 : decode cX6_printed 27 = .ok (.iload_n 2, 1) := by decide +kernel
theorem dX6_printed_28 : decode cX6_printed 28 = .ok (.iload_n 3, 1) := by decide +kernel
theorem dX6_printed_29 : decode cX6_printed 29 = .ok (.iload 4, 2) := by decide +kernel
theorem dX6_printed_31 : decode cX6_printed 31 = .ok (.invokevirtual 195, 3) := by decide +kernel
theorem dX6_printed_34 : decode cX6_printed 34 = .ok (.invokestatic 79, 3) := by decide +kernel
theorem dX6_printed_37 : decode cX6_printed 37 = .ok (.iconst 2, 1) := by decide +kernel
theorem dX6_printed_38 : decode cX6_printed 38 = .ok (.aload_n 0, 1) := by decide +kernel
theorem dX6_printed_39 : decode cX6_printed 39 = .ok (.getfield 33, 3) := by decide +kernel
theorem dX6_printed_42 : decode cX6_printed 42 = .ok (.iload_n 1, 1) := by decide +kernel
theorem dX6_printed_43 : decode cX6_printed 43 = .ok (.iload_n 2, 1) := by decide +kernel
theorem dX6_printed_44 : decode cX6_printed 44 = .ok (.invokevirtual 76, 3) := by decide +kernel
theorem dX6_printed_47 : decode cX6_printed 47 = .ok (.invokestatic 79, 3) := by decide +kernel
theorem dX6_printed_50 : decode cX6_printed 50 = .ok (.imul, 1) := by decide +kernel
theorem dX6_printed_51 : decode cX6_printed 51 = .ok (.iadd, 1) := by decide +kernel
theorem dX6_printed_52 : decode cX6_printed 52 = .ok (.ireturn, 1) := by decide +kernel
set_option maxRecDepth 20000 in
theorem ggX6_proof_X6_isWithin : GoodIn wsX6_proof wsX6_isWithin := goodIn_r _ [6] (by decide +kernel) (by decide +kernel)
set_option maxRecDepth 20000 in
theorem gX6_proof_X6_isWithin : GoodIn wsX6_proof (va_wsS RX6 44 yX6_isWithin wsX6_isWithin) := goodIn_app (goodIn_of _ (by decide +kernel)) ggX6_proof_X6_isWithin
set_option maxRecDepth 20000 in
theorem ggX6_proof_X3_size : GoodIn wsX6_proof wsX3_size := goodIn_r _ [11, 12, 34, 35, 36] (by decide +kernel) (by decide +kernel)
set_option maxRecDepth 20000 in
theorem gX6_proof_X3_size : GoodIn wsX6_proof (wsV RX6 180 RX3 yX3_size wsX3_size) := goodIn_app (goodIn_of _ (by decide +kernel)) ggX6_proof_X3_size
set_option maxRecDepth 20000 in
theorem ggX6_proof_X3_partOf : GoodIn wsX6_proof wsX3_partOf := goodIn_r _ [16, 17, 18, 4, 5, 6, 34, 35, 36] (by decide +kernel) (by decide +kernel)
set_option maxRecDepth 20000 in
theorem gX6_proof_X3_partOf : GoodIn wsX6_proof (wsV RX6 199 RX3 yX3_partOf wsX3_partOf) := goodIn_app (goodIn_of _ (by decide +kernel)) ggX6_proof_X3_partOf
theorem dX6_proof_0 : decode cX6_proof 0 = .ok (.iload_n 1, 1) := by decide +kernel
theorem dX6_proof_1 : decode cX6_proof 1 = .ok (.ifCond .lt 12, 3) := by decide +kernel
theorem dX6_proof_4 : decode cX6_proof 4 = .ok (.iload_n 2, 1) := by decide +kernel
theorem dX6_proof_5 : decode cX6_proof 5 = .ok (.iconst 0, 1) := by decide +kernel
theorem dX6_proof_6 : decode cX6_proof 6 = .ok (.iconst 5, 1) := by decide +kernel
theorem dX6_proof_7 : decode cX6_proof 7 = .ok (.invokestatic 44, 3) := by decide +kernel
theorem dX6_proof_10 : decode cX6_proof 10 = .ok (.ifCond .ne 7, 3) := by decide +kernel
theorem dX6_proof_13 : decode cX6_proof 13 = .ok (.sipush (-1001), 3) := by decide +kernel
theorem dX6_proof_16 : decode cX6_proof 16 = .ok (.ireturn, 1) := by decide +kernel
theorem dX6_proof_17 : decode cX6_proof 17 = .ok (.iload_n 1, 1) := by decide +kernel
theorem dX6_proof_18 : decode cX6_proof 18 = .ok (.aload_n 0, 1) := by decide +kernel
theorem dX6_proof_19 : decode cX6_proof 19 = .ok (.getfield 10, 3) := by decide +kernel
theorem dX6_proof_22 : decode cX6_proof 22 = .ok (.getfield 176, 3) := by decide +kernel
theorem dX6_proof_25 : decode cX6_proof 25 = .ok (.invokevirtual 180, 3) := by decide +kernel
theorem dX6_proof_28 : decode cX6_proof 28 = .ok (.if_icmp .lt 7, 3) := by decide +kernel
theorem dX6_proof_31 : decode cX6_proof 31 = .ok (.sipush (-1009), 3) := by decide +kernel
theorem dX6_proof_34 : decode cX6_proof 34 = .ok (.ireturn, 1) := by decide +kernel
theorem dX6_proof_35 : decode cX6_proof 35 = .ok (.aload_n 0, 1) := by decide +kernel
theorem dX6_proof_36 : decode cX6_proof 36 = .ok (.getfield 10, 3) := by decide +kernel
theorem dX6_proof_39 : decode cX6_proof 39 = .ok (.getfield 176, 3) := by decide +kernel
theorem dX6_proof_42 : decode cX6_proof 42 = .ok (.iload_n 1, 1) := by decide +kernel
theorem dX6_proof_43 : decode cX6_proof 43 = .ok (.iload_n 2, 1) := by decide +kernel
theorem dX6_proof_44 : decode cX6_proof 44 = .ok (.invokevirtual 199, 3) := by decide +kernel
theorem dX6_proof_47 : decode cX6_proof 47 = .ok (.ireturn, 1) := by decide +kernel
set_option maxRecDepth 20000 in
theorem ggX6_faults_X6_isShift : GoodIn wsX6_faults wsX6_isShift := goodIn_r _ [7, 8, 9, 6, 10] (by decide +kernel) (by decide +kernel)
set_option maxRecDepth 20000 in
theorem gX6_faults_X6_isShift : GoodIn wsX6_faults (va_wsS RX6 192 yX6_isShift wsX6_isShift) := goodIn_app (goodIn_of _ (by decide +kernel)) ggX6_faults_X6_isShift
set_option maxRecDepth 20000 in
theorem ggX6_faults_X6_findInk : GoodIn wsX6_faults wsX6_findInk := goodIn_r _ [14, 1, 2, 3, 15, 16, 17, 18, 19, 20, 21, 22, 23, 24, 25, 26, 27, 28, 6, 29, 30, 31, 32, 33, 34, 35, 36, 37, 38, 39, 40, 76, 77, 78, 79, 80, 81, 82, 83, 84, 85, 86, 87, 88, 89, 90, 91, 92, 93, 94, 95, 96] (by decide +kernel) (by decide +kernel)
set_option maxRecDepth 20000 in
theorem gX6_faults_X6_findInk : GoodIn wsX6_faults (wsV RX6 107 RX6 yX6_findInk wsX6_findInk) := goodIn_app (goodIn_of _ (by decide +kernel)) ggX6_faults_X6_findInk
set_option maxRecDepth 20000 in
theorem ggX6_faults_X6_gapsWith : GoodIn wsX6_faults wsX6_gapsWith := goodIn_r _ [44, 1, 2, 3, 45, 46, 47, 48, 24, 49, 50, 51, 30, 31, 32, 33, 34, 35, 52, 53, 54, 55, 40, 56, 57, 58, 59, 60, 61, 62, 63, 76, 77, 78, 79, 80, 81, 82, 83, 84, 85, 86, 87, 88, 89, 90, 91, 92, 93, 94, 95, 96] (by decide +kernel) (by decide +kernel)
set_option maxRecDepth 20000 in
theorem gX6_faults_X6_gapsWith : GoodIn wsX6_faults (wsV RX6 116 RX6 yX6_gapsWith wsX6_gapsWith) := goodIn_app (goodIn_of _ (by decide +kernel)) ggX6_faults_X6_gapsWith
set_option maxRecDepth 20000 in
theorem ggX6_faults_X6_spillsWith : GoodIn wsX6_faults wsX6_spillsWith := goodIn_r _ [67, 1, 2, 45, 68, 69, 70, 24, 71, 50, 51, 30, 31, 32, 33, 34, 35, 52, 53, 54, 55, 40, 56, 57, 58, 59, 60, 61, 62, 63, 76, 77, 78, 79, 80, 81, 82, 83, 84, 85, 86, 87, 88, 89, 90, 91, 92, 93, 94, 95, 96] (by decide +kernel) (by decide +kernel)
set_option maxRecDepth 20000 in
theorem gX6_faults_X6_spillsWith : GoodIn wsX6_faults (wsV RX6 202 RX6 yX6_spillsWith wsX6_spillsWith) := goodIn_app (goodIn_of _ (by decide +kernel)) ggX6_faults_X6_spillsWith
set_option maxRecDepth 20000 in
theorem ggX6_faults_X0_lostLines : GoodIn wsX6_faults wsX0_lostLines := goodIn_r _ [75, 51, 30, 31, 32, 33, 34, 35, 57, 58, 59, 60, 61, 62, 63, 91, 92, 93, 94, 95, 96] (by decide +kernel) (by decide +kernel)
set_option maxRecDepth 20000 in
theorem gX6_faults_X0_lostLines : GoodIn wsX6_faults (wsV RX6 205 RX0 yX0_lostLines wsX0_lostLines) := goodIn_app (goodIn_of _ (by decide +kernel)) ggX6_faults_X0_lostLines
theorem dX6_faults_0 : decode cX6_faults 0 = .ok (.iload_n 1, 1) := by decide +kernel
theorem dX6_faults_1 : decode cX6_faults 1 = .ok (.iload_n 2, 1) := by decide +kernel
theorem dX6_faults_2 : decode cX6_faults 2 = .ok (.invokestatic 192, 3) := by decide +kernel
theorem dX6_faults_5 : decode cX6_faults 5 = .ok (.ifCond .ne 7, 3) := by decide +kernel
theorem dX6_faults_8 : decode cX6_faults 8 = .ok (.sipush (-1001), 3) := by decide +kernel
theorem dX6_faults_11 : decode cX6_faults 11 = .ok (.ireturn, 1) := by decide +kernel
theorem dX6_faults_12 : decode cX6_faults 12 = .ok (.aload_n 0, 1) := by decide +kernel
theorem dX6_faults_13 : decode cX6_faults 13 = .ok (.invokevirtual 107, 3) := by decide +kernel
theorem dX6_faults_16 : decode cX6_faults 16 = .ok (.iload_n 3, 1) := by decide +kernel
theorem dX6_faults_17 : decode cX6_faults 17 = .ok (.tableswitch 56 0 2 #[27, 34, 41], 27) := by decide +kernel
theorem dX6_faults_44 : decode cX6_faults 44 = .ok (.aload_n 0, 1) := by decide +kernel
theorem dX6_faults_45 : decode cX6_faults 45 = .ok (.iload_n 1, 1) := by decide +kernel
theorem dX6_faults_46 : decode cX6_faults 46 = .ok (.iload_n 2, 1) := by decide +kernel
theorem dX6_faults_47 : decode cX6_faults 47 = .ok (.invokevirtual 116, 3) := by decide +kernel
theorem dX6_faults_50 : decode cX6_faults 50 = .ok (.ireturn, 1) := by decide +kernel
theorem dX6_faults_51 : decode cX6_faults 51 = .ok (.aload_n 0, 1) := by decide +kernel
theorem dX6_faults_52 : decode cX6_faults 52 = .ok (.iload_n 1, 1) := by decide +kernel
theorem dX6_faults_53 : decode cX6_faults 53 = .ok (.iload_n 2, 1) := by decide +kernel
theorem dX6_faults_54 : decode cX6_faults 54 = .ok (.invokevirtual 202, 3) := by decide +kernel
theorem dX6_faults_57 : decode cX6_faults 57 = .ok (.ireturn, 1) := by decide +kernel
theorem dX6_faults_58 : decode cX6_faults 58 = .ok (.aload_n 0, 1) := by decide +kernel
theorem dX6_faults_59 : decode cX6_faults 59 = .ok (.getfield 10, 3) := by decide +kernel
theorem dX6_faults_62 : decode cX6_faults 62 = .ok (.getfield 52, 3) := by decide +kernel
theorem dX6_faults_65 : decode cX6_faults 65 = .ok (.aload_n 0, 1) := by decide +kernel
theorem dX6_faults_66 : decode cX6_faults 66 = .ok (.getfield 33, 3) := by decide +kernel
theorem dX6_faults_69 : decode cX6_faults 69 = .ok (.invokevirtual 205, 3) := by decide +kernel
theorem dX6_faults_72 : decode cX6_faults 72 = .ok (.ireturn, 1) := by decide +kernel
theorem dX6_faults_73 : decode cX6_faults 73 = .ok (.sipush (-1001), 3) := by decide +kernel
theorem dX6_faults_76 : decode cX6_faults 76 = .ok (.ireturn, 1) := by decide +kernel
set_option maxRecDepth 20000 in
theorem ggX6_why_X6_isPlace : GoodIn wsX6_why wsX6_isPlace := goodIn_r _ [7] (by decide +kernel) (by decide +kernel)
set_option maxRecDepth 20000 in
theorem gX6_why_X6_isPlace : GoodIn wsX6_why (va_wsS RX6 40 yX6_isPlace wsX6_isPlace) := goodIn_app (goodIn_of _ (by decide +kernel)) ggX6_why_X6_isPlace
set_option maxRecDepth 20000 in
theorem ggX6_why_X6_findInk : GoodIn wsX6_why wsX6_findInk := goodIn_r _ [11, 1, 2, 3, 12, 13, 14, 15, 16, 17, 18, 19, 20, 21, 22, 23, 24, 25, 6, 26, 27, 28, 29, 30, 31, 32, 33, 34, 35, 36, 37, 80, 81, 82, 83, 84, 85, 86, 87, 88, 89, 90, 91, 92, 93, 94, 95, 96, 97, 98, 99, 100] (by decide +kernel) (by decide +kernel)
set_option maxRecDepth 20000 in
theorem gX6_why_X6_findInk : GoodIn wsX6_why (wsV RX6 107 RX6 yX6_findInk wsX6_findInk) := goodIn_app (goodIn_of _ (by decide +kernel)) ggX6_why_X6_findInk
set_option maxRecDepth 20000 in
theorem ggX6_why_X0_kindAt : GoodIn wsX6_why wsX0_kindAt := goodIn_r _ [41, 42, 43, 44, 45, 46, 30, 47, 32, 5, 6, 7, 95, 96, 97, 98, 99, 100] (by decide +kernel) (by decide +kernel)
set_option maxRecDepth 20000 in
theorem gX6_why_X0_kindAt : GoodIn wsX6_why (wsV RX6 186 RX0 yX0_kindAt wsX0_kindAt) := goodIn_app (goodIn_of _ (by decide +kernel)) ggX6_why_X0_kindAt
set_option maxRecDepth 20000 in
theorem ggX6_why_X1_has : GoodIn wsX6_why wsX1_has := goodIn_r _ [47, 32, 5, 6, 7, 100] (by decide +kernel) (by decide +kernel)
set_option maxRecDepth 20000 in
theorem gX6_why_X1_has : GoodIn wsX6_why (wsV RX6 76 RX1 yX1_has wsX1_has) := goodIn_app (goodIn_of _ (by decide +kernel)) ggX6_why_X1_has
set_option maxRecDepth 20000 in
theorem ggX6_why_X5_shiftX : GoodIn wsX6_why wsX5_shiftX := goodIn_r _ [52, 53, 54, 55, 56, 15, 57, 17, 85, 86, 87, 88, 89, 90, 91, 92, 93, 94] (by decide +kernel) (by decide +kernel)
set_option maxRecDepth 20000 in
theorem gX6_why_X5_shiftX : GoodIn wsX6_why (wsV RX6 110 RX5 yX5_shiftX wsX5_shiftX) := goodIn_app (goodIn_of _ (by decide +kernel)) ggX6_why_X5_shiftX
set_option maxRecDepth 20000 in
theorem ggX6_why_X5_shiftY : GoodIn wsX6_why wsX5_shiftY := goodIn_r _ [61, 62, 63, 64, 65, 15, 66, 17, 85, 86, 87, 88, 89, 90, 91, 92, 93, 94] (by decide +kernel) (by decide +kernel)
set_option maxRecDepth 20000 in
theorem gX6_why_X5_shiftY : GoodIn wsX6_why (wsV RX6 113 RX5 yX5_shiftY wsX5_shiftY) := goodIn_app (goodIn_of _ (by decide +kernel)) ggX6_why_X5_shiftY
set_option maxRecDepth 20000 in
theorem ggX6_why_X6_printsColour : GoodIn wsX6_why wsX6_printsColour := goodIn_r _ [70, 1, 2, 71, 48, 45, 46, 30, 47, 32, 5, 6, 7, 80, 81, 82, 83, 84, 85, 86, 87, 88, 89, 90, 91, 92, 93, 94, 95, 96, 97, 98, 99, 100] (by decide +kernel) (by decide +kernel)
set_option maxRecDepth 20000 in
theorem gX6_why_X6_printsColour : GoodIn wsX6_why (wsV RX6 195 RX6 yX6_printsColour wsX6_printsColour) := goodIn_app (goodIn_of _ (by decide +kernel)) ggX6_why_X6_printsColour
set_option maxRecDepth 20000 in
theorem ggX6_why_X5_hardness : GoodIn wsX6_why wsX5_hardness := goodIn_r _ [16, 17, 85, 86, 87, 88, 89, 90, 91, 92, 93, 94] (by decide +kernel) (by decide +kernel)
set_option maxRecDepth 20000 in
theorem gX6_why_X5_hardness : GoodIn wsX6_why (wsV RX6 91 RX5 yX5_hardness wsX5_hardness) := goodIn_app (goodIn_of _ (by decide +kernel)) ggX6_why_X5_hardness
set_option maxRecDepth 20000 in
theorem ggX6_why_X0_isWorn : GoodIn wsX6_why wsX0_isWorn := goodIn_r _ [75, 24, 44, 45, 46, 30, 47, 32, 5, 6, 7, 76, 77, 78, 21, 79, 23, 95, 96, 97, 98, 99, 100] (by decide +kernel) (by decide +kernel)
set_option maxRecDepth 20000 in
theorem gX6_why_X0_isWorn : GoodIn wsX6_why (wsV RX6 94 RX0 yX0_isWorn wsX0_isWorn) := goodIn_app (goodIn_of _ (by decide +kernel)) ggX6_why_X0_isWorn
theorem dX6_why_0 : decode cX6_why 0 = .ok (.iload_n 1, 1) := by decide +kernel
theorem dX6_why_1 : decode cX6_why 1 = .ok (.iload_n 2, 1) := by decide +kernel
theorem dX6_why_2 : decode cX6_why 2 = .ok (.invokestatic 40, 3) := by decide +kernel
theorem dX6_why_5 : decode cX6_why 5 = .ok (.ifCond .ne 7, 3) := by decide +kernel
theorem dX6_why_8 : decode cX6_why 8 = .ok (.sipush (-1001), 3) := by decide +kernel
theorem dX6_why_11 : decode cX6_why 11 = .ok (.ireturn, 1) := by decide +kernel
theorem dX6_why_12 : decode cX6_why 12 = .ok (.aload_n 0, 1) := by decide +kernel
theorem dX6_why_13 : decode cX6_why 13 = .ok (.invokevirtual 107, 3) := by decide +kernel
theorem dX6_why_16 : decode cX6_why 16 = .ok (.aload_n 0, 1) := by decide +kernel
theorem dX6_why_17 : decode cX6_why 17 = .ok (.getfield 10, 3) := by decide +kernel
theorem dX6_why_20 : decode cX6_why 20 = .ok (.getfield 52, 3) := by decide +kernel
theorem dX6_why_23 : decode cX6_why 23 = .ok (.iload_n 1, 1) := by decide +kernel
theorem dX6_why_24 : decode cX6_why 24 = .ok (.iload_n 2, 1) := by decide +kernel
theorem dX6_why_25 : decode cX6_why 25 = .ok (.invokevirtual 186, 3) := by decide +kernel
theorem dX6_why_28 : decode cX6_why 28 = .ok (.istore_n 3, 1) := by decide +kernel
theorem dX6_why_29 : decode cX6_why 29 = .ok (.aload_n 0, 1) := by decide +kernel
theorem dX6_why_30 : decode cX6_why 30 = .ok (.getfield 33, 3) := by decide +kernel
theorem dX6_why_33 : decode cX6_why 33 = .ok (.iload_n 1, 1) := by decide +kernel
theorem dX6_why_34 : decode cX6_why 34 = .ok (.iload_n 2, 1) := by decide +kernel
theorem dX6_why_35 : decode cX6_why 35 = .ok (.invokevirtual 76, 3) := by decide +kernel
theorem dX6_why_38 : decode cX6_why 38 = .ok (.istore 4, 2) := by decide +kernel
theorem dX6_why_40 : decode cX6_why 40 = .ok (.aload_n 0, 1) := by decide +kernel
theorem dX6_why_41 : decode cX6_why 41 = .ok (.iload_n 1, 1) := by decide +kernel
theorem dX6_why_42 : decode cX6_why 42 = .ok (.iload_n 2, 1) := by decide +kernel
theorem dX6_why_43 : decode cX6_why 43 = .ok (.aload_n 0, 1) := by decide +kernel
theorem dX6_why_44 : decode cX6_why 44 = .ok (.getfield 10, 3) := by decide +kernel
theorem dX6_why_47 : decode cX6_why 47 = .ok (.invokevirtual 110, 3) := by decide +kernel
theorem dX6_why_50 : decode cX6_why 50 = .ok (.aload_n 0, 1) := by decide +kernel
theorem dX6_why_51 : decode cX6_why 51 = .ok (.getfield 10, 3) := by decide +kernel
theorem dX6_why_54 : decode cX6_why 54 = .ok (.invokevirtual 113, 3) := by decide +kernel
theorem dX6_why_57 : decode cX6_why 57 = .ok (.invokevirtual 195, 3) := by decide +kernel
theorem dX6_why_60 : decode cX6_why 60 = .ok (.istore 5, 2) := by decide +kernel
theorem dX6_why_62 : decode cX6_why 62 = .ok (.iload_n 3, 1) := by decide +kernel
theorem dX6_why_63 : decode cX6_why 63 = .ok (.ifCond .eq 41, 3) := by decide +kernel
theorem dX6_why_66 : decode cX6_why 66 = .ok (.iload 4, 2) := by decide +kernel
theorem dX6_why_68 : decode cX6_why 68 = .ok (.ifCond .ne 36, 3) := by decide +kernel
theorem dX6_why_71 : decode cX6_why 71 = .ok (.iload 5, 2) := by decide +kernel
theorem dX6_why_73 : decode cX6_why 73 = .ok (.ifCond .ne 31, 3) := by decide +kernel
theorem dX6_why_76 : decode cX6_why 76 = .ok (.aload_n 0, 1) := by decide +kernel
theorem dX6_why_77 : decode cX6_why 77 = .ok (.getfield 10, 3) := by decide +kernel
theorem dX6_why_80 : decode cX6_why 80 = .ok (.getfield 52, 3) := by decide +kernel
theorem dX6_why_83 : decode cX6_why 83 = .ok (.iload_n 1, 1) := by decide +kernel
theorem dX6_why_84 : decode cX6_why 84 = .ok (.iload_n 2, 1) := by decide +kernel
theorem dX6_why_85 : decode cX6_why 85 = .ok (.aload_n 0, 1) := by decide +kernel
theorem dX6_why_86 : decode cX6_why 86 = .ok (.getfield 10, 3) := by decide +kernel
theorem dX6_why_89 : decode cX6_why 89 = .ok (.invokevirtual 91, 3) := by decide +kernel
theorem dX6_why_92 : decode cX6_why 92 = .ok (.invokevirtual 94, 3) := by decide +kernel
theorem dX6_why_95 : decode cX6_why 95 = .ok (.ifCond .eq 7, 3) := by decide +kernel
theorem dX6_why_98 : decode cX6_why 98 = .ok (.iconst 1, 1) := by decide +kernel
theorem dX6_why_99 : decode cX6_why 99 = .ok (.goto 4, 3) := by decide +kernel
theorem dX6_why_102 : decode cX6_why 102 = .ok (.iconst 2, 1) := by decide +kernel
theorem dX6_why_103 : decode cX6_why 103 = .ok (.ireturn, 1) := by decide +kernel
theorem dX6_why_104 : decode cX6_why 104 = .ok (.iload_n 3, 1) := by decide +kernel
theorem dX6_why_105 : decode cX6_why 105 = .ok (.ifCond .ne 10, 3) := by decide +kernel
theorem dX6_why_108 : decode cX6_why 108 = .ok (.iload 5, 2) := by decide +kernel
theorem dX6_why_110 : decode cX6_why 110 = .ok (.ifCond .eq 5, 3) := by decide +kernel
theorem dX6_why_113 : decode cX6_why 113 = .ok (.iconst 3, 1) := by decide +kernel
theorem dX6_why_114 : decode cX6_why 114 = .ok (.ireturn, 1) := by decide +kernel
theorem dX6_why_115 : decode cX6_why 115 = .ok (.iload_n 3, 1) := by decide +kernel
theorem dX6_why_116 : decode cX6_why 116 = .ok (.iconst 2, 1) := by decide +kernel
theorem dX6_why_117 : decode cX6_why 117 = .ok (.if_icmp .eq 10, 3) := by decide +kernel
theorem dX6_why_120 : decode cX6_why 120 = .ok (.iload 4, 2) := by decide +kernel
theorem dX6_why_122 : decode cX6_why 122 = .ok (.ifCond .eq 5, 3) := by decide +kernel
theorem dX6_why_125 : decode cX6_why 125 = .ok (.iconst 4, 1) := by decide +kernel
theorem dX6_why_126 : decode cX6_why 126 = .ok (.ireturn, 1) := by decide +kernel
theorem dX6_why_127 : decode cX6_why 127 = .ok (.iload_n 3, 1) := by decide +kernel
theorem dX6_why_128 : decode cX6_why 128 = .ok (.iconst 2, 1) := by decide +kernel
theorem dX6_why_129 : decode cX6_why 129 = .ok (.if_icmp .ne 12, 3) := by decide +kernel
theorem dX6_why_132 : decode cX6_why 132 = .ok (.iload 4, 2) := by decide +kernel
theorem dX6_why_134 : decode cX6_why 134 = .ok (.ifCond .ne 7, 3) := by decide +kernel
theorem dX6_why_137 : decode cX6_why 137 = .ok (.iconst 5, 1) := by decide +kernel
theorem dX6_why_138 : decode cX6_why 138 = .ok (.goto 4, 3) := by decide +kernel
theorem dX6_why_141 : decode cX6_why 141 = .ok (.iconst 0, 1) := by decide +kernel
theorem dX6_why_142 : decode cX6_why 142 = .ok (.ireturn, 1) := by decide +kernel
set_option maxRecDepth 20000 in
theorem ggX6_tolerance_X6_findInk : GoodIn wsX6_tolerance wsX6_findInk := goodIn_r _ [9, 2, 3, 1, 10, 11, 12, 13, 14, 15, 16, 17, 18, 19, 20, 21, 22, 23, 8, 24, 25, 26, 27, 28, 29, 30, 31, 32, 33, 34, 35, 58, 59, 60, 61, 62, 63, 64, 65, 66, 67, 68, 69, 70, 71, 72, 73, 74, 75, 76, 77, 78] (by decide +kernel) (by decide +kernel)
set_option maxRecDepth 20000 in
theorem gX6_tolerance_X6_findInk : GoodIn wsX6_tolerance (wsV RX6 107 RX6 yX6_findInk wsX6_findInk) := goodIn_app (goodIn_of _ (by decide +kernel)) ggX6_tolerance_X6_findInk
set_option maxRecDepth 20000 in
theorem ggX6_tolerance_X6_hasGapsWithin : GoodIn wsX6_tolerance wsX6_hasGapsWithin := goodIn_r _ [39, 2, 3, 40, 41, 42, 19, 43, 44, 45, 25, 26, 27, 28, 29, 30, 46, 47, 48, 49, 35, 50, 51, 52, 53, 54, 55, 56, 57, 58, 59, 60, 61, 62, 63, 64, 65, 66, 67, 68, 69, 70, 71, 72, 73, 74, 75, 76, 77, 78] (by decide +kernel) (by decide +kernel)
set_option maxRecDepth 20000 in
theorem gX6_tolerance_X6_hasGapsWithin : GoodIn wsX6_tolerance (wsV RX6 209 RX6 yX6_hasGapsWithin wsX6_hasGapsWithin) := goodIn_app (goodIn_of _ (by decide +kernel)) ggX6_tolerance_X6_hasGapsWithin
theorem dX6_tolerance_0 : decode cX6_tolerance 0 = .ok (.aload_n 0, 1) := by decide +kernel
theorem dX6_tolerance_1 : decode cX6_tolerance 1 = .ok (.invokevirtual 107, 3) := by decide +kernel
theorem dX6_tolerance_4 : decode cX6_tolerance 4 = .ok (.iconst 0, 1) := by decide +kernel
theorem dX6_tolerance_5 : decode cX6_tolerance 5 = .ok (.istore_n 1, 1) := by decide +kernel
theorem dX6_tolerance_6 : decode cX6_tolerance 6 = .ok (.iload_n 1, 1) := by decide +kernel
theorem dX6_tolerance_7 : decode cX6_tolerance 7 = .ok (.iconst 4, 1) := by decide +kernel
theorem dX6_tolerance_8 : decode cX6_tolerance 8 = .ok (.if_icmp .gt 45, 3) := by decide +kernel
theorem dX6_tolerance_11 : decode cX6_tolerance 11 = .ok (.aload_n 0, 1) := by decide +kernel
theorem dX6_tolerance_12 : decode cX6_tolerance 12 = .ok (.iload_n 1, 1) := by decide +kernel
theorem dX6_tolerance_13 : decode cX6_tolerance 13 = .ok (.aload_n 0, 1) := by decide +kernel
theorem dX6_tolerance_14 : decode cX6_tolerance 14 = .ok (.getfield 33, 3) := by decide +kernel
theorem dX6_tolerance_17 : decode cX6_tolerance 17 = .ok (.aload_n 0, 1) := by decide +kernel
theorem dX6_tolerance_18 : decode cX6_tolerance 18 = .ok (.getfield 10, 3) := by decide +kernel
theorem dX6_tolerance_21 : decode cX6_tolerance 21 = .ok (.getfield 52, 3) := by decide +kernel
theorem dX6_tolerance_24 : decode cX6_tolerance 24 = .ok (.getfield 66, 3) := by decide +kernel
theorem dX6_tolerance_27 : decode cX6_tolerance 27 = .ok (.invokevirtual 209, 3) := by decide +kernel
theorem dX6_tolerance_30 : decode cX6_tolerance 30 = .ok (.ifCond .eq 17, 3) := by decide +kernel
theorem dX6_tolerance_33 : decode cX6_tolerance 33 = .ok (.iload_n 1, 1) := by decide +kernel
theorem dX6_tolerance_34 : decode cX6_tolerance 34 = .ok (.ifCond .ne 9, 3) := by decide +kernel
theorem dX6_tolerance_37 : decode cX6_tolerance 37 = .ok (.sipush (-1009), 3) := by decide +kernel
theorem dX6_tolerance_40 : decode cX6_tolerance 40 = .ok (.goto 6, 3) := by decide +kernel
theorem dX6_tolerance_43 : decode cX6_tolerance 43 = .ok (.iload_n 1, 1) := by decide +kernel
theorem dX6_tolerance_44 : decode cX6_tolerance 44 = .ok (.iconst 1, 1) := by decide +kernel
theorem dX6_tolerance_45 : decode cX6_tolerance 45 = .ok (.isub, 1) := by decide +kernel
theorem dX6_tolerance_46 : decode cX6_tolerance 46 = .ok (.ireturn, 1) := by decide +kernel
theorem dX6_tolerance_47 : decode cX6_tolerance 47 = .ok (.iinc 1 1, 3) := by decide +kernel
theorem dX6_tolerance_50 : decode cX6_tolerance 50 = .ok (.goto (-44), 3) := by decide +kernel
theorem dX6_tolerance_53 : decode cX6_tolerance 53 = .ok (.iconst 4, 1) := by decide +kernel
theorem dX6_tolerance_54 : decode cX6_tolerance 54 = .ok (.ireturn, 1) := by decide +kernel
set_option maxRecDepth 20000 in
theorem ggX6_trapFor_X6_isWithin : GoodIn wsX6_trapFor wsX6_isWithin := goodIn_r _ [8] (by decide +kernel) (by decide +kernel)
set_option maxRecDepth 20000 in
theorem gX6_trapFor_X6_isWithin : GoodIn wsX6_trapFor (va_wsS RX6 44 yX6_isWithin wsX6_isWithin) := goodIn_app (goodIn_of _ (by decide +kernel)) ggX6_trapFor_X6_isWithin
set_option maxRecDepth 20000 in
theorem ggX6_trapFor_X0_cutColour : GoodIn wsX6_trapFor wsX0_cutColour := goodIn_r _ [13, 14, 15, 16, 17, 18, 19, 20, 21, 22, 23, 24, 25, 26, 27, 28, 29, 30, 31, 32, 33, 70, 71, 72, 73, 74, 75] (by decide +kernel) (by decide +kernel)
set_option maxRecDepth 20000 in
theorem gX6_trapFor_X0_cutColour : GoodIn wsX6_trapFor (wsV RX6 213 RX0 yX0_cutColour wsX0_cutColour) := goodIn_app (goodIn_of _ (by decide +kernel)) ggX6_trapFor_X0_cutColour
set_option maxRecDepth 20000 in
theorem ggX6_trapFor_X6_hasGapsWithin : GoodIn wsX6_trapFor wsX6_hasGapsWithin := goodIn_r _ [37, 1, 2, 38, 39, 40, 12, 41, 14, 15, 42, 31, 32, 19, 33, 21, 43, 44, 45, 46, 47, 30, 48, 49, 50, 51, 52, 53, 54, 55, 56, 57, 58, 59, 60, 61, 62, 63, 64, 65, 66, 67, 68, 69, 70, 71, 72, 73, 74, 75] (by decide +kernel) (by decide +kernel)
set_option maxRecDepth 20000 in
theorem gX6_trapFor_X6_hasGapsWithin : GoodIn wsX6_trapFor (wsV RX6 209 RX6 yX6_hasGapsWithin wsX6_hasGapsWithin) := goodIn_app (goodIn_of _ (by decide +kernel)) ggX6_trapFor_X6_hasGapsWithin
theorem dX6_trapFor_0 : decode cX6_trapFor 0 = .ok (.iload_n 1, 1) := by decide +kernel
theorem dX6_trapFor_1 : decode cX6_trapFor 1 = .ok (.iconst 0, 1) := by decide +kernel
theorem dX6_trapFor_2 : decode cX6_trapFor 2 = .ok (.iconst 4, 1) := by decide +kernel
theorem dX6_trapFor_3 : decode cX6_trapFor 3 = .ok (.invokestatic 44, 3) := by decide +kernel
theorem dX6_trapFor_6 : decode cX6_trapFor 6 = .ok (.ifCond .ne 7, 3) := by decide +kernel
theorem dX6_trapFor_9 : decode cX6_trapFor 9 = .ok (.sipush (-1001), 3) := by decide +kernel
theorem dX6_trapFor_12 : decode cX6_trapFor 12 = .ok (.ireturn, 1) := by decide +kernel
theorem dX6_trapFor_13 : decode cX6_trapFor 13 = .ok (.aload_n 0, 1) := by decide +kernel
theorem dX6_trapFor_14 : decode cX6_trapFor 14 = .ok (.getfield 10, 3) := by decide +kernel
theorem dX6_trapFor_17 : decode cX6_trapFor 17 = .ok (.getfield 52, 3) := by decide +kernel
theorem dX6_trapFor_20 : decode cX6_trapFor 20 = .ok (.astore_n 2, 1) := by decide +kernel
theorem dX6_trapFor_21 : decode cX6_trapFor 21 = .ok (.iconst 0, 1) := by decide +kernel
theorem dX6_trapFor_22 : decode cX6_trapFor 22 = .ok (.istore_n 3, 1) := by decide +kernel
theorem dX6_trapFor_23 : decode cX6_trapFor 23 = .ok (.iload_n 3, 1) := by decide +kernel
theorem dX6_trapFor_24 : decode cX6_trapFor 24 = .ok (.iconst 4, 1) := by decide +kernel
theorem dX6_trapFor_25 : decode cX6_trapFor 25 = .ok (.if_icmp .gt 36, 3) := by decide +kernel
theorem dX6_trapFor_28 : decode cX6_trapFor 28 = .ok (.aload_n 2, 1) := by decide +kernel
theorem dX6_trapFor_29 : decode cX6_trapFor 29 = .ok (.aload_n 0, 1) := by decide +kernel
theorem dX6_trapFor_30 : decode cX6_trapFor 30 = .ok (.getfield 37, 3) := by decide +kernel
theorem dX6_trapFor_33 : decode cX6_trapFor 33 = .ok (.iload_n 3, 1) := by decide +kernel
theorem dX6_trapFor_34 : decode cX6_trapFor 34 = .ok (.invokevirtual 213, 3) := by decide +kernel
theorem dX6_trapFor_37 : decode cX6_trapFor 37 = .ok (.aload_n 0, 1) := by decide +kernel
theorem dX6_trapFor_38 : decode cX6_trapFor 38 = .ok (.iload_n 1, 1) := by decide +kernel
theorem dX6_trapFor_39 : decode cX6_trapFor 39 = .ok (.aload_n 2, 1) := by decide +kernel
theorem dX6_trapFor_40 : decode cX6_trapFor 40 = .ok (.getfield 173, 3) := by decide +kernel
theorem dX6_trapFor_43 : decode cX6_trapFor 43 = .ok (.aload_n 0, 1) := by decide +kernel
theorem dX6_trapFor_44 : decode cX6_trapFor 44 = .ok (.getfield 37, 3) := by decide +kernel
theorem dX6_trapFor_47 : decode cX6_trapFor 47 = .ok (.invokevirtual 209, 3) := by decide +kernel
theorem dX6_trapFor_50 : decode cX6_trapFor 50 = .ok (.ifCond .ne 5, 3) := by decide +kernel
theorem dX6_trapFor_53 : decode cX6_trapFor 53 = .ok (.iload_n 3, 1) := by decide +kernel
theorem dX6_trapFor_54 : decode cX6_trapFor 54 = .ok (.ireturn, 1) := by decide +kernel
theorem dX6_trapFor_55 : decode cX6_trapFor 55 = .ok (.iinc 3 1, 3) := by decide +kernel
theorem dX6_trapFor_58 : decode cX6_trapFor 58 = .ok (.goto (-35), 3) := by decide +kernel
theorem dX6_trapFor_61 : decode cX6_trapFor 61 = .ok (.sipush (-1009), 3) := by decide +kernel
theorem dX6_trapFor_64 : decode cX6_trapFor 64 = .ok (.ireturn, 1) := by decide +kernel
set_option maxRecDepth 20000 in
theorem ggX6_bestPins_X6_isWithin : GoodIn wsX6_bestPins wsX6_isWithin := goodIn_r _ [5] (by decide +kernel) (by decide +kernel)
set_option maxRecDepth 20000 in
theorem gX6_bestPins_X6_isWithin : GoodIn wsX6_bestPins (va_wsS RX6 44 yX6_isWithin wsX6_isWithin) := goodIn_app (goodIn_of _ (by decide +kernel)) ggX6_bestPins_X6_isWithin
set_option maxRecDepth 20000 in
theorem ggX6_bestPins_X6_findInk : GoodIn wsX6_bestPins wsX6_findInk := goodIn_r _ [9, 1, 10, 11, 12, 13, 14, 15, 16, 17, 18, 19, 20, 21, 22, 23, 24, 25, 4, 26, 27, 28, 29, 30, 31, 32, 33, 34, 35, 36, 37, 77, 78, 79, 80, 81, 82, 83, 84, 85, 86, 87, 88, 89, 90, 91, 92, 93, 94, 95, 96, 97] (by decide +kernel) (by decide +kernel)
set_option maxRecDepth 20000 in
theorem gX6_bestPins_X6_findInk : GoodIn wsX6_bestPins (wsV RX6 107 RX6 yX6_findInk wsX6_findInk) := goodIn_app (goodIn_of _ (by decide +kernel)) ggX6_bestPins_X6_findInk
set_option maxRecDepth 20000 in
theorem ggX6_bestPins_X5_driftX : GoodIn wsX6_bestPins wsX5_driftX := goodIn_r _ [41, 17, 82, 83, 84, 85, 86, 87, 88, 89, 90, 91] (by decide +kernel) (by decide +kernel)
set_option maxRecDepth 20000 in
theorem gX6_bestPins_X5_driftX : GoodIn wsX6_bestPins (wsV RX6 217 RX5 yX5_driftX wsX5_driftX) := goodIn_app (goodIn_of _ (by decide +kernel)) ggX6_bestPins_X5_driftX
set_option maxRecDepth 20000 in
theorem ggX6_bestPins_X5_driftY : GoodIn wsX6_bestPins wsX5_driftY := goodIn_r _ [45, 17, 82, 83, 84, 85, 86, 87, 88, 89, 90, 91] (by decide +kernel) (by decide +kernel)
set_option maxRecDepth 20000 in
theorem gX6_bestPins_X5_driftY : GoodIn wsX6_bestPins (wsV RX6 220 RX5 yX5_driftY wsX5_driftY) := goodIn_app (goodIn_of _ (by decide +kernel)) ggX6_bestPins_X5_driftY
set_option maxRecDepth 20000 in
theorem ggX6_bestPins_X6_gapsWith : GoodIn wsX6_bestPins wsX6_gapsWith := goodIn_r _ [49, 1, 10, 11, 50, 51, 52, 53, 21, 54, 55, 56, 27, 28, 29, 30, 31, 32, 57, 58, 59, 60, 37, 61, 62, 63, 64, 65, 66, 67, 68, 77, 78, 79, 80, 81, 82, 83, 84, 85, 86, 87, 88, 89, 90, 91, 92, 93, 94, 95, 96, 97] (by decide +kernel) (by decide +kernel)
set_option maxRecDepth 20000 in
theorem gX6_bestPins_X6_gapsWith : GoodIn wsX6_bestPins (wsV RX6 116 RX6 yX6_gapsWith wsX6_gapsWith) := goodIn_app (goodIn_of _ (by decide +kernel)) ggX6_bestPins_X6_gapsWith
set_option maxRecDepth 20000 in
theorem ggX6_bestPins_X6_spillsWith : GoodIn wsX6_bestPins wsX6_spillsWith := goodIn_r _ [72, 1, 10, 50, 73, 74, 75, 21, 76, 55, 56, 27, 28, 29, 30, 31, 32, 57, 58, 59, 60, 37, 61, 62, 63, 64, 65, 66, 67, 68, 77, 78, 79, 80, 81, 82, 83, 84, 85, 86, 87, 88, 89, 90, 91, 92, 93, 94, 95, 96, 97] (by decide +kernel) (by decide +kernel)
set_option maxRecDepth 20000 in
theorem gX6_bestPins_X6_spillsWith : GoodIn wsX6_bestPins (wsV RX6 202 RX6 yX6_spillsWith wsX6_spillsWith) := goodIn_app (goodIn_of _ (by decide +kernel)) ggX6_bestPins_X6_spillsWith
theorem dX6_bestPins_0 : decode cX6_bestPins 0 = .ok (.iload_n 1, 1) := by decide +kernel
theorem dX6_bestPins_1 : decode cX6_bestPins 1 = .ok (.iconst 0, 1) := by decide +kernel
theorem dX6_bestPins_2 : decode cX6_bestPins 2 = .ok (.iconst 2, 1) := by decide +kernel
theorem dX6_bestPins_3 : decode cX6_bestPins 3 = .ok (.invokestatic 44, 3) := by decide +kernel
theorem dX6_bestPins_6 : decode cX6_bestPins 6 = .ok (.ifCond .ne 7, 3) := by decide +kernel
theorem dX6_bestPins_9 : decode cX6_bestPins 9 = .ok (.sipush (-1001), 3) := by decide +kernel
theorem dX6_bestPins_12 : decode cX6_bestPins 12 = .ok (.ireturn, 1) := by decide +kernel
theorem dX6_bestPins_13 : decode cX6_bestPins 13 = .ok (.aload_n 0, 1) := by decide +kernel
theorem dX6_bestPins_14 : decode cX6_bestPins 14 = .ok (.invokevirtual 107, 3) := by decide +kernel
theorem dX6_bestPins_17 : decode cX6_bestPins 17 = .ok (.bipush (-4), 2) := by decide +kernel
theorem dX6_bestPins_19 : decode cX6_bestPins 19 = .ok (.istore_n 2, 1) := by decide +kernel
theorem dX6_bestPins_20 : decode cX6_bestPins 20 = .ok (.bipush (-4), 2) := by decide +kernel
theorem dX6_bestPins_22 : decode cX6_bestPins 22 = .ok (.istore_n 3, 1) := by decide +kernel
theorem dX6_bestPins_23 : decode cX6_bestPins 23 = .ok (.sipush 384, 3) := by decide +kernel
theorem dX6_bestPins_26 : decode cX6_bestPins 26 = .ok (.istore 4, 2) := by decide +kernel
theorem dX6_bestPins_28 : decode cX6_bestPins 28 = .ok (.bipush (-4), 2) := by decide +kernel
theorem dX6_bestPins_30 : decode cX6_bestPins 30 = .ok (.istore 5, 2) := by decide +kernel
theorem dX6_bestPins_32 : decode cX6_bestPins 32 = .ok (.iload 5, 2) := by decide +kernel
theorem dX6_bestPins_34 : decode cX6_bestPins 34 = .ok (.iconst 4, 1) := by decide +kernel
theorem dX6_bestPins_35 : decode cX6_bestPins 35 = .ok (.if_icmp .gt 85, 3) := by decide +kernel
theorem dX6_bestPins_38 : decode cX6_bestPins 38 = .ok (.bipush (-4), 2) := by decide +kernel
theorem dX6_bestPins_40 : decode cX6_bestPins 40 = .ok (.istore 6, 2) := by decide +kernel
theorem dX6_bestPins_42 : decode cX6_bestPins 42 = .ok (.iload 6, 2) := by decide +kernel
theorem dX6_bestPins_44 : decode cX6_bestPins 44 = .ok (.iconst 4, 1) := by decide +kernel
theorem dX6_bestPins_45 : decode cX6_bestPins 45 = .ok (.if_icmp .gt 69, 3) := by decide +kernel
theorem dX6_bestPins_48 : decode cX6_bestPins 48 = .ok (.iload 5, 2) := by decide +kernel
theorem dX6_bestPins_50 : decode cX6_bestPins 50 = .ok (.aload_n 0, 1) := by decide +kernel
theorem dX6_bestPins_51 : decode cX6_bestPins 51 = .ok (.getfield 10, 3) := by decide +kernel
theorem dX6_bestPins_54 : decode cX6_bestPins 54 = .ok (.invokevirtual 217, 3) := by decide +kernel
theorem dX6_bestPins_57 : decode cX6_bestPins 57 = .ok (.iadd, 1) := by decide +kernel
theorem dX6_bestPins_58 : decode cX6_bestPins 58 = .ok (.istore 7, 2) := by decide +kernel
theorem dX6_bestPins_60 : decode cX6_bestPins 60 = .ok (.iload 6, 2) := by decide +kernel
theorem dX6_bestPins_62 : decode cX6_bestPins 62 = .ok (.aload_n 0, 1) := by decide +kernel
theorem dX6_bestPins_63 : decode cX6_bestPins 63 = .ok (.getfield 10, 3) := by decide +kernel
theorem dX6_bestPins_66 : decode cX6_bestPins 66 = .ok (.invokevirtual 220, 3) := by decide +kernel
theorem dX6_bestPins_69 : decode cX6_bestPins 69 = .ok (.iadd, 1) := by decide +kernel
theorem dX6_bestPins_70 : decode cX6_bestPins 70 = .ok (.istore 8, 2) := by decide +kernel
theorem dX6_bestPins_72 : decode cX6_bestPins 72 = .ok (.aload_n 0, 1) := by decide +kernel
theorem dX6_bestPins_73 : decode cX6_bestPins 73 = .ok (.iload 7, 2) := by decide +kernel
theorem dX6_bestPins_75 : decode cX6_bestPins 75 = .ok (.iload 8, 2) := by decide +kernel
theorem dX6_bestPins_77 : decode cX6_bestPins 77 = .ok (.invokevirtual 116, 3) := by decide +kernel
theorem dX6_bestPins_80 : decode cX6_bestPins 80 = .ok (.aload_n 0, 1) := by decide +kernel
theorem dX6_bestPins_81 : decode cX6_bestPins 81 = .ok (.iload 7, 2) := by decide +kernel
theorem dX6_bestPins_83 : decode cX6_bestPins 83 = .ok (.iload 8, 2) := by decide +kernel
theorem dX6_bestPins_85 : decode cX6_bestPins 85 = .ok (.invokevirtual 202, 3) := by decide +kernel
theorem dX6_bestPins_88 : decode cX6_bestPins 88 = .ok (.iadd, 1) := by decide +kernel
theorem dX6_bestPins_89 : decode cX6_bestPins 89 = .ok (.istore 9, 2) := by decide +kernel
theorem dX6_bestPins_91 : decode cX6_bestPins 91 = .ok (.iload 9, 2) := by decide +kernel
theorem dX6_bestPins_93 : decode cX6_bestPins 93 = .ok (.iload 4, 2) := by decide +kernel
theorem dX6_bestPins_95 : decode cX6_bestPins 95 = .ok (.if_icmp .ge 13, 3) := by decide +kernel
theorem dX6_bestPins_98 : decode cX6_bestPins 98 = .ok (.iload 9, 2) := by decide +kernel
theorem dX6_bestPins_100 : decode cX6_bestPins 100 = .ok (.istore 4, 2) := by decide +kernel
theorem dX6_bestPins_102 : decode cX6_bestPins 102 = .ok (.iload 5, 2) := by decide +kernel
theorem dX6_bestPins_104 : decode cX6_bestPins 104 = .ok (.istore_n 2, 1) := by decide +kernel
theorem dX6_bestPins_105 : decode cX6_bestPins 105 = .ok (.iload 6, 2) := by decide +kernel
theorem dX6_bestPins_107 : decode cX6_bestPins 107 = .ok (.istore_n 3, 1) := by decide +kernel
theorem dX6_bestPins_108 : decode cX6_bestPins 108 = .ok (.iinc 6 1, 3) := by decide +kernel
theorem dX6_bestPins_111 : decode cX6_bestPins 111 = .ok (.goto (-69), 3) := by decide +kernel
theorem dX6_bestPins_114 : decode cX6_bestPins 114 = .ok (.iinc 5 1, 3) := by decide +kernel
theorem dX6_bestPins_117 : decode cX6_bestPins 117 = .ok (.goto (-85), 3) := by decide +kernel
theorem dX6_bestPins_120 : decode cX6_bestPins 120 = .ok (.iload_n 1, 1) := by decide +kernel
theorem dX6_bestPins_121 : decode cX6_bestPins 121 = .ok (.iconst 2, 1) := by decide +kernel
theorem dX6_bestPins_122 : decode cX6_bestPins 122 = .ok (.if_icmp .ne 6, 3) := by decide +kernel
theorem dX6_bestPins_125 : decode cX6_bestPins 125 = .ok (.iload 4, 2) := by decide +kernel
theorem dX6_bestPins_127 : decode cX6_bestPins 127 = .ok (.ireturn, 1) := by decide +kernel
theorem dX6_bestPins_128 : decode cX6_bestPins 128 = .ok (.iconst 4, 1) := by decide +kernel
theorem dX6_bestPins_129 : decode cX6_bestPins 129 = .ok (.iload_n 1, 1) := by decide +kernel
theorem dX6_bestPins_130 : decode cX6_bestPins 130 = .ok (.ifCond .ne 7, 3) := by decide +kernel
theorem dX6_bestPins_133 : decode cX6_bestPins 133 = .ok (.iload_n 2, 1) := by decide +kernel
theorem dX6_bestPins_134 : decode cX6_bestPins 134 = .ok (.goto 4, 3) := by decide +kernel
theorem dX6_bestPins_137 : decode cX6_bestPins 137 = .ok (.iload_n 3, 1) := by decide +kernel
theorem dX6_bestPins_138 : decode cX6_bestPins 138 = .ok (.iadd, 1) := by decide +kernel
theorem dX6_bestPins_139 : decode cX6_bestPins 139 = .ok (.ireturn, 1) := by decide +kernel
set_option maxRecDepth 20000 in
theorem ggX6_printsLeft_X6_findInk : GoodIn wsX6_printsLeft wsX6_findInk := goodIn_r _ [8, 1, 2, 3, 9, 10, 11, 12, 13, 14, 15, 16, 17, 18, 19, 20, 21, 22, 7, 23, 24, 25, 26, 27, 28, 29, 30, 31, 32, 33, 34, 57, 58, 59, 60, 61, 62, 63, 64, 65, 66, 67, 68, 69, 70, 71, 72, 73, 74, 75, 76, 77] (by decide +kernel) (by decide +kernel)
set_option maxRecDepth 20000 in
theorem gX6_printsLeft_X6_findInk : GoodIn wsX6_printsLeft (wsV RX6 107 RX6 yX6_findInk wsX6_findInk) := goodIn_app (goodIn_of _ (by decide +kernel)) ggX6_printsLeft_X6_findInk
set_option maxRecDepth 20000 in
theorem ggX6_printsLeft_X5_hardness : GoodIn wsX6_printsLeft wsX5_hardness := goodIn_r _ [13, 14, 62, 63, 64, 65, 66, 67, 68, 69, 70, 71] (by decide +kernel) (by decide +kernel)
set_option maxRecDepth 20000 in
theorem gX6_printsLeft_X5_hardness : GoodIn wsX6_printsLeft (wsV RX6 91 RX5 yX5_hardness wsX5_hardness) := goodIn_app (goodIn_of _ (by decide +kernel)) ggX6_printsLeft_X5_hardness
set_option maxRecDepth 20000 in
theorem ggX6_printsLeft_X0_printsUntilWorn : GoodIn wsX6_printsLeft wsX0_printsUntilWorn := goodIn_r _ [38, 20, 39, 40, 41, 42, 43, 44, 18, 45, 46, 47, 48, 27, 49, 50, 51, 52, 53, 29, 54, 7, 55, 22, 23, 56, 72, 73, 74, 75, 76, 77] (by decide +kernel) (by decide +kernel)
set_option maxRecDepth 20000 in
theorem gX6_printsLeft_X0_printsUntilWorn : GoodIn wsX6_printsLeft (wsV RX6 223 RX0 yX0_printsUntilWorn wsX0_printsUntilWorn) := goodIn_app (goodIn_of _ (by decide +kernel)) ggX6_printsLeft_X0_printsUntilWorn
theorem dX6_printsLeft_0 : decode cX6_printsLeft 0 = .ok (.aload_n 0, 1) := by decide +kernel
theorem dX6_printsLeft_1 : decode cX6_printsLeft 1 = .ok (.invokevirtual 107, 3) := by decide +kernel
theorem dX6_printsLeft_4 : decode cX6_printsLeft 4 = .ok (.aload_n 0, 1) := by decide +kernel
theorem dX6_printsLeft_5 : decode cX6_printsLeft 5 = .ok (.getfield 10, 3) := by decide +kernel
theorem dX6_printsLeft_8 : decode cX6_printsLeft 8 = .ok (.getfield 52, 3) := by decide +kernel
theorem dX6_printsLeft_11 : decode cX6_printsLeft 11 = .ok (.aload_n 0, 1) := by decide +kernel
theorem dX6_printsLeft_12 : decode cX6_printsLeft 12 = .ok (.getfield 33, 3) := by decide +kernel
theorem dX6_printsLeft_15 : decode cX6_printsLeft 15 = .ok (.aload_n 0, 1) := by decide +kernel
theorem dX6_printsLeft_16 : decode cX6_printsLeft 16 = .ok (.getfield 10, 3) := by decide +kernel
theorem dX6_printsLeft_19 : decode cX6_printsLeft 19 = .ok (.invokevirtual 91, 3) := by decide +kernel
theorem dX6_printsLeft_22 : decode cX6_printsLeft 22 = .ok (.invokevirtual 223, 3) := by decide +kernel
theorem dX6_printsLeft_25 : decode cX6_printsLeft 25 = .ok (.istore_n 1, 1) := by decide +kernel
theorem dX6_printsLeft_26 : decode cX6_printsLeft 26 = .ok (.iload_n 1, 1) := by decide +kernel
theorem dX6_printsLeft_27 : decode cX6_printsLeft 27 = .ok (.sipush 500, 3) := by decide +kernel
theorem dX6_printsLeft_30 : decode cX6_printsLeft 30 = .ok (.if_icmp .le 9, 3) := by decide +kernel
theorem dX6_printsLeft_33 : decode cX6_printsLeft 33 = .ok (.sipush (-1009), 3) := by decide +kernel
theorem dX6_printsLeft_36 : decode cX6_printsLeft 36 = .ok (.goto 4, 3) := by decide +kernel
theorem dX6_printsLeft_39 : decode cX6_printsLeft 39 = .ok (.iload_n 1, 1) := by decide +kernel
theorem dX6_printsLeft_40 : decode cX6_printsLeft 40 = .ok (.ireturn, 1) := by decide +kernel
theorem dX6_isWithin_0 : decode cX6_isWithin 0 = .ok (.iload_n 0, 1) := by decide +kernel
theorem dX6_isWithin_1 : decode cX6_isWithin 1 = .ok (.iload_n 1, 1) := by decide +kernel
theorem dX6_isWithin_2 : decode cX6_isWithin 2 = .ok (.if_icmp .lt 12, 3) := by decide +kernel
theorem dX6_isWithin_5 : decode cX6_isWithin 5 = .ok (.iload_n 0, 1) := by decide +kernel
theorem dX6_isWithin_6 : decode cX6_isWithin 6 = .ok (.iload_n 2, 1) := by decide +kernel
theorem dX6_isWithin_7 : decode cX6_isWithin 7 = .ok (.if_icmp .gt 7, 3) := by decide +kernel
theorem dX6_isWithin_10 : decode cX6_isWithin 10 = .ok (.iconst 1, 1) := by decide +kernel
theorem dX6_isWithin_11 : decode cX6_isWithin 11 = .ok (.goto 4, 3) := by decide +kernel
theorem dX6_isWithin_14 : decode cX6_isWithin 14 = .ok (.iconst 0, 1) := by decide +kernel
theorem dX6_isWithin_15 : decode cX6_isWithin 15 = .ok (.ireturn, 1) := by decide +kernel
theorem dX6_isPlace_0 : decode cX6_isPlace 0 = .ok (.iload_n 0, 1) := by decide +kernel
theorem dX6_isPlace_1 : decode cX6_isPlace 1 = .ok (.ifCond .lt 23, 3) := by decide +kernel
theorem dX6_isPlace_4 : decode cX6_isPlace 4 = .ok (.iload_n 0, 1) := by decide +kernel
theorem dX6_isPlace_5 : decode cX6_isPlace 5 = .ok (.bipush 16, 2) := by decide +kernel
theorem dX6_isPlace_7 : decode cX6_isPlace 7 = .ok (.if_icmp .ge 17, 3) := by decide +kernel
theorem dX6_isPlace_10 : decode cX6_isPlace 10 = .ok (.iload_n 1, 1) := by decide +kernel
theorem dX6_isPlace_11 : decode cX6_isPlace 11 = .ok (.ifCond .lt 13, 3) := by decide +kernel
theorem dX6_isPlace_14 : decode cX6_isPlace 14 = .ok (.iload_n 1, 1) := by decide +kernel
theorem dX6_isPlace_15 : decode cX6_isPlace 15 = .ok (.bipush 12, 2) := by decide +kernel
theorem dX6_isPlace_17 : decode cX6_isPlace 17 = .ok (.if_icmp .ge 7, 3) := by decide +kernel
theorem dX6_isPlace_20 : decode cX6_isPlace 20 = .ok (.iconst 1, 1) := by decide +kernel
theorem dX6_isPlace_21 : decode cX6_isPlace 21 = .ok (.goto 4, 3) := by decide +kernel
theorem dX6_isPlace_24 : decode cX6_isPlace 24 = .ok (.iconst 0, 1) := by decide +kernel
theorem dX6_isPlace_25 : decode cX6_isPlace 25 = .ok (.ireturn, 1) := by decide +kernel
set_option maxRecDepth 20000 in
theorem ggX6_isShift_X6_isWithin : GoodIn wsX6_isShift wsX6_isWithin := goodIn_r _ [4] (by decide +kernel) (by decide +kernel)
set_option maxRecDepth 20000 in
theorem gX6_isShift_X6_isWithin : GoodIn wsX6_isShift (va_wsS RX6 44 yX6_isWithin wsX6_isWithin) := goodIn_app (goodIn_of _ (by decide +kernel)) ggX6_isShift_X6_isWithin
theorem dX6_isShift_0 : decode cX6_isShift 0 = .ok (.iload_n 0, 1) := by decide +kernel
theorem dX6_isShift_1 : decode cX6_isShift 1 = .ok (.bipush (-8), 2) := by decide +kernel
theorem dX6_isShift_3 : decode cX6_isShift 3 = .ok (.bipush 8, 2) := by decide +kernel
theorem dX6_isShift_5 : decode cX6_isShift 5 = .ok (.invokestatic 44, 3) := by decide +kernel
theorem dX6_isShift_8 : decode cX6_isShift 8 = .ok (.ifCond .eq 18, 3) := by decide +kernel
theorem dX6_isShift_11 : decode cX6_isShift 11 = .ok (.iload_n 1, 1) := by decide +kernel
theorem dX6_isShift_12 : decode cX6_isShift 12 = .ok (.bipush (-8), 2) := by decide +kernel
theorem dX6_isShift_14 : decode cX6_isShift 14 = .ok (.bipush 8, 2) := by decide +kernel
theorem dX6_isShift_16 : decode cX6_isShift 16 = .ok (.invokestatic 44, 3) := by decide +kernel
theorem dX6_isShift_19 : decode cX6_isShift 19 = .ok (.ifCond .eq 7, 3) := by decide +kernel
theorem dX6_isShift_22 : decode cX6_isShift 22 = .ok (.iconst 1, 1) := by decide +kernel
theorem dX6_isShift_23 : decode cX6_isShift 23 = .ok (.goto 4, 3) := by decide +kernel
theorem dX6_isShift_26 : decode cX6_isShift 26 = .ok (.iconst 0, 1) := by decide +kernel
theorem dX6_isShift_27 : decode cX6_isShift 27 = .ok (.ireturn, 1) := by decide +kernel
theorem dX6_oneIf_0 : decode cX6_oneIf 0 = .ok (.iload_n 0, 1) := by decide +kernel
theorem dX6_oneIf_1 : decode cX6_oneIf 1 = .ok (.ifCond .eq 7, 3) := by decide +kernel
theorem dX6_oneIf_4 : decode cX6_oneIf 4 = .ok (.iconst 1, 1) := by decide +kernel
theorem dX6_oneIf_5 : decode cX6_oneIf 5 = .ok (.goto 4, 3) := by decide +kernel
theorem dX6_oneIf_8 : decode cX6_oneIf 8 = .ok (.iconst 0, 1) := by decide +kernel
theorem dX6_oneIf_9 : decode cX6_oneIf 9 = .ok (.ireturn, 1) := by decide +kernel
set_option maxRecDepth 20000 in
theorem ggX6_findInk_X5_hardness : GoodIn wsX6_findInk wsX5_hardness := goodIn_r _ [8, 9, 36, 37, 38, 39, 40, 41, 42, 43, 44, 45] (by decide +kernel) (by decide +kernel)
set_option maxRecDepth 20000 in
theorem gX6_findInk_X5_hardness : GoodIn wsX6_findInk (wsV RX6 91 RX5 yX5_hardness wsX5_hardness) := goodIn_app (goodIn_of _ (by decide +kernel)) ggX6_findInk_X5_hardness
set_option maxRecDepth 20000 in
theorem ggX6_findInk_X0_findInk : GoodIn wsX6_findInk wsX0_findInk := goodIn_r _ [14, 15, 16, 17, 18, 19, 20, 21, 22, 23, 24, 25, 26, 27, 28, 29, 30, 46, 47, 48, 49, 50, 51] (by decide +kernel) (by decide +kernel)
set_option maxRecDepth 20000 in
theorem gX6_findInk_X0_findInk : GoodIn wsX6_findInk (wsV RX6 227 RX0 yX0_findInk wsX0_findInk) := goodIn_app (goodIn_of _ (by decide +kernel)) ggX6_findInk_X0_findInk
theorem dX6_findInk_0 : decode cX6_findInk 0 = .ok (.aload_n 0, 1) := by decide +kernel
theorem dX6_findInk_1 : decode cX6_findInk 1 = .ok (.getfield 10, 3) := by decide +kernel
theorem dX6_findInk_4 : decode cX6_findInk 4 = .ok (.getfield 52, 3) := by decide +kernel
theorem dX6_findInk_7 : decode cX6_findInk 7 = .ok (.aload_n 0, 1) := by decide +kernel
theorem dX6_findInk_8 : decode cX6_findInk 8 = .ok (.getfield 33, 3) := by decide +kernel
theorem dX6_findInk_11 : decode cX6_findInk 11 = .ok (.aload_n 0, 1) := by decide +kernel
theorem dX6_findInk_12 : decode cX6_findInk 12 = .ok (.getfield 10, 3) := by decide +kernel
theorem dX6_findInk_15 : decode cX6_findInk 15 = .ok (.invokevirtual 91, 3) := by decide +kernel
theorem dX6_findInk_18 : decode cX6_findInk 18 = .ok (.invokevirtual 227, 3) := by decide +kernel
theorem dX6_findInk_21 : decode cX6_findInk 21 = .ok (.return_, 1) := by decide +kernel
set_option maxRecDepth 20000 in
theorem ggX6_wornCells_X6_findInk : GoodIn wsX6_wornCells wsX6_findInk := goodIn_r _ [9, 1, 2, 4, 10, 11, 12, 13, 14, 15, 16, 17, 18, 19, 20, 21, 22, 23, 8, 24, 25, 26, 27, 28, 29, 30, 31, 32, 33, 34, 35, 47, 48, 49, 50, 51, 52, 53, 54, 55, 56, 57, 58, 59, 60, 61, 62, 63, 64, 65, 66, 67] (by decide +kernel) (by decide +kernel)
set_option maxRecDepth 20000 in
theorem gX6_wornCells_X6_findInk : GoodIn wsX6_wornCells (wsV RX6 107 RX6 yX6_findInk wsX6_findInk) := goodIn_app (goodIn_of _ (by decide +kernel)) ggX6_wornCells_X6_findInk
set_option maxRecDepth 20000 in
theorem ggX6_wornCells_X1_size : GoodIn wsX6_wornCells wsX1_size := goodIn_r _ [39, 30, 40, 41, 42, 43, 44, 45, 46, 67] (by decide +kernel) (by decide +kernel)
set_option maxRecDepth 20000 in
theorem gX6_wornCells_X1_size : GoodIn wsX6_wornCells (wsV RX6 69 RX1 yX1_size wsX1_size) := goodIn_app (goodIn_of _ (by decide +kernel)) ggX6_wornCells_X1_size
theorem dX6_wornCells_0 : decode cX6_wornCells 0 = .ok (.aload_n 0, 1) := by decide +kernel
theorem dX6_wornCells_1 : decode cX6_wornCells 1 = .ok (.invokevirtual 107, 3) := by decide +kernel
theorem dX6_wornCells_4 : decode cX6_wornCells 4 = .ok (.aload_n 0, 1) := by decide +kernel
theorem dX6_wornCells_5 : decode cX6_wornCells 5 = .ok (.getfield 10, 3) := by decide +kernel
theorem dX6_wornCells_8 : decode cX6_wornCells 8 = .ok (.getfield 52, 3) := by decide +kernel
theorem dX6_wornCells_11 : decode cX6_wornCells 11 = .ok (.getfield 73, 3) := by decide +kernel
theorem dX6_wornCells_14 : decode cX6_wornCells 14 = .ok (.invokevirtual 69, 3) := by decide +kernel
theorem dX6_wornCells_17 : decode cX6_wornCells 17 = .ok (.aload_n 0, 1) := by decide +kernel
theorem dX6_wornCells_18 : decode cX6_wornCells 18 = .ok (.getfield 33, 3) := by decide +kernel
theorem dX6_wornCells_21 : decode cX6_wornCells 21 = .ok (.invokevirtual 69, 3) := by decide +kernel
theorem dX6_wornCells_24 : decode cX6_wornCells 24 = .ok (.isub, 1) := by decide +kernel
theorem dX6_wornCells_25 : decode cX6_wornCells 25 = .ok (.ireturn, 1) := by decide +kernel
set_option maxRecDepth 20000 in
theorem ggX6_printsColour_X1_has : GoodIn wsX6_printsColour wsX1_has := goodIn_r _ [8, 9, 10, 11, 12, 33] (by decide +kernel) (by decide +kernel)
set_option maxRecDepth 20000 in
theorem gX6_printsColour_X1_has : GoodIn wsX6_printsColour (wsV RX6 76 RX1 yX1_has wsX1_has) := goodIn_app (goodIn_of _ (by decide +kernel)) ggX6_printsColour_X1_has
theorem dX6_printsColour_0 : decode cX6_printsColour 0 = .ok (.aload_n 0, 1) := by decide +kernel
theorem dX6_printsColour_1 : decode cX6_printsColour 1 = .ok (.getfield 10, 3) := by decide +kernel
theorem dX6_printsColour_4 : decode cX6_printsColour 4 = .ok (.getfield 52, 3) := by decide +kernel
theorem dX6_printsColour_7 : decode cX6_printsColour 7 = .ok (.getfield 66, 3) := by decide +kernel
theorem dX6_printsColour_10 : decode cX6_printsColour 10 = .ok (.iload_n 1, 1) := by decide +kernel
theorem dX6_printsColour_11 : decode cX6_printsColour 11 = .ok (.iload_n 3, 1) := by decide +kernel
theorem dX6_printsColour_12 : decode cX6_printsColour 12 = .ok (.isub, 1) := by decide +kernel
theorem dX6_printsColour_13 : decode cX6_printsColour 13 = .ok (.iload_n 2, 1) := by decide +kernel
theorem dX6_printsColour_14 : decode cX6_printsColour 14 = .ok (.iload 4, 2) := by decide +kernel
theorem dX6_printsColour_16 : decode cX6_printsColour 16 = .ok (.isub, 1) := by decide +kernel
theorem dX6_printsColour_17 : decode cX6_printsColour 17 = .ok (.invokevirtual 76, 3) := by decide +kernel
theorem dX6_printsColour_20 : decode cX6_printsColour 20 = .ok (.ireturn, 1) := by decide +kernel
set_option maxRecDepth 20000 in
theorem ggX6_gapsWith_X0_gaps : GoodIn wsX6_gapsWith wsX0_gaps := goodIn_r _ [9, 10, 11, 12, 13, 14, 15, 16, 17, 18, 19, 20, 21, 22, 23, 24, 25, 26, 27, 28, 29, 30, 46, 47, 48, 49, 50, 51] (by decide +kernel) (by decide +kernel)
set_option maxRecDepth 20000 in
theorem gX6_gapsWith_X0_gaps : GoodIn wsX6_gapsWith (wsV RX6 229 RX0 yX0_gaps wsX0_gaps) := goodIn_app (goodIn_of _ (by decide +kernel)) ggX6_gapsWith_X0_gaps
theorem dX6_gapsWith_0 : decode cX6_gapsWith 0 = .ok (.aload_n 0, 1) := by decide +kernel
theorem dX6_gapsWith_1 : decode cX6_gapsWith 1 = .ok (.getfield 10, 3) := by decide +kernel
theorem dX6_gapsWith_4 : decode cX6_gapsWith 4 = .ok (.getfield 52, 3) := by decide +kernel
theorem dX6_gapsWith_7 : decode cX6_gapsWith 7 = .ok (.aload_n 0, 1) := by decide +kernel
theorem dX6_gapsWith_8 : decode cX6_gapsWith 8 = .ok (.getfield 33, 3) := by decide +kernel
theorem dX6_gapsWith_11 : decode cX6_gapsWith 11 = .ok (.aload_n 0, 1) := by decide +kernel
theorem dX6_gapsWith_12 : decode cX6_gapsWith 12 = .ok (.getfield 10, 3) := by decide +kernel
theorem dX6_gapsWith_15 : decode cX6_gapsWith 15 = .ok (.getfield 52, 3) := by decide +kernel
theorem dX6_gapsWith_18 : decode cX6_gapsWith 18 = .ok (.getfield 66, 3) := by decide +kernel
theorem dX6_gapsWith_21 : decode cX6_gapsWith 21 = .ok (.iload_n 1, 1) := by decide +kernel
theorem dX6_gapsWith_22 : decode cX6_gapsWith 22 = .ok (.iload_n 2, 1) := by decide +kernel
theorem dX6_gapsWith_23 : decode cX6_gapsWith 23 = .ok (.invokevirtual 229, 3) := by decide +kernel
theorem dX6_gapsWith_26 : decode cX6_gapsWith 26 = .ok (.ireturn, 1) := by decide +kernel
set_option maxRecDepth 20000 in
theorem ggX6_spillsWith_X0_spills : GoodIn wsX6_spillsWith wsX0_spills := goodIn_r _ [8, 9, 10, 11, 12, 13, 14, 15, 16, 17, 18, 19, 20, 21, 22, 23, 24, 25, 26, 27, 28, 29, 45, 46, 47, 48, 49, 50] (by decide +kernel) (by decide +kernel)
set_option maxRecDepth 20000 in
theorem gX6_spillsWith_X0_spills : GoodIn wsX6_spillsWith (wsV RX6 233 RX0 yX0_spills wsX0_spills) := goodIn_app (goodIn_of _ (by decide +kernel)) ggX6_spillsWith_X0_spills
theorem dX6_spillsWith_0 : decode cX6_spillsWith 0 = .ok (.aload_n 0, 1) := by decide +kernel
theorem dX6_spillsWith_1 : decode cX6_spillsWith 1 = .ok (.getfield 10, 3) := by decide +kernel
theorem dX6_spillsWith_4 : decode cX6_spillsWith 4 = .ok (.getfield 52, 3) := by decide +kernel
theorem dX6_spillsWith_7 : decode cX6_spillsWith 7 = .ok (.aload_n 0, 1) := by decide +kernel
theorem dX6_spillsWith_8 : decode cX6_spillsWith 8 = .ok (.getfield 10, 3) := by decide +kernel
theorem dX6_spillsWith_11 : decode cX6_spillsWith 11 = .ok (.getfield 52, 3) := by decide +kernel
theorem dX6_spillsWith_14 : decode cX6_spillsWith 14 = .ok (.getfield 66, 3) := by decide +kernel
theorem dX6_spillsWith_17 : decode cX6_spillsWith 17 = .ok (.iload_n 1, 1) := by decide +kernel
theorem dX6_spillsWith_18 : decode cX6_spillsWith 18 = .ok (.iload_n 2, 1) := by decide +kernel
theorem dX6_spillsWith_19 : decode cX6_spillsWith 19 = .ok (.invokevirtual 233, 3) := by decide +kernel
theorem dX6_spillsWith_22 : decode cX6_spillsWith 22 = .ok (.ireturn, 1) := by decide +kernel
set_option maxRecDepth 20000 in
theorem ggX6_hasGapsWithin_X0_gaps : GoodIn wsX6_hasGapsWithin wsX0_gaps := goodIn_r _ [7, 8, 9, 10, 11, 12, 13, 14, 15, 16, 17, 18, 19, 20, 21, 22, 23, 24, 25, 26, 27, 28, 44, 45, 46, 47, 48, 49] (by decide +kernel) (by decide +kernel)
set_option maxRecDepth 20000 in
theorem gX6_hasGapsWithin_X0_gaps : GoodIn wsX6_hasGapsWithin (wsV RX6 229 RX0 yX0_gaps wsX0_gaps) := goodIn_app (goodIn_of _ (by decide +kernel)) ggX6_hasGapsWithin_X0_gaps
theorem dX6_hasGapsWithin_0 : decode cX6_hasGapsWithin 0 = .ok (.iload_n 1, 1) := by decide +kernel
theorem dX6_hasGapsWithin_1 : decode cX6_hasGapsWithin 1 = .ok (.ineg, 1) := by decide +kernel
theorem dX6_hasGapsWithin_2 : decode cX6_hasGapsWithin 2 = .ok (.istore 4, 2) := by decide +kernel
theorem dX6_hasGapsWithin_4 : decode cX6_hasGapsWithin 4 = .ok (.iload 4, 2) := by decide +kernel
theorem dX6_hasGapsWithin_6 : decode cX6_hasGapsWithin 6 = .ok (.iload_n 1, 1) := by decide +kernel
theorem dX6_hasGapsWithin_7 : decode cX6_hasGapsWithin 7 = .ok (.if_icmp .gt 46, 3) := by decide +kernel
theorem dX6_hasGapsWithin_10 : decode cX6_hasGapsWithin 10 = .ok (.iload_n 1, 1) := by decide +kernel
theorem dX6_hasGapsWithin_11 : decode cX6_hasGapsWithin 11 = .ok (.ineg, 1) := by decide +kernel
theorem dX6_hasGapsWithin_12 : decode cX6_hasGapsWithin 12 = .ok (.istore 5, 2) := by decide +kernel
theorem dX6_hasGapsWithin_14 : decode cX6_hasGapsWithin 14 = .ok (.iload 5, 2) := by decide +kernel
theorem dX6_hasGapsWithin_16 : decode cX6_hasGapsWithin 16 = .ok (.iload_n 1, 1) := by decide +kernel
theorem dX6_hasGapsWithin_17 : decode cX6_hasGapsWithin 17 = .ok (.if_icmp .gt 30, 3) := by decide +kernel
theorem dX6_hasGapsWithin_20 : decode cX6_hasGapsWithin 20 = .ok (.aload_n 0, 1) := by decide +kernel
theorem dX6_hasGapsWithin_21 : decode cX6_hasGapsWithin 21 = .ok (.getfield 10, 3) := by decide +kernel
theorem dX6_hasGapsWithin_24 : decode cX6_hasGapsWithin 24 = .ok (.getfield 52, 3) := by decide +kernel
theorem dX6_hasGapsWithin_27 : decode cX6_hasGapsWithin 27 = .ok (.aload_n 2, 1) := by decide +kernel
theorem dX6_hasGapsWithin_28 : decode cX6_hasGapsWithin 28 = .ok (.aload_n 3, 1) := by decide +kernel
theorem dX6_hasGapsWithin_29 : decode cX6_hasGapsWithin 29 = .ok (.iload 4, 2) := by decide +kernel
theorem dX6_hasGapsWithin_31 : decode cX6_hasGapsWithin 31 = .ok (.iload 5, 2) := by decide +kernel
theorem dX6_hasGapsWithin_33 : decode cX6_hasGapsWithin 33 = .ok (.invokevirtual 229, 3) := by decide +kernel
theorem dX6_hasGapsWithin_36 : decode cX6_hasGapsWithin 36 = .ok (.ifCond .le 5, 3) := by decide +kernel
theorem dX6_hasGapsWithin_39 : decode cX6_hasGapsWithin 39 = .ok (.iconst 1, 1) := by decide +kernel
theorem dX6_hasGapsWithin_40 : decode cX6_hasGapsWithin 40 = .ok (.ireturn, 1) := by decide +kernel
theorem dX6_hasGapsWithin_41 : decode cX6_hasGapsWithin 41 = .ok (.iinc 5 1, 3) := by decide +kernel
theorem dX6_hasGapsWithin_44 : decode cX6_hasGapsWithin 44 = .ok (.goto (-30), 3) := by decide +kernel
theorem dX6_hasGapsWithin_47 : decode cX6_hasGapsWithin 47 = .ok (.iinc 4 1, 3) := by decide +kernel
theorem dX6_hasGapsWithin_50 : decode cX6_hasGapsWithin 50 = .ok (.goto (-46), 3) := by decide +kernel
theorem dX6_hasGapsWithin_53 : decode cX6_hasGapsWithin 53 = .ok (.iconst 0, 1) := by decide +kernel
theorem dX6_hasGapsWithin_54 : decode cX6_hasGapsWithin 54 = .ok (.ireturn, 1) := by decide +kernel
set_option maxRecDepth 20000 in
theorem ggX6_makeOnePrint_X6_findInk : GoodIn wsX6_makeOnePrint wsX6_findInk := goodIn_r _ [10, 1, 4, 5, 11, 12, 13, 14, 15, 16, 17, 18, 19, 20, 21, 22, 23, 24, 9, 25, 26, 27, 28, 29, 30, 31, 32, 33, 34, 35, 36, 131, 132, 133, 134, 135, 136, 137, 138, 139, 140, 141, 142, 143, 144, 145, 146, 147, 148, 149, 150, 151] (by decide +kernel) (by decide +kernel)
set_option maxRecDepth 20000 in
theorem gX6_makeOnePrint_X6_findInk : GoodIn wsX6_makeOnePrint (wsV RX6 107 RX6 yX6_findInk wsX6_findInk) := goodIn_app (goodIn_of _ (by decide +kernel)) ggX6_makeOnePrint_X6_findInk
set_option maxRecDepth 20000 in
theorem ggX6_makeOnePrint_X5_shiftX : GoodIn wsX6_makeOnePrint wsX5_shiftX := goodIn_r _ [40, 41, 42, 43, 44, 14, 45, 16, 136, 137, 138, 139, 140, 141, 142, 143, 144, 145] (by decide +kernel) (by decide +kernel)
set_option maxRecDepth 20000 in
theorem gX6_makeOnePrint_X5_shiftX : GoodIn wsX6_makeOnePrint (wsV RX6 110 RX5 yX5_shiftX wsX5_shiftX) := goodIn_app (goodIn_of _ (by decide +kernel)) ggX6_makeOnePrint_X5_shiftX
set_option maxRecDepth 20000 in
theorem ggX6_makeOnePrint_X5_shiftY : GoodIn wsX6_makeOnePrint wsX5_shiftY := goodIn_r _ [49, 50, 51, 52, 53, 14, 54, 16, 136, 137, 138, 139, 140, 141, 142, 143, 144, 145] (by decide +kernel) (by decide +kernel)
set_option maxRecDepth 20000 in
theorem gX6_makeOnePrint_X5_shiftY : GoodIn wsX6_makeOnePrint (wsV RX6 113 RX5 yX5_shiftY wsX5_shiftY) := goodIn_app (goodIn_of _ (by decide +kernel)) ggX6_makeOnePrint_X5_shiftY
set_option maxRecDepth 20000 in
theorem ggX6_makeOnePrint_X6_gapsWith : GoodIn wsX6_makeOnePrint wsX6_gapsWith := goodIn_r _ [58, 1, 4, 5, 59, 60, 61, 62, 20, 63, 64, 65, 26, 27, 28, 29, 30, 31, 66, 67, 68, 69, 36, 70, 71, 72, 73, 74, 75, 76, 77, 131, 132, 133, 134, 135, 136, 137, 138, 139, 140, 141, 142, 143, 144, 145, 146, 147, 148, 149, 150, 151] (by decide +kernel) (by decide +kernel)
set_option maxRecDepth 20000 in
theorem gX6_makeOnePrint_X6_gapsWith : GoodIn wsX6_makeOnePrint (wsV RX6 116 RX6 yX6_gapsWith wsX6_gapsWith) := goodIn_app (goodIn_of _ (by decide +kernel)) ggX6_makeOnePrint_X6_gapsWith
set_option maxRecDepth 20000 in
theorem ggX6_makeOnePrint_X3_addProof : GoodIn wsX6_makeOnePrint wsX3_addProof := goodIn_r _ [82, 83, 84, 85, 86, 87, 88, 89, 152, 153, 154] (by decide +kernel) (by decide +kernel)
set_option maxRecDepth 20000 in
theorem gX6_makeOnePrint_X3_addProof : GoodIn wsX6_makeOnePrint (wsV RX6 237 RX3 yX3_addProof wsX3_addProof) := goodIn_app (goodIn_of _ (by decide +kernel)) ggX6_makeOnePrint_X3_addProof
set_option maxRecDepth 20000 in
theorem ggX6_makeOnePrint_X6_spillsWith : GoodIn wsX6_makeOnePrint wsX6_spillsWith := goodIn_r _ [93, 1, 4, 59, 94, 95, 96, 20, 97, 64, 65, 26, 27, 28, 29, 30, 31, 66, 67, 68, 69, 36, 70, 71, 72, 73, 74, 75, 76, 77, 131, 132, 133, 134, 135, 136, 137, 138, 139, 140, 141, 142, 143, 144, 145, 146, 147, 148, 149, 150, 151] (by decide +kernel) (by decide +kernel)
set_option maxRecDepth 20000 in
theorem gX6_makeOnePrint_X6_spillsWith : GoodIn wsX6_makeOnePrint (wsV RX6 202 RX6 yX6_spillsWith wsX6_spillsWith) := goodIn_app (goodIn_of _ (by decide +kernel)) ggX6_makeOnePrint_X6_spillsWith
set_option maxRecDepth 20000 in
theorem ggX6_makeOnePrint_X0_lostLines : GoodIn wsX6_makeOnePrint wsX0_lostLines := goodIn_r _ [101, 65, 26, 27, 28, 29, 30, 31, 71, 72, 73, 74, 75, 76, 77, 146, 147, 148, 149, 150, 151] (by decide +kernel) (by decide +kernel)
set_option maxRecDepth 20000 in
theorem gX6_makeOnePrint_X0_lostLines : GoodIn wsX6_makeOnePrint (wsV RX6 205 RX0 yX0_lostLines wsX0_lostLines) := goodIn_app (goodIn_of _ (by decide +kernel)) ggX6_makeOnePrint_X0_lostLines
set_option maxRecDepth 20000 in
theorem ggX6_makeOnePrint_X3_addFaults : GoodIn wsX6_makeOnePrint wsX3_addFaults := goodIn_r _ [105, 89, 83, 152, 153, 154] (by decide +kernel) (by decide +kernel)
set_option maxRecDepth 20000 in
theorem gX6_makeOnePrint_X3_addFaults : GoodIn wsX6_makeOnePrint (wsV RX6 241 RX3 yX3_addFaults wsX3_addFaults) := goodIn_app (goodIn_of _ (by decide +kernel)) ggX6_makeOnePrint_X3_addFaults
set_option maxRecDepth 20000 in
theorem ggX6_makeOnePrint_X0_wearDown : GoodIn wsX6_makeOnePrint wsX0_wearDown := goodIn_r _ [109, 22, 110, 111, 112, 29, 113, 31, 114, 9, 115, 116, 117, 20, 118, 119, 120, 121, 122, 123, 24, 25, 146, 147, 148, 149, 150, 151] (by decide +kernel) (by decide +kernel)
set_option maxRecDepth 20000 in
theorem gX6_makeOnePrint_X0_wearDown : GoodIn wsX6_makeOnePrint (wsV RX6 244 RX0 yX0_wearDown wsX0_wearDown) := goodIn_app (goodIn_of _ (by decide +kernel)) ggX6_makeOnePrint_X0_wearDown
set_option maxRecDepth 20000 in
theorem ggX6_makeOnePrint_X5_dry : GoodIn wsX6_makeOnePrint wsX5_dry := goodIn_r _ [127, 16, 128, 129, 87, 130, 136, 137, 138, 139, 140, 141, 142, 143, 144, 145] (by decide +kernel) (by decide +kernel)
set_option maxRecDepth 20000 in
theorem gX6_makeOnePrint_X5_dry : GoodIn wsX6_makeOnePrint (wsV RX6 248 RX5 yX5_dry wsX5_dry) := goodIn_app (goodIn_of _ (by decide +kernel)) ggX6_makeOnePrint_X5_dry
theorem dX6_makeOnePrint_0 : decode cX6_makeOnePrint 0 = .ok (.aload_n 0, 1) := by decide +kernel
theorem dX6_makeOnePrint_1 : decode cX6_makeOnePrint 1 = .ok (.invokevirtual 107, 3) := by decide +kernel
theorem dX6_makeOnePrint_4 : decode cX6_makeOnePrint 4 = .ok (.aload_n 0, 1) := by decide +kernel
theorem dX6_makeOnePrint_5 : decode cX6_makeOnePrint 5 = .ok (.getfield 10, 3) := by decide +kernel
theorem dX6_makeOnePrint_8 : decode cX6_makeOnePrint 8 = .ok (.invokevirtual 110, 3) := by decide +kernel
theorem dX6_makeOnePrint_11 : decode cX6_makeOnePrint 11 = .ok (.istore_n 1, 1) := by decide +kernel
theorem dX6_makeOnePrint_12 : decode cX6_makeOnePrint 12 = .ok (.aload_n 0, 1) := by decide +kernel
theorem dX6_makeOnePrint_13 : decode cX6_makeOnePrint 13 = .ok (.getfield 10, 3) := by decide +kernel
theorem dX6_makeOnePrint_16 : decode cX6_makeOnePrint 16 = .ok (.invokevirtual 113, 3) := by decide +kernel
theorem dX6_makeOnePrint_19 : decode cX6_makeOnePrint 19 = .ok (.istore_n 2, 1) := by decide +kernel
theorem dX6_makeOnePrint_20 : decode cX6_makeOnePrint 20 = .ok (.aload_n 0, 1) := by decide +kernel
theorem dX6_makeOnePrint_21 : decode cX6_makeOnePrint 21 = .ok (.iload_n 1, 1) := by decide +kernel
theorem dX6_makeOnePrint_22 : decode cX6_makeOnePrint 22 = .ok (.iload_n 2, 1) := by decide +kernel
theorem dX6_makeOnePrint_23 : decode cX6_makeOnePrint 23 = .ok (.invokevirtual 116, 3) := by decide +kernel
theorem dX6_makeOnePrint_26 : decode cX6_makeOnePrint 26 = .ok (.istore_n 3, 1) := by decide +kernel
theorem dX6_makeOnePrint_27 : decode cX6_makeOnePrint 27 = .ok (.aload_n 0, 1) := by decide +kernel
theorem dX6_makeOnePrint_28 : decode cX6_makeOnePrint 28 = .ok (.getfield 10, 3) := by decide +kernel
theorem dX6_makeOnePrint_31 : decode cX6_makeOnePrint 31 = .ok (.dup, 1) := by decide +kernel
theorem dX6_makeOnePrint_32 : decode cX6_makeOnePrint 32 = .ok (.getfield 130, 3) := by decide +kernel
theorem dX6_makeOnePrint_35 : decode cX6_makeOnePrint 35 = .ok (.iconst 1, 1) := by decide +kernel
theorem dX6_makeOnePrint_36 : decode cX6_makeOnePrint 36 = .ok (.iadd, 1) := by decide +kernel
theorem dX6_makeOnePrint_37 : decode cX6_makeOnePrint 37 = .ok (.putfield 130, 3) := by decide +kernel
theorem dX6_makeOnePrint_40 : decode cX6_makeOnePrint 40 = .ok (.aload_n 0, 1) := by decide +kernel
theorem dX6_makeOnePrint_41 : decode cX6_makeOnePrint 41 = .ok (.getfield 10, 3) := by decide +kernel
theorem dX6_makeOnePrint_44 : decode cX6_makeOnePrint 44 = .ok (.getfield 176, 3) := by decide +kernel
theorem dX6_makeOnePrint_47 : decode cX6_makeOnePrint 47 = .ok (.aload_n 0, 1) := by decide +kernel
theorem dX6_makeOnePrint_48 : decode cX6_makeOnePrint 48 = .ok (.getfield 10, 3) := by decide +kernel
theorem dX6_makeOnePrint_51 : decode cX6_makeOnePrint 51 = .ok (.getfield 130, 3) := by decide +kernel
theorem dX6_makeOnePrint_54 : decode cX6_makeOnePrint 54 = .ok (.iload_n 1, 1) := by decide +kernel
theorem dX6_makeOnePrint_55 : decode cX6_makeOnePrint 55 = .ok (.iload_n 2, 1) := by decide +kernel
theorem dX6_makeOnePrint_56 : decode cX6_makeOnePrint 56 = .ok (.invokevirtual 237, 3) := by decide +kernel
theorem dX6_makeOnePrint_59 : decode cX6_makeOnePrint 59 = .ok (.aload_n 0, 1) := by decide +kernel
theorem dX6_makeOnePrint_60 : decode cX6_makeOnePrint 60 = .ok (.getfield 10, 3) := by decide +kernel
theorem dX6_makeOnePrint_63 : decode cX6_makeOnePrint 63 = .ok (.getfield 176, 3) := by decide +kernel
theorem dX6_makeOnePrint_66 : decode cX6_makeOnePrint 66 = .ok (.iload_n 3, 1) := by decide +kernel
theorem dX6_makeOnePrint_67 : decode cX6_makeOnePrint 67 = .ok (.aload_n 0, 1) := by decide +kernel
theorem dX6_makeOnePrint_68 : decode cX6_makeOnePrint 68 = .ok (.iload_n 1, 1) := by decide +kernel
theorem dX6_makeOnePrint_69 : decode cX6_makeOnePrint 69 = .ok (.iload_n 2, 1) := by decide +kernel
theorem dX6_makeOnePrint_70 : decode cX6_makeOnePrint 70 = .ok (.invokevirtual 202, 3) := by decide +kernel
theorem dX6_makeOnePrint_73 : decode cX6_makeOnePrint 73 = .ok (.aload_n 0, 1) := by decide +kernel
theorem dX6_makeOnePrint_74 : decode cX6_makeOnePrint 74 = .ok (.getfield 10, 3) := by decide +kernel
theorem dX6_makeOnePrint_77 : decode cX6_makeOnePrint 77 = .ok (.getfield 52, 3) := by decide +kernel
theorem dX6_makeOnePrint_80 : decode cX6_makeOnePrint 80 = .ok (.aload_n 0, 1) := by decide +kernel
theorem dX6_makeOnePrint_81 : decode cX6_makeOnePrint 81 = .ok (.getfield 33, 3) := by decide +kernel
theorem dX6_makeOnePrint_84 : decode cX6_makeOnePrint 84 = .ok (.invokevirtual 205, 3) := by decide +kernel
theorem dX6_makeOnePrint_87 : decode cX6_makeOnePrint 87 = .ok (.invokevirtual 241, 3) := by decide +kernel
theorem dX6_makeOnePrint_90 : decode cX6_makeOnePrint 90 = .ok (.aload_n 0, 1) := by decide +kernel
theorem dX6_makeOnePrint_91 : decode cX6_makeOnePrint 91 = .ok (.getfield 10, 3) := by decide +kernel
theorem dX6_makeOnePrint_94 : decode cX6_makeOnePrint 94 = .ok (.getfield 52, 3) := by decide +kernel
theorem dX6_makeOnePrint_97 : decode cX6_makeOnePrint 97 = .ok (.aload_n 0, 1) := by decide +kernel
theorem dX6_makeOnePrint_98 : decode cX6_makeOnePrint 98 = .ok (.getfield 33, 3) := by decide +kernel
theorem dX6_makeOnePrint_101 : decode cX6_makeOnePrint 101 = .ok (.invokevirtual 244, 3) := by decide +kernel
theorem dX6_makeOnePrint_104 : decode cX6_makeOnePrint 104 = .ok (.aload_n 0, 1) := by decide +kernel
theorem dX6_makeOnePrint_105 : decode cX6_makeOnePrint 105 = .ok (.getfield 10, 3) := by decide +kernel
theorem dX6_makeOnePrint_108 : decode cX6_makeOnePrint 108 = .ok (.invokevirtual 248, 3) := by decide +kernel
theorem dX6_makeOnePrint_111 : decode cX6_makeOnePrint 111 = .ok (.iload_n 3, 1) := by decide +kernel
theorem dX6_makeOnePrint_112 : decode cX6_makeOnePrint 112 = .ok (.ireturn, 1) := by decide +kernel
end
section
theorem dX7_init_0 : decode cX7_init 0 = .ok (.aload_n 0, 1) := by decide +kernel
theorem dX7_init_1 : decode cX7_init 1 = .ok (.invokespecial 1, 3) := by decide +kernel
theorem dX7_init_4 : decode cX7_init 4 = .ok (.aload_n 0, 1) := by decide +kernel
theorem dX7_init_5 : decode cX7_init 5 = .ok (.sipush 2374, 3) := by decide +kernel
theorem dX7_init_8 : decode cX7_init 8 = .ok (.newarray .int, 2) := by decide +kernel
theorem dX7_init_10 : decode cX7_init 10 = .ok (.putfield 7, 3) := by decide +kernel
theorem dX7_init_13 : decode cX7_init 13 = .ok (.aload_n 0, 1) := by decide +kernel
theorem dX7_init_14 : decode cX7_init 14 = .ok (.sipush 11870, 3) := by decide +kernel
theorem dX7_init_17 : decode cX7_init 17 = .ok (.newarray .int, 2) := by decide +kernel
theorem dX7_init_19 : decode cX7_init 19 = .ok (.putfield 13, 3) := by decide +kernel
theorem dX7_init_22 : decode cX7_init 22 = .ok (.aload_n 0, 1) := by decide +kernel
theorem dX7_init_23 : decode cX7_init 23 = .ok (.sipush 140, 3) := by decide +kernel
theorem dX7_init_26 : decode cX7_init 26 = .ok (.newarray .int, 2) := by decide +kernel
theorem dX7_init_28 : decode cX7_init 28 = .ok (.putfield 16, 3) := by decide +kernel
theorem dX7_init_31 : decode cX7_init 31 = .ok (.aload_n 0, 1) := by decide +kernel
theorem dX7_init_32 : decode cX7_init 32 = .ok (.sipush 384, 3) := by decide +kernel
theorem dX7_init_35 : decode cX7_init 35 = .ok (.newarray .int, 2) := by decide +kernel
theorem dX7_init_37 : decode cX7_init 37 = .ok (.putfield 19, 3) := by decide +kernel
theorem dX7_init_40 : decode cX7_init 40 = .ok (.aload_n 0, 1) := by decide +kernel
theorem dX7_init_41 : decode cX7_init 41 = .ok (.sipush 192, 3) := by decide +kernel
theorem dX7_init_44 : decode cX7_init 44 = .ok (.newarray .int, 2) := by decide +kernel
theorem dX7_init_46 : decode cX7_init 46 = .ok (.putfield 22, 3) := by decide +kernel
theorem dX7_init_49 : decode cX7_init 49 = .ok (.aload_n 0, 1) := by decide +kernel
theorem dX7_init_50 : decode cX7_init 50 = .ok (.sipush 192, 3) := by decide +kernel
theorem dX7_init_53 : decode cX7_init 53 = .ok (.newarray .int, 2) := by decide +kernel
theorem dX7_init_55 : decode cX7_init 55 = .ok (.putfield 25, 3) := by decide +kernel
theorem dX7_init_58 : decode cX7_init 58 = .ok (.aload_n 0, 1) := by decide +kernel
theorem dX7_init_59 : decode cX7_init 59 = .ok (.iconst 0, 1) := by decide +kernel
theorem dX7_init_60 : decode cX7_init 60 = .ok (.putfield 28, 3) := by decide +kernel
theorem dX7_init_63 : decode cX7_init 63 = .ok (.aload_n 0, 1) := by decide +kernel
theorem dX7_init_64 : decode cX7_init 64 = .ok (.getfield 7, 3) := by decide +kernel
theorem dX7_init_67 : decode cX7_init 67 = .ok (.sipush 768, 3) := by decide +kernel
theorem dX7_init_70 : decode cX7_init 70 = .ok (.bipush 50, 2) := by decide +kernel
theorem dX7_init_72 : decode cX7_init 72 = .ok (.iastore, 1) := by decide +kernel
theorem dX7_init_73 : decode cX7_init 73 = .ok (.aload_n 0, 1) := by decide +kernel
theorem dX7_init_74 : decode cX7_init 74 = .ok (.getfield 7, 3) := by decide +kernel
theorem dX7_init_77 : decode cX7_init 77 = .ok (.sipush 769, 3) := by decide +kernel
theorem dX7_init_80 : decode cX7_init 80 = .ok (.iconst 1, 1) := by decide +kernel
theorem dX7_init_81 : decode cX7_init 81 = .ok (.iastore, 1) := by decide +kernel
theorem dX7_init_82 : decode cX7_init 82 = .ok (.aload_n 0, 1) := by decide +kernel
theorem dX7_init_83 : decode cX7_init 83 = .ok (.getfield 7, 3) := by decide +kernel
theorem dX7_init_86 : decode cX7_init 86 = .ok (.sipush 771, 3) := by decide +kernel
theorem dX7_init_89 : decode cX7_init 89 = .ok (.bipush 40, 2) := by decide +kernel
theorem dX7_init_91 : decode cX7_init 91 = .ok (.iastore, 1) := by decide +kernel
theorem dX7_init_92 : decode cX7_init 92 = .ok (.aload_n 0, 1) := by decide +kernel
theorem dX7_init_93 : decode cX7_init 93 = .ok (.getfield 7, 3) := by decide +kernel
theorem dX7_init_96 : decode cX7_init 96 = .ok (.sipush 772, 3) := by decide +kernel
theorem dX7_init_99 : decode cX7_init 99 = .ok (.iconst 2, 1) := by decide +kernel
theorem dX7_init_100 : decode cX7_init 100 = .ok (.iastore, 1) := by decide +kernel
theorem dX7_init_101 : decode cX7_init 101 = .ok (.return_, 1) := by decide +kernel
theorem dX7_in_0 : decode cX7_in 0 = .ok (.iload_n 0, 1) := by decide +kernel
theorem dX7_in_1 : decode cX7_in 1 = .ok (.iload_n 1, 1) := by decide +kernel
theorem dX7_in_2 : decode cX7_in 2 = .ok (.if_icmp .lt 12, 3) := by decide +kernel
theorem dX7_in_5 : decode cX7_in 5 = .ok (.iload_n 0, 1) := by decide +kernel
theorem dX7_in_6 : decode cX7_in 6 = .ok (.iload_n 2, 1) := by decide +kernel
theorem dX7_in_7 : decode cX7_in 7 = .ok (.if_icmp .gt 7, 3) := by decide +kernel
theorem dX7_in_10 : decode cX7_in 10 = .ok (.iconst 1, 1) := by decide +kernel
theorem dX7_in_11 : decode cX7_in 11 = .ok (.goto 4, 3) := by decide +kernel
theorem dX7_in_14 : decode cX7_in 14 = .ok (.iconst 0, 1) := by decide +kernel
theorem dX7_in_15 : decode cX7_in 15 = .ok (.ireturn, 1) := by decide +kernel
set_option maxRecDepth 20000 in
theorem ggX7_isCell_X7_in : GoodIn wsX7_isCell wsX7_in := goodIn_r _ [4] (by decide +kernel) (by decide +kernel)
set_option maxRecDepth 20000 in
theorem gX7_isCell_X7_in : GoodIn wsX7_isCell (va_wsS RX7 32 yX7_in wsX7_in) := goodIn_app (goodIn_of _ (by decide +kernel)) ggX7_isCell_X7_in
theorem dX7_isCell_0 : decode cX7_isCell 0 = .ok (.iload_n 0, 1) := by decide +kernel
theorem dX7_isCell_1 : decode cX7_isCell 1 = .ok (.iconst 0, 1) := by decide +kernel
theorem dX7_isCell_2 : decode cX7_isCell 2 = .ok (.bipush 15, 2) := by decide +kernel
theorem dX7_isCell_4 : decode cX7_isCell 4 = .ok (.invokestatic 32, 3) := by decide +kernel
theorem dX7_isCell_7 : decode cX7_isCell 7 = .ok (.ifCond .eq 17, 3) := by decide +kernel
theorem dX7_isCell_10 : decode cX7_isCell 10 = .ok (.iload_n 1, 1) := by decide +kernel
theorem dX7_isCell_11 : decode cX7_isCell 11 = .ok (.iconst 0, 1) := by decide +kernel
theorem dX7_isCell_12 : decode cX7_isCell 12 = .ok (.bipush 11, 2) := by decide +kernel
theorem dX7_isCell_14 : decode cX7_isCell 14 = .ok (.invokestatic 32, 3) := by decide +kernel
theorem dX7_isCell_17 : decode cX7_isCell 17 = .ok (.ifCond .eq 7, 3) := by decide +kernel
theorem dX7_isCell_20 : decode cX7_isCell 20 = .ok (.iconst 1, 1) := by decide +kernel
theorem dX7_isCell_21 : decode cX7_isCell 21 = .ok (.goto 4, 3) := by decide +kernel
theorem dX7_isCell_24 : decode cX7_isCell 24 = .ok (.iconst 0, 1) := by decide +kernel
theorem dX7_isCell_25 : decode cX7_isCell 25 = .ok (.ireturn, 1) := by decide +kernel
set_option maxRecDepth 20000 in
theorem ggX7_isShift_X7_in : GoodIn wsX7_isShift wsX7_in := goodIn_r _ [4] (by decide +kernel) (by decide +kernel)
set_option maxRecDepth 20000 in
theorem gX7_isShift_X7_in : GoodIn wsX7_isShift (va_wsS RX7 32 yX7_in wsX7_in) := goodIn_app (goodIn_of _ (by decide +kernel)) ggX7_isShift_X7_in
theorem dX7_isShift_0 : decode cX7_isShift 0 = .ok (.iload_n 0, 1) := by decide +kernel
theorem dX7_isShift_1 : decode cX7_isShift 1 = .ok (.bipush (-8), 2) := by decide +kernel
theorem dX7_isShift_3 : decode cX7_isShift 3 = .ok (.bipush 8, 2) := by decide +kernel
theorem dX7_isShift_5 : decode cX7_isShift 5 = .ok (.invokestatic 32, 3) := by decide +kernel
theorem dX7_isShift_8 : decode cX7_isShift 8 = .ok (.ifCond .eq 18, 3) := by decide +kernel
theorem dX7_isShift_11 : decode cX7_isShift 11 = .ok (.iload_n 1, 1) := by decide +kernel
theorem dX7_isShift_12 : decode cX7_isShift 12 = .ok (.bipush (-8), 2) := by decide +kernel
theorem dX7_isShift_14 : decode cX7_isShift 14 = .ok (.bipush 8, 2) := by decide +kernel
theorem dX7_isShift_16 : decode cX7_isShift 16 = .ok (.invokestatic 32, 3) := by decide +kernel
theorem dX7_isShift_19 : decode cX7_isShift 19 = .ok (.ifCond .eq 7, 3) := by decide +kernel
theorem dX7_isShift_22 : decode cX7_isShift 22 = .ok (.iconst 1, 1) := by decide +kernel
theorem dX7_isShift_23 : decode cX7_isShift 23 = .ok (.goto 4, 3) := by decide +kernel
theorem dX7_isShift_26 : decode cX7_isShift 26 = .ok (.iconst 0, 1) := by decide +kernel
theorem dX7_isShift_27 : decode cX7_isShift 27 = .ok (.ireturn, 1) := by decide +kernel
theorem dX7_act_0 : decode cX7_act 0 = .ok (.aload_n 0, 1) := by decide +kernel
theorem dX7_act_1 : decode cX7_act 1 = .ok (.getfield 36, 3) := by decide +kernel
theorem dX7_act_4 : decode cX7_act 4 = .ok (.iconst 5, 1) := by decide +kernel
theorem dX7_act_5 : decode cX7_act 5 = .ok (.if_icmp .ne 44, 3) := by decide +kernel
theorem dX7_act_8 : decode cX7_act 8 = .ok (.iconst 0, 1) := by decide +kernel
theorem dX7_act_9 : decode cX7_act 9 = .ok (.istore_n 1, 1) := by decide +kernel
theorem dX7_act_10 : decode cX7_act 10 = .ok (.iload_n 1, 1) := by decide +kernel
theorem dX7_act_11 : decode cX7_act 11 = .ok (.sipush 9496, 3) := by decide +kernel
theorem dX7_act_14 : decode cX7_act 14 = .ok (.if_icmp .ge 25, 3) := by decide +kernel
theorem dX7_act_17 : decode cX7_act 17 = .ok (.aload_n 0, 1) := by decide +kernel
theorem dX7_act_18 : decode cX7_act 18 = .ok (.getfield 13, 3) := by decide +kernel
theorem dX7_act_21 : decode cX7_act 21 = .ok (.iload_n 1, 1) := by decide +kernel
theorem dX7_act_22 : decode cX7_act 22 = .ok (.aload_n 0, 1) := by decide +kernel
theorem dX7_act_23 : decode cX7_act 23 = .ok (.getfield 13, 3) := by decide +kernel
theorem dX7_act_26 : decode cX7_act 26 = .ok (.iload_n 1, 1) := by decide +kernel
theorem dX7_act_27 : decode cX7_act 27 = .ok (.sipush 2374, 3) := by decide +kernel
theorem dX7_act_30 : decode cX7_act 30 = .ok (.iadd, 1) := by decide +kernel
theorem dX7_act_31 : decode cX7_act 31 = .ok (.iaload, 1) := by decide +kernel
theorem dX7_act_32 : decode cX7_act 32 = .ok (.iastore, 1) := by decide +kernel
theorem dX7_act_33 : decode cX7_act 33 = .ok (.iinc 1 1, 3) := by decide +kernel
theorem dX7_act_36 : decode cX7_act 36 = .ok (.goto (-26), 3) := by decide +kernel
theorem dX7_act_39 : decode cX7_act 39 = .ok (.aload_n 0, 1) := by decide +kernel
theorem dX7_act_40 : decode cX7_act 40 = .ok (.dup, 1) := by decide +kernel
theorem dX7_act_41 : decode cX7_act 41 = .ok (.getfield 36, 3) := by decide +kernel
theorem dX7_act_44 : decode cX7_act 44 = .ok (.iconst 1, 1) := by decide +kernel
theorem dX7_act_45 : decode cX7_act 45 = .ok (.isub, 1) := by decide +kernel
theorem dX7_act_46 : decode cX7_act 46 = .ok (.putfield 36, 3) := by decide +kernel
theorem dX7_act_49 : decode cX7_act 49 = .ok (.iconst 0, 1) := by decide +kernel
theorem dX7_act_50 : decode cX7_act 50 = .ok (.istore_n 1, 1) := by decide +kernel
theorem dX7_act_51 : decode cX7_act 51 = .ok (.iload_n 1, 1) := by decide +kernel
theorem dX7_act_52 : decode cX7_act 52 = .ok (.sipush 2374, 3) := by decide +kernel
theorem dX7_act_55 : decode cX7_act 55 = .ok (.if_icmp .ge 30, 3) := by decide +kernel
theorem dX7_act_58 : decode cX7_act 58 = .ok (.aload_n 0, 1) := by decide +kernel
theorem dX7_act_59 : decode cX7_act 59 = .ok (.getfield 13, 3) := by decide +kernel
theorem dX7_act_62 : decode cX7_act 62 = .ok (.sipush 2374, 3) := by decide +kernel
theorem dX7_act_65 : decode cX7_act 65 = .ok (.aload_n 0, 1) := by decide +kernel
theorem dX7_act_66 : decode cX7_act 66 = .ok (.getfield 36, 3) := by decide +kernel
theorem dX7_act_69 : decode cX7_act 69 = .ok (.imul, 1) := by decide +kernel
theorem dX7_act_70 : decode cX7_act 70 = .ok (.iload_n 1, 1) := by decide +kernel
theorem dX7_act_71 : decode cX7_act 71 = .ok (.iadd, 1) := by decide +kernel
theorem dX7_act_72 : decode cX7_act 72 = .ok (.aload_n 0, 1) := by decide +kernel
theorem dX7_act_73 : decode cX7_act 73 = .ok (.getfield 7, 3) := by decide +kernel
theorem dX7_act_76 : decode cX7_act 76 = .ok (.iload_n 1, 1) := by decide +kernel
theorem dX7_act_77 : decode cX7_act 77 = .ok (.iaload, 1) := by decide +kernel
theorem dX7_act_78 : decode cX7_act 78 = .ok (.iastore, 1) := by decide +kernel
theorem dX7_act_79 : decode cX7_act 79 = .ok (.iinc 1 1, 3) := by decide +kernel
theorem dX7_act_82 : decode cX7_act 82 = .ok (.goto (-31), 3) := by decide +kernel
theorem dX7_act_85 : decode cX7_act 85 = .ok (.aload_n 0, 1) := by decide +kernel
theorem dX7_act_86 : decode cX7_act 86 = .ok (.dup, 1) := by decide +kernel
theorem dX7_act_87 : decode cX7_act 87 = .ok (.getfield 36, 3) := by decide +kernel
theorem dX7_act_90 : decode cX7_act 90 = .ok (.iconst 1, 1) := by decide +kernel
theorem dX7_act_91 : decode cX7_act 91 = .ok (.iadd, 1) := by decide +kernel
theorem dX7_act_92 : decode cX7_act 92 = .ok (.putfield 36, 3) := by decide +kernel
theorem dX7_act_95 : decode cX7_act 95 = .ok (.return_, 1) := by decide +kernel
theorem dX7_many_0 : decode cX7_many 0 = .ok (.iconst 0, 1) := by decide +kernel
theorem dX7_many_1 : decode cX7_many 1 = .ok (.istore_n 3, 1) := by decide +kernel
theorem dX7_many_2 : decode cX7_many 2 = .ok (.iconst 0, 1) := by decide +kernel
theorem dX7_many_3 : decode cX7_many 3 = .ok (.istore 4, 2) := by decide +kernel
theorem dX7_many_5 : decode cX7_many 5 = .ok (.iload 4, 2) := by decide +kernel
theorem dX7_many_7 : decode cX7_many 7 = .ok (.sipush 192, 3) := by decide +kernel
theorem dX7_many_10 : decode cX7_many 10 = .ok (.if_icmp .ge 30, 3) := by decide +kernel
theorem dX7_many_13 : decode cX7_many 13 = .ok (.iload_n 3, 1) := by decide +kernel
theorem dX7_many_14 : decode cX7_many 14 = .ok (.aload_n 0, 1) := by decide +kernel
theorem dX7_many_15 : decode cX7_many 15 = .ok (.getfield 7, 3) := by decide +kernel
theorem dX7_many_18 : decode cX7_many 18 = .ok (.iload_n 1, 1) := by decide +kernel
theorem dX7_many_19 : decode cX7_many 19 = .ok (.iload 4, 2) := by decide +kernel
theorem dX7_many_21 : decode cX7_many 21 = .ok (.iadd, 1) := by decide +kernel
theorem dX7_many_22 : decode cX7_many 22 = .ok (.iaload, 1) := by decide +kernel
theorem dX7_many_23 : decode cX7_many 23 = .ok (.iload_n 2, 1) := by decide +kernel
theorem dX7_many_24 : decode cX7_many 24 = .ok (.if_icmp .ne 7, 3) := by decide +kernel
theorem dX7_many_27 : decode cX7_many 27 = .ok (.iconst 1, 1) := by decide +kernel
theorem dX7_many_28 : decode cX7_many 28 = .ok (.goto 4, 3) := by decide +kernel
theorem dX7_many_31 : decode cX7_many 31 = .ok (.iconst 0, 1) := by decide +kernel
theorem dX7_many_32 : decode cX7_many 32 = .ok (.iadd, 1) := by decide +kernel
theorem dX7_many_33 : decode cX7_many 33 = .ok (.istore_n 3, 1) := by decide +kernel
theorem dX7_many_34 : decode cX7_many 34 = .ok (.iinc 4 1, 3) := by decide +kernel
theorem dX7_many_37 : decode cX7_many 37 = .ok (.goto (-32), 3) := by decide +kernel
theorem dX7_many_40 : decode cX7_many 40 = .ok (.iload_n 3, 1) := by decide +kernel
theorem dX7_many_41 : decode cX7_many 41 = .ok (.ireturn, 1) := by decide +kernel
set_option maxRecDepth 20000 in
theorem ggX7_inked_X7_many : GoodIn wsX7_inked wsX7_many := goodIn_r _ [5, 6, 7, 8, 9, 10, 11, 12, 13, 14, 15, 16, 17, 18, 19, 20, 21] (by decide +kernel) (by decide +kernel)
set_option maxRecDepth 20000 in
theorem gX7_inked_X7_many : GoodIn wsX7_inked (wsV RX7 39 RX7 yX7_many wsX7_many) := goodIn_app (goodIn_of _ (by decide +kernel)) ggX7_inked_X7_many
theorem dX7_inked_0 : decode cX7_inked 0 = .ok (.sipush 192, 3) := by decide +kernel
theorem dX7_inked_3 : decode cX7_inked 3 = .ok (.aload_n 0, 1) := by decide +kernel
theorem dX7_inked_4 : decode cX7_inked 4 = .ok (.iconst 0, 1) := by decide +kernel
theorem dX7_inked_5 : decode cX7_inked 5 = .ok (.iconst 0, 1) := by decide +kernel
theorem dX7_inked_6 : decode cX7_inked 6 = .ok (.invokevirtual 39, 3) := by decide +kernel
theorem dX7_inked_9 : decode cX7_inked 9 = .ok (.isub, 1) := by decide +kernel
theorem dX7_inked_10 : decode cX7_inked 10 = .ok (.ireturn, 1) := by decide +kernel
theorem dX7_isWorn_0 : decode cX7_isWorn 0 = .ok (.aload_n 0, 1) := by decide +kernel
theorem dX7_isWorn_1 : decode cX7_isWorn 1 = .ok (.getfield 7, 3) := by decide +kernel
theorem dX7_isWorn_4 : decode cX7_isWorn 4 = .ok (.sipush 192, 3) := by decide +kernel
theorem dX7_isWorn_7 : decode cX7_isWorn 7 = .ok (.iload_n 1, 1) := by decide +kernel
theorem dX7_isWorn_8 : decode cX7_isWorn 8 = .ok (.iadd, 1) := by decide +kernel
theorem dX7_isWorn_9 : decode cX7_isWorn 9 = .ok (.iaload, 1) := by decide +kernel
theorem dX7_isWorn_10 : decode cX7_isWorn 10 = .ok (.iconst 1, 1) := by decide +kernel
theorem dX7_isWorn_11 : decode cX7_isWorn 11 = .ok (.if_icmp .ne 28, 3) := by decide +kernel
theorem dX7_isWorn_14 : decode cX7_isWorn 14 = .ok (.aload_n 0, 1) := by decide +kernel
theorem dX7_isWorn_15 : decode cX7_isWorn 15 = .ok (.getfield 7, 3) := by decide +kernel
theorem dX7_isWorn_18 : decode cX7_isWorn 18 = .ok (.sipush 384, 3) := by decide +kernel
theorem dX7_isWorn_21 : decode cX7_isWorn 21 = .ok (.iload_n 1, 1) := by decide +kernel
theorem dX7_isWorn_22 : decode cX7_isWorn 22 = .ok (.iadd, 1) := by decide +kernel
theorem dX7_isWorn_23 : decode cX7_isWorn 23 = .ok (.iaload, 1) := by decide +kernel
theorem dX7_isWorn_24 : decode cX7_isWorn 24 = .ok (.aload_n 0, 1) := by decide +kernel
theorem dX7_isWorn_25 : decode cX7_isWorn 25 = .ok (.getfield 7, 3) := by decide +kernel
theorem dX7_isWorn_28 : decode cX7_isWorn 28 = .ok (.sipush 771, 3) := by decide +kernel
theorem dX7_isWorn_31 : decode cX7_isWorn 31 = .ok (.iaload, 1) := by decide +kernel
theorem dX7_isWorn_32 : decode cX7_isWorn 32 = .ok (.if_icmp .le 7, 3) := by decide +kernel
theorem dX7_isWorn_35 : decode cX7_isWorn 35 = .ok (.iconst 1, 1) := by decide +kernel
theorem dX7_isWorn_36 : decode cX7_isWorn 36 = .ok (.goto 4, 3) := by decide +kernel
theorem dX7_isWorn_39 : decode cX7_isWorn 39 = .ok (.iconst 0, 1) := by decide +kernel
theorem dX7_isWorn_40 : decode cX7_isWorn 40 = .ok (.ireturn, 1) := by decide +kernel
set_option maxRecDepth 20000 in
theorem ggX7_wornCells_X7_isWorn : GoodIn wsX7_wornCells wsX7_isWorn := goodIn_r _ [5, 6, 7, 8, 9, 10, 11, 12, 13, 14, 15, 16, 17, 18, 19, 20, 21] (by decide +kernel) (by decide +kernel)
set_option maxRecDepth 20000 in
theorem gX7_wornCells_X7_isWorn : GoodIn wsX7_wornCells (wsV RX7 43 RX7 yX7_isWorn wsX7_isWorn) := goodIn_app (goodIn_of _ (by decide +kernel)) ggX7_wornCells_X7_isWorn
theorem dX7_wornCells_0 : decode cX7_wornCells 0 = .ok (.iconst 0, 1) := by decide +kernel
theorem dX7_wornCells_1 : decode cX7_wornCells 1 = .ok (.istore_n 1, 1) := by decide +kernel
theorem dX7_wornCells_2 : decode cX7_wornCells 2 = .ok (.iconst 0, 1) := by decide +kernel
theorem dX7_wornCells_3 : decode cX7_wornCells 3 = .ok (.istore_n 2, 1) := by decide +kernel
theorem dX7_wornCells_4 : decode cX7_wornCells 4 = .ok (.iload_n 2, 1) := by decide +kernel
theorem dX7_wornCells_5 : decode cX7_wornCells 5 = .ok (.sipush 192, 3) := by decide +kernel
theorem dX7_wornCells_8 : decode cX7_wornCells 8 = .ok (.if_icmp .ge 25, 3) := by decide +kernel
theorem dX7_wornCells_11 : decode cX7_wornCells 11 = .ok (.iload_n 1, 1) := by decide +kernel
theorem dX7_wornCells_12 : decode cX7_wornCells 12 = .ok (.aload_n 0, 1) := by decide +kernel
theorem dX7_wornCells_13 : decode cX7_wornCells 13 = .ok (.iload_n 2, 1) := by decide +kernel
theorem dX7_wornCells_14 : decode cX7_wornCells 14 = .ok (.invokevirtual 43, 3) := by decide +kernel
theorem dX7_wornCells_17 : decode cX7_wornCells 17 = .ok (.ifCond .eq 7, 3) := by decide +kernel
theorem dX7_wornCells_20 : decode cX7_wornCells 20 = .ok (.iconst 1, 1) := by decide +kernel
theorem dX7_wornCells_21 : decode cX7_wornCells 21 = .ok (.goto 4, 3) := by decide +kernel
theorem dX7_wornCells_24 : decode cX7_wornCells 24 = .ok (.iconst 0, 1) := by decide +kernel
theorem dX7_wornCells_25 : decode cX7_wornCells 25 = .ok (.iadd, 1) := by decide +kernel
theorem dX7_wornCells_26 : decode cX7_wornCells 26 = .ok (.istore_n 1, 1) := by decide +kernel
theorem dX7_wornCells_27 : decode cX7_wornCells 27 = .ok (.iinc 2 1, 3) := by decide +kernel
theorem dX7_wornCells_30 : decode cX7_wornCells 30 = .ok (.goto (-26), 3) := by decide +kernel
theorem dX7_wornCells_33 : decode cX7_wornCells 33 = .ok (.iload_n 1, 1) := by decide +kernel
theorem dX7_wornCells_34 : decode cX7_wornCells 34 = .ok (.ireturn, 1) := by decide +kernel
set_option maxRecDepth 20000 in
theorem ggX7_beside_X7_isCell : GoodIn wsX7_beside wsX7_isCell := goodIn_r _ [4, 5, 6, 3, 7] (by decide +kernel) (by decide +kernel)
set_option maxRecDepth 20000 in
theorem gX7_beside_X7_isCell : GoodIn wsX7_beside (va_wsS RX7 47 yX7_isCell wsX7_isCell) := goodIn_app (goodIn_of _ (by decide +kernel)) ggX7_beside_X7_isCell
theorem dX7_beside_0 : decode cX7_beside 0 = .ok (.iload_n 0, 1) := by decide +kernel
theorem dX7_beside_1 : decode cX7_beside 1 = .ok (.bipush 16, 2) := by decide +kernel
theorem dX7_beside_3 : decode cX7_beside 3 = .ok (.irem, 1) := by decide +kernel
theorem dX7_beside_4 : decode cX7_beside 4 = .ok (.iload_n 1, 1) := by decide +kernel
theorem dX7_beside_5 : decode cX7_beside 5 = .ok (.ifCond .ne 7, 3) := by decide +kernel
theorem dX7_beside_8 : decode cX7_beside 8 = .ok (.iconst (-1), 1) := by decide +kernel
theorem dX7_beside_9 : decode cX7_beside 9 = .ok (.goto 13, 3) := by decide +kernel
theorem dX7_beside_12 : decode cX7_beside 12 = .ok (.iload_n 1, 1) := by decide +kernel
theorem dX7_beside_13 : decode cX7_beside 13 = .ok (.iconst 1, 1) := by decide +kernel
theorem dX7_beside_14 : decode cX7_beside 14 = .ok (.if_icmp .ne 7, 3) := by decide +kernel
theorem dX7_beside_17 : decode cX7_beside 17 = .ok (.iconst 1, 1) := by decide +kernel
theorem dX7_beside_18 : decode cX7_beside 18 = .ok (.goto 4, 3) := by decide +kernel
theorem dX7_beside_21 : decode cX7_beside 21 = .ok (.iconst 0, 1) := by decide +kernel
theorem dX7_beside_22 : decode cX7_beside 22 = .ok (.iadd, 1) := by decide +kernel
theorem dX7_beside_23 : decode cX7_beside 23 = .ok (.istore_n 2, 1) := by decide +kernel
theorem dX7_beside_24 : decode cX7_beside 24 = .ok (.iload_n 0, 1) := by decide +kernel
theorem dX7_beside_25 : decode cX7_beside 25 = .ok (.bipush 16, 2) := by decide +kernel
theorem dX7_beside_27 : decode cX7_beside 27 = .ok (.idiv, 1) := by decide +kernel
theorem dX7_beside_28 : decode cX7_beside 28 = .ok (.iload_n 1, 1) := by decide +kernel
theorem dX7_beside_29 : decode cX7_beside 29 = .ok (.iconst 2, 1) := by decide +kernel
theorem dX7_beside_30 : decode cX7_beside 30 = .ok (.if_icmp .ne 7, 3) := by decide +kernel
theorem dX7_beside_33 : decode cX7_beside 33 = .ok (.iconst (-1), 1) := by decide +kernel
theorem dX7_beside_34 : decode cX7_beside 34 = .ok (.goto 13, 3) := by decide +kernel
theorem dX7_beside_37 : decode cX7_beside 37 = .ok (.iload_n 1, 1) := by decide +kernel
theorem dX7_beside_38 : decode cX7_beside 38 = .ok (.iconst 3, 1) := by decide +kernel
theorem dX7_beside_39 : decode cX7_beside 39 = .ok (.if_icmp .ne 7, 3) := by decide +kernel
theorem dX7_beside_42 : decode cX7_beside 42 = .ok (.iconst 1, 1) := by decide +kernel
theorem dX7_beside_43 : decode cX7_beside 43 = .ok (.goto 4, 3) := by decide +kernel
theorem dX7_beside_46 : decode cX7_beside 46 = .ok (.iconst 0, 1) := by decide +kernel
theorem dX7_beside_47 : decode cX7_beside 47 = .ok (.iadd, 1) := by decide +kernel
theorem dX7_beside_48 : decode cX7_beside 48 = .ok (.istore_n 3, 1) := by decide +kernel
theorem dX7_beside_49 : decode cX7_beside 49 = .ok (.iload_n 2, 1) := by decide +kernel
theorem dX7_beside_50 : decode cX7_beside 50 = .ok (.iload_n 3, 1) := by decide +kernel
theorem dX7_beside_51 : decode cX7_beside 51 = .ok (.invokestatic 47, 3) := by decide +kernel
theorem dX7_beside_54 : decode cX7_beside 54 = .ok (.ifCond .eq 12, 3) := by decide +kernel
theorem dX7_beside_57 : decode cX7_beside 57 = .ok (.bipush 16, 2) := by decide +kernel
theorem dX7_beside_59 : decode cX7_beside 59 = .ok (.iload_n 3, 1) := by decide +kernel
theorem dX7_beside_60 : decode cX7_beside 60 = .ok (.imul, 1) := by decide +kernel
theorem dX7_beside_61 : decode cX7_beside 61 = .ok (.iload_n 2, 1) := by decide +kernel
theorem dX7_beside_62 : decode cX7_beside 62 = .ok (.iadd, 1) := by decide +kernel
theorem dX7_beside_63 : decode cX7_beside 63 = .ok (.goto 4, 3) := by decide +kernel
theorem dX7_beside_66 : decode cX7_beside 66 = .ok (.iconst (-1), 1) := by decide +kernel
theorem dX7_beside_67 : decode cX7_beside 67 = .ok (.ireturn, 1) := by decide +kernel
set_option maxRecDepth 20000 in
theorem ggX7_isNextTo_X7_beside : GoodIn wsX7_isNextTo wsX7_beside := goodIn_r _ [5, 6, 7, 4, 8, 9, 10, 11] (by decide +kernel) (by decide +kernel)
set_option maxRecDepth 20000 in
theorem gX7_isNextTo_X7_beside : GoodIn wsX7_isNextTo (va_wsS RX7 51 yX7_beside wsX7_beside) := goodIn_app (goodIn_of _ (by decide +kernel)) ggX7_isNextTo_X7_beside
theorem dX7_isNextTo_0 : decode cX7_isNextTo 0 = .ok (.iconst 0, 1) := by decide +kernel
theorem dX7_isNextTo_1 : decode cX7_isNextTo 1 = .ok (.istore_n 3, 1) := by decide +kernel
theorem dX7_isNextTo_2 : decode cX7_isNextTo 2 = .ok (.iconst 0, 1) := by decide +kernel
theorem dX7_isNextTo_3 : decode cX7_isNextTo 3 = .ok (.istore 4, 2) := by decide +kernel
theorem dX7_isNextTo_5 : decode cX7_isNextTo 5 = .ok (.iload 4, 2) := by decide +kernel
theorem dX7_isNextTo_7 : decode cX7_isNextTo 7 = .ok (.iconst 4, 1) := by decide +kernel
theorem dX7_isNextTo_8 : decode cX7_isNextTo 8 = .ok (.if_icmp .ge 44, 3) := by decide +kernel
theorem dX7_isNextTo_11 : decode cX7_isNextTo 11 = .ok (.iload_n 1, 1) := by decide +kernel
theorem dX7_isNextTo_12 : decode cX7_isNextTo 12 = .ok (.iload 4, 2) := by decide +kernel
theorem dX7_isNextTo_14 : decode cX7_isNextTo 14 = .ok (.invokestatic 51, 3) := by decide +kernel
theorem dX7_isNextTo_17 : decode cX7_isNextTo 17 = .ok (.istore 5, 2) := by decide +kernel
theorem dX7_isNextTo_19 : decode cX7_isNextTo 19 = .ok (.iload_n 3, 1) := by decide +kernel
theorem dX7_isNextTo_20 : decode cX7_isNextTo 20 = .ok (.ifCond .ne 20, 3) := by decide +kernel
theorem dX7_isNextTo_23 : decode cX7_isNextTo 23 = .ok (.iload 5, 2) := by decide +kernel
theorem dX7_isNextTo_25 : decode cX7_isNextTo 25 = .ok (.iconst (-1), 1) := by decide +kernel
theorem dX7_isNextTo_26 : decode cX7_isNextTo 26 = .ok (.if_icmp .eq 18, 3) := by decide +kernel
theorem dX7_isNextTo_29 : decode cX7_isNextTo 29 = .ok (.aload_n 0, 1) := by decide +kernel
theorem dX7_isNextTo_30 : decode cX7_isNextTo 30 = .ok (.getfield 22, 3) := by decide +kernel
theorem dX7_isNextTo_33 : decode cX7_isNextTo 33 = .ok (.iload 5, 2) := by decide +kernel
theorem dX7_isNextTo_35 : decode cX7_isNextTo 35 = .ok (.iaload, 1) := by decide +kernel
theorem dX7_isNextTo_36 : decode cX7_isNextTo 36 = .ok (.iload_n 2, 1) := by decide +kernel
theorem dX7_isNextTo_37 : decode cX7_isNextTo 37 = .ok (.if_icmp .ne 7, 3) := by decide +kernel
theorem dX7_isNextTo_40 : decode cX7_isNextTo 40 = .ok (.iconst 1, 1) := by decide +kernel
theorem dX7_isNextTo_41 : decode cX7_isNextTo 41 = .ok (.goto 4, 3) := by decide +kernel
theorem dX7_isNextTo_44 : decode cX7_isNextTo 44 = .ok (.iconst 0, 1) := by decide +kernel
theorem dX7_isNextTo_45 : decode cX7_isNextTo 45 = .ok (.istore_n 3, 1) := by decide +kernel
theorem dX7_isNextTo_46 : decode cX7_isNextTo 46 = .ok (.iinc 4 1, 3) := by decide +kernel
theorem dX7_isNextTo_49 : decode cX7_isNextTo 49 = .ok (.goto (-44), 3) := by decide +kernel
theorem dX7_isNextTo_52 : decode cX7_isNextTo 52 = .ok (.iload_n 3, 1) := by decide +kernel
theorem dX7_isNextTo_53 : decode cX7_isNextTo 53 = .ok (.ireturn, 1) := by decide +kernel
set_option maxRecDepth 20000 in
theorem ggX7_measure_X7_isNextTo : GoodIn wsX7_measure wsX7_isNextTo := goodIn_r _ [7, 1, 8, 9, 6, 10, 11, 12, 13, 14, 15, 16, 17, 18, 19, 20, 21, 22, 23, 24, 25, 26, 27, 28, 29, 30, 31] (by decide +kernel) (by decide +kernel)
set_option maxRecDepth 20000 in
theorem gX7_measure_X7_isNextTo : GoodIn wsX7_measure (wsV RX7 54 RX7 yX7_isNextTo wsX7_isNextTo) := goodIn_app (goodIn_of _ (by decide +kernel)) ggX7_measure_X7_isNextTo
theorem dX7_measure_0 : decode cX7_measure 0 = .ok (.iconst 0, 1) := by decide +kernel
theorem dX7_measure_1 : decode cX7_measure 1 = .ok (.istore_n 1, 1) := by decide +kernel
theorem dX7_measure_2 : decode cX7_measure 2 = .ok (.iload_n 1, 1) := by decide +kernel
theorem dX7_measure_3 : decode cX7_measure 3 = .ok (.sipush 192, 3) := by decide +kernel
theorem dX7_measure_6 : decode cX7_measure 6 = .ok (.if_icmp .ge 33, 3) := by decide +kernel
theorem dX7_measure_9 : decode cX7_measure 9 = .ok (.aload_n 0, 1) := by decide +kernel
theorem dX7_measure_10 : decode cX7_measure 10 = .ok (.getfield 22, 3) := by decide +kernel
theorem dX7_measure_13 : decode cX7_measure 13 = .ok (.iload_n 1, 1) := by decide +kernel
theorem dX7_measure_14 : decode cX7_measure 14 = .ok (.aload_n 0, 1) := by decide +kernel
theorem dX7_measure_15 : decode cX7_measure 15 = .ok (.getfield 7, 3) := by decide +kernel
theorem dX7_measure_18 : decode cX7_measure 18 = .ok (.iconst 0, 1) := by decide +kernel
theorem dX7_measure_19 : decode cX7_measure 19 = .ok (.iload_n 1, 1) := by decide +kernel
theorem dX7_measure_20 : decode cX7_measure 20 = .ok (.iadd, 1) := by decide +kernel
theorem dX7_measure_21 : decode cX7_measure 21 = .ok (.iaload, 1) := by decide +kernel
theorem dX7_measure_22 : decode cX7_measure 22 = .ok (.iconst 1, 1) := by decide +kernel
theorem dX7_measure_23 : decode cX7_measure 23 = .ok (.if_icmp .ne 7, 3) := by decide +kernel
theorem dX7_measure_26 : decode cX7_measure 26 = .ok (.iconst 0, 1) := by decide +kernel
theorem dX7_measure_27 : decode cX7_measure 27 = .ok (.goto 5, 3) := by decide +kernel
theorem dX7_measure_30 : decode cX7_measure 30 = .ok (.bipush 99, 2) := by decide +kernel
theorem dX7_measure_32 : decode cX7_measure 32 = .ok (.iastore, 1) := by decide +kernel
theorem dX7_measure_33 : decode cX7_measure 33 = .ok (.iinc 1 1, 3) := by decide +kernel
theorem dX7_measure_36 : decode cX7_measure 36 = .ok (.goto (-34), 3) := by decide +kernel
theorem dX7_measure_39 : decode cX7_measure 39 = .ok (.iconst 0, 1) := by decide +kernel
theorem dX7_measure_40 : decode cX7_measure 40 = .ok (.istore_n 1, 1) := by decide +kernel
theorem dX7_measure_41 : decode cX7_measure 41 = .ok (.iload_n 1, 1) := by decide +kernel
theorem dX7_measure_42 : decode cX7_measure 42 = .ok (.iconst 4, 1) := by decide +kernel
theorem dX7_measure_43 : decode cX7_measure 43 = .ok (.if_icmp .ge 84, 3) := by decide +kernel
theorem dX7_measure_46 : decode cX7_measure 46 = .ok (.iconst 0, 1) := by decide +kernel
theorem dX7_measure_47 : decode cX7_measure 47 = .ok (.istore_n 2, 1) := by decide +kernel
theorem dX7_measure_48 : decode cX7_measure 48 = .ok (.iload_n 2, 1) := by decide +kernel
theorem dX7_measure_49 : decode cX7_measure 49 = .ok (.sipush 192, 3) := by decide +kernel
theorem dX7_measure_52 : decode cX7_measure 52 = .ok (.if_icmp .ge 69, 3) := by decide +kernel
theorem dX7_measure_55 : decode cX7_measure 55 = .ok (.aload_n 0, 1) := by decide +kernel
theorem dX7_measure_56 : decode cX7_measure 56 = .ok (.getfield 7, 3) := by decide +kernel
theorem dX7_measure_59 : decode cX7_measure 59 = .ok (.iconst 0, 1) := by decide +kernel
theorem dX7_measure_60 : decode cX7_measure 60 = .ok (.iload_n 2, 1) := by decide +kernel
theorem dX7_measure_61 : decode cX7_measure 61 = .ok (.iadd, 1) := by decide +kernel
theorem dX7_measure_62 : decode cX7_measure 62 = .ok (.iaload, 1) := by decide +kernel
theorem dX7_measure_63 : decode cX7_measure 63 = .ok (.iconst 2, 1) := by decide +kernel
theorem dX7_measure_64 : decode cX7_measure 64 = .ok (.if_icmp .ne 27, 3) := by decide +kernel
theorem dX7_measure_67 : decode cX7_measure 67 = .ok (.aload_n 0, 1) := by decide +kernel
theorem dX7_measure_68 : decode cX7_measure 68 = .ok (.getfield 22, 3) := by decide +kernel
theorem dX7_measure_71 : decode cX7_measure 71 = .ok (.iload_n 2, 1) := by decide +kernel
theorem dX7_measure_72 : decode cX7_measure 72 = .ok (.iaload, 1) := by decide +kernel
theorem dX7_measure_73 : decode cX7_measure 73 = .ok (.bipush 99, 2) := by decide +kernel
theorem dX7_measure_75 : decode cX7_measure 75 = .ok (.if_icmp .ne 16, 3) := by decide +kernel
theorem dX7_measure_78 : decode cX7_measure 78 = .ok (.aload_n 0, 1) := by decide +kernel
theorem dX7_measure_79 : decode cX7_measure 79 = .ok (.iload_n 2, 1) := by decide +kernel
theorem dX7_measure_80 : decode cX7_measure 80 = .ok (.iload_n 1, 1) := by decide +kernel
theorem dX7_measure_81 : decode cX7_measure 81 = .ok (.invokevirtual 54, 3) := by decide +kernel
theorem dX7_measure_84 : decode cX7_measure 84 = .ok (.ifCond .eq 7, 3) := by decide +kernel
theorem dX7_measure_87 : decode cX7_measure 87 = .ok (.iconst 1, 1) := by decide +kernel
theorem dX7_measure_88 : decode cX7_measure 88 = .ok (.goto 4, 3) := by decide +kernel
theorem dX7_measure_91 : decode cX7_measure 91 = .ok (.iconst 0, 1) := by decide +kernel
theorem dX7_measure_92 : decode cX7_measure 92 = .ok (.istore_n 3, 1) := by decide +kernel
theorem dX7_measure_93 : decode cX7_measure 93 = .ok (.aload_n 0, 1) := by decide +kernel
theorem dX7_measure_94 : decode cX7_measure 94 = .ok (.getfield 22, 3) := by decide +kernel
theorem dX7_measure_97 : decode cX7_measure 97 = .ok (.iload_n 2, 1) := by decide +kernel
theorem dX7_measure_98 : decode cX7_measure 98 = .ok (.iload_n 3, 1) := by decide +kernel
theorem dX7_measure_99 : decode cX7_measure 99 = .ok (.ifCond .eq 9, 3) := by decide +kernel
theorem dX7_measure_102 : decode cX7_measure 102 = .ok (.iload_n 1, 1) := by decide +kernel
theorem dX7_measure_103 : decode cX7_measure 103 = .ok (.iconst 1, 1) := by decide +kernel
theorem dX7_measure_104 : decode cX7_measure 104 = .ok (.iadd, 1) := by decide +kernel
theorem dX7_measure_105 : decode cX7_measure 105 = .ok (.goto 9, 3) := by decide +kernel
theorem dX7_measure_108 : decode cX7_measure 108 = .ok (.aload_n 0, 1) := by decide +kernel
theorem dX7_measure_109 : decode cX7_measure 109 = .ok (.getfield 22, 3) := by decide +kernel
theorem dX7_measure_112 : decode cX7_measure 112 = .ok (.iload_n 2, 1) := by decide +kernel
theorem dX7_measure_113 : decode cX7_measure 113 = .ok (.iaload, 1) := by decide +kernel
theorem dX7_measure_114 : decode cX7_measure 114 = .ok (.iastore, 1) := by decide +kernel
theorem dX7_measure_115 : decode cX7_measure 115 = .ok (.iinc 2 1, 3) := by decide +kernel
theorem dX7_measure_118 : decode cX7_measure 118 = .ok (.goto (-70), 3) := by decide +kernel
theorem dX7_measure_121 : decode cX7_measure 121 = .ok (.iinc 1 1, 3) := by decide +kernel
theorem dX7_measure_124 : decode cX7_measure 124 = .ok (.goto (-83), 3) := by decide +kernel
theorem dX7_measure_127 : decode cX7_measure 127 = .ok (.return_, 1) := by decide +kernel
set_option maxRecDepth 20000 in
theorem ggX7_lay_X7_isWorn : GoodIn wsX7_lay wsX7_isWorn := goodIn_r _ [7, 2, 8, 9, 10, 11, 12, 13, 14, 15, 16, 17, 18, 19, 20, 21, 22] (by decide +kernel) (by decide +kernel)
set_option maxRecDepth 20000 in
theorem gX7_lay_X7_isWorn : GoodIn wsX7_lay (wsV RX7 43 RX7 yX7_isWorn wsX7_isWorn) := goodIn_app (goodIn_of _ (by decide +kernel)) ggX7_lay_X7_isWorn
theorem dX7_lay_0 : decode cX7_lay 0 = .ok (.iconst 0, 1) := by decide +kernel
theorem dX7_lay_1 : decode cX7_lay 1 = .ok (.istore_n 1, 1) := by decide +kernel
theorem dX7_lay_2 : decode cX7_lay 2 = .ok (.iload_n 1, 1) := by decide +kernel
theorem dX7_lay_3 : decode cX7_lay 3 = .ok (.sipush 192, 3) := by decide +kernel
theorem dX7_lay_6 : decode cX7_lay 6 = .ok (.if_icmp .ge 62, 3) := by decide +kernel
theorem dX7_lay_9 : decode cX7_lay 9 = .ok (.aload_n 0, 1) := by decide +kernel
theorem dX7_lay_10 : decode cX7_lay 10 = .ok (.getfield 19, 3) := by decide +kernel
theorem dX7_lay_13 : decode cX7_lay 13 = .ok (.iload_n 1, 1) := by decide +kernel
theorem dX7_lay_14 : decode cX7_lay 14 = .ok (.aload_n 0, 1) := by decide +kernel
theorem dX7_lay_15 : decode cX7_lay 15 = .ok (.getfield 7, 3) := by decide +kernel
theorem dX7_lay_18 : decode cX7_lay 18 = .ok (.sipush 192, 3) := by decide +kernel
theorem dX7_lay_21 : decode cX7_lay 21 = .ok (.iload_n 1, 1) := by decide +kernel
theorem dX7_lay_22 : decode cX7_lay 22 = .ok (.iadd, 1) := by decide +kernel
theorem dX7_lay_23 : decode cX7_lay 23 = .ok (.iaload, 1) := by decide +kernel
theorem dX7_lay_24 : decode cX7_lay 24 = .ok (.iconst 1, 1) := by decide +kernel
theorem dX7_lay_25 : decode cX7_lay 25 = .ok (.if_icmp .ne 15, 3) := by decide +kernel
theorem dX7_lay_28 : decode cX7_lay 28 = .ok (.aload_n 0, 1) := by decide +kernel
theorem dX7_lay_29 : decode cX7_lay 29 = .ok (.iload_n 1, 1) := by decide +kernel
theorem dX7_lay_30 : decode cX7_lay 30 = .ok (.invokevirtual 43, 3) := by decide +kernel
theorem dX7_lay_33 : decode cX7_lay 33 = .ok (.ifCond .ne 7, 3) := by decide +kernel
theorem dX7_lay_36 : decode cX7_lay 36 = .ok (.iconst 1, 1) := by decide +kernel
theorem dX7_lay_37 : decode cX7_lay 37 = .ok (.goto 4, 3) := by decide +kernel
theorem dX7_lay_40 : decode cX7_lay 40 = .ok (.iconst 0, 1) := by decide +kernel
theorem dX7_lay_41 : decode cX7_lay 41 = .ok (.iastore, 1) := by decide +kernel
theorem dX7_lay_42 : decode cX7_lay 42 = .ok (.aload_n 0, 1) := by decide +kernel
theorem dX7_lay_43 : decode cX7_lay 43 = .ok (.getfield 19, 3) := by decide +kernel
theorem dX7_lay_46 : decode cX7_lay 46 = .ok (.sipush 192, 3) := by decide +kernel
theorem dX7_lay_49 : decode cX7_lay 49 = .ok (.iload_n 1, 1) := by decide +kernel
theorem dX7_lay_50 : decode cX7_lay 50 = .ok (.iadd, 1) := by decide +kernel
theorem dX7_lay_51 : decode cX7_lay 51 = .ok (.aload_n 0, 1) := by decide +kernel
theorem dX7_lay_52 : decode cX7_lay 52 = .ok (.getfield 7, 3) := by decide +kernel
theorem dX7_lay_55 : decode cX7_lay 55 = .ok (.sipush 576, 3) := by decide +kernel
theorem dX7_lay_58 : decode cX7_lay 58 = .ok (.iload_n 1, 1) := by decide +kernel
theorem dX7_lay_59 : decode cX7_lay 59 = .ok (.iadd, 1) := by decide +kernel
theorem dX7_lay_60 : decode cX7_lay 60 = .ok (.iaload, 1) := by decide +kernel
theorem dX7_lay_61 : decode cX7_lay 61 = .ok (.iastore, 1) := by decide +kernel
theorem dX7_lay_62 : decode cX7_lay 62 = .ok (.iinc 1 1, 3) := by decide +kernel
theorem dX7_lay_65 : decode cX7_lay 65 = .ok (.goto (-63), 3) := by decide +kernel
theorem dX7_lay_68 : decode cX7_lay 68 = .ok (.return_, 1) := by decide +kernel
theorem dX7_layCut_0 : decode cX7_layCut 0 = .ok (.iconst 0, 1) := by decide +kernel
theorem dX7_layCut_1 : decode cX7_layCut 1 = .ok (.istore_n 2, 1) := by decide +kernel
theorem dX7_layCut_2 : decode cX7_layCut 2 = .ok (.iload_n 2, 1) := by decide +kernel
theorem dX7_layCut_3 : decode cX7_layCut 3 = .ok (.sipush 192, 3) := by decide +kernel
theorem dX7_layCut_6 : decode cX7_layCut 6 = .ok (.if_icmp .ge 57, 3) := by decide +kernel
theorem dX7_layCut_9 : decode cX7_layCut 9 = .ok (.aload_n 0, 1) := by decide +kernel
theorem dX7_layCut_10 : decode cX7_layCut 10 = .ok (.getfield 19, 3) := by decide +kernel
theorem dX7_layCut_13 : decode cX7_layCut 13 = .ok (.iload_n 2, 1) := by decide +kernel
theorem dX7_layCut_14 : decode cX7_layCut 14 = .ok (.aload_n 0, 1) := by decide +kernel
theorem dX7_layCut_15 : decode cX7_layCut 15 = .ok (.getfield 7, 3) := by decide +kernel
theorem dX7_layCut_18 : decode cX7_layCut 18 = .ok (.iconst 0, 1) := by decide +kernel
theorem dX7_layCut_19 : decode cX7_layCut 19 = .ok (.iload_n 2, 1) := by decide +kernel
theorem dX7_layCut_20 : decode cX7_layCut 20 = .ok (.iadd, 1) := by decide +kernel
theorem dX7_layCut_21 : decode cX7_layCut 21 = .ok (.iaload, 1) := by decide +kernel
theorem dX7_layCut_22 : decode cX7_layCut 22 = .ok (.iconst 2, 1) := by decide +kernel
theorem dX7_layCut_23 : decode cX7_layCut 23 = .ok (.if_icmp .ne 7, 3) := by decide +kernel
theorem dX7_layCut_26 : decode cX7_layCut 26 = .ok (.iconst 1, 1) := by decide +kernel
theorem dX7_layCut_27 : decode cX7_layCut 27 = .ok (.goto 4, 3) := by decide +kernel
theorem dX7_layCut_30 : decode cX7_layCut 30 = .ok (.iconst 0, 1) := by decide +kernel
theorem dX7_layCut_31 : decode cX7_layCut 31 = .ok (.iastore, 1) := by decide +kernel
theorem dX7_layCut_32 : decode cX7_layCut 32 = .ok (.aload_n 0, 1) := by decide +kernel
theorem dX7_layCut_33 : decode cX7_layCut 33 = .ok (.getfield 19, 3) := by decide +kernel
theorem dX7_layCut_36 : decode cX7_layCut 36 = .ok (.sipush 192, 3) := by decide +kernel
theorem dX7_layCut_39 : decode cX7_layCut 39 = .ok (.iload_n 2, 1) := by decide +kernel
theorem dX7_layCut_40 : decode cX7_layCut 40 = .ok (.iadd, 1) := by decide +kernel
theorem dX7_layCut_41 : decode cX7_layCut 41 = .ok (.aload_n 0, 1) := by decide +kernel
theorem dX7_layCut_42 : decode cX7_layCut 42 = .ok (.getfield 22, 3) := by decide +kernel
theorem dX7_layCut_45 : decode cX7_layCut 45 = .ok (.iload_n 2, 1) := by decide +kernel
theorem dX7_layCut_46 : decode cX7_layCut 46 = .ok (.iaload, 1) := by decide +kernel
theorem dX7_layCut_47 : decode cX7_layCut 47 = .ok (.iload_n 1, 1) := by decide +kernel
theorem dX7_layCut_48 : decode cX7_layCut 48 = .ok (.if_icmp .gt 7, 3) := by decide +kernel
theorem dX7_layCut_51 : decode cX7_layCut 51 = .ok (.iconst 1, 1) := by decide +kernel
theorem dX7_layCut_52 : decode cX7_layCut 52 = .ok (.goto 4, 3) := by decide +kernel
theorem dX7_layCut_55 : decode cX7_layCut 55 = .ok (.iconst 0, 1) := by decide +kernel
theorem dX7_layCut_56 : decode cX7_layCut 56 = .ok (.iastore, 1) := by decide +kernel
theorem dX7_layCut_57 : decode cX7_layCut 57 = .ok (.iinc 2 1, 3) := by decide +kernel
theorem dX7_layCut_60 : decode cX7_layCut 60 = .ok (.goto (-58), 3) := by decide +kernel
theorem dX7_layCut_63 : decode cX7_layCut 63 = .ok (.return_, 1) := by decide +kernel
set_option maxRecDepth 20000 in
theorem ggX7_isTinted_X7_isCell : GoodIn wsX7_isTinted wsX7_isCell := goodIn_r _ [5, 6, 7, 4, 8] (by decide +kernel) (by decide +kernel)
set_option maxRecDepth 20000 in
theorem gX7_isTinted_X7_isCell : GoodIn wsX7_isTinted (va_wsS RX7 47 yX7_isCell wsX7_isCell) := goodIn_app (goodIn_of _ (by decide +kernel)) ggX7_isTinted_X7_isCell
theorem dX7_isTinted_0 : decode cX7_isTinted 0 = .ok (.iload_n 1, 1) := by decide +kernel
theorem dX7_isTinted_1 : decode cX7_isTinted 1 = .ok (.iload_n 3, 1) := by decide +kernel
theorem dX7_isTinted_2 : decode cX7_isTinted 2 = .ok (.isub, 1) := by decide +kernel
theorem dX7_isTinted_3 : decode cX7_isTinted 3 = .ok (.iload_n 2, 1) := by decide +kernel
theorem dX7_isTinted_4 : decode cX7_isTinted 4 = .ok (.iload 4, 2) := by decide +kernel
theorem dX7_isTinted_6 : decode cX7_isTinted 6 = .ok (.isub, 1) := by decide +kernel
theorem dX7_isTinted_7 : decode cX7_isTinted 7 = .ok (.invokestatic 47, 3) := by decide +kernel
theorem dX7_isTinted_10 : decode cX7_isTinted 10 = .ok (.ifCond .eq 31, 3) := by decide +kernel
theorem dX7_isTinted_13 : decode cX7_isTinted 13 = .ok (.aload_n 0, 1) := by decide +kernel
theorem dX7_isTinted_14 : decode cX7_isTinted 14 = .ok (.getfield 19, 3) := by decide +kernel
theorem dX7_isTinted_17 : decode cX7_isTinted 17 = .ok (.sipush 192, 3) := by decide +kernel
theorem dX7_isTinted_20 : decode cX7_isTinted 20 = .ok (.bipush 16, 2) := by decide +kernel
theorem dX7_isTinted_22 : decode cX7_isTinted 22 = .ok (.iload_n 2, 1) := by decide +kernel
theorem dX7_isTinted_23 : decode cX7_isTinted 23 = .ok (.iload 4, 2) := by decide +kernel
theorem dX7_isTinted_25 : decode cX7_isTinted 25 = .ok (.isub, 1) := by decide +kernel
theorem dX7_isTinted_26 : decode cX7_isTinted 26 = .ok (.imul, 1) := by decide +kernel
theorem dX7_isTinted_27 : decode cX7_isTinted 27 = .ok (.iadd, 1) := by decide +kernel
theorem dX7_isTinted_28 : decode cX7_isTinted 28 = .ok (.iload_n 1, 1) := by decide +kernel
theorem dX7_isTinted_29 : decode cX7_isTinted 29 = .ok (.iadd, 1) := by decide +kernel
theorem dX7_isTinted_30 : decode cX7_isTinted 30 = .ok (.iload_n 3, 1) := by decide +kernel
theorem dX7_isTinted_31 : decode cX7_isTinted 31 = .ok (.isub, 1) := by decide +kernel
theorem dX7_isTinted_32 : decode cX7_isTinted 32 = .ok (.iaload, 1) := by decide +kernel
theorem dX7_isTinted_33 : decode cX7_isTinted 33 = .ok (.iconst 1, 1) := by decide +kernel
theorem dX7_isTinted_34 : decode cX7_isTinted 34 = .ok (.if_icmp .ne 7, 3) := by decide +kernel
theorem dX7_isTinted_37 : decode cX7_isTinted 37 = .ok (.iconst 1, 1) := by decide +kernel
theorem dX7_isTinted_38 : decode cX7_isTinted 38 = .ok (.goto 4, 3) := by decide +kernel
theorem dX7_isTinted_41 : decode cX7_isTinted 41 = .ok (.iconst 0, 1) := by decide +kernel
theorem dX7_isTinted_42 : decode cX7_isTinted 42 = .ok (.ireturn, 1) := by decide +kernel
set_option maxRecDepth 20000 in
theorem ggX7_look_X7_isTinted : GoodIn wsX7_look wsX7_isTinted := goodIn_r _ [6, 1, 7, 8, 5, 9, 10, 11, 12, 13, 14, 15, 16, 17, 18, 19, 20, 21, 22, 23, 24, 25, 26, 27] (by decide +kernel) (by decide +kernel)
set_option maxRecDepth 20000 in
theorem gX7_look_X7_isTinted : GoodIn wsX7_look (wsV RX7 57 RX7 yX7_isTinted wsX7_isTinted) := goodIn_app (goodIn_of _ (by decide +kernel)) ggX7_look_X7_isTinted
theorem dX7_look_0 : decode cX7_look 0 = .ok (.iconst 2, 1) := by decide +kernel
theorem dX7_look_1 : decode cX7_look 1 = .ok (.aload_n 0, 1) := by decide +kernel
theorem dX7_look_2 : decode cX7_look 2 = .ok (.getfield 19, 3) := by decide +kernel
theorem dX7_look_5 : decode cX7_look 5 = .ok (.bipush 16, 2) := by decide +kernel
theorem dX7_look_7 : decode cX7_look 7 = .ok (.iload_n 2, 1) := by decide +kernel
theorem dX7_look_8 : decode cX7_look 8 = .ok (.imul, 1) := by decide +kernel
theorem dX7_look_9 : decode cX7_look 9 = .ok (.iload_n 1, 1) := by decide +kernel
theorem dX7_look_10 : decode cX7_look 10 = .ok (.iadd, 1) := by decide +kernel
theorem dX7_look_11 : decode cX7_look 11 = .ok (.iaload, 1) := by decide +kernel
theorem dX7_look_12 : decode cX7_look 12 = .ok (.imul, 1) := by decide +kernel
theorem dX7_look_13 : decode cX7_look 13 = .ok (.aload_n 0, 1) := by decide +kernel
theorem dX7_look_14 : decode cX7_look 14 = .ok (.iload_n 1, 1) := by decide +kernel
theorem dX7_look_15 : decode cX7_look 15 = .ok (.iload_n 2, 1) := by decide +kernel
theorem dX7_look_16 : decode cX7_look 16 = .ok (.iload_n 3, 1) := by decide +kernel
theorem dX7_look_17 : decode cX7_look 17 = .ok (.iload 4, 2) := by decide +kernel
theorem dX7_look_19 : decode cX7_look 19 = .ok (.invokevirtual 57, 3) := by decide +kernel
theorem dX7_look_22 : decode cX7_look 22 = .ok (.ifCond .eq 7, 3) := by decide +kernel
theorem dX7_look_25 : decode cX7_look 25 = .ok (.iconst 1, 1) := by decide +kernel
theorem dX7_look_26 : decode cX7_look 26 = .ok (.goto 4, 3) := by decide +kernel
theorem dX7_look_29 : decode cX7_look 29 = .ok (.iconst 0, 1) := by decide +kernel
theorem dX7_look_30 : decode cX7_look 30 = .ok (.iadd, 1) := by decide +kernel
theorem dX7_look_31 : decode cX7_look 31 = .ok (.ireturn, 1) := by decide +kernel
set_option maxRecDepth 20000 in
theorem ggX7_check_X7_look : GoodIn wsX7_check wsX7_look := goodIn_r _ [9, 10, 11, 12, 13, 8, 14, 15, 16, 17, 18, 19, 20, 21, 22, 23, 24, 25, 26, 27, 28, 29, 30, 31, 32, 33, 34, 35] (by decide +kernel) (by decide +kernel)
set_option maxRecDepth 20000 in
theorem gX7_check_X7_look : GoodIn wsX7_check (wsV RX7 70 RX7 yX7_look wsX7_look) := goodIn_app (goodIn_of _ (by decide +kernel)) ggX7_check_X7_look
theorem dX7_check_0 : decode cX7_check 0 = .ok (.aload_n 0, 1) := by decide +kernel
theorem dX7_check_1 : decode cX7_check 1 = .ok (.iconst 0, 1) := by decide +kernel
theorem dX7_check_2 : decode cX7_check 2 = .ok (.putfield 61, 3) := by decide +kernel
theorem dX7_check_5 : decode cX7_check 5 = .ok (.aload_n 0, 1) := by decide +kernel
theorem dX7_check_6 : decode cX7_check 6 = .ok (.iconst 0, 1) := by decide +kernel
theorem dX7_check_7 : decode cX7_check 7 = .ok (.putfield 64, 3) := by decide +kernel
theorem dX7_check_10 : decode cX7_check 10 = .ok (.aload_n 0, 1) := by decide +kernel
theorem dX7_check_11 : decode cX7_check 11 = .ok (.iconst 0, 1) := by decide +kernel
theorem dX7_check_12 : decode cX7_check 12 = .ok (.putfield 67, 3) := by decide +kernel
theorem dX7_check_15 : decode cX7_check 15 = .ok (.iconst 0, 1) := by decide +kernel
theorem dX7_check_16 : decode cX7_check 16 = .ok (.istore_n 3, 1) := by decide +kernel
theorem dX7_check_17 : decode cX7_check 17 = .ok (.iload_n 3, 1) := by decide +kernel
theorem dX7_check_18 : decode cX7_check 18 = .ok (.bipush 12, 2) := by decide +kernel
theorem dX7_check_20 : decode cX7_check 20 = .ok (.if_icmp .ge 129, 3) := by decide +kernel
theorem dX7_check_23 : decode cX7_check 23 = .ok (.iconst 0, 1) := by decide +kernel
theorem dX7_check_24 : decode cX7_check 24 = .ok (.istore 4, 2) := by decide +kernel
theorem dX7_check_26 : decode cX7_check 26 = .ok (.iload 4, 2) := by decide +kernel
theorem dX7_check_28 : decode cX7_check 28 = .ok (.bipush 16, 2) := by decide +kernel
theorem dX7_check_30 : decode cX7_check 30 = .ok (.if_icmp .ge 113, 3) := by decide +kernel
theorem dX7_check_33 : decode cX7_check 33 = .ok (.aload_n 0, 1) := by decide +kernel
theorem dX7_check_34 : decode cX7_check 34 = .ok (.getfield 7, 3) := by decide +kernel
theorem dX7_check_37 : decode cX7_check 37 = .ok (.iconst 0, 1) := by decide +kernel
theorem dX7_check_38 : decode cX7_check 38 = .ok (.bipush 16, 2) := by decide +kernel
theorem dX7_check_40 : decode cX7_check 40 = .ok (.iload_n 3, 1) := by decide +kernel
theorem dX7_check_41 : decode cX7_check 41 = .ok (.imul, 1) := by decide +kernel
theorem dX7_check_42 : decode cX7_check 42 = .ok (.iadd, 1) := by decide +kernel
theorem dX7_check_43 : decode cX7_check 43 = .ok (.iload 4, 2) := by decide +kernel
theorem dX7_check_45 : decode cX7_check 45 = .ok (.iadd, 1) := by decide +kernel
theorem dX7_check_46 : decode cX7_check 46 = .ok (.iaload, 1) := by decide +kernel
theorem dX7_check_47 : decode cX7_check 47 = .ok (.istore 5, 2) := by decide +kernel
theorem dX7_check_49 : decode cX7_check 49 = .ok (.aload_n 0, 1) := by decide +kernel
theorem dX7_check_50 : decode cX7_check 50 = .ok (.iload 4, 2) := by decide +kernel
theorem dX7_check_52 : decode cX7_check 52 = .ok (.iload_n 3, 1) := by decide +kernel
theorem dX7_check_53 : decode cX7_check 53 = .ok (.iload_n 1, 1) := by decide +kernel
theorem dX7_check_54 : decode cX7_check 54 = .ok (.iload_n 2, 1) := by decide +kernel
theorem dX7_check_55 : decode cX7_check 55 = .ok (.invokevirtual 70, 3) := by decide +kernel
theorem dX7_check_58 : decode cX7_check 58 = .ok (.istore 6, 2) := by decide +kernel
theorem dX7_check_60 : decode cX7_check 60 = .ok (.aload_n 0, 1) := by decide +kernel
theorem dX7_check_61 : decode cX7_check 61 = .ok (.dup, 1) := by decide +kernel
theorem dX7_check_62 : decode cX7_check 62 = .ok (.getfield 61, 3) := by decide +kernel
theorem dX7_check_65 : decode cX7_check 65 = .ok (.iload 5, 2) := by decide +kernel
theorem dX7_check_67 : decode cX7_check 67 = .ok (.ifCond .eq 12, 3) := by decide +kernel
theorem dX7_check_70 : decode cX7_check 70 = .ok (.iload 6, 2) := by decide +kernel
theorem dX7_check_72 : decode cX7_check 72 = .ok (.ifCond .ne 7, 3) := by decide +kernel
theorem dX7_check_75 : decode cX7_check 75 = .ok (.iconst 1, 1) := by decide +kernel
theorem dX7_check_76 : decode cX7_check 76 = .ok (.goto 4, 3) := by decide +kernel
theorem dX7_check_79 : decode cX7_check 79 = .ok (.iconst 0, 1) := by decide +kernel
theorem dX7_check_80 : decode cX7_check 80 = .ok (.iadd, 1) := by decide +kernel
theorem dX7_check_81 : decode cX7_check 81 = .ok (.putfield 61, 3) := by decide +kernel
theorem dX7_check_84 : decode cX7_check 84 = .ok (.aload_n 0, 1) := by decide +kernel
theorem dX7_check_85 : decode cX7_check 85 = .ok (.dup, 1) := by decide +kernel
theorem dX7_check_86 : decode cX7_check 86 = .ok (.getfield 64, 3) := by decide +kernel
theorem dX7_check_89 : decode cX7_check 89 = .ok (.iload 5, 2) := by decide +kernel
theorem dX7_check_91 : decode cX7_check 91 = .ok (.ifCond .ne 15, 3) := by decide +kernel
theorem dX7_check_94 : decode cX7_check 94 = .ok (.iload 6, 2) := by decide +kernel
theorem dX7_check_96 : decode cX7_check 96 = .ok (.iconst 2, 1) := by decide +kernel
theorem dX7_check_97 : decode cX7_check 97 = .ok (.irem, 1) := by decide +kernel
theorem dX7_check_98 : decode cX7_check 98 = .ok (.iconst 1, 1) := by decide +kernel
theorem dX7_check_99 : decode cX7_check 99 = .ok (.if_icmp .ne 7, 3) := by decide +kernel
theorem dX7_check_102 : decode cX7_check 102 = .ok (.iconst 1, 1) := by decide +kernel
theorem dX7_check_103 : decode cX7_check 103 = .ok (.goto 4, 3) := by decide +kernel
theorem dX7_check_106 : decode cX7_check 106 = .ok (.iconst 0, 1) := by decide +kernel
theorem dX7_check_107 : decode cX7_check 107 = .ok (.iadd, 1) := by decide +kernel
theorem dX7_check_108 : decode cX7_check 108 = .ok (.putfield 64, 3) := by decide +kernel
theorem dX7_check_111 : decode cX7_check 111 = .ok (.aload_n 0, 1) := by decide +kernel
theorem dX7_check_112 : decode cX7_check 112 = .ok (.dup, 1) := by decide +kernel
theorem dX7_check_113 : decode cX7_check 113 = .ok (.getfield 67, 3) := by decide +kernel
theorem dX7_check_116 : decode cX7_check 116 = .ok (.iload 5, 2) := by decide +kernel
theorem dX7_check_118 : decode cX7_check 118 = .ok (.iconst 2, 1) := by decide +kernel
theorem dX7_check_119 : decode cX7_check 119 = .ok (.if_icmp .ne 13, 3) := by decide +kernel
theorem dX7_check_122 : decode cX7_check 122 = .ok (.iload 6, 2) := by decide +kernel
theorem dX7_check_124 : decode cX7_check 124 = .ok (.iconst 2, 1) := by decide +kernel
theorem dX7_check_125 : decode cX7_check 125 = .ok (.if_icmp .ge 7, 3) := by decide +kernel
theorem dX7_check_128 : decode cX7_check 128 = .ok (.iconst 1, 1) := by decide +kernel
theorem dX7_check_129 : decode cX7_check 129 = .ok (.goto 4, 3) := by decide +kernel
theorem dX7_check_132 : decode cX7_check 132 = .ok (.iconst 0, 1) := by decide +kernel
theorem dX7_check_133 : decode cX7_check 133 = .ok (.iadd, 1) := by decide +kernel
theorem dX7_check_134 : decode cX7_check 134 = .ok (.putfield 67, 3) := by decide +kernel
theorem dX7_check_137 : decode cX7_check 137 = .ok (.iinc 4 1, 3) := by decide +kernel
theorem dX7_check_140 : decode cX7_check 140 = .ok (.goto (-114), 3) := by decide +kernel
theorem dX7_check_143 : decode cX7_check 143 = .ok (.iinc 3 1, 3) := by decide +kernel
theorem dX7_check_146 : decode cX7_check 146 = .ok (.goto (-129), 3) := by decide +kernel
theorem dX7_check_149 : decode cX7_check 149 = .ok (.return_, 1) := by decide +kernel
set_option maxRecDepth 20000 in
theorem ggX7_hasGapsWithin_X7_check : GoodIn wsX7_hasGapsWithin wsX7_check := goodIn_r _ [6, 1, 7, 8, 9, 10, 11, 12, 5, 13, 14, 15, 16, 17, 18, 19, 20, 21, 22, 23, 24, 25, 26, 27, 28, 29, 30, 31, 32, 33, 34, 35, 36, 37, 38, 39] (by decide +kernel) (by decide +kernel)
set_option maxRecDepth 20000 in
theorem gX7_hasGapsWithin_X7_check : GoodIn wsX7_hasGapsWithin (wsV RX7 74 RX7 yX7_check wsX7_check) := goodIn_app (goodIn_of _ (by decide +kernel)) ggX7_hasGapsWithin_X7_check
theorem dX7_hasGapsWithin_0 : decode cX7_hasGapsWithin 0 = .ok (.iload_n 1, 1) := by decide +kernel
theorem dX7_hasGapsWithin_1 : decode cX7_hasGapsWithin 1 = .ok (.ineg, 1) := by decide +kernel
theorem dX7_hasGapsWithin_2 : decode cX7_hasGapsWithin 2 = .ok (.istore_n 2, 1) := by decide +kernel
theorem dX7_hasGapsWithin_3 : decode cX7_hasGapsWithin 3 = .ok (.iload_n 2, 1) := by decide +kernel
theorem dX7_hasGapsWithin_4 : decode cX7_hasGapsWithin 4 = .ok (.iload_n 1, 1) := by decide +kernel
theorem dX7_hasGapsWithin_5 : decode cX7_hasGapsWithin 5 = .ok (.if_icmp .gt 38, 3) := by decide +kernel
theorem dX7_hasGapsWithin_8 : decode cX7_hasGapsWithin 8 = .ok (.iload_n 1, 1) := by decide +kernel
theorem dX7_hasGapsWithin_9 : decode cX7_hasGapsWithin 9 = .ok (.ineg, 1) := by decide +kernel
theorem dX7_hasGapsWithin_10 : decode cX7_hasGapsWithin 10 = .ok (.istore_n 3, 1) := by decide +kernel
theorem dX7_hasGapsWithin_11 : decode cX7_hasGapsWithin 11 = .ok (.iload_n 3, 1) := by decide +kernel
theorem dX7_hasGapsWithin_12 : decode cX7_hasGapsWithin 12 = .ok (.iload_n 1, 1) := by decide +kernel
theorem dX7_hasGapsWithin_13 : decode cX7_hasGapsWithin 13 = .ok (.if_icmp .gt 24, 3) := by decide +kernel
theorem dX7_hasGapsWithin_16 : decode cX7_hasGapsWithin 16 = .ok (.aload_n 0, 1) := by decide +kernel
theorem dX7_hasGapsWithin_17 : decode cX7_hasGapsWithin 17 = .ok (.iload_n 3, 1) := by decide +kernel
theorem dX7_hasGapsWithin_18 : decode cX7_hasGapsWithin 18 = .ok (.iload_n 2, 1) := by decide +kernel
theorem dX7_hasGapsWithin_19 : decode cX7_hasGapsWithin 19 = .ok (.invokevirtual 74, 3) := by decide +kernel
theorem dX7_hasGapsWithin_22 : decode cX7_hasGapsWithin 22 = .ok (.aload_n 0, 1) := by decide +kernel
theorem dX7_hasGapsWithin_23 : decode cX7_hasGapsWithin 23 = .ok (.getfield 61, 3) := by decide +kernel
theorem dX7_hasGapsWithin_26 : decode cX7_hasGapsWithin 26 = .ok (.ifCond .le 5, 3) := by decide +kernel
theorem dX7_hasGapsWithin_29 : decode cX7_hasGapsWithin 29 = .ok (.iconst 1, 1) := by decide +kernel
theorem dX7_hasGapsWithin_30 : decode cX7_hasGapsWithin 30 = .ok (.ireturn, 1) := by decide +kernel
theorem dX7_hasGapsWithin_31 : decode cX7_hasGapsWithin 31 = .ok (.iinc 3 1, 3) := by decide +kernel
theorem dX7_hasGapsWithin_34 : decode cX7_hasGapsWithin 34 = .ok (.goto (-23), 3) := by decide +kernel
theorem dX7_hasGapsWithin_37 : decode cX7_hasGapsWithin 37 = .ok (.iinc 2 1, 3) := by decide +kernel
theorem dX7_hasGapsWithin_40 : decode cX7_hasGapsWithin 40 = .ok (.goto (-37), 3) := by decide +kernel
theorem dX7_hasGapsWithin_43 : decode cX7_hasGapsWithin 43 = .ok (.iconst 0, 1) := by decide +kernel
theorem dX7_hasGapsWithin_44 : decode cX7_hasGapsWithin 44 = .ok (.ireturn, 1) := by decide +kernel
theorem dX7_shiftX_0 : decode cX7_shiftX 0 = .ok (.iload_n 1, 1) := by decide +kernel
theorem dX7_shiftX_1 : decode cX7_shiftX 1 = .ok (.aload_n 0, 1) := by decide +kernel
theorem dX7_shiftX_2 : decode cX7_shiftX 2 = .ok (.getfield 7, 3) := by decide +kernel
theorem dX7_shiftX_5 : decode cX7_shiftX 5 = .ok (.sipush 768, 3) := by decide +kernel
theorem dX7_shiftX_8 : decode cX7_shiftX 8 = .ok (.iaload, 1) := by decide +kernel
theorem dX7_shiftX_9 : decode cX7_shiftX 9 = .ok (.bipush 50, 2) := by decide +kernel
theorem dX7_shiftX_11 : decode cX7_shiftX 11 = .ok (.isub, 1) := by decide +kernel
theorem dX7_shiftX_12 : decode cX7_shiftX 12 = .ok (.aload_n 0, 1) := by decide +kernel
theorem dX7_shiftX_13 : decode cX7_shiftX 13 = .ok (.getfield 7, 3) := by decide +kernel
theorem dX7_shiftX_16 : decode cX7_shiftX 16 = .ok (.sipush 769, 3) := by decide +kernel
theorem dX7_shiftX_19 : decode cX7_shiftX 19 = .ok (.iaload, 1) := by decide +kernel
theorem dX7_shiftX_20 : decode cX7_shiftX 20 = .ok (.imul, 1) := by decide +kernel
theorem dX7_shiftX_21 : decode cX7_shiftX 21 = .ok (.bipush 50, 2) := by decide +kernel
theorem dX7_shiftX_23 : decode cX7_shiftX 23 = .ok (.idiv, 1) := by decide +kernel
theorem dX7_shiftX_24 : decode cX7_shiftX 24 = .ok (.iadd, 1) := by decide +kernel
theorem dX7_shiftX_25 : decode cX7_shiftX 25 = .ok (.ireturn, 1) := by decide +kernel
theorem dX7_shiftY_0 : decode cX7_shiftY 0 = .ok (.iload_n 1, 1) := by decide +kernel
theorem dX7_shiftY_1 : decode cX7_shiftY 1 = .ok (.aload_n 0, 1) := by decide +kernel
theorem dX7_shiftY_2 : decode cX7_shiftY 2 = .ok (.getfield 7, 3) := by decide +kernel
theorem dX7_shiftY_5 : decode cX7_shiftY 5 = .ok (.sipush 768, 3) := by decide +kernel
theorem dX7_shiftY_8 : decode cX7_shiftY 8 = .ok (.iaload, 1) := by decide +kernel
theorem dX7_shiftY_9 : decode cX7_shiftY 9 = .ok (.bipush 50, 2) := by decide +kernel
theorem dX7_shiftY_11 : decode cX7_shiftY 11 = .ok (.isub, 1) := by decide +kernel
theorem dX7_shiftY_12 : decode cX7_shiftY 12 = .ok (.aload_n 0, 1) := by decide +kernel
theorem dX7_shiftY_13 : decode cX7_shiftY 13 = .ok (.getfield 7, 3) := by decide +kernel
theorem dX7_shiftY_16 : decode cX7_shiftY 16 = .ok (.sipush 770, 3) := by decide +kernel
theorem dX7_shiftY_19 : decode cX7_shiftY 19 = .ok (.iaload, 1) := by decide +kernel
theorem dX7_shiftY_20 : decode cX7_shiftY 20 = .ok (.imul, 1) := by decide +kernel
theorem dX7_shiftY_21 : decode cX7_shiftY 21 = .ok (.bipush 50, 2) := by decide +kernel
theorem dX7_shiftY_23 : decode cX7_shiftY 23 = .ok (.idiv, 1) := by decide +kernel
theorem dX7_shiftY_24 : decode cX7_shiftY 24 = .ok (.iadd, 1) := by decide +kernel
theorem dX7_shiftY_25 : decode cX7_shiftY 25 = .ok (.ireturn, 1) := by decide +kernel
set_option maxRecDepth 20000 in
theorem ggX7_checkNow_X7_lay : GoodIn wsX7_checkNow wsX7_lay := goodIn_r _ [6, 7, 1, 8, 9, 10, 5, 11, 41, 42, 43, 44, 45, 46, 47, 48, 49, 50, 51, 52, 53, 54, 55] (by decide +kernel) (by decide +kernel)
set_option maxRecDepth 20000 in
theorem gX7_checkNow_X7_lay : GoodIn wsX7_checkNow (wsV RX7 78 RX7 yX7_lay wsX7_lay) := goodIn_app (goodIn_of _ (by decide +kernel)) ggX7_checkNow_X7_lay
set_option maxRecDepth 20000 in
theorem ggX7_checkNow_X7_shiftX : GoodIn wsX7_checkNow wsX7_shiftX := goodIn_r _ [15, 1, 41, 42, 43, 44, 45, 46, 47, 48, 49, 50, 51, 52, 53, 54, 55] (by decide +kernel) (by decide +kernel)
set_option maxRecDepth 20000 in
theorem gX7_checkNow_X7_shiftX : GoodIn wsX7_checkNow (wsV RX7 81 RX7 yX7_shiftX wsX7_shiftX) := goodIn_app (goodIn_of _ (by decide +kernel)) ggX7_checkNow_X7_shiftX
set_option maxRecDepth 20000 in
theorem ggX7_checkNow_X7_shiftY : GoodIn wsX7_checkNow wsX7_shiftY := goodIn_r _ [19, 1, 41, 42, 43, 44, 45, 46, 47, 48, 49, 50, 51, 52, 53, 54, 55] (by decide +kernel) (by decide +kernel)
set_option maxRecDepth 20000 in
theorem gX7_checkNow_X7_shiftY : GoodIn wsX7_checkNow (wsV RX7 85 RX7 yX7_shiftY wsX7_shiftY) := goodIn_app (goodIn_of _ (by decide +kernel)) ggX7_checkNow_X7_shiftY
set_option maxRecDepth 20000 in
theorem ggX7_checkNow_X7_check : GoodIn wsX7_checkNow wsX7_check := goodIn_r _ [23, 24, 25, 26, 1, 27, 28, 29, 5, 30, 7, 31, 32, 33, 34, 35, 36, 37, 38, 39, 40, 41, 42, 43, 44, 45, 46, 47, 48, 49, 50, 51, 52, 53, 54, 55] (by decide +kernel) (by decide +kernel)
set_option maxRecDepth 20000 in
theorem gX7_checkNow_X7_check : GoodIn wsX7_checkNow (wsV RX7 74 RX7 yX7_check wsX7_check) := goodIn_app (goodIn_of _ (by decide +kernel)) ggX7_checkNow_X7_check
theorem dX7_checkNow_0 : decode cX7_checkNow 0 = .ok (.aload_n 0, 1) := by decide +kernel
theorem dX7_checkNow_1 : decode cX7_checkNow 1 = .ok (.invokevirtual 78, 3) := by decide +kernel
theorem dX7_checkNow_4 : decode cX7_checkNow 4 = .ok (.aload_n 0, 1) := by decide +kernel
theorem dX7_checkNow_5 : decode cX7_checkNow 5 = .ok (.aload_n 0, 1) := by decide +kernel
theorem dX7_checkNow_6 : decode cX7_checkNow 6 = .ok (.aload_n 0, 1) := by decide +kernel
theorem dX7_checkNow_7 : decode cX7_checkNow 7 = .ok (.getfield 7, 3) := by decide +kernel
theorem dX7_checkNow_10 : decode cX7_checkNow 10 = .ok (.sipush 773, 3) := by decide +kernel
theorem dX7_checkNow_13 : decode cX7_checkNow 13 = .ok (.iaload, 1) := by decide +kernel
theorem dX7_checkNow_14 : decode cX7_checkNow 14 = .ok (.invokevirtual 81, 3) := by decide +kernel
theorem dX7_checkNow_17 : decode cX7_checkNow 17 = .ok (.aload_n 0, 1) := by decide +kernel
theorem dX7_checkNow_18 : decode cX7_checkNow 18 = .ok (.aload_n 0, 1) := by decide +kernel
theorem dX7_checkNow_19 : decode cX7_checkNow 19 = .ok (.getfield 7, 3) := by decide +kernel
theorem dX7_checkNow_22 : decode cX7_checkNow 22 = .ok (.sipush 774, 3) := by decide +kernel
theorem dX7_checkNow_25 : decode cX7_checkNow 25 = .ok (.iaload, 1) := by decide +kernel
theorem dX7_checkNow_26 : decode cX7_checkNow 26 = .ok (.invokevirtual 85, 3) := by decide +kernel
theorem dX7_checkNow_29 : decode cX7_checkNow 29 = .ok (.invokevirtual 74, 3) := by decide +kernel
theorem dX7_checkNow_32 : decode cX7_checkNow 32 = .ok (.return_, 1) := by decide +kernel
set_option maxRecDepth 20000 in
theorem ggX7_paint_X7_isCell : GoodIn wsX7_paint wsX7_isCell := goodIn_r _ [6, 7, 8, 5, 9] (by decide +kernel) (by decide +kernel)
set_option maxRecDepth 20000 in
theorem gX7_paint_X7_isCell : GoodIn wsX7_paint (va_wsS RX7 47 yX7_isCell wsX7_isCell) := goodIn_app (goodIn_of _ (by decide +kernel)) ggX7_paint_X7_isCell
set_option maxRecDepth 20000 in
theorem ggX7_paint_X7_in : GoodIn wsX7_paint wsX7_in := goodIn_r _ [9] (by decide +kernel) (by decide +kernel)
set_option maxRecDepth 20000 in
theorem gX7_paint_X7_in : GoodIn wsX7_paint (va_wsS RX7 32 yX7_in wsX7_in) := goodIn_app (goodIn_of _ (by decide +kernel)) ggX7_paint_X7_in
set_option maxRecDepth 20000 in
theorem ggX7_paint_X7_act : GoodIn wsX7_paint wsX7_act := goodIn_r _ [13, 14, 15, 2, 16, 17, 18, 19, 20, 21, 22, 23, 24, 25, 26, 27, 28, 29, 30] (by decide +kernel) (by decide +kernel)
set_option maxRecDepth 20000 in
theorem gX7_paint_X7_act : GoodIn wsX7_paint (wsV RX7 88 RX7 yX7_act wsX7_act) := goodIn_app (goodIn_of _ (by decide +kernel)) ggX7_paint_X7_act
theorem dX7_paint_0 : decode cX7_paint 0 = .ok (.aload_n 0, 1) := by decide +kernel
theorem dX7_paint_1 : decode cX7_paint 1 = .ok (.iconst 0, 1) := by decide +kernel
theorem dX7_paint_2 : decode cX7_paint 2 = .ok (.putfield 28, 3) := by decide +kernel
theorem dX7_paint_5 : decode cX7_paint 5 = .ok (.iload_n 1, 1) := by decide +kernel
theorem dX7_paint_6 : decode cX7_paint 6 = .ok (.iload_n 2, 1) := by decide +kernel
theorem dX7_paint_7 : decode cX7_paint 7 = .ok (.invokestatic 47, 3) := by decide +kernel
theorem dX7_paint_10 : decode cX7_paint 10 = .ok (.ifCond .eq 38, 3) := by decide +kernel
theorem dX7_paint_13 : decode cX7_paint 13 = .ok (.iload_n 3, 1) := by decide +kernel
theorem dX7_paint_14 : decode cX7_paint 14 = .ok (.iconst 1, 1) := by decide +kernel
theorem dX7_paint_15 : decode cX7_paint 15 = .ok (.bipush 16, 2) := by decide +kernel
theorem dX7_paint_17 : decode cX7_paint 17 = .ok (.iload_n 1, 1) := by decide +kernel
theorem dX7_paint_18 : decode cX7_paint 18 = .ok (.isub, 1) := by decide +kernel
theorem dX7_paint_19 : decode cX7_paint 19 = .ok (.invokestatic 32, 3) := by decide +kernel
theorem dX7_paint_22 : decode cX7_paint 22 = .ok (.ifCond .eq 26, 3) := by decide +kernel
theorem dX7_paint_25 : decode cX7_paint 25 = .ok (.iload 4, 2) := by decide +kernel
theorem dX7_paint_27 : decode cX7_paint 27 = .ok (.iconst 1, 1) := by decide +kernel
theorem dX7_paint_28 : decode cX7_paint 28 = .ok (.bipush 12, 2) := by decide +kernel
theorem dX7_paint_30 : decode cX7_paint 30 = .ok (.iload_n 2, 1) := by decide +kernel
theorem dX7_paint_31 : decode cX7_paint 31 = .ok (.isub, 1) := by decide +kernel
theorem dX7_paint_32 : decode cX7_paint 32 = .ok (.invokestatic 32, 3) := by decide +kernel
theorem dX7_paint_35 : decode cX7_paint 35 = .ok (.ifCond .eq 13, 3) := by decide +kernel
theorem dX7_paint_38 : decode cX7_paint 38 = .ok (.iload 5, 2) := by decide +kernel
theorem dX7_paint_40 : decode cX7_paint 40 = .ok (.iconst 0, 1) := by decide +kernel
theorem dX7_paint_41 : decode cX7_paint 41 = .ok (.iconst 2, 1) := by decide +kernel
theorem dX7_paint_42 : decode cX7_paint 42 = .ok (.invokestatic 32, 3) := by decide +kernel
theorem dX7_paint_45 : decode cX7_paint 45 = .ok (.ifCond .ne 7, 3) := by decide +kernel
theorem dX7_paint_48 : decode cX7_paint 48 = .ok (.sipush (-1001), 3) := by decide +kernel
theorem dX7_paint_51 : decode cX7_paint 51 = .ok (.ireturn, 1) := by decide +kernel
theorem dX7_paint_52 : decode cX7_paint 52 = .ok (.aload_n 0, 1) := by decide +kernel
theorem dX7_paint_53 : decode cX7_paint 53 = .ok (.invokevirtual 88, 3) := by decide +kernel
theorem dX7_paint_56 : decode cX7_paint 56 = .ok (.iconst 0, 1) := by decide +kernel
theorem dX7_paint_57 : decode cX7_paint 57 = .ok (.istore 6, 2) := by decide +kernel
theorem dX7_paint_59 : decode cX7_paint 59 = .ok (.iload_n 2, 1) := by decide +kernel
theorem dX7_paint_60 : decode cX7_paint 60 = .ok (.istore 7, 2) := by decide +kernel
theorem dX7_paint_62 : decode cX7_paint 62 = .ok (.iload 7, 2) := by decide +kernel
theorem dX7_paint_64 : decode cX7_paint 64 = .ok (.iload_n 2, 1) := by decide +kernel
theorem dX7_paint_65 : decode cX7_paint 65 = .ok (.iload 4, 2) := by decide +kernel
theorem dX7_paint_67 : decode cX7_paint 67 = .ok (.iadd, 1) := by decide +kernel
theorem dX7_paint_68 : decode cX7_paint 68 = .ok (.if_icmp .ge 69, 3) := by decide +kernel
theorem dX7_paint_71 : decode cX7_paint 71 = .ok (.iload_n 1, 1) := by decide +kernel
theorem dX7_paint_72 : decode cX7_paint 72 = .ok (.istore 8, 2) := by decide +kernel
theorem dX7_paint_74 : decode cX7_paint 74 = .ok (.iload 8, 2) := by decide +kernel
theorem dX7_paint_76 : decode cX7_paint 76 = .ok (.iload_n 1, 1) := by decide +kernel
theorem dX7_paint_77 : decode cX7_paint 77 = .ok (.iload_n 3, 1) := by decide +kernel
theorem dX7_paint_78 : decode cX7_paint 78 = .ok (.iadd, 1) := by decide +kernel
theorem dX7_paint_79 : decode cX7_paint 79 = .ok (.if_icmp .ge 52, 3) := by decide +kernel
theorem dX7_paint_82 : decode cX7_paint 82 = .ok (.iconst 0, 1) := by decide +kernel
theorem dX7_paint_83 : decode cX7_paint 83 = .ok (.bipush 16, 2) := by decide +kernel
theorem dX7_paint_85 : decode cX7_paint 85 = .ok (.iload 7, 2) := by decide +kernel
theorem dX7_paint_87 : decode cX7_paint 87 = .ok (.imul, 1) := by decide +kernel
theorem dX7_paint_88 : decode cX7_paint 88 = .ok (.iadd, 1) := by decide +kernel
theorem dX7_paint_89 : decode cX7_paint 89 = .ok (.iload 8, 2) := by decide +kernel
theorem dX7_paint_91 : decode cX7_paint 91 = .ok (.iadd, 1) := by decide +kernel
theorem dX7_paint_92 : decode cX7_paint 92 = .ok (.istore 9, 2) := by decide +kernel
theorem dX7_paint_94 : decode cX7_paint 94 = .ok (.iload 6, 2) := by decide +kernel
theorem dX7_paint_96 : decode cX7_paint 96 = .ok (.aload_n 0, 1) := by decide +kernel
theorem dX7_paint_97 : decode cX7_paint 97 = .ok (.getfield 7, 3) := by decide +kernel
theorem dX7_paint_100 : decode cX7_paint 100 = .ok (.iload 9, 2) := by decide +kernel
theorem dX7_paint_102 : decode cX7_paint 102 = .ok (.iaload, 1) := by decide +kernel
theorem dX7_paint_103 : decode cX7_paint 103 = .ok (.iload 5, 2) := by decide +kernel
theorem dX7_paint_105 : decode cX7_paint 105 = .ok (.if_icmp .ne 7, 3) := by decide +kernel
theorem dX7_paint_108 : decode cX7_paint 108 = .ok (.iconst 0, 1) := by decide +kernel
theorem dX7_paint_109 : decode cX7_paint 109 = .ok (.goto 4, 3) := by decide +kernel
theorem dX7_paint_112 : decode cX7_paint 112 = .ok (.iconst 1, 1) := by decide +kernel
theorem dX7_paint_113 : decode cX7_paint 113 = .ok (.iadd, 1) := by decide +kernel
theorem dX7_paint_114 : decode cX7_paint 114 = .ok (.istore 6, 2) := by decide +kernel
theorem dX7_paint_116 : decode cX7_paint 116 = .ok (.aload_n 0, 1) := by decide +kernel
theorem dX7_paint_117 : decode cX7_paint 117 = .ok (.getfield 7, 3) := by decide +kernel
theorem dX7_paint_120 : decode cX7_paint 120 = .ok (.iload 9, 2) := by decide +kernel
theorem dX7_paint_122 : decode cX7_paint 122 = .ok (.iload 5, 2) := by decide +kernel
theorem dX7_paint_124 : decode cX7_paint 124 = .ok (.iastore, 1) := by decide +kernel
theorem dX7_paint_125 : decode cX7_paint 125 = .ok (.iinc 8 1, 3) := by decide +kernel
theorem dX7_paint_128 : decode cX7_paint 128 = .ok (.goto (-54), 3) := by decide +kernel
theorem dX7_paint_131 : decode cX7_paint 131 = .ok (.iinc 7 1, 3) := by decide +kernel
theorem dX7_paint_134 : decode cX7_paint 134 = .ok (.goto (-72), 3) := by decide +kernel
theorem dX7_paint_137 : decode cX7_paint 137 = .ok (.iload 6, 2) := by decide +kernel
theorem dX7_paint_139 : decode cX7_paint 139 = .ok (.ireturn, 1) := by decide +kernel
set_option maxRecDepth 20000 in
theorem ggX7_cut_X7_in : GoodIn wsX7_cut wsX7_in := goodIn_r _ [7] (by decide +kernel) (by decide +kernel)
set_option maxRecDepth 20000 in
theorem gX7_cut_X7_in : GoodIn wsX7_cut (va_wsS RX7 32 yX7_in wsX7_in) := goodIn_app (goodIn_of _ (by decide +kernel)) ggX7_cut_X7_in
set_option maxRecDepth 20000 in
theorem ggX7_cut_X7_act : GoodIn wsX7_cut wsX7_act := goodIn_r _ [11, 12, 13, 2, 37, 38, 39, 40, 41, 42, 43, 44, 45, 46, 47, 48, 49, 50, 51] (by decide +kernel) (by decide +kernel)
set_option maxRecDepth 20000 in
theorem gX7_cut_X7_act : GoodIn wsX7_cut (wsV RX7 88 RX7 yX7_act wsX7_act) := goodIn_app (goodIn_of _ (by decide +kernel)) ggX7_cut_X7_act
set_option maxRecDepth 20000 in
theorem ggX7_cut_X7_measure : GoodIn wsX7_cut wsX7_measure := goodIn_r _ [17, 18, 2, 19, 20, 21, 6, 22, 23, 24, 25, 26, 27, 28, 4, 5, 7, 37, 38, 39, 40, 41, 42, 43, 44, 45, 46, 47, 48, 49, 50, 51] (by decide +kernel) (by decide +kernel)
set_option maxRecDepth 20000 in
theorem gX7_cut_X7_measure : GoodIn wsX7_cut (wsV RX7 91 RX7 yX7_measure wsX7_measure) := goodIn_app (goodIn_of _ (by decide +kernel)) ggX7_cut_X7_measure
set_option maxRecDepth 20000 in
theorem ggX7_cut_X7_layCut : GoodIn wsX7_cut wsX7_layCut := goodIn_r _ [32, 3, 2, 18, 37, 38, 39, 40, 41, 42, 43, 44, 45, 46, 47, 48, 49, 50, 51] (by decide +kernel) (by decide +kernel)
set_option maxRecDepth 20000 in
theorem gX7_cut_X7_layCut : GoodIn wsX7_cut (wsV RX7 94 RX7 yX7_layCut wsX7_layCut) := goodIn_app (goodIn_of _ (by decide +kernel)) ggX7_cut_X7_layCut
set_option maxRecDepth 20000 in
theorem ggX7_cut_X7_many : GoodIn wsX7_cut wsX7_many := goodIn_r _ [36, 2, 37, 38, 39, 40, 41, 42, 43, 44, 45, 46, 47, 48, 49, 50, 51] (by decide +kernel) (by decide +kernel)
set_option maxRecDepth 20000 in
theorem gX7_cut_X7_many : GoodIn wsX7_cut (wsV RX7 39 RX7 yX7_many wsX7_many) := goodIn_app (goodIn_of _ (by decide +kernel)) ggX7_cut_X7_many
theorem dX7_cut_0 : decode cX7_cut 0 = .ok (.aload_n 0, 1) := by decide +kernel
theorem dX7_cut_1 : decode cX7_cut 1 = .ok (.iconst 0, 1) := by decide +kernel
theorem dX7_cut_2 : decode cX7_cut 2 = .ok (.putfield 28, 3) := by decide +kernel
theorem dX7_cut_5 : decode cX7_cut 5 = .ok (.iload_n 1, 1) := by decide +kernel
theorem dX7_cut_6 : decode cX7_cut 6 = .ok (.iconst 0, 1) := by decide +kernel
theorem dX7_cut_7 : decode cX7_cut 7 = .ok (.iconst 4, 1) := by decide +kernel
theorem dX7_cut_8 : decode cX7_cut 8 = .ok (.invokestatic 32, 3) := by decide +kernel
theorem dX7_cut_11 : decode cX7_cut 11 = .ok (.ifCond .ne 7, 3) := by decide +kernel
theorem dX7_cut_14 : decode cX7_cut 14 = .ok (.sipush (-1001), 3) := by decide +kernel
theorem dX7_cut_17 : decode cX7_cut 17 = .ok (.ireturn, 1) := by decide +kernel
theorem dX7_cut_18 : decode cX7_cut 18 = .ok (.aload_n 0, 1) := by decide +kernel
theorem dX7_cut_19 : decode cX7_cut 19 = .ok (.invokevirtual 88, 3) := by decide +kernel
theorem dX7_cut_22 : decode cX7_cut 22 = .ok (.aload_n 0, 1) := by decide +kernel
theorem dX7_cut_23 : decode cX7_cut 23 = .ok (.invokevirtual 91, 3) := by decide +kernel
theorem dX7_cut_26 : decode cX7_cut 26 = .ok (.aload_n 0, 1) := by decide +kernel
theorem dX7_cut_27 : decode cX7_cut 27 = .ok (.iload_n 1, 1) := by decide +kernel
theorem dX7_cut_28 : decode cX7_cut 28 = .ok (.invokevirtual 94, 3) := by decide +kernel
theorem dX7_cut_31 : decode cX7_cut 31 = .ok (.iconst 0, 1) := by decide +kernel
theorem dX7_cut_32 : decode cX7_cut 32 = .ok (.istore_n 2, 1) := by decide +kernel
theorem dX7_cut_33 : decode cX7_cut 33 = .ok (.iload_n 2, 1) := by decide +kernel
theorem dX7_cut_34 : decode cX7_cut 34 = .ok (.sipush 192, 3) := by decide +kernel
theorem dX7_cut_37 : decode cX7_cut 37 = .ok (.if_icmp .ge 56, 3) := by decide +kernel
theorem dX7_cut_40 : decode cX7_cut 40 = .ok (.aload_n 0, 1) := by decide +kernel
theorem dX7_cut_41 : decode cX7_cut 41 = .ok (.getfield 7, 3) := by decide +kernel
theorem dX7_cut_44 : decode cX7_cut 44 = .ok (.sipush 192, 3) := by decide +kernel
theorem dX7_cut_47 : decode cX7_cut 47 = .ok (.iload_n 2, 1) := by decide +kernel
theorem dX7_cut_48 : decode cX7_cut 48 = .ok (.iadd, 1) := by decide +kernel
theorem dX7_cut_49 : decode cX7_cut 49 = .ok (.aload_n 0, 1) := by decide +kernel
theorem dX7_cut_50 : decode cX7_cut 50 = .ok (.getfield 19, 3) := by decide +kernel
theorem dX7_cut_53 : decode cX7_cut 53 = .ok (.iload_n 2, 1) := by decide +kernel
theorem dX7_cut_54 : decode cX7_cut 54 = .ok (.iaload, 1) := by decide +kernel
theorem dX7_cut_55 : decode cX7_cut 55 = .ok (.iastore, 1) := by decide +kernel
theorem dX7_cut_56 : decode cX7_cut 56 = .ok (.aload_n 0, 1) := by decide +kernel
theorem dX7_cut_57 : decode cX7_cut 57 = .ok (.getfield 7, 3) := by decide +kernel
theorem dX7_cut_60 : decode cX7_cut 60 = .ok (.sipush 384, 3) := by decide +kernel
theorem dX7_cut_63 : decode cX7_cut 63 = .ok (.iload_n 2, 1) := by decide +kernel
theorem dX7_cut_64 : decode cX7_cut 64 = .ok (.iadd, 1) := by decide +kernel
theorem dX7_cut_65 : decode cX7_cut 65 = .ok (.iconst 0, 1) := by decide +kernel
theorem dX7_cut_66 : decode cX7_cut 66 = .ok (.iastore, 1) := by decide +kernel
theorem dX7_cut_67 : decode cX7_cut 67 = .ok (.aload_n 0, 1) := by decide +kernel
theorem dX7_cut_68 : decode cX7_cut 68 = .ok (.getfield 7, 3) := by decide +kernel
theorem dX7_cut_71 : decode cX7_cut 71 = .ok (.sipush 576, 3) := by decide +kernel
theorem dX7_cut_74 : decode cX7_cut 74 = .ok (.iload_n 2, 1) := by decide +kernel
theorem dX7_cut_75 : decode cX7_cut 75 = .ok (.iadd, 1) := by decide +kernel
theorem dX7_cut_76 : decode cX7_cut 76 = .ok (.aload_n 0, 1) := by decide +kernel
theorem dX7_cut_77 : decode cX7_cut 77 = .ok (.getfield 19, 3) := by decide +kernel
theorem dX7_cut_80 : decode cX7_cut 80 = .ok (.sipush 192, 3) := by decide +kernel
theorem dX7_cut_83 : decode cX7_cut 83 = .ok (.iload_n 2, 1) := by decide +kernel
theorem dX7_cut_84 : decode cX7_cut 84 = .ok (.iadd, 1) := by decide +kernel
theorem dX7_cut_85 : decode cX7_cut 85 = .ok (.iaload, 1) := by decide +kernel
theorem dX7_cut_86 : decode cX7_cut 86 = .ok (.iastore, 1) := by decide +kernel
theorem dX7_cut_87 : decode cX7_cut 87 = .ok (.iinc 2 1, 3) := by decide +kernel
theorem dX7_cut_90 : decode cX7_cut 90 = .ok (.goto (-57), 3) := by decide +kernel
theorem dX7_cut_93 : decode cX7_cut 93 = .ok (.aload_n 0, 1) := by decide +kernel
theorem dX7_cut_94 : decode cX7_cut 94 = .ok (.sipush 576, 3) := by decide +kernel
theorem dX7_cut_97 : decode cX7_cut 97 = .ok (.iconst 1, 1) := by decide +kernel
theorem dX7_cut_98 : decode cX7_cut 98 = .ok (.invokevirtual 39, 3) := by decide +kernel
theorem dX7_cut_101 : decode cX7_cut 101 = .ok (.ireturn, 1) := by decide +kernel
set_option maxRecDepth 20000 in
theorem ggX7_carve_X7_in : GoodIn wsX7_carve wsX7_in := goodIn_r _ [6] (by decide +kernel) (by decide +kernel)
set_option maxRecDepth 20000 in
theorem gX7_carve_X7_in : GoodIn wsX7_carve (va_wsS RX7 32 yX7_in wsX7_in) := goodIn_app (goodIn_of _ (by decide +kernel)) ggX7_carve_X7_in
set_option maxRecDepth 20000 in
theorem ggX7_carve_X7_isCell : GoodIn wsX7_carve wsX7_isCell := goodIn_r _ [9, 3, 4, 5, 6] (by decide +kernel) (by decide +kernel)
set_option maxRecDepth 20000 in
theorem gX7_carve_X7_isCell : GoodIn wsX7_carve (va_wsS RX7 47 yX7_isCell wsX7_isCell) := goodIn_app (goodIn_of _ (by decide +kernel)) ggX7_carve_X7_isCell
set_option maxRecDepth 20000 in
theorem ggX7_carve_X7_act : GoodIn wsX7_carve wsX7_act := goodIn_r _ [13, 14, 15, 2, 16, 17, 18, 19, 20, 21, 22, 23, 24, 25, 26, 27, 28, 29, 30] (by decide +kernel) (by decide +kernel)
set_option maxRecDepth 20000 in
theorem gX7_carve_X7_act : GoodIn wsX7_carve (wsV RX7 88 RX7 yX7_act wsX7_act) := goodIn_app (goodIn_of _ (by decide +kernel)) ggX7_carve_X7_act
theorem dX7_carve_0 : decode cX7_carve 0 = .ok (.aload_n 0, 1) := by decide +kernel
theorem dX7_carve_1 : decode cX7_carve 1 = .ok (.iconst 0, 1) := by decide +kernel
theorem dX7_carve_2 : decode cX7_carve 2 = .ok (.putfield 28, 3) := by decide +kernel
theorem dX7_carve_5 : decode cX7_carve 5 = .ok (.iload_n 1, 1) := by decide +kernel
theorem dX7_carve_6 : decode cX7_carve 6 = .ok (.iconst 0, 1) := by decide +kernel
theorem dX7_carve_7 : decode cX7_carve 7 = .ok (.iconst 1, 1) := by decide +kernel
theorem dX7_carve_8 : decode cX7_carve 8 = .ok (.invokestatic 32, 3) := by decide +kernel
theorem dX7_carve_11 : decode cX7_carve 11 = .ok (.ifCond .eq 21, 3) := by decide +kernel
theorem dX7_carve_14 : decode cX7_carve 14 = .ok (.iload_n 2, 1) := by decide +kernel
theorem dX7_carve_15 : decode cX7_carve 15 = .ok (.iload_n 3, 1) := by decide +kernel
theorem dX7_carve_16 : decode cX7_carve 16 = .ok (.invokestatic 47, 3) := by decide +kernel
theorem dX7_carve_19 : decode cX7_carve 19 = .ok (.ifCond .eq 13, 3) := by decide +kernel
theorem dX7_carve_22 : decode cX7_carve 22 = .ok (.iload 4, 2) := by decide +kernel
theorem dX7_carve_24 : decode cX7_carve 24 = .ok (.iconst 0, 1) := by decide +kernel
theorem dX7_carve_25 : decode cX7_carve 25 = .ok (.iconst 1, 1) := by decide +kernel
theorem dX7_carve_26 : decode cX7_carve 26 = .ok (.invokestatic 32, 3) := by decide +kernel
theorem dX7_carve_29 : decode cX7_carve 29 = .ok (.ifCond .ne 7, 3) := by decide +kernel
theorem dX7_carve_32 : decode cX7_carve 32 = .ok (.sipush (-1001), 3) := by decide +kernel
theorem dX7_carve_35 : decode cX7_carve 35 = .ok (.ireturn, 1) := by decide +kernel
theorem dX7_carve_36 : decode cX7_carve 36 = .ok (.aload_n 0, 1) := by decide +kernel
theorem dX7_carve_37 : decode cX7_carve 37 = .ok (.invokevirtual 88, 3) := by decide +kernel
theorem dX7_carve_40 : decode cX7_carve 40 = .ok (.iload_n 1, 1) := by decide +kernel
theorem dX7_carve_41 : decode cX7_carve 41 = .ok (.ifCond .ne 9, 3) := by decide +kernel
theorem dX7_carve_44 : decode cX7_carve 44 = .ok (.sipush 192, 3) := by decide +kernel
theorem dX7_carve_47 : decode cX7_carve 47 = .ok (.goto 6, 3) := by decide +kernel
theorem dX7_carve_50 : decode cX7_carve 50 = .ok (.sipush 576, 3) := by decide +kernel
theorem dX7_carve_53 : decode cX7_carve 53 = .ok (.bipush 16, 2) := by decide +kernel
theorem dX7_carve_55 : decode cX7_carve 55 = .ok (.iload_n 3, 1) := by decide +kernel
theorem dX7_carve_56 : decode cX7_carve 56 = .ok (.imul, 1) := by decide +kernel
theorem dX7_carve_57 : decode cX7_carve 57 = .ok (.iadd, 1) := by decide +kernel
theorem dX7_carve_58 : decode cX7_carve 58 = .ok (.iload_n 2, 1) := by decide +kernel
theorem dX7_carve_59 : decode cX7_carve 59 = .ok (.iadd, 1) := by decide +kernel
theorem dX7_carve_60 : decode cX7_carve 60 = .ok (.istore 5, 2) := by decide +kernel
theorem dX7_carve_62 : decode cX7_carve 62 = .ok (.aload_n 0, 1) := by decide +kernel
theorem dX7_carve_63 : decode cX7_carve 63 = .ok (.getfield 7, 3) := by decide +kernel
theorem dX7_carve_66 : decode cX7_carve 66 = .ok (.iload 5, 2) := by decide +kernel
theorem dX7_carve_68 : decode cX7_carve 68 = .ok (.iaload, 1) := by decide +kernel
theorem dX7_carve_69 : decode cX7_carve 69 = .ok (.istore 6, 2) := by decide +kernel
theorem dX7_carve_71 : decode cX7_carve 71 = .ok (.aload_n 0, 1) := by decide +kernel
theorem dX7_carve_72 : decode cX7_carve 72 = .ok (.getfield 7, 3) := by decide +kernel
theorem dX7_carve_75 : decode cX7_carve 75 = .ok (.iload 5, 2) := by decide +kernel
theorem dX7_carve_77 : decode cX7_carve 77 = .ok (.iload 4, 2) := by decide +kernel
theorem dX7_carve_79 : decode cX7_carve 79 = .ok (.iastore, 1) := by decide +kernel
theorem dX7_carve_80 : decode cX7_carve 80 = .ok (.iload_n 1, 1) := by decide +kernel
theorem dX7_carve_81 : decode cX7_carve 81 = .ok (.ifCond .ne 19, 3) := by decide +kernel
theorem dX7_carve_84 : decode cX7_carve 84 = .ok (.aload_n 0, 1) := by decide +kernel
theorem dX7_carve_85 : decode cX7_carve 85 = .ok (.getfield 7, 3) := by decide +kernel
theorem dX7_carve_88 : decode cX7_carve 88 = .ok (.sipush 384, 3) := by decide +kernel
theorem dX7_carve_91 : decode cX7_carve 91 = .ok (.bipush 16, 2) := by decide +kernel
theorem dX7_carve_93 : decode cX7_carve 93 = .ok (.iload_n 3, 1) := by decide +kernel
theorem dX7_carve_94 : decode cX7_carve 94 = .ok (.imul, 1) := by decide +kernel
theorem dX7_carve_95 : decode cX7_carve 95 = .ok (.iadd, 1) := by decide +kernel
theorem dX7_carve_96 : decode cX7_carve 96 = .ok (.iload_n 2, 1) := by decide +kernel
theorem dX7_carve_97 : decode cX7_carve 97 = .ok (.iadd, 1) := by decide +kernel
theorem dX7_carve_98 : decode cX7_carve 98 = .ok (.iconst 0, 1) := by decide +kernel
theorem dX7_carve_99 : decode cX7_carve 99 = .ok (.iastore, 1) := by decide +kernel
theorem dX7_carve_100 : decode cX7_carve 100 = .ok (.iload 6, 2) := by decide +kernel
theorem dX7_carve_102 : decode cX7_carve 102 = .ok (.ireturn, 1) := by decide +kernel
set_option maxRecDepth 20000 in
theorem ggX7_plug_X7_isCell : GoodIn wsX7_plug wsX7_isCell := goodIn_r _ [6, 7, 8, 5, 9] (by decide +kernel) (by decide +kernel)
set_option maxRecDepth 20000 in
theorem gX7_plug_X7_isCell : GoodIn wsX7_plug (va_wsS RX7 47 yX7_isCell wsX7_isCell) := goodIn_app (goodIn_of _ (by decide +kernel)) ggX7_plug_X7_isCell
set_option maxRecDepth 20000 in
theorem ggX7_plug_X7_isWorn : GoodIn wsX7_plug wsX7_isWorn := goodIn_r _ [13, 2, 24, 25, 26, 27, 28, 29, 30, 31, 32, 33, 34, 35, 36, 37, 38] (by decide +kernel) (by decide +kernel)
set_option maxRecDepth 20000 in
theorem gX7_plug_X7_isWorn : GoodIn wsX7_plug (wsV RX7 43 RX7 yX7_isWorn wsX7_isWorn) := goodIn_app (goodIn_of _ (by decide +kernel)) ggX7_plug_X7_isWorn
set_option maxRecDepth 20000 in
theorem ggX7_plug_X7_act : GoodIn wsX7_plug wsX7_act := goodIn_r _ [17, 18, 19, 2, 24, 25, 26, 27, 28, 29, 30, 31, 32, 33, 34, 35, 36, 37, 38] (by decide +kernel) (by decide +kernel)
set_option maxRecDepth 20000 in
theorem gX7_plug_X7_act : GoodIn wsX7_plug (wsV RX7 88 RX7 yX7_act wsX7_act) := goodIn_app (goodIn_of _ (by decide +kernel)) ggX7_plug_X7_act
set_option maxRecDepth 20000 in
theorem ggX7_plug_X7_wornCells : GoodIn wsX7_plug wsX7_wornCells := goodIn_r _ [23, 10, 11, 12, 5, 13, 2, 24, 25, 26, 27, 28, 29, 30, 31, 32, 33, 34, 35, 36, 37, 38] (by decide +kernel) (by decide +kernel)
set_option maxRecDepth 20000 in
theorem gX7_plug_X7_wornCells : GoodIn wsX7_plug (wsV RX7 98 RX7 yX7_wornCells wsX7_wornCells) := goodIn_app (goodIn_of _ (by decide +kernel)) ggX7_plug_X7_wornCells
theorem dX7_plug_0 : decode cX7_plug 0 = .ok (.aload_n 0, 1) := by decide +kernel
theorem dX7_plug_1 : decode cX7_plug 1 = .ok (.iconst 0, 1) := by decide +kernel
theorem dX7_plug_2 : decode cX7_plug 2 = .ok (.putfield 28, 3) := by decide +kernel
theorem dX7_plug_5 : decode cX7_plug 5 = .ok (.iload_n 1, 1) := by decide +kernel
theorem dX7_plug_6 : decode cX7_plug 6 = .ok (.iload_n 2, 1) := by decide +kernel
theorem dX7_plug_7 : decode cX7_plug 7 = .ok (.invokestatic 47, 3) := by decide +kernel
theorem dX7_plug_10 : decode cX7_plug 10 = .ok (.ifCond .ne 7, 3) := by decide +kernel
theorem dX7_plug_13 : decode cX7_plug 13 = .ok (.sipush (-1001), 3) := by decide +kernel
theorem dX7_plug_16 : decode cX7_plug 16 = .ok (.ireturn, 1) := by decide +kernel
theorem dX7_plug_17 : decode cX7_plug 17 = .ok (.aload_n 0, 1) := by decide +kernel
theorem dX7_plug_18 : decode cX7_plug 18 = .ok (.bipush 16, 2) := by decide +kernel
theorem dX7_plug_20 : decode cX7_plug 20 = .ok (.iload_n 2, 1) := by decide +kernel
theorem dX7_plug_21 : decode cX7_plug 21 = .ok (.imul, 1) := by decide +kernel
theorem dX7_plug_22 : decode cX7_plug 22 = .ok (.iload_n 1, 1) := by decide +kernel
theorem dX7_plug_23 : decode cX7_plug 23 = .ok (.iadd, 1) := by decide +kernel
theorem dX7_plug_24 : decode cX7_plug 24 = .ok (.invokevirtual 43, 3) := by decide +kernel
theorem dX7_plug_27 : decode cX7_plug 27 = .ok (.ifCond .ne 7, 3) := by decide +kernel
theorem dX7_plug_30 : decode cX7_plug 30 = .ok (.sipush (-1002), 3) := by decide +kernel
theorem dX7_plug_33 : decode cX7_plug 33 = .ok (.ireturn, 1) := by decide +kernel
theorem dX7_plug_34 : decode cX7_plug 34 = .ok (.aload_n 0, 1) := by decide +kernel
theorem dX7_plug_35 : decode cX7_plug 35 = .ok (.invokevirtual 88, 3) := by decide +kernel
theorem dX7_plug_38 : decode cX7_plug 38 = .ok (.aload_n 0, 1) := by decide +kernel
theorem dX7_plug_39 : decode cX7_plug 39 = .ok (.getfield 7, 3) := by decide +kernel
theorem dX7_plug_42 : decode cX7_plug 42 = .ok (.sipush 384, 3) := by decide +kernel
theorem dX7_plug_45 : decode cX7_plug 45 = .ok (.bipush 16, 2) := by decide +kernel
theorem dX7_plug_47 : decode cX7_plug 47 = .ok (.iload_n 2, 1) := by decide +kernel
theorem dX7_plug_48 : decode cX7_plug 48 = .ok (.imul, 1) := by decide +kernel
theorem dX7_plug_49 : decode cX7_plug 49 = .ok (.iadd, 1) := by decide +kernel
theorem dX7_plug_50 : decode cX7_plug 50 = .ok (.iload_n 1, 1) := by decide +kernel
theorem dX7_plug_51 : decode cX7_plug 51 = .ok (.iadd, 1) := by decide +kernel
theorem dX7_plug_52 : decode cX7_plug 52 = .ok (.iconst 0, 1) := by decide +kernel
theorem dX7_plug_53 : decode cX7_plug 53 = .ok (.iastore, 1) := by decide +kernel
theorem dX7_plug_54 : decode cX7_plug 54 = .ok (.aload_n 0, 1) := by decide +kernel
theorem dX7_plug_55 : decode cX7_plug 55 = .ok (.invokevirtual 98, 3) := by decide +kernel
theorem dX7_plug_58 : decode cX7_plug 58 = .ok (.ireturn, 1) := by decide +kernel
set_option maxRecDepth 20000 in
theorem ggX7_setPins_X7_in : GoodIn wsX7_setPins wsX7_in := goodIn_r _ [7] (by decide +kernel) (by decide +kernel)
set_option maxRecDepth 20000 in
theorem gX7_setPins_X7_in : GoodIn wsX7_setPins (va_wsS RX7 32 yX7_in wsX7_in) := goodIn_app (goodIn_of _ (by decide +kernel)) ggX7_setPins_X7_in
set_option maxRecDepth 20000 in
theorem ggX7_setPins_X7_act : GoodIn wsX7_setPins wsX7_act := goodIn_r _ [11, 12, 13, 2, 52, 53, 54, 55, 56, 57, 58, 59, 60, 61, 62, 63, 64, 65, 66] (by decide +kernel) (by decide +kernel)
set_option maxRecDepth 20000 in
theorem gX7_setPins_X7_act : GoodIn wsX7_setPins (wsV RX7 88 RX7 yX7_act wsX7_act) := goodIn_app (goodIn_of _ (by decide +kernel)) ggX7_setPins_X7_act
set_option maxRecDepth 20000 in
theorem ggX7_setPins_X7_checkNow : GoodIn wsX7_setPins wsX7_checkNow := goodIn_r _ [17, 2, 18, 19, 20, 6, 21, 22, 23, 24, 25, 26, 27, 28, 29, 30, 31, 32, 33, 34, 35, 36, 37, 38, 3, 39, 40, 41, 42, 43, 44, 45, 46, 47, 48, 49, 50, 51, 4, 5, 7, 52, 53, 54, 55, 56, 57, 58, 59, 60, 61, 62, 63, 64, 65, 66] (by decide +kernel) (by decide +kernel)
set_option maxRecDepth 20000 in
theorem gX7_setPins_X7_checkNow : GoodIn wsX7_setPins (wsV RX7 102 RX7 yX7_checkNow wsX7_checkNow) := goodIn_app (goodIn_of _ (by decide +kernel)) ggX7_setPins_X7_checkNow
theorem dX7_setPins_0 : decode cX7_setPins 0 = .ok (.aload_n 0, 1) := by decide +kernel
theorem dX7_setPins_1 : decode cX7_setPins 1 = .ok (.iconst 0, 1) := by decide +kernel
theorem dX7_setPins_2 : decode cX7_setPins 2 = .ok (.putfield 28, 3) := by decide +kernel
theorem dX7_setPins_5 : decode cX7_setPins 5 = .ok (.iload_n 1, 1) := by decide +kernel
theorem dX7_setPins_6 : decode cX7_setPins 6 = .ok (.bipush (-4), 2) := by decide +kernel
theorem dX7_setPins_8 : decode cX7_setPins 8 = .ok (.iconst 4, 1) := by decide +kernel
theorem dX7_setPins_9 : decode cX7_setPins 9 = .ok (.invokestatic 32, 3) := by decide +kernel
theorem dX7_setPins_12 : decode cX7_setPins 12 = .ok (.ifCond .eq 13, 3) := by decide +kernel
theorem dX7_setPins_15 : decode cX7_setPins 15 = .ok (.iload_n 2, 1) := by decide +kernel
theorem dX7_setPins_16 : decode cX7_setPins 16 = .ok (.bipush (-4), 2) := by decide +kernel
theorem dX7_setPins_18 : decode cX7_setPins 18 = .ok (.iconst 4, 1) := by decide +kernel
theorem dX7_setPins_19 : decode cX7_setPins 19 = .ok (.invokestatic 32, 3) := by decide +kernel
theorem dX7_setPins_22 : decode cX7_setPins 22 = .ok (.ifCond .ne 7, 3) := by decide +kernel
theorem dX7_setPins_25 : decode cX7_setPins 25 = .ok (.sipush (-1001), 3) := by decide +kernel
theorem dX7_setPins_28 : decode cX7_setPins 28 = .ok (.ireturn, 1) := by decide +kernel
theorem dX7_setPins_29 : decode cX7_setPins 29 = .ok (.aload_n 0, 1) := by decide +kernel
theorem dX7_setPins_30 : decode cX7_setPins 30 = .ok (.invokevirtual 88, 3) := by decide +kernel
theorem dX7_setPins_33 : decode cX7_setPins 33 = .ok (.aload_n 0, 1) := by decide +kernel
theorem dX7_setPins_34 : decode cX7_setPins 34 = .ok (.getfield 7, 3) := by decide +kernel
theorem dX7_setPins_37 : decode cX7_setPins 37 = .ok (.sipush 773, 3) := by decide +kernel
theorem dX7_setPins_40 : decode cX7_setPins 40 = .ok (.iload_n 1, 1) := by decide +kernel
theorem dX7_setPins_41 : decode cX7_setPins 41 = .ok (.iastore, 1) := by decide +kernel
theorem dX7_setPins_42 : decode cX7_setPins 42 = .ok (.aload_n 0, 1) := by decide +kernel
theorem dX7_setPins_43 : decode cX7_setPins 43 = .ok (.getfield 7, 3) := by decide +kernel
theorem dX7_setPins_46 : decode cX7_setPins 46 = .ok (.sipush 774, 3) := by decide +kernel
theorem dX7_setPins_49 : decode cX7_setPins 49 = .ok (.iload_n 2, 1) := by decide +kernel
theorem dX7_setPins_50 : decode cX7_setPins 50 = .ok (.iastore, 1) := by decide +kernel
theorem dX7_setPins_51 : decode cX7_setPins 51 = .ok (.aload_n 0, 1) := by decide +kernel
theorem dX7_setPins_52 : decode cX7_setPins 52 = .ok (.invokevirtual 102, 3) := by decide +kernel
theorem dX7_setPins_55 : decode cX7_setPins 55 = .ok (.aload_n 0, 1) := by decide +kernel
theorem dX7_setPins_56 : decode cX7_setPins 56 = .ok (.getfield 61, 3) := by decide +kernel
theorem dX7_setPins_59 : decode cX7_setPins 59 = .ok (.ireturn, 1) := by decide +kernel
set_option maxRecDepth 20000 in
theorem ggX7_isSetting_X7_in : GoodIn wsX7_isSetting wsX7_in := goodIn_r _ [4] (by decide +kernel) (by decide +kernel)
set_option maxRecDepth 20000 in
theorem gX7_isSetting_X7_in : GoodIn wsX7_isSetting (va_wsS RX7 32 yX7_in wsX7_in) := goodIn_app (goodIn_of _ (by decide +kernel)) ggX7_isSetting_X7_in
theorem dX7_isSetting_0 : decode cX7_isSetting 0 = .ok (.iload_n 0, 1) := by decide +kernel
theorem dX7_isSetting_1 : decode cX7_isSetting 1 = .ok (.tableswitch 68 0 4 #[35, 43, 43, 51, 60], 35) := by decide +kernel
theorem dX7_isSetting_36 : decode cX7_isSetting 36 = .ok (.iload_n 1, 1) := by decide +kernel
theorem dX7_isSetting_37 : decode cX7_isSetting 37 = .ok (.iconst 0, 1) := by decide +kernel
theorem dX7_isSetting_38 : decode cX7_isSetting 38 = .ok (.bipush 100, 2) := by decide +kernel
theorem dX7_isSetting_40 : decode cX7_isSetting 40 = .ok (.invokestatic 32, 3) := by decide +kernel
theorem dX7_isSetting_43 : decode cX7_isSetting 43 = .ok (.ireturn, 1) := by decide +kernel
theorem dX7_isSetting_44 : decode cX7_isSetting 44 = .ok (.iload_n 1, 1) := by decide +kernel
theorem dX7_isSetting_45 : decode cX7_isSetting 45 = .ok (.bipush (-4), 2) := by decide +kernel
theorem dX7_isSetting_47 : decode cX7_isSetting 47 = .ok (.iconst 4, 1) := by decide +kernel
theorem dX7_isSetting_48 : decode cX7_isSetting 48 = .ok (.invokestatic 32, 3) := by decide +kernel
theorem dX7_isSetting_51 : decode cX7_isSetting 51 = .ok (.ireturn, 1) := by decide +kernel
theorem dX7_isSetting_52 : decode cX7_isSetting 52 = .ok (.iload_n 1, 1) := by decide +kernel
theorem dX7_isSetting_53 : decode cX7_isSetting 53 = .ok (.iconst 1, 1) := by decide +kernel
theorem dX7_isSetting_54 : decode cX7_isSetting 54 = .ok (.sipush 1000, 3) := by decide +kernel
theorem dX7_isSetting_57 : decode cX7_isSetting 57 = .ok (.invokestatic 32, 3) := by decide +kernel
theorem dX7_isSetting_60 : decode cX7_isSetting 60 = .ok (.ireturn, 1) := by decide +kernel
theorem dX7_isSetting_61 : decode cX7_isSetting 61 = .ok (.iload_n 1, 1) := by decide +kernel
theorem dX7_isSetting_62 : decode cX7_isSetting 62 = .ok (.iconst 0, 1) := by decide +kernel
theorem dX7_isSetting_63 : decode cX7_isSetting 63 = .ok (.bipush 10, 2) := by decide +kernel
theorem dX7_isSetting_65 : decode cX7_isSetting 65 = .ok (.invokestatic 32, 3) := by decide +kernel
theorem dX7_isSetting_68 : decode cX7_isSetting 68 = .ok (.ireturn, 1) := by decide +kernel
theorem dX7_isSetting_69 : decode cX7_isSetting 69 = .ok (.iconst 0, 1) := by decide +kernel
theorem dX7_isSetting_70 : decode cX7_isSetting 70 = .ok (.ireturn, 1) := by decide +kernel
set_option maxRecDepth 20000 in
theorem ggX7_set_X7_isSetting : GoodIn wsX7_set wsX7_isSetting := goodIn_r _ [6, 7, 8, 5, 9] (by decide +kernel) (by decide +kernel)
set_option maxRecDepth 20000 in
theorem gX7_set_X7_isSetting : GoodIn wsX7_set (va_wsS RX7 105 yX7_isSetting wsX7_isSetting) := goodIn_app (goodIn_of _ (by decide +kernel)) ggX7_set_X7_isSetting
set_option maxRecDepth 20000 in
theorem ggX7_set_X7_act : GoodIn wsX7_set wsX7_act := goodIn_r _ [13, 14, 15, 2, 16, 17, 18, 19, 20, 21, 22, 23, 24, 25, 26, 27, 28, 29, 30] (by decide +kernel) (by decide +kernel)
set_option maxRecDepth 20000 in
theorem gX7_set_X7_act : GoodIn wsX7_set (wsV RX7 88 RX7 yX7_act wsX7_act) := goodIn_app (goodIn_of _ (by decide +kernel)) ggX7_set_X7_act
theorem dX7_set_0 : decode cX7_set 0 = .ok (.aload_n 0, 1) := by decide +kernel
theorem dX7_set_1 : decode cX7_set 1 = .ok (.iconst 0, 1) := by decide +kernel
theorem dX7_set_2 : decode cX7_set 2 = .ok (.putfield 28, 3) := by decide +kernel
theorem dX7_set_5 : decode cX7_set 5 = .ok (.iload_n 1, 1) := by decide +kernel
theorem dX7_set_6 : decode cX7_set 6 = .ok (.iload_n 2, 1) := by decide +kernel
theorem dX7_set_7 : decode cX7_set 7 = .ok (.invokestatic 105, 3) := by decide +kernel
theorem dX7_set_10 : decode cX7_set 10 = .ok (.ifCond .ne 7, 3) := by decide +kernel
theorem dX7_set_13 : decode cX7_set 13 = .ok (.sipush (-1001), 3) := by decide +kernel
theorem dX7_set_16 : decode cX7_set 16 = .ok (.ireturn, 1) := by decide +kernel
theorem dX7_set_17 : decode cX7_set 17 = .ok (.aload_n 0, 1) := by decide +kernel
theorem dX7_set_18 : decode cX7_set 18 = .ok (.invokevirtual 88, 3) := by decide +kernel
theorem dX7_set_21 : decode cX7_set 21 = .ok (.aload_n 0, 1) := by decide +kernel
theorem dX7_set_22 : decode cX7_set 22 = .ok (.getfield 7, 3) := by decide +kernel
theorem dX7_set_25 : decode cX7_set 25 = .ok (.sipush 768, 3) := by decide +kernel
theorem dX7_set_28 : decode cX7_set 28 = .ok (.iload_n 1, 1) := by decide +kernel
theorem dX7_set_29 : decode cX7_set 29 = .ok (.iadd, 1) := by decide +kernel
theorem dX7_set_30 : decode cX7_set 30 = .ok (.iaload, 1) := by decide +kernel
theorem dX7_set_31 : decode cX7_set 31 = .ok (.istore_n 3, 1) := by decide +kernel
theorem dX7_set_32 : decode cX7_set 32 = .ok (.aload_n 0, 1) := by decide +kernel
theorem dX7_set_33 : decode cX7_set 33 = .ok (.getfield 7, 3) := by decide +kernel
theorem dX7_set_36 : decode cX7_set 36 = .ok (.sipush 768, 3) := by decide +kernel
theorem dX7_set_39 : decode cX7_set 39 = .ok (.iload_n 1, 1) := by decide +kernel
theorem dX7_set_40 : decode cX7_set 40 = .ok (.iadd, 1) := by decide +kernel
theorem dX7_set_41 : decode cX7_set 41 = .ok (.iload_n 2, 1) := by decide +kernel
theorem dX7_set_42 : decode cX7_set 42 = .ok (.iastore, 1) := by decide +kernel
theorem dX7_set_43 : decode cX7_set 43 = .ok (.iload_n 3, 1) := by decide +kernel
theorem dX7_set_44 : decode cX7_set 44 = .ok (.ireturn, 1) := by decide +kernel
set_option maxRecDepth 20000 in
theorem ggX7_rubs_X7_beside : GoodIn wsX7_rubs wsX7_beside := goodIn_r _ [5, 6, 7, 4, 8, 9, 10, 11] (by decide +kernel) (by decide +kernel)
set_option maxRecDepth 20000 in
theorem gX7_rubs_X7_beside : GoodIn wsX7_rubs (va_wsS RX7 51 yX7_beside wsX7_beside) := goodIn_app (goodIn_of _ (by decide +kernel)) ggX7_rubs_X7_beside
theorem dX7_rubs_0 : decode cX7_rubs 0 = .ok (.iconst 1, 1) := by decide +kernel
theorem dX7_rubs_1 : decode cX7_rubs 1 = .ok (.istore_n 2, 1) := by decide +kernel
theorem dX7_rubs_2 : decode cX7_rubs 2 = .ok (.iconst 0, 1) := by decide +kernel
theorem dX7_rubs_3 : decode cX7_rubs 3 = .ok (.istore_n 3, 1) := by decide +kernel
theorem dX7_rubs_4 : decode cX7_rubs 4 = .ok (.iload_n 3, 1) := by decide +kernel
theorem dX7_rubs_5 : decode cX7_rubs 5 = .ok (.iconst 4, 1) := by decide +kernel
theorem dX7_rubs_6 : decode cX7_rubs 6 = .ok (.if_icmp .ge 40, 3) := by decide +kernel
theorem dX7_rubs_9 : decode cX7_rubs 9 = .ok (.iload_n 1, 1) := by decide +kernel
theorem dX7_rubs_10 : decode cX7_rubs 10 = .ok (.iload_n 3, 1) := by decide +kernel
theorem dX7_rubs_11 : decode cX7_rubs 11 = .ok (.invokestatic 51, 3) := by decide +kernel
theorem dX7_rubs_14 : decode cX7_rubs 14 = .ok (.istore 4, 2) := by decide +kernel
theorem dX7_rubs_16 : decode cX7_rubs 16 = .ok (.iload_n 2, 1) := by decide +kernel
theorem dX7_rubs_17 : decode cX7_rubs 17 = .ok (.iload 4, 2) := by decide +kernel
theorem dX7_rubs_19 : decode cX7_rubs 19 = .ok (.iconst (-1), 1) := by decide +kernel
theorem dX7_rubs_20 : decode cX7_rubs 20 = .ok (.if_icmp .eq 13, 3) := by decide +kernel
theorem dX7_rubs_23 : decode cX7_rubs 23 = .ok (.aload_n 0, 1) := by decide +kernel
theorem dX7_rubs_24 : decode cX7_rubs 24 = .ok (.getfield 19, 3) := by decide +kernel
theorem dX7_rubs_27 : decode cX7_rubs 27 = .ok (.iload 4, 2) := by decide +kernel
theorem dX7_rubs_29 : decode cX7_rubs 29 = .ok (.iaload, 1) := by decide +kernel
theorem dX7_rubs_30 : decode cX7_rubs 30 = .ok (.ifCond .ne 7, 3) := by decide +kernel
theorem dX7_rubs_33 : decode cX7_rubs 33 = .ok (.iconst 1, 1) := by decide +kernel
theorem dX7_rubs_34 : decode cX7_rubs 34 = .ok (.goto 4, 3) := by decide +kernel
theorem dX7_rubs_37 : decode cX7_rubs 37 = .ok (.iconst 0, 1) := by decide +kernel
theorem dX7_rubs_38 : decode cX7_rubs 38 = .ok (.iadd, 1) := by decide +kernel
theorem dX7_rubs_39 : decode cX7_rubs 39 = .ok (.istore_n 2, 1) := by decide +kernel
theorem dX7_rubs_40 : decode cX7_rubs 40 = .ok (.iinc 3 1, 3) := by decide +kernel
theorem dX7_rubs_43 : decode cX7_rubs 43 = .ok (.goto (-39), 3) := by decide +kernel
theorem dX7_rubs_46 : decode cX7_rubs 46 = .ok (.iload_n 2, 1) := by decide +kernel
theorem dX7_rubs_47 : decode cX7_rubs 47 = .ok (.ireturn, 1) := by decide +kernel
set_option maxRecDepth 20000 in
theorem ggX7_printOne_X7_checkNow : GoodIn wsX7_printOne wsX7_checkNow := goodIn_r _ [10, 1, 11, 12, 13, 9, 14, 5, 15, 16, 17, 18, 19, 20, 21, 22, 23, 24, 25, 26, 27, 28, 29, 30, 2, 3, 4, 31, 32, 33, 34, 35, 36, 37, 38, 39, 40, 41, 42, 43, 44, 52, 53, 54, 55, 56, 57, 58, 59, 60, 61, 62, 63, 64, 65, 66] (by decide +kernel) (by decide +kernel)
set_option maxRecDepth 20000 in
theorem gX7_printOne_X7_checkNow : GoodIn wsX7_printOne (wsV RX7 102 RX7 yX7_checkNow wsX7_checkNow) := goodIn_app (goodIn_of _ (by decide +kernel)) ggX7_printOne_X7_checkNow
set_option maxRecDepth 20000 in
theorem ggX7_printOne_X7_shiftX : GoodIn wsX7_printOne wsX7_shiftX := goodIn_r _ [22, 1, 52, 53, 54, 55, 56, 57, 58, 59, 60, 61, 62, 63, 64, 65, 66] (by decide +kernel) (by decide +kernel)
set_option maxRecDepth 20000 in
theorem gX7_printOne_X7_shiftX : GoodIn wsX7_printOne (wsV RX7 81 RX7 yX7_shiftX wsX7_shiftX) := goodIn_app (goodIn_of _ (by decide +kernel)) ggX7_printOne_X7_shiftX
set_option maxRecDepth 20000 in
theorem ggX7_printOne_X7_shiftY : GoodIn wsX7_printOne wsX7_shiftY := goodIn_r _ [26, 1, 52, 53, 54, 55, 56, 57, 58, 59, 60, 61, 62, 63, 64, 65, 66] (by decide +kernel) (by decide +kernel)
set_option maxRecDepth 20000 in
theorem gX7_printOne_X7_shiftY : GoodIn wsX7_printOne (wsV RX7 85 RX7 yX7_shiftY wsX7_shiftY) := goodIn_app (goodIn_of _ (by decide +kernel)) ggX7_printOne_X7_shiftY
set_option maxRecDepth 20000 in
theorem ggX7_printOne_X7_rubs : GoodIn wsX7_printOne wsX7_rubs := goodIn_r _ [48, 5, 49, 50, 9, 51, 39, 40, 41, 42, 43, 44, 52, 53, 54, 55, 56, 57, 58, 59, 60, 61, 62, 63, 64, 65, 66] (by decide +kernel) (by decide +kernel)
set_option maxRecDepth 20000 in
theorem gX7_printOne_X7_rubs : GoodIn wsX7_printOne (wsV RX7 108 RX7 yX7_rubs wsX7_rubs) := goodIn_app (goodIn_of _ (by decide +kernel)) ggX7_printOne_X7_rubs
theorem dX7_printOne_0 : decode cX7_printOne 0 = .ok (.aload_n 0, 1) := by decide +kernel
theorem dX7_printOne_1 : decode cX7_printOne 1 = .ok (.invokevirtual 102, 3) := by decide +kernel
theorem dX7_printOne_4 : decode cX7_printOne 4 = .ok (.sipush 776, 3) := by decide +kernel
theorem dX7_printOne_7 : decode cX7_printOne 7 = .ok (.iconst 5, 1) := by decide +kernel
theorem dX7_printOne_8 : decode cX7_printOne 8 = .ok (.aload_n 0, 1) := by decide +kernel
theorem dX7_printOne_9 : decode cX7_printOne 9 = .ok (.getfield 7, 3) := by decide +kernel
theorem dX7_printOne_12 : decode cX7_printOne 12 = .ok (.sipush 775, 3) := by decide +kernel
theorem dX7_printOne_15 : decode cX7_printOne 15 = .ok (.iaload, 1) := by decide +kernel
theorem dX7_printOne_16 : decode cX7_printOne 16 = .ok (.bipush 12, 2) := by decide +kernel
theorem dX7_printOne_18 : decode cX7_printOne 18 = .ok (.irem, 1) := by decide +kernel
theorem dX7_printOne_19 : decode cX7_printOne 19 = .ok (.imul, 1) := by decide +kernel
theorem dX7_printOne_20 : decode cX7_printOne 20 = .ok (.iadd, 1) := by decide +kernel
theorem dX7_printOne_21 : decode cX7_printOne 21 = .ok (.istore_n 1, 1) := by decide +kernel
theorem dX7_printOne_22 : decode cX7_printOne 22 = .ok (.aload_n 0, 1) := by decide +kernel
theorem dX7_printOne_23 : decode cX7_printOne 23 = .ok (.getfield 7, 3) := by decide +kernel
theorem dX7_printOne_26 : decode cX7_printOne 26 = .ok (.iload_n 1, 1) := by decide +kernel
theorem dX7_printOne_27 : decode cX7_printOne 27 = .ok (.aload_n 0, 1) := by decide +kernel
theorem dX7_printOne_28 : decode cX7_printOne 28 = .ok (.aload_n 0, 1) := by decide +kernel
theorem dX7_printOne_29 : decode cX7_printOne 29 = .ok (.getfield 7, 3) := by decide +kernel
theorem dX7_printOne_32 : decode cX7_printOne 32 = .ok (.sipush 773, 3) := by decide +kernel
theorem dX7_printOne_35 : decode cX7_printOne 35 = .ok (.iaload, 1) := by decide +kernel
theorem dX7_printOne_36 : decode cX7_printOne 36 = .ok (.invokevirtual 81, 3) := by decide +kernel
theorem dX7_printOne_39 : decode cX7_printOne 39 = .ok (.iastore, 1) := by decide +kernel
theorem dX7_printOne_40 : decode cX7_printOne 40 = .ok (.aload_n 0, 1) := by decide +kernel
theorem dX7_printOne_41 : decode cX7_printOne 41 = .ok (.getfield 7, 3) := by decide +kernel
theorem dX7_printOne_44 : decode cX7_printOne 44 = .ok (.iload_n 1, 1) := by decide +kernel
theorem dX7_printOne_45 : decode cX7_printOne 45 = .ok (.iconst 1, 1) := by decide +kernel
theorem dX7_printOne_46 : decode cX7_printOne 46 = .ok (.iadd, 1) := by decide +kernel
theorem dX7_printOne_47 : decode cX7_printOne 47 = .ok (.aload_n 0, 1) := by decide +kernel
theorem dX7_printOne_48 : decode cX7_printOne 48 = .ok (.aload_n 0, 1) := by decide +kernel
theorem dX7_printOne_49 : decode cX7_printOne 49 = .ok (.getfield 7, 3) := by decide +kernel
theorem dX7_printOne_52 : decode cX7_printOne 52 = .ok (.sipush 774, 3) := by decide +kernel
theorem dX7_printOne_55 : decode cX7_printOne 55 = .ok (.iaload, 1) := by decide +kernel
theorem dX7_printOne_56 : decode cX7_printOne 56 = .ok (.invokevirtual 85, 3) := by decide +kernel
theorem dX7_printOne_59 : decode cX7_printOne 59 = .ok (.iastore, 1) := by decide +kernel
theorem dX7_printOne_60 : decode cX7_printOne 60 = .ok (.aload_n 0, 1) := by decide +kernel
theorem dX7_printOne_61 : decode cX7_printOne 61 = .ok (.getfield 7, 3) := by decide +kernel
theorem dX7_printOne_64 : decode cX7_printOne 64 = .ok (.iload_n 1, 1) := by decide +kernel
theorem dX7_printOne_65 : decode cX7_printOne 65 = .ok (.iconst 2, 1) := by decide +kernel
theorem dX7_printOne_66 : decode cX7_printOne 66 = .ok (.iadd, 1) := by decide +kernel
theorem dX7_printOne_67 : decode cX7_printOne 67 = .ok (.aload_n 0, 1) := by decide +kernel
theorem dX7_printOne_68 : decode cX7_printOne 68 = .ok (.getfield 61, 3) := by decide +kernel
theorem dX7_printOne_71 : decode cX7_printOne 71 = .ok (.iastore, 1) := by decide +kernel
theorem dX7_printOne_72 : decode cX7_printOne 72 = .ok (.aload_n 0, 1) := by decide +kernel
theorem dX7_printOne_73 : decode cX7_printOne 73 = .ok (.getfield 7, 3) := by decide +kernel
theorem dX7_printOne_76 : decode cX7_printOne 76 = .ok (.iload_n 1, 1) := by decide +kernel
theorem dX7_printOne_77 : decode cX7_printOne 77 = .ok (.iconst 3, 1) := by decide +kernel
theorem dX7_printOne_78 : decode cX7_printOne 78 = .ok (.iadd, 1) := by decide +kernel
theorem dX7_printOne_79 : decode cX7_printOne 79 = .ok (.aload_n 0, 1) := by decide +kernel
theorem dX7_printOne_80 : decode cX7_printOne 80 = .ok (.getfield 64, 3) := by decide +kernel
theorem dX7_printOne_83 : decode cX7_printOne 83 = .ok (.iastore, 1) := by decide +kernel
theorem dX7_printOne_84 : decode cX7_printOne 84 = .ok (.aload_n 0, 1) := by decide +kernel
theorem dX7_printOne_85 : decode cX7_printOne 85 = .ok (.getfield 7, 3) := by decide +kernel
theorem dX7_printOne_88 : decode cX7_printOne 88 = .ok (.iload_n 1, 1) := by decide +kernel
theorem dX7_printOne_89 : decode cX7_printOne 89 = .ok (.iconst 4, 1) := by decide +kernel
theorem dX7_printOne_90 : decode cX7_printOne 90 = .ok (.iadd, 1) := by decide +kernel
theorem dX7_printOne_91 : decode cX7_printOne 91 = .ok (.aload_n 0, 1) := by decide +kernel
theorem dX7_printOne_92 : decode cX7_printOne 92 = .ok (.getfield 67, 3) := by decide +kernel
theorem dX7_printOne_95 : decode cX7_printOne 95 = .ok (.iastore, 1) := by decide +kernel
theorem dX7_printOne_96 : decode cX7_printOne 96 = .ok (.aload_n 0, 1) := by decide +kernel
theorem dX7_printOne_97 : decode cX7_printOne 97 = .ok (.getfield 7, 3) := by decide +kernel
theorem dX7_printOne_100 : decode cX7_printOne 100 = .ok (.sipush 775, 3) := by decide +kernel
theorem dX7_printOne_103 : decode cX7_printOne 103 = .ok (.dup2, 1) := by decide +kernel
theorem dX7_printOne_104 : decode cX7_printOne 104 = .ok (.iaload, 1) := by decide +kernel
theorem dX7_printOne_105 : decode cX7_printOne 105 = .ok (.iconst 1, 1) := by decide +kernel
theorem dX7_printOne_106 : decode cX7_printOne 106 = .ok (.iadd, 1) := by decide +kernel
theorem dX7_printOne_107 : decode cX7_printOne 107 = .ok (.iastore, 1) := by decide +kernel
theorem dX7_printOne_108 : decode cX7_printOne 108 = .ok (.iconst 0, 1) := by decide +kernel
theorem dX7_printOne_109 : decode cX7_printOne 109 = .ok (.istore_n 2, 1) := by decide +kernel
theorem dX7_printOne_110 : decode cX7_printOne 110 = .ok (.iload_n 2, 1) := by decide +kernel
theorem dX7_printOne_111 : decode cX7_printOne 111 = .ok (.sipush 192, 3) := by decide +kernel
theorem dX7_printOne_114 : decode cX7_printOne 114 = .ok (.if_icmp .ge 41, 3) := by decide +kernel
theorem dX7_printOne_117 : decode cX7_printOne 117 = .ok (.aload_n 0, 1) := by decide +kernel
theorem dX7_printOne_118 : decode cX7_printOne 118 = .ok (.getfield 7, 3) := by decide +kernel
theorem dX7_printOne_121 : decode cX7_printOne 121 = .ok (.sipush 384, 3) := by decide +kernel
theorem dX7_printOne_124 : decode cX7_printOne 124 = .ok (.iload_n 2, 1) := by decide +kernel
theorem dX7_printOne_125 : decode cX7_printOne 125 = .ok (.iadd, 1) := by decide +kernel
theorem dX7_printOne_126 : decode cX7_printOne 126 = .ok (.dup2, 1) := by decide +kernel
theorem dX7_printOne_127 : decode cX7_printOne 127 = .ok (.iaload, 1) := by decide +kernel
theorem dX7_printOne_128 : decode cX7_printOne 128 = .ok (.aload_n 0, 1) := by decide +kernel
theorem dX7_printOne_129 : decode cX7_printOne 129 = .ok (.getfield 19, 3) := by decide +kernel
theorem dX7_printOne_132 : decode cX7_printOne 132 = .ok (.iload_n 2, 1) := by decide +kernel
theorem dX7_printOne_133 : decode cX7_printOne 133 = .ok (.iaload, 1) := by decide +kernel
theorem dX7_printOne_134 : decode cX7_printOne 134 = .ok (.iconst 1, 1) := by decide +kernel
theorem dX7_printOne_135 : decode cX7_printOne 135 = .ok (.if_icmp .ne 11, 3) := by decide +kernel
theorem dX7_printOne_138 : decode cX7_printOne 138 = .ok (.aload_n 0, 1) := by decide +kernel
theorem dX7_printOne_139 : decode cX7_printOne 139 = .ok (.iload_n 2, 1) := by decide +kernel
theorem dX7_printOne_140 : decode cX7_printOne 140 = .ok (.invokevirtual 108, 3) := by decide +kernel
theorem dX7_printOne_143 : decode cX7_printOne 143 = .ok (.goto 4, 3) := by decide +kernel
theorem dX7_printOne_146 : decode cX7_printOne 146 = .ok (.iconst 0, 1) := by decide +kernel
theorem dX7_printOne_147 : decode cX7_printOne 147 = .ok (.iadd, 1) := by decide +kernel
theorem dX7_printOne_148 : decode cX7_printOne 148 = .ok (.iastore, 1) := by decide +kernel
theorem dX7_printOne_149 : decode cX7_printOne 149 = .ok (.iinc 2 1, 3) := by decide +kernel
theorem dX7_printOne_152 : decode cX7_printOne 152 = .ok (.goto (-42), 3) := by decide +kernel
theorem dX7_printOne_155 : decode cX7_printOne 155 = .ok (.aload_n 0, 1) := by decide +kernel
theorem dX7_printOne_156 : decode cX7_printOne 156 = .ok (.getfield 7, 3) := by decide +kernel
theorem dX7_printOne_159 : decode cX7_printOne 159 = .ok (.sipush 768, 3) := by decide +kernel
theorem dX7_printOne_162 : decode cX7_printOne 162 = .ok (.aload_n 0, 1) := by decide +kernel
theorem dX7_printOne_163 : decode cX7_printOne 163 = .ok (.getfield 7, 3) := by decide +kernel
theorem dX7_printOne_166 : decode cX7_printOne 166 = .ok (.sipush 768, 3) := by decide +kernel
theorem dX7_printOne_169 : decode cX7_printOne 169 = .ok (.iaload, 1) := by decide +kernel
theorem dX7_printOne_170 : decode cX7_printOne 170 = .ok (.aload_n 0, 1) := by decide +kernel
theorem dX7_printOne_171 : decode cX7_printOne 171 = .ok (.getfield 7, 3) := by decide +kernel
theorem dX7_printOne_174 : decode cX7_printOne 174 = .ok (.sipush 772, 3) := by decide +kernel
theorem dX7_printOne_177 : decode cX7_printOne 177 = .ok (.iaload, 1) := by decide +kernel
theorem dX7_printOne_178 : decode cX7_printOne 178 = .ok (.if_icmp .le 23, 3) := by decide +kernel
theorem dX7_printOne_181 : decode cX7_printOne 181 = .ok (.aload_n 0, 1) := by decide +kernel
theorem dX7_printOne_182 : decode cX7_printOne 182 = .ok (.getfield 7, 3) := by decide +kernel
theorem dX7_printOne_185 : decode cX7_printOne 185 = .ok (.sipush 768, 3) := by decide +kernel
theorem dX7_printOne_188 : decode cX7_printOne 188 = .ok (.iaload, 1) := by decide +kernel
theorem dX7_printOne_189 : decode cX7_printOne 189 = .ok (.aload_n 0, 1) := by decide +kernel
theorem dX7_printOne_190 : decode cX7_printOne 190 = .ok (.getfield 7, 3) := by decide +kernel
theorem dX7_printOne_193 : decode cX7_printOne 193 = .ok (.sipush 772, 3) := by decide +kernel
theorem dX7_printOne_196 : decode cX7_printOne 196 = .ok (.iaload, 1) := by decide +kernel
theorem dX7_printOne_197 : decode cX7_printOne 197 = .ok (.isub, 1) := by decide +kernel
theorem dX7_printOne_198 : decode cX7_printOne 198 = .ok (.goto 4, 3) := by decide +kernel
theorem dX7_printOne_201 : decode cX7_printOne 201 = .ok (.iconst 0, 1) := by decide +kernel
theorem dX7_printOne_202 : decode cX7_printOne 202 = .ok (.iastore, 1) := by decide +kernel
theorem dX7_printOne_203 : decode cX7_printOne 203 = .ok (.return_, 1) := by decide +kernel
set_option maxRecDepth 20000 in
theorem ggX7_print_X7_in : GoodIn wsX7_print wsX7_in := goodIn_r _ [7] (by decide +kernel) (by decide +kernel)
set_option maxRecDepth 20000 in
theorem gX7_print_X7_in : GoodIn wsX7_print (va_wsS RX7 32 yX7_in wsX7_in) := goodIn_app (goodIn_of _ (by decide +kernel)) ggX7_print_X7_in
set_option maxRecDepth 20000 in
theorem ggX7_print_X7_act : GoodIn wsX7_print wsX7_act := goodIn_r _ [11, 12, 13, 2, 63, 64, 65, 66, 67, 68, 69, 70, 71, 72, 73, 74, 75, 76, 77] (by decide +kernel) (by decide +kernel)
set_option maxRecDepth 20000 in
theorem gX7_print_X7_act : GoodIn wsX7_print (wsV RX7 88 RX7 yX7_act wsX7_act) := goodIn_app (goodIn_of _ (by decide +kernel)) ggX7_print_X7_act
set_option maxRecDepth 20000 in
theorem ggX7_print_X7_printOne : GoodIn wsX7_print wsX7_printOne := goodIn_r _ [17, 2, 3, 18, 19, 20, 21, 22, 23, 6, 24, 25, 26, 27, 28, 29, 30, 31, 32, 33, 34, 35, 36, 37, 38, 39, 40, 41, 42, 43, 44, 45, 46, 47, 48, 49, 50, 51, 52, 53, 54, 55, 4, 5, 7, 56, 57, 58, 59, 60, 61, 62, 63, 64, 65, 66, 67, 68, 69, 70, 71, 72, 73, 74, 75, 76, 77] (by decide +kernel) (by decide +kernel)
set_option maxRecDepth 20000 in
theorem gX7_print_X7_printOne : GoodIn wsX7_print (wsV RX7 111 RX7 yX7_printOne wsX7_printOne) := goodIn_app (goodIn_of _ (by decide +kernel)) ggX7_print_X7_printOne
theorem dX7_print_0 : decode cX7_print 0 = .ok (.aload_n 0, 1) := by decide +kernel
theorem dX7_print_1 : decode cX7_print 1 = .ok (.iconst 0, 1) := by decide +kernel
theorem dX7_print_2 : decode cX7_print 2 = .ok (.putfield 28, 3) := by decide +kernel
theorem dX7_print_5 : decode cX7_print 5 = .ok (.iload_n 1, 1) := by decide +kernel
theorem dX7_print_6 : decode cX7_print 6 = .ok (.iconst 1, 1) := by decide +kernel
theorem dX7_print_7 : decode cX7_print 7 = .ok (.bipush 100, 2) := by decide +kernel
theorem dX7_print_9 : decode cX7_print 9 = .ok (.invokestatic 32, 3) := by decide +kernel
theorem dX7_print_12 : decode cX7_print 12 = .ok (.ifCond .ne 7, 3) := by decide +kernel
theorem dX7_print_15 : decode cX7_print 15 = .ok (.sipush (-1001), 3) := by decide +kernel
theorem dX7_print_18 : decode cX7_print 18 = .ok (.ireturn, 1) := by decide +kernel
theorem dX7_print_19 : decode cX7_print 19 = .ok (.aload_n 0, 1) := by decide +kernel
theorem dX7_print_20 : decode cX7_print 20 = .ok (.getfield 7, 3) := by decide +kernel
theorem dX7_print_23 : decode cX7_print 23 = .ok (.sipush 775, 3) := by decide +kernel
theorem dX7_print_26 : decode cX7_print 26 = .ok (.iaload, 1) := by decide +kernel
theorem dX7_print_27 : decode cX7_print 27 = .ok (.iload_n 1, 1) := by decide +kernel
theorem dX7_print_28 : decode cX7_print 28 = .ok (.iadd, 1) := by decide +kernel
theorem dX7_print_29 : decode cX7_print 29 = .ok (.sipush 5000, 3) := by decide +kernel
theorem dX7_print_32 : decode cX7_print 32 = .ok (.if_icmp .le 7, 3) := by decide +kernel
theorem dX7_print_35 : decode cX7_print 35 = .ok (.sipush (-1003), 3) := by decide +kernel
theorem dX7_print_38 : decode cX7_print 38 = .ok (.ireturn, 1) := by decide +kernel
theorem dX7_print_39 : decode cX7_print 39 = .ok (.aload_n 0, 1) := by decide +kernel
theorem dX7_print_40 : decode cX7_print 40 = .ok (.invokevirtual 88, 3) := by decide +kernel
theorem dX7_print_43 : decode cX7_print 43 = .ok (.iconst 0, 1) := by decide +kernel
theorem dX7_print_44 : decode cX7_print 44 = .ok (.istore_n 2, 1) := by decide +kernel
theorem dX7_print_45 : decode cX7_print 45 = .ok (.iconst 0, 1) := by decide +kernel
theorem dX7_print_46 : decode cX7_print 46 = .ok (.istore_n 3, 1) := by decide +kernel
theorem dX7_print_47 : decode cX7_print 47 = .ok (.iload_n 3, 1) := by decide +kernel
theorem dX7_print_48 : decode cX7_print 48 = .ok (.iload_n 1, 1) := by decide +kernel
theorem dX7_print_49 : decode cX7_print 49 = .ok (.if_icmp .ge 20, 3) := by decide +kernel
theorem dX7_print_52 : decode cX7_print 52 = .ok (.aload_n 0, 1) := by decide +kernel
theorem dX7_print_53 : decode cX7_print 53 = .ok (.invokevirtual 111, 3) := by decide +kernel
theorem dX7_print_56 : decode cX7_print 56 = .ok (.iload_n 2, 1) := by decide +kernel
theorem dX7_print_57 : decode cX7_print 57 = .ok (.aload_n 0, 1) := by decide +kernel
theorem dX7_print_58 : decode cX7_print 58 = .ok (.getfield 61, 3) := by decide +kernel
theorem dX7_print_61 : decode cX7_print 61 = .ok (.iadd, 1) := by decide +kernel
theorem dX7_print_62 : decode cX7_print 62 = .ok (.istore_n 2, 1) := by decide +kernel
theorem dX7_print_63 : decode cX7_print 63 = .ok (.iinc 3 1, 3) := by decide +kernel
theorem dX7_print_66 : decode cX7_print 66 = .ok (.goto (-19), 3) := by decide +kernel
theorem dX7_print_69 : decode cX7_print 69 = .ok (.iload_n 2, 1) := by decide +kernel
theorem dX7_print_70 : decode cX7_print 70 = .ok (.ireturn, 1) := by decide +kernel
set_option maxRecDepth 20000 in
theorem ggX7_take_X7_in : GoodIn wsX7_take wsX7_in := goodIn_r _ [6] (by decide +kernel) (by decide +kernel)
set_option maxRecDepth 20000 in
theorem gX7_take_X7_in : GoodIn wsX7_take (va_wsS RX7 32 yX7_in wsX7_in) := goodIn_app (goodIn_of _ (by decide +kernel)) ggX7_take_X7_in
set_option maxRecDepth 20000 in
theorem ggX7_take_X7_act : GoodIn wsX7_take wsX7_act := goodIn_r _ [10, 11, 12, 2, 21, 22, 23, 24, 25, 26, 27, 28, 29, 30, 31, 32, 33, 34, 35] (by decide +kernel) (by decide +kernel)
set_option maxRecDepth 20000 in
theorem gX7_take_X7_act : GoodIn wsX7_take (wsV RX7 88 RX7 yX7_act wsX7_act) := goodIn_app (goodIn_of _ (by decide +kernel)) ggX7_take_X7_act
set_option maxRecDepth 20000 in
theorem ggX7_take_X7_inked : GoodIn wsX7_take wsX7_inked := goodIn_r _ [16, 17, 18, 19, 5, 20, 2, 21, 22, 23, 24, 25, 26, 27, 28, 29, 30, 31, 32, 33, 34, 35] (by decide +kernel) (by decide +kernel)
set_option maxRecDepth 20000 in
theorem gX7_take_X7_inked : GoodIn wsX7_take (wsV RX7 114 RX7 yX7_inked wsX7_inked) := goodIn_app (goodIn_of _ (by decide +kernel)) ggX7_take_X7_inked
theorem dX7_take_0 : decode cX7_take 0 = .ok (.aload_n 0, 1) := by decide +kernel
theorem dX7_take_1 : decode cX7_take 1 = .ok (.iconst 0, 1) := by decide +kernel
theorem dX7_take_2 : decode cX7_take 2 = .ok (.putfield 28, 3) := by decide +kernel
theorem dX7_take_5 : decode cX7_take 5 = .ok (.iload_n 1, 1) := by decide +kernel
theorem dX7_take_6 : decode cX7_take 6 = .ok (.iconst 0, 1) := by decide +kernel
theorem dX7_take_7 : decode cX7_take 7 = .ok (.iconst 1, 1) := by decide +kernel
theorem dX7_take_8 : decode cX7_take 8 = .ok (.invokestatic 32, 3) := by decide +kernel
theorem dX7_take_11 : decode cX7_take 11 = .ok (.ifCond .ne 7, 3) := by decide +kernel
theorem dX7_take_14 : decode cX7_take 14 = .ok (.sipush (-1001), 3) := by decide +kernel
theorem dX7_take_17 : decode cX7_take 17 = .ok (.ireturn, 1) := by decide +kernel
theorem dX7_take_18 : decode cX7_take 18 = .ok (.aload_n 0, 1) := by decide +kernel
theorem dX7_take_19 : decode cX7_take 19 = .ok (.invokevirtual 88, 3) := by decide +kernel
theorem dX7_take_22 : decode cX7_take 22 = .ok (.sipush 836, 3) := by decide +kernel
theorem dX7_take_25 : decode cX7_take 25 = .ok (.sipush 769, 3) := by decide +kernel
theorem dX7_take_28 : decode cX7_take 28 = .ok (.iload_n 1, 1) := by decide +kernel
theorem dX7_take_29 : decode cX7_take 29 = .ok (.imul, 1) := by decide +kernel
theorem dX7_take_30 : decode cX7_take 30 = .ok (.iadd, 1) := by decide +kernel
theorem dX7_take_31 : decode cX7_take 31 = .ok (.istore_n 2, 1) := by decide +kernel
theorem dX7_take_32 : decode cX7_take 32 = .ok (.aload_n 0, 1) := by decide +kernel
theorem dX7_take_33 : decode cX7_take 33 = .ok (.getfield 7, 3) := by decide +kernel
theorem dX7_take_36 : decode cX7_take 36 = .ok (.iload_n 2, 1) := by decide +kernel
theorem dX7_take_37 : decode cX7_take 37 = .ok (.iconst 1, 1) := by decide +kernel
theorem dX7_take_38 : decode cX7_take 38 = .ok (.iastore, 1) := by decide +kernel
theorem dX7_take_39 : decode cX7_take 39 = .ok (.iconst 0, 1) := by decide +kernel
theorem dX7_take_40 : decode cX7_take 40 = .ok (.istore_n 3, 1) := by decide +kernel
theorem dX7_take_41 : decode cX7_take 41 = .ok (.iload_n 3, 1) := by decide +kernel
theorem dX7_take_42 : decode cX7_take 42 = .ok (.sipush 768, 3) := by decide +kernel
theorem dX7_take_45 : decode cX7_take 45 = .ok (.if_icmp .ge 25, 3) := by decide +kernel
theorem dX7_take_48 : decode cX7_take 48 = .ok (.aload_n 0, 1) := by decide +kernel
theorem dX7_take_49 : decode cX7_take 49 = .ok (.getfield 7, 3) := by decide +kernel
theorem dX7_take_52 : decode cX7_take 52 = .ok (.iload_n 2, 1) := by decide +kernel
theorem dX7_take_53 : decode cX7_take 53 = .ok (.iconst 1, 1) := by decide +kernel
theorem dX7_take_54 : decode cX7_take 54 = .ok (.iadd, 1) := by decide +kernel
theorem dX7_take_55 : decode cX7_take 55 = .ok (.iload_n 3, 1) := by decide +kernel
theorem dX7_take_56 : decode cX7_take 56 = .ok (.iadd, 1) := by decide +kernel
theorem dX7_take_57 : decode cX7_take 57 = .ok (.aload_n 0, 1) := by decide +kernel
theorem dX7_take_58 : decode cX7_take 58 = .ok (.getfield 7, 3) := by decide +kernel
theorem dX7_take_61 : decode cX7_take 61 = .ok (.iload_n 3, 1) := by decide +kernel
theorem dX7_take_62 : decode cX7_take 62 = .ok (.iaload, 1) := by decide +kernel
theorem dX7_take_63 : decode cX7_take 63 = .ok (.iastore, 1) := by decide +kernel
theorem dX7_take_64 : decode cX7_take 64 = .ok (.iinc 3 1, 3) := by decide +kernel
theorem dX7_take_67 : decode cX7_take 67 = .ok (.goto (-26), 3) := by decide +kernel
theorem dX7_take_70 : decode cX7_take 70 = .ok (.aload_n 0, 1) := by decide +kernel
theorem dX7_take_71 : decode cX7_take 71 = .ok (.invokevirtual 114, 3) := by decide +kernel
theorem dX7_take_74 : decode cX7_take 74 = .ok (.ireturn, 1) := by decide +kernel
set_option maxRecDepth 20000 in
theorem ggX7_restore_X7_in : GoodIn wsX7_restore wsX7_in := goodIn_r _ [6] (by decide +kernel) (by decide +kernel)
set_option maxRecDepth 20000 in
theorem gX7_restore_X7_in : GoodIn wsX7_restore (va_wsS RX7 32 yX7_in wsX7_in) := goodIn_app (goodIn_of _ (by decide +kernel)) ggX7_restore_X7_in
set_option maxRecDepth 20000 in
theorem ggX7_restore_X7_act : GoodIn wsX7_restore wsX7_act := goodIn_r _ [10, 11, 12, 2, 21, 22, 23, 24, 25, 26, 27, 28, 29, 30, 31, 32, 33, 34, 35] (by decide +kernel) (by decide +kernel)
set_option maxRecDepth 20000 in
theorem gX7_restore_X7_act : GoodIn wsX7_restore (wsV RX7 88 RX7 yX7_act wsX7_act) := goodIn_app (goodIn_of _ (by decide +kernel)) ggX7_restore_X7_act
set_option maxRecDepth 20000 in
theorem ggX7_restore_X7_inked : GoodIn wsX7_restore wsX7_inked := goodIn_r _ [16, 17, 18, 19, 5, 20, 2, 21, 22, 23, 24, 25, 26, 27, 28, 29, 30, 31, 32, 33, 34, 35] (by decide +kernel) (by decide +kernel)
set_option maxRecDepth 20000 in
theorem gX7_restore_X7_inked : GoodIn wsX7_restore (wsV RX7 114 RX7 yX7_inked wsX7_inked) := goodIn_app (goodIn_of _ (by decide +kernel)) ggX7_restore_X7_inked
theorem dX7_restore_0 : decode cX7_restore 0 = .ok (.aload_n 0, 1) := by decide +kernel
theorem dX7_restore_1 : decode cX7_restore 1 = .ok (.iconst 0, 1) := by decide +kernel
theorem dX7_restore_2 : decode cX7_restore 2 = .ok (.putfield 28, 3) := by decide +kernel
theorem dX7_restore_5 : decode cX7_restore 5 = .ok (.iload_n 1, 1) := by decide +kernel
theorem dX7_restore_6 : decode cX7_restore 6 = .ok (.iconst 0, 1) := by decide +kernel
theorem dX7_restore_7 : decode cX7_restore 7 = .ok (.iconst 1, 1) := by decide +kernel
theorem dX7_restore_8 : decode cX7_restore 8 = .ok (.invokestatic 32, 3) := by decide +kernel
theorem dX7_restore_11 : decode cX7_restore 11 = .ok (.ifCond .ne 7, 3) := by decide +kernel
theorem dX7_restore_14 : decode cX7_restore 14 = .ok (.sipush (-1001), 3) := by decide +kernel
theorem dX7_restore_17 : decode cX7_restore 17 = .ok (.ireturn, 1) := by decide +kernel
theorem dX7_restore_18 : decode cX7_restore 18 = .ok (.sipush 836, 3) := by decide +kernel
theorem dX7_restore_21 : decode cX7_restore 21 = .ok (.sipush 769, 3) := by decide +kernel
theorem dX7_restore_24 : decode cX7_restore 24 = .ok (.iload_n 1, 1) := by decide +kernel
theorem dX7_restore_25 : decode cX7_restore 25 = .ok (.imul, 1) := by decide +kernel
theorem dX7_restore_26 : decode cX7_restore 26 = .ok (.iadd, 1) := by decide +kernel
theorem dX7_restore_27 : decode cX7_restore 27 = .ok (.istore_n 2, 1) := by decide +kernel
theorem dX7_restore_28 : decode cX7_restore 28 = .ok (.aload_n 0, 1) := by decide +kernel
theorem dX7_restore_29 : decode cX7_restore 29 = .ok (.getfield 7, 3) := by decide +kernel
theorem dX7_restore_32 : decode cX7_restore 32 = .ok (.iload_n 2, 1) := by decide +kernel
theorem dX7_restore_33 : decode cX7_restore 33 = .ok (.iaload, 1) := by decide +kernel
theorem dX7_restore_34 : decode cX7_restore 34 = .ok (.ifCond .ne 7, 3) := by decide +kernel
theorem dX7_restore_37 : decode cX7_restore 37 = .ok (.sipush (-1002), 3) := by decide +kernel
theorem dX7_restore_40 : decode cX7_restore 40 = .ok (.ireturn, 1) := by decide +kernel
theorem dX7_restore_41 : decode cX7_restore 41 = .ok (.aload_n 0, 1) := by decide +kernel
theorem dX7_restore_42 : decode cX7_restore 42 = .ok (.invokevirtual 88, 3) := by decide +kernel
theorem dX7_restore_45 : decode cX7_restore 45 = .ok (.iconst 0, 1) := by decide +kernel
theorem dX7_restore_46 : decode cX7_restore 46 = .ok (.istore_n 3, 1) := by decide +kernel
theorem dX7_restore_47 : decode cX7_restore 47 = .ok (.iload_n 3, 1) := by decide +kernel
theorem dX7_restore_48 : decode cX7_restore 48 = .ok (.sipush 768, 3) := by decide +kernel
theorem dX7_restore_51 : decode cX7_restore 51 = .ok (.if_icmp .ge 25, 3) := by decide +kernel
theorem dX7_restore_54 : decode cX7_restore 54 = .ok (.aload_n 0, 1) := by decide +kernel
theorem dX7_restore_55 : decode cX7_restore 55 = .ok (.getfield 7, 3) := by decide +kernel
theorem dX7_restore_58 : decode cX7_restore 58 = .ok (.iload_n 3, 1) := by decide +kernel
theorem dX7_restore_59 : decode cX7_restore 59 = .ok (.aload_n 0, 1) := by decide +kernel
theorem dX7_restore_60 : decode cX7_restore 60 = .ok (.getfield 7, 3) := by decide +kernel
theorem dX7_restore_63 : decode cX7_restore 63 = .ok (.iload_n 2, 1) := by decide +kernel
theorem dX7_restore_64 : decode cX7_restore 64 = .ok (.iconst 1, 1) := by decide +kernel
theorem dX7_restore_65 : decode cX7_restore 65 = .ok (.iadd, 1) := by decide +kernel
theorem dX7_restore_66 : decode cX7_restore 66 = .ok (.iload_n 3, 1) := by decide +kernel
theorem dX7_restore_67 : decode cX7_restore 67 = .ok (.iadd, 1) := by decide +kernel
theorem dX7_restore_68 : decode cX7_restore 68 = .ok (.iaload, 1) := by decide +kernel
theorem dX7_restore_69 : decode cX7_restore 69 = .ok (.iastore, 1) := by decide +kernel
theorem dX7_restore_70 : decode cX7_restore 70 = .ok (.iinc 3 1, 3) := by decide +kernel
theorem dX7_restore_73 : decode cX7_restore 73 = .ok (.goto (-26), 3) := by decide +kernel
theorem dX7_restore_76 : decode cX7_restore 76 = .ok (.aload_n 0, 1) := by decide +kernel
theorem dX7_restore_77 : decode cX7_restore 77 = .ok (.invokevirtual 114, 3) := by decide +kernel
theorem dX7_restore_80 : decode cX7_restore 80 = .ok (.ireturn, 1) := by decide +kernel
theorem dX7_undo_0 : decode cX7_undo 0 = .ok (.aload_n 0, 1) := by decide +kernel
theorem dX7_undo_1 : decode cX7_undo 1 = .ok (.iconst 0, 1) := by decide +kernel
theorem dX7_undo_2 : decode cX7_undo 2 = .ok (.putfield 28, 3) := by decide +kernel
theorem dX7_undo_5 : decode cX7_undo 5 = .ok (.aload_n 0, 1) := by decide +kernel
theorem dX7_undo_6 : decode cX7_undo 6 = .ok (.getfield 36, 3) := by decide +kernel
theorem dX7_undo_9 : decode cX7_undo 9 = .ok (.ifCond .ne 7, 3) := by decide +kernel
theorem dX7_undo_12 : decode cX7_undo 12 = .ok (.sipush (-1002), 3) := by decide +kernel
theorem dX7_undo_15 : decode cX7_undo 15 = .ok (.ireturn, 1) := by decide +kernel
theorem dX7_undo_16 : decode cX7_undo 16 = .ok (.aload_n 0, 1) := by decide +kernel
theorem dX7_undo_17 : decode cX7_undo 17 = .ok (.dup, 1) := by decide +kernel
theorem dX7_undo_18 : decode cX7_undo 18 = .ok (.getfield 36, 3) := by decide +kernel
theorem dX7_undo_21 : decode cX7_undo 21 = .ok (.iconst 1, 1) := by decide +kernel
theorem dX7_undo_22 : decode cX7_undo 22 = .ok (.isub, 1) := by decide +kernel
theorem dX7_undo_23 : decode cX7_undo 23 = .ok (.putfield 36, 3) := by decide +kernel
theorem dX7_undo_26 : decode cX7_undo 26 = .ok (.iconst 0, 1) := by decide +kernel
theorem dX7_undo_27 : decode cX7_undo 27 = .ok (.istore_n 1, 1) := by decide +kernel
theorem dX7_undo_28 : decode cX7_undo 28 = .ok (.iload_n 1, 1) := by decide +kernel
theorem dX7_undo_29 : decode cX7_undo 29 = .ok (.sipush 2374, 3) := by decide +kernel
theorem dX7_undo_32 : decode cX7_undo 32 = .ok (.if_icmp .ge 30, 3) := by decide +kernel
theorem dX7_undo_35 : decode cX7_undo 35 = .ok (.aload_n 0, 1) := by decide +kernel
theorem dX7_undo_36 : decode cX7_undo 36 = .ok (.getfield 7, 3) := by decide +kernel
theorem dX7_undo_39 : decode cX7_undo 39 = .ok (.iload_n 1, 1) := by decide +kernel
theorem dX7_undo_40 : decode cX7_undo 40 = .ok (.aload_n 0, 1) := by decide +kernel
theorem dX7_undo_41 : decode cX7_undo 41 = .ok (.getfield 13, 3) := by decide +kernel
theorem dX7_undo_44 : decode cX7_undo 44 = .ok (.sipush 2374, 3) := by decide +kernel
theorem dX7_undo_47 : decode cX7_undo 47 = .ok (.aload_n 0, 1) := by decide +kernel
theorem dX7_undo_48 : decode cX7_undo 48 = .ok (.getfield 36, 3) := by decide +kernel
theorem dX7_undo_51 : decode cX7_undo 51 = .ok (.imul, 1) := by decide +kernel
theorem dX7_undo_52 : decode cX7_undo 52 = .ok (.iload_n 1, 1) := by decide +kernel
theorem dX7_undo_53 : decode cX7_undo 53 = .ok (.iadd, 1) := by decide +kernel
theorem dX7_undo_54 : decode cX7_undo 54 = .ok (.iaload, 1) := by decide +kernel
theorem dX7_undo_55 : decode cX7_undo 55 = .ok (.iastore, 1) := by decide +kernel
theorem dX7_undo_56 : decode cX7_undo 56 = .ok (.iinc 1 1, 3) := by decide +kernel
theorem dX7_undo_59 : decode cX7_undo 59 = .ok (.goto (-31), 3) := by decide +kernel
theorem dX7_undo_62 : decode cX7_undo 62 = .ok (.aload_n 0, 1) := by decide +kernel
theorem dX7_undo_63 : decode cX7_undo 63 = .ok (.getfield 36, 3) := by decide +kernel
theorem dX7_undo_66 : decode cX7_undo 66 = .ok (.ireturn, 1) := by decide +kernel
set_option maxRecDepth 20000 in
theorem ggX7_append_X7_in : GoodIn wsX7_append wsX7_in := goodIn_r _ [7] (by decide +kernel) (by decide +kernel)
set_option maxRecDepth 20000 in
theorem gX7_append_X7_in : GoodIn wsX7_append (va_wsS RX7 32 yX7_in wsX7_in) := goodIn_app (goodIn_of _ (by decide +kernel)) ggX7_append_X7_in
theorem dX7_append_0 : decode cX7_append 0 = .ok (.aload_n 0, 1) := by decide +kernel
theorem dX7_append_1 : decode cX7_append 1 = .ok (.iconst 0, 1) := by decide +kernel
theorem dX7_append_2 : decode cX7_append 2 = .ok (.putfield 28, 3) := by decide +kernel
theorem dX7_append_5 : decode cX7_append 5 = .ok (.iload_n 1, 1) := by decide +kernel
theorem dX7_append_6 : decode cX7_append 6 = .ok (.iconst 1, 1) := by decide +kernel
theorem dX7_append_7 : decode cX7_append 7 = .ok (.sipush 255, 3) := by decide +kernel
theorem dX7_append_10 : decode cX7_append 10 = .ok (.invokestatic 32, 3) := by decide +kernel
theorem dX7_append_13 : decode cX7_append 13 = .ok (.ifCond .ne 7, 3) := by decide +kernel
theorem dX7_append_16 : decode cX7_append 16 = .ok (.sipush (-1001), 3) := by decide +kernel
theorem dX7_append_19 : decode cX7_append 19 = .ok (.ireturn, 1) := by decide +kernel
theorem dX7_append_20 : decode cX7_append 20 = .ok (.aload_n 0, 1) := by decide +kernel
theorem dX7_append_21 : decode cX7_append 21 = .ok (.getfield 117, 3) := by decide +kernel
theorem dX7_append_24 : decode cX7_append 24 = .ok (.sipush 140, 3) := by decide +kernel
theorem dX7_append_27 : decode cX7_append 27 = .ok (.if_icmp .ne 7, 3) := by decide +kernel
theorem dX7_append_30 : decode cX7_append 30 = .ok (.sipush (-1003), 3) := by decide +kernel
theorem dX7_append_33 : decode cX7_append 33 = .ok (.ireturn, 1) := by decide +kernel
theorem dX7_append_34 : decode cX7_append 34 = .ok (.aload_n 0, 1) := by decide +kernel
theorem dX7_append_35 : decode cX7_append 35 = .ok (.getfield 16, 3) := by decide +kernel
theorem dX7_append_38 : decode cX7_append 38 = .ok (.aload_n 0, 1) := by decide +kernel
theorem dX7_append_39 : decode cX7_append 39 = .ok (.getfield 117, 3) := by decide +kernel
theorem dX7_append_42 : decode cX7_append 42 = .ok (.iload_n 1, 1) := by decide +kernel
theorem dX7_append_43 : decode cX7_append 43 = .ok (.iastore, 1) := by decide +kernel
theorem dX7_append_44 : decode cX7_append 44 = .ok (.aload_n 0, 1) := by decide +kernel
theorem dX7_append_45 : decode cX7_append 45 = .ok (.dup, 1) := by decide +kernel
theorem dX7_append_46 : decode cX7_append 46 = .ok (.getfield 117, 3) := by decide +kernel
theorem dX7_append_49 : decode cX7_append 49 = .ok (.iconst 1, 1) := by decide +kernel
theorem dX7_append_50 : decode cX7_append 50 = .ok (.iadd, 1) := by decide +kernel
theorem dX7_append_51 : decode cX7_append 51 = .ok (.putfield 117, 3) := by decide +kernel
theorem dX7_append_54 : decode cX7_append 54 = .ok (.aload_n 0, 1) := by decide +kernel
theorem dX7_append_55 : decode cX7_append 55 = .ok (.getfield 117, 3) := by decide +kernel
theorem dX7_append_58 : decode cX7_append 58 = .ok (.ireturn, 1) := by decide +kernel
theorem dX7_clearText_0 : decode cX7_clearText 0 = .ok (.aload_n 0, 1) := by decide +kernel
theorem dX7_clearText_1 : decode cX7_clearText 1 = .ok (.iconst 0, 1) := by decide +kernel
theorem dX7_clearText_2 : decode cX7_clearText 2 = .ok (.putfield 28, 3) := by decide +kernel
theorem dX7_clearText_5 : decode cX7_clearText 5 = .ok (.aload_n 0, 1) := by decide +kernel
theorem dX7_clearText_6 : decode cX7_clearText 6 = .ok (.getfield 117, 3) := by decide +kernel
theorem dX7_clearText_9 : decode cX7_clearText 9 = .ok (.istore_n 1, 1) := by decide +kernel
theorem dX7_clearText_10 : decode cX7_clearText 10 = .ok (.aload_n 0, 1) := by decide +kernel
theorem dX7_clearText_11 : decode cX7_clearText 11 = .ok (.iconst 0, 1) := by decide +kernel
theorem dX7_clearText_12 : decode cX7_clearText 12 = .ok (.putfield 117, 3) := by decide +kernel
theorem dX7_clearText_15 : decode cX7_clearText 15 = .ok (.iload_n 1, 1) := by decide +kernel
theorem dX7_clearText_16 : decode cX7_clearText 16 = .ok (.ireturn, 1) := by decide +kernel
theorem dX7_here_0 : decode cX7_here 0 = .ok (.aload_n 0, 1) := by decide +kernel
theorem dX7_here_1 : decode cX7_here 1 = .ok (.getfield 120, 3) := by decide +kernel
theorem dX7_here_4 : decode cX7_here 4 = .ok (.aload_n 0, 1) := by decide +kernel
theorem dX7_here_5 : decode cX7_here 5 = .ok (.getfield 117, 3) := by decide +kernel
theorem dX7_here_8 : decode cX7_here 8 = .ok (.if_icmp .ge 15, 3) := by decide +kernel
theorem dX7_here_11 : decode cX7_here 11 = .ok (.aload_n 0, 1) := by decide +kernel
theorem dX7_here_12 : decode cX7_here 12 = .ok (.getfield 16, 3) := by decide +kernel
theorem dX7_here_15 : decode cX7_here 15 = .ok (.aload_n 0, 1) := by decide +kernel
theorem dX7_here_16 : decode cX7_here 16 = .ok (.getfield 120, 3) := by decide +kernel
theorem dX7_here_19 : decode cX7_here 19 = .ok (.iaload, 1) := by decide +kernel
theorem dX7_here_20 : decode cX7_here 20 = .ok (.goto 4, 3) := by decide +kernel
theorem dX7_here_23 : decode cX7_here 23 = .ok (.iconst 0, 1) := by decide +kernel
theorem dX7_here_24 : decode cX7_here 24 = .ok (.ireturn, 1) := by decide +kernel
set_option maxRecDepth 20000 in
theorem ggX7_isDigit_X7_here : GoodIn wsX7_isDigit wsX7_here := goodIn_r _ [5, 6, 7, 8, 12, 13, 14, 15, 16, 17, 18, 19, 20, 21, 22, 23, 24, 25, 26] (by decide +kernel) (by decide +kernel)
set_option maxRecDepth 20000 in
theorem gX7_isDigit_X7_here : GoodIn wsX7_isDigit (wsV RX7 123 RX7 yX7_here wsX7_here) := goodIn_app (goodIn_of _ (by decide +kernel)) ggX7_isDigit_X7_here
set_option maxRecDepth 20000 in
theorem ggX7_isDigit_X7_in : GoodIn wsX7_isDigit wsX7_in := goodIn_r _ [11] (by decide +kernel) (by decide +kernel)
set_option maxRecDepth 20000 in
theorem gX7_isDigit_X7_in : GoodIn wsX7_isDigit (va_wsS RX7 32 yX7_in wsX7_in) := goodIn_app (goodIn_of _ (by decide +kernel)) ggX7_isDigit_X7_in
theorem dX7_isDigit_0 : decode cX7_isDigit 0 = .ok (.aload_n 0, 1) := by decide +kernel
theorem dX7_isDigit_1 : decode cX7_isDigit 1 = .ok (.invokevirtual 123, 3) := by decide +kernel
theorem dX7_isDigit_4 : decode cX7_isDigit 4 = .ok (.bipush 48, 2) := by decide +kernel
theorem dX7_isDigit_6 : decode cX7_isDigit 6 = .ok (.bipush 57, 2) := by decide +kernel
theorem dX7_isDigit_8 : decode cX7_isDigit 8 = .ok (.invokestatic 32, 3) := by decide +kernel
theorem dX7_isDigit_11 : decode cX7_isDigit 11 = .ok (.ireturn, 1) := by decide +kernel
theorem dX7_isWell_0 : decode cX7_isWell 0 = .ok (.aload_n 0, 1) := by decide +kernel
theorem dX7_isWell_1 : decode cX7_isWell 1 = .ok (.getfield 126, 3) := by decide +kernel
theorem dX7_isWell_4 : decode cX7_isWell 4 = .ok (.ifCond .ge 7, 3) := by decide +kernel
theorem dX7_isWell_7 : decode cX7_isWell 7 = .ok (.iconst 1, 1) := by decide +kernel
theorem dX7_isWell_8 : decode cX7_isWell 8 = .ok (.goto 4, 3) := by decide +kernel
theorem dX7_isWell_11 : decode cX7_isWell 11 = .ok (.iconst 0, 1) := by decide +kernel
theorem dX7_isWell_12 : decode cX7_isWell 12 = .ok (.ireturn, 1) := by decide +kernel
set_option maxRecDepth 20000 in
theorem ggX7_skip_X7_here : GoodIn wsX7_skip wsX7_here := goodIn_r _ [6, 1, 7, 8, 9, 10, 11, 12, 13, 14, 15, 16, 17, 18, 19, 20, 21, 22, 23] (by decide +kernel) (by decide +kernel)
set_option maxRecDepth 20000 in
theorem gX7_skip_X7_here : GoodIn wsX7_skip (wsV RX7 123 RX7 yX7_here wsX7_here) := goodIn_app (goodIn_of _ (by decide +kernel)) ggX7_skip_X7_here
theorem dX7_skip_0 : decode cX7_skip 0 = .ok (.aload_n 0, 1) := by decide +kernel
theorem dX7_skip_1 : decode cX7_skip 1 = .ok (.invokevirtual 123, 3) := by decide +kernel
theorem dX7_skip_4 : decode cX7_skip 4 = .ok (.bipush 32, 2) := by decide +kernel
theorem dX7_skip_6 : decode cX7_skip 6 = .ok (.if_icmp .ne 16, 3) := by decide +kernel
theorem dX7_skip_9 : decode cX7_skip 9 = .ok (.aload_n 0, 1) := by decide +kernel
theorem dX7_skip_10 : decode cX7_skip 10 = .ok (.dup, 1) := by decide +kernel
theorem dX7_skip_11 : decode cX7_skip 11 = .ok (.getfield 120, 3) := by decide +kernel
theorem dX7_skip_14 : decode cX7_skip 14 = .ok (.iconst 1, 1) := by decide +kernel
theorem dX7_skip_15 : decode cX7_skip 15 = .ok (.iadd, 1) := by decide +kernel
theorem dX7_skip_16 : decode cX7_skip 16 = .ok (.putfield 120, 3) := by decide +kernel
theorem dX7_skip_19 : decode cX7_skip 19 = .ok (.goto (-19), 3) := by decide +kernel
theorem dX7_skip_22 : decode cX7_skip 22 = .ok (.return_, 1) := by decide +kernel
theorem dX7_fail_0 : decode cX7_fail 0 = .ok (.aload_n 0, 1) := by decide +kernel
theorem dX7_fail_1 : decode cX7_fail 1 = .ok (.aload_n 0, 1) := by decide +kernel
theorem dX7_fail_2 : decode cX7_fail 2 = .ok (.getfield 126, 3) := by decide +kernel
theorem dX7_fail_5 : decode cX7_fail 5 = .ok (.ifCond .ge 7, 3) := by decide +kernel
theorem dX7_fail_8 : decode cX7_fail 8 = .ok (.iload_n 1, 1) := by decide +kernel
theorem dX7_fail_9 : decode cX7_fail 9 = .ok (.goto 7, 3) := by decide +kernel
theorem dX7_fail_12 : decode cX7_fail 12 = .ok (.aload_n 0, 1) := by decide +kernel
theorem dX7_fail_13 : decode cX7_fail 13 = .ok (.getfield 126, 3) := by decide +kernel
theorem dX7_fail_16 : decode cX7_fail 16 = .ok (.putfield 126, 3) := by decide +kernel
theorem dX7_fail_19 : decode cX7_fail 19 = .ok (.return_, 1) := by decide +kernel
set_option maxRecDepth 20000 in
theorem ggX7_number_X7_isDigit : GoodIn wsX7_number wsX7_isDigit := goodIn_r _ [7, 8, 9, 10, 6, 11, 1, 12, 2, 13, 14, 15, 25, 26, 27, 28, 29, 30, 31, 32, 33, 34, 35, 36, 37, 38, 39] (by decide +kernel) (by decide +kernel)
set_option maxRecDepth 20000 in
theorem gX7_number_X7_isDigit : GoodIn wsX7_number (wsV RX7 129 RX7 yX7_isDigit wsX7_isDigit) := goodIn_app (goodIn_of _ (by decide +kernel)) ggX7_number_X7_isDigit
set_option maxRecDepth 20000 in
theorem ggX7_number_X7_here : GoodIn wsX7_number wsX7_here := goodIn_r _ [11, 1, 12, 2, 25, 26, 27, 28, 29, 30, 31, 32, 33, 34, 35, 36, 37, 38, 39] (by decide +kernel) (by decide +kernel)
set_option maxRecDepth 20000 in
theorem gX7_number_X7_here : GoodIn wsX7_number (wsV RX7 123 RX7 yX7_here wsX7_here) := goodIn_app (goodIn_of _ (by decide +kernel)) ggX7_number_X7_here
set_option maxRecDepth 20000 in
theorem ggX7_number_X7_in : GoodIn wsX7_number wsX7_in := goodIn_r _ [15] (by decide +kernel) (by decide +kernel)
set_option maxRecDepth 20000 in
theorem gX7_number_X7_in : GoodIn wsX7_number (va_wsS RX7 32 yX7_in wsX7_in) := goodIn_app (goodIn_of _ (by decide +kernel)) ggX7_number_X7_in
set_option maxRecDepth 20000 in
theorem ggX7_number_X7_fail : GoodIn wsX7_number wsX7_fail := goodIn_r _ [19, 20, 25, 26, 27, 28, 29, 30, 31, 32, 33, 34, 35, 36, 37, 38, 39] (by decide +kernel) (by decide +kernel)
set_option maxRecDepth 20000 in
theorem gX7_number_X7_fail : GoodIn wsX7_number (wsV RX7 133 RX7 yX7_fail wsX7_fail) := goodIn_app (goodIn_of _ (by decide +kernel)) ggX7_number_X7_fail
set_option maxRecDepth 20000 in
theorem ggX7_number_X7_skip : GoodIn wsX7_number wsX7_skip := goodIn_r _ [24, 1, 8, 9, 10, 6, 11, 12, 2, 25, 26, 27, 28, 29, 30, 31, 32, 33, 34, 35, 36, 37, 38, 39] (by decide +kernel) (by decide +kernel)
set_option maxRecDepth 20000 in
theorem gX7_number_X7_skip : GoodIn wsX7_number (wsV RX7 136 RX7 yX7_skip wsX7_skip) := goodIn_app (goodIn_of _ (by decide +kernel)) ggX7_number_X7_skip
theorem dX7_number_0 : decode cX7_number 0 = .ok (.aload_n 0, 1) := by decide +kernel
theorem dX7_number_1 : decode cX7_number 1 = .ok (.getfield 120, 3) := by decide +kernel
theorem dX7_number_4 : decode cX7_number 4 = .ok (.istore_n 3, 1) := by decide +kernel
theorem dX7_number_5 : decode cX7_number 5 = .ok (.iconst 0, 1) := by decide +kernel
theorem dX7_number_6 : decode cX7_number 6 = .ok (.istore 4, 2) := by decide +kernel
theorem dX7_number_8 : decode cX7_number 8 = .ok (.aload_n 0, 1) := by decide +kernel
theorem dX7_number_9 : decode cX7_number 9 = .ok (.invokevirtual 129, 3) := by decide +kernel
theorem dX7_number_12 : decode cX7_number 12 = .ok (.ifCond .eq 43, 3) := by decide +kernel
theorem dX7_number_15 : decode cX7_number 15 = .ok (.iload 4, 2) := by decide +kernel
theorem dX7_number_17 : decode cX7_number 17 = .ok (.bipush 99, 2) := by decide +kernel
theorem dX7_number_19 : decode cX7_number 19 = .ok (.if_icmp .le 8, 3) := by decide +kernel
theorem dX7_number_22 : decode cX7_number 22 = .ok (.iload 4, 2) := by decide +kernel
theorem dX7_number_24 : decode cX7_number 24 = .ok (.goto 16, 3) := by decide +kernel
theorem dX7_number_27 : decode cX7_number 27 = .ok (.bipush 10, 2) := by decide +kernel
theorem dX7_number_29 : decode cX7_number 29 = .ok (.iload 4, 2) := by decide +kernel
theorem dX7_number_31 : decode cX7_number 31 = .ok (.imul, 1) := by decide +kernel
theorem dX7_number_32 : decode cX7_number 32 = .ok (.aload_n 0, 1) := by decide +kernel
theorem dX7_number_33 : decode cX7_number 33 = .ok (.invokevirtual 123, 3) := by decide +kernel
theorem dX7_number_36 : decode cX7_number 36 = .ok (.iadd, 1) := by decide +kernel
theorem dX7_number_37 : decode cX7_number 37 = .ok (.bipush 48, 2) := by decide +kernel
theorem dX7_number_39 : decode cX7_number 39 = .ok (.isub, 1) := by decide +kernel
theorem dX7_number_40 : decode cX7_number 40 = .ok (.istore 4, 2) := by decide +kernel
theorem dX7_number_42 : decode cX7_number 42 = .ok (.aload_n 0, 1) := by decide +kernel
theorem dX7_number_43 : decode cX7_number 43 = .ok (.dup, 1) := by decide +kernel
theorem dX7_number_44 : decode cX7_number 44 = .ok (.getfield 120, 3) := by decide +kernel
theorem dX7_number_47 : decode cX7_number 47 = .ok (.iconst 1, 1) := by decide +kernel
theorem dX7_number_48 : decode cX7_number 48 = .ok (.iadd, 1) := by decide +kernel
theorem dX7_number_49 : decode cX7_number 49 = .ok (.putfield 120, 3) := by decide +kernel
theorem dX7_number_52 : decode cX7_number 52 = .ok (.goto (-44), 3) := by decide +kernel
theorem dX7_number_55 : decode cX7_number 55 = .ok (.aload_n 0, 1) := by decide +kernel
theorem dX7_number_56 : decode cX7_number 56 = .ok (.getfield 120, 3) := by decide +kernel
theorem dX7_number_59 : decode cX7_number 59 = .ok (.iload_n 3, 1) := by decide +kernel
theorem dX7_number_60 : decode cX7_number 60 = .ok (.isub, 1) := by decide +kernel
theorem dX7_number_61 : decode cX7_number 61 = .ok (.iconst 1, 1) := by decide +kernel
theorem dX7_number_62 : decode cX7_number 62 = .ok (.if_icmp .le 18, 3) := by decide +kernel
theorem dX7_number_65 : decode cX7_number 65 = .ok (.aload_n 0, 1) := by decide +kernel
theorem dX7_number_66 : decode cX7_number 66 = .ok (.getfield 16, 3) := by decide +kernel
theorem dX7_number_69 : decode cX7_number 69 = .ok (.iload_n 3, 1) := by decide +kernel
theorem dX7_number_70 : decode cX7_number 70 = .ok (.iaload, 1) := by decide +kernel
theorem dX7_number_71 : decode cX7_number 71 = .ok (.bipush 48, 2) := by decide +kernel
theorem dX7_number_73 : decode cX7_number 73 = .ok (.if_icmp .ne 7, 3) := by decide +kernel
theorem dX7_number_76 : decode cX7_number 76 = .ok (.iconst 1, 1) := by decide +kernel
theorem dX7_number_77 : decode cX7_number 77 = .ok (.goto 4, 3) := by decide +kernel
theorem dX7_number_80 : decode cX7_number 80 = .ok (.iconst 0, 1) := by decide +kernel
theorem dX7_number_81 : decode cX7_number 81 = .ok (.istore 5, 2) := by decide +kernel
theorem dX7_number_83 : decode cX7_number 83 = .ok (.aload_n 0, 1) := by decide +kernel
theorem dX7_number_84 : decode cX7_number 84 = .ok (.getfield 120, 3) := by decide +kernel
theorem dX7_number_87 : decode cX7_number 87 = .ok (.iload_n 3, 1) := by decide +kernel
theorem dX7_number_88 : decode cX7_number 88 = .ok (.if_icmp .eq 18, 3) := by decide +kernel
theorem dX7_number_91 : decode cX7_number 91 = .ok (.iload 5, 2) := by decide +kernel
theorem dX7_number_93 : decode cX7_number 93 = .ok (.ifCond .ne 13, 3) := by decide +kernel
theorem dX7_number_96 : decode cX7_number 96 = .ok (.iload 4, 2) := by decide +kernel
theorem dX7_number_98 : decode cX7_number 98 = .ok (.iload_n 1, 1) := by decide +kernel
theorem dX7_number_99 : decode cX7_number 99 = .ok (.iload_n 2, 1) := by decide +kernel
theorem dX7_number_100 : decode cX7_number 100 = .ok (.invokestatic 32, 3) := by decide +kernel
theorem dX7_number_103 : decode cX7_number 103 = .ok (.ifCond .ne 8, 3) := by decide +kernel
theorem dX7_number_106 : decode cX7_number 106 = .ok (.aload_n 0, 1) := by decide +kernel
theorem dX7_number_107 : decode cX7_number 107 = .ok (.iload_n 3, 1) := by decide +kernel
theorem dX7_number_108 : decode cX7_number 108 = .ok (.invokevirtual 133, 3) := by decide +kernel
theorem dX7_number_111 : decode cX7_number 111 = .ok (.aload_n 0, 1) := by decide +kernel
theorem dX7_number_112 : decode cX7_number 112 = .ok (.invokevirtual 136, 3) := by decide +kernel
theorem dX7_number_115 : decode cX7_number 115 = .ok (.iload 4, 2) := by decide +kernel
theorem dX7_number_117 : decode cX7_number 117 = .ok (.ireturn, 1) := by decide +kernel
set_option maxRecDepth 20000 in
theorem ggX7_expect_X7_isWell : GoodIn wsX7_expect wsX7_isWell := goodIn_r _ [6, 7, 22, 23, 24, 25, 26, 27, 28, 29, 30, 31, 32, 33, 34, 35, 36] (by decide +kernel) (by decide +kernel)
set_option maxRecDepth 20000 in
theorem gX7_expect_X7_isWell : GoodIn wsX7_expect (wsV RX7 139 RX7 yX7_isWell wsX7_isWell) := goodIn_app (goodIn_of _ (by decide +kernel)) ggX7_expect_X7_isWell
set_option maxRecDepth 20000 in
theorem ggX7_expect_X7_here : GoodIn wsX7_expect wsX7_here := goodIn_r _ [11, 1, 12, 13, 22, 23, 24, 25, 26, 27, 28, 29, 30, 31, 32, 33, 34, 35, 36] (by decide +kernel) (by decide +kernel)
set_option maxRecDepth 20000 in
theorem gX7_expect_X7_here : GoodIn wsX7_expect (wsV RX7 123 RX7 yX7_here wsX7_here) := goodIn_app (goodIn_of _ (by decide +kernel)) ggX7_expect_X7_here
set_option maxRecDepth 20000 in
theorem ggX7_expect_X7_fail : GoodIn wsX7_expect wsX7_fail := goodIn_r _ [17, 7, 22, 23, 24, 25, 26, 27, 28, 29, 30, 31, 32, 33, 34, 35, 36] (by decide +kernel) (by decide +kernel)
set_option maxRecDepth 20000 in
theorem gX7_expect_X7_fail : GoodIn wsX7_expect (wsV RX7 133 RX7 yX7_fail wsX7_fail) := goodIn_app (goodIn_of _ (by decide +kernel)) ggX7_expect_X7_fail
set_option maxRecDepth 20000 in
theorem ggX7_expect_X7_skip : GoodIn wsX7_expect wsX7_skip := goodIn_r _ [21, 1, 8, 9, 10, 5, 11, 12, 13, 22, 23, 24, 25, 26, 27, 28, 29, 30, 31, 32, 33, 34, 35, 36] (by decide +kernel) (by decide +kernel)
set_option maxRecDepth 20000 in
theorem gX7_expect_X7_skip : GoodIn wsX7_expect (wsV RX7 136 RX7 yX7_skip wsX7_skip) := goodIn_app (goodIn_of _ (by decide +kernel)) ggX7_expect_X7_skip
theorem dX7_expect_0 : decode cX7_expect 0 = .ok (.aload_n 0, 1) := by decide +kernel
theorem dX7_expect_1 : decode cX7_expect 1 = .ok (.invokevirtual 139, 3) := by decide +kernel
theorem dX7_expect_4 : decode cX7_expect 4 = .ok (.ifCond .ne 4, 3) := by decide +kernel
theorem dX7_expect_7 : decode cX7_expect 7 = .ok (.return_, 1) := by decide +kernel
theorem dX7_expect_8 : decode cX7_expect 8 = .ok (.aload_n 0, 1) := by decide +kernel
theorem dX7_expect_9 : decode cX7_expect 9 = .ok (.invokevirtual 123, 3) := by decide +kernel
theorem dX7_expect_12 : decode cX7_expect 12 = .ok (.iload_n 1, 1) := by decide +kernel
theorem dX7_expect_13 : decode cX7_expect 13 = .ok (.if_icmp .eq 12, 3) := by decide +kernel
theorem dX7_expect_16 : decode cX7_expect 16 = .ok (.aload_n 0, 1) := by decide +kernel
theorem dX7_expect_17 : decode cX7_expect 17 = .ok (.aload_n 0, 1) := by decide +kernel
theorem dX7_expect_18 : decode cX7_expect 18 = .ok (.getfield 120, 3) := by decide +kernel
theorem dX7_expect_21 : decode cX7_expect 21 = .ok (.invokevirtual 133, 3) := by decide +kernel
theorem dX7_expect_24 : decode cX7_expect 24 = .ok (.return_, 1) := by decide +kernel
theorem dX7_expect_25 : decode cX7_expect 25 = .ok (.aload_n 0, 1) := by decide +kernel
theorem dX7_expect_26 : decode cX7_expect 26 = .ok (.dup, 1) := by decide +kernel
theorem dX7_expect_27 : decode cX7_expect 27 = .ok (.getfield 120, 3) := by decide +kernel
theorem dX7_expect_30 : decode cX7_expect 30 = .ok (.iconst 1, 1) := by decide +kernel
theorem dX7_expect_31 : decode cX7_expect 31 = .ok (.iadd, 1) := by decide +kernel
theorem dX7_expect_32 : decode cX7_expect 32 = .ok (.putfield 120, 3) := by decide +kernel
theorem dX7_expect_35 : decode cX7_expect 35 = .ok (.aload_n 0, 1) := by decide +kernel
theorem dX7_expect_36 : decode cX7_expect 36 = .ok (.invokevirtual 136, 3) := by decide +kernel
theorem dX7_expect_39 : decode cX7_expect 39 = .ok (.return_, 1) := by decide +kernel
set_option maxRecDepth 20000 in
theorem ggX7_kind_X7_here : GoodIn wsX7_kind wsX7_here := goodIn_r _ [6, 1, 7, 8, 18, 19, 20, 21, 22, 23, 24, 25, 26, 27, 28, 29, 30, 31, 32] (by decide +kernel) (by decide +kernel)
set_option maxRecDepth 20000 in
theorem gX7_kind_X7_here : GoodIn wsX7_kind (wsV RX7 123 RX7 yX7_here wsX7_here) := goodIn_app (goodIn_of _ (by decide +kernel)) ggX7_kind_X7_here
set_option maxRecDepth 20000 in
theorem ggX7_kind_X7_fail : GoodIn wsX7_kind wsX7_fail := goodIn_r _ [12, 13, 18, 19, 20, 21, 22, 23, 24, 25, 26, 27, 28, 29, 30, 31, 32] (by decide +kernel) (by decide +kernel)
set_option maxRecDepth 20000 in
theorem gX7_kind_X7_fail : GoodIn wsX7_kind (wsV RX7 133 RX7 yX7_fail wsX7_fail) := goodIn_app (goodIn_of _ (by decide +kernel)) ggX7_kind_X7_fail
set_option maxRecDepth 20000 in
theorem ggX7_kind_X7_skip : GoodIn wsX7_kind wsX7_skip := goodIn_r _ [17, 1, 2, 3, 4, 5, 6, 7, 8, 18, 19, 20, 21, 22, 23, 24, 25, 26, 27, 28, 29, 30, 31, 32] (by decide +kernel) (by decide +kernel)
set_option maxRecDepth 20000 in
theorem gX7_kind_X7_skip : GoodIn wsX7_kind (wsV RX7 136 RX7 yX7_skip wsX7_skip) := goodIn_app (goodIn_of _ (by decide +kernel)) ggX7_kind_X7_skip
theorem dX7_kind_0 : decode cX7_kind 0 = .ok (.aload_n 0, 1) := by decide +kernel
theorem dX7_kind_1 : decode cX7_kind 1 = .ok (.invokevirtual 123, 3) := by decide +kernel
theorem dX7_kind_4 : decode cX7_kind 4 = .ok (.istore_n 1, 1) := by decide +kernel
theorem dX7_kind_5 : decode cX7_kind 5 = .ok (.iload_n 1, 1) := by decide +kernel
theorem dX7_kind_6 : decode cX7_kind 6 = .ok (.bipush 119, 2) := by decide +kernel
theorem dX7_kind_8 : decode cX7_kind 8 = .ok (.if_icmp .ne 7, 3) := by decide +kernel
theorem dX7_kind_11 : decode cX7_kind 11 = .ok (.iconst 0, 1) := by decide +kernel
theorem dX7_kind_12 : decode cX7_kind 12 = .ok (.goto 14, 3) := by decide +kernel
theorem dX7_kind_15 : decode cX7_kind 15 = .ok (.iload_n 1, 1) := by decide +kernel
theorem dX7_kind_16 : decode cX7_kind 16 = .ok (.bipush 99, 2) := by decide +kernel
theorem dX7_kind_18 : decode cX7_kind 18 = .ok (.if_icmp .ne 7, 3) := by decide +kernel
theorem dX7_kind_21 : decode cX7_kind 21 = .ok (.iconst 1, 1) := by decide +kernel
theorem dX7_kind_22 : decode cX7_kind 22 = .ok (.goto 4, 3) := by decide +kernel
theorem dX7_kind_25 : decode cX7_kind 25 = .ok (.iconst 2, 1) := by decide +kernel
theorem dX7_kind_26 : decode cX7_kind 26 = .ok (.istore_n 2, 1) := by decide +kernel
theorem dX7_kind_27 : decode cX7_kind 27 = .ok (.iload_n 1, 1) := by decide +kernel
theorem dX7_kind_28 : decode cX7_kind 28 = .ok (.bipush 119, 2) := by decide +kernel
theorem dX7_kind_30 : decode cX7_kind 30 = .ok (.if_icmp .eq 23, 3) := by decide +kernel
theorem dX7_kind_33 : decode cX7_kind 33 = .ok (.iload_n 1, 1) := by decide +kernel
theorem dX7_kind_34 : decode cX7_kind 34 = .ok (.bipush 99, 2) := by decide +kernel
theorem dX7_kind_36 : decode cX7_kind 36 = .ok (.if_icmp .eq 17, 3) := by decide +kernel
theorem dX7_kind_39 : decode cX7_kind 39 = .ok (.iload_n 1, 1) := by decide +kernel
theorem dX7_kind_40 : decode cX7_kind 40 = .ok (.bipush 108, 2) := by decide +kernel
theorem dX7_kind_42 : decode cX7_kind 42 = .ok (.if_icmp .eq 11, 3) := by decide +kernel
theorem dX7_kind_45 : decode cX7_kind 45 = .ok (.aload_n 0, 1) := by decide +kernel
theorem dX7_kind_46 : decode cX7_kind 46 = .ok (.aload_n 0, 1) := by decide +kernel
theorem dX7_kind_47 : decode cX7_kind 47 = .ok (.getfield 120, 3) := by decide +kernel
theorem dX7_kind_50 : decode cX7_kind 50 = .ok (.invokevirtual 133, 3) := by decide +kernel
theorem dX7_kind_53 : decode cX7_kind 53 = .ok (.aload_n 0, 1) := by decide +kernel
theorem dX7_kind_54 : decode cX7_kind 54 = .ok (.dup, 1) := by decide +kernel
theorem dX7_kind_55 : decode cX7_kind 55 = .ok (.getfield 120, 3) := by decide +kernel
theorem dX7_kind_58 : decode cX7_kind 58 = .ok (.iconst 1, 1) := by decide +kernel
theorem dX7_kind_59 : decode cX7_kind 59 = .ok (.iadd, 1) := by decide +kernel
theorem dX7_kind_60 : decode cX7_kind 60 = .ok (.putfield 120, 3) := by decide +kernel
theorem dX7_kind_63 : decode cX7_kind 63 = .ok (.aload_n 0, 1) := by decide +kernel
theorem dX7_kind_64 : decode cX7_kind 64 = .ok (.invokevirtual 136, 3) := by decide +kernel
theorem dX7_kind_67 : decode cX7_kind 67 = .ok (.iload_n 2, 1) := by decide +kernel
theorem dX7_kind_68 : decode cX7_kind 68 = .ok (.ireturn, 1) := by decide +kernel
set_option maxRecDepth 20000 in
theorem ggX7_readRun_X7_number : GoodIn wsX7_readRun wsX7_number := goodIn_r _ [8, 1, 9, 10, 11, 12, 7, 13, 14, 15, 16, 17, 18, 19, 20, 21, 22, 23, 24, 25, 26, 27, 28, 29, 30, 39, 40, 41, 42, 43, 44, 45, 46, 47, 48, 49, 50, 51, 52, 53] (by decide +kernel) (by decide +kernel)
set_option maxRecDepth 20000 in
theorem gX7_readRun_X7_number : GoodIn wsX7_readRun (wsV RX7 142 RX7 yX7_number wsX7_number) := goodIn_app (goodIn_of _ (by decide +kernel)) ggX7_readRun_X7_number
set_option maxRecDepth 20000 in
theorem ggX7_readRun_X7_isWell : GoodIn wsX7_readRun wsX7_isWell := goodIn_r _ [34, 26, 39, 40, 41, 42, 43, 44, 45, 46, 47, 48, 49, 50, 51, 52, 53] (by decide +kernel) (by decide +kernel)
set_option maxRecDepth 20000 in
theorem gX7_readRun_X7_isWell : GoodIn wsX7_readRun (wsV RX7 139 RX7 yX7_isWell wsX7_isWell) := goodIn_app (goodIn_of _ (by decide +kernel)) ggX7_readRun_X7_isWell
set_option maxRecDepth 20000 in
theorem ggX7_readRun_X7_fail : GoodIn wsX7_readRun wsX7_fail := goodIn_r _ [25, 26, 39, 40, 41, 42, 43, 44, 45, 46, 47, 48, 49, 50, 51, 52, 53] (by decide +kernel) (by decide +kernel)
set_option maxRecDepth 20000 in
theorem gX7_readRun_X7_fail : GoodIn wsX7_readRun (wsV RX7 133 RX7 yX7_fail wsX7_fail) := goodIn_app (goodIn_of _ (by decide +kernel)) ggX7_readRun_X7_fail
set_option maxRecDepth 20000 in
theorem ggX7_readRun_X7_kind : GoodIn wsX7_readRun wsX7_kind := goodIn_r _ [38, 1, 14, 15, 16, 7, 17, 18, 9, 22, 23, 24, 25, 26, 27, 28, 29, 30, 39, 40, 41, 42, 43, 44, 45, 46, 47, 48, 49, 50, 51, 52, 53] (by decide +kernel) (by decide +kernel)
set_option maxRecDepth 20000 in
theorem gX7_readRun_X7_kind : GoodIn wsX7_readRun (wsV RX7 145 RX7 yX7_kind wsX7_kind) := goodIn_app (goodIn_of _ (by decide +kernel)) ggX7_readRun_X7_kind
theorem dX7_readRun_0 : decode cX7_readRun 0 = .ok (.aload_n 0, 1) := by decide +kernel
theorem dX7_readRun_1 : decode cX7_readRun 1 = .ok (.getfield 120, 3) := by decide +kernel
theorem dX7_readRun_4 : decode cX7_readRun 4 = .ok (.istore_n 3, 1) := by decide +kernel
theorem dX7_readRun_5 : decode cX7_readRun 5 = .ok (.aload_n 0, 1) := by decide +kernel
theorem dX7_readRun_6 : decode cX7_readRun 6 = .ok (.iconst 1, 1) := by decide +kernel
theorem dX7_readRun_7 : decode cX7_readRun 7 = .ok (.bipush 16, 2) := by decide +kernel
theorem dX7_readRun_9 : decode cX7_readRun 9 = .ok (.invokevirtual 142, 3) := by decide +kernel
theorem dX7_readRun_12 : decode cX7_readRun 12 = .ok (.istore 4, 2) := by decide +kernel
theorem dX7_readRun_14 : decode cX7_readRun 14 = .ok (.aload_n 0, 1) := by decide +kernel
theorem dX7_readRun_15 : decode cX7_readRun 15 = .ok (.invokevirtual 139, 3) := by decide +kernel
theorem dX7_readRun_18 : decode cX7_readRun 18 = .ok (.ifCond .eq 17, 3) := by decide +kernel
theorem dX7_readRun_21 : decode cX7_readRun 21 = .ok (.iload_n 2, 1) := by decide +kernel
theorem dX7_readRun_22 : decode cX7_readRun 22 = .ok (.iload 4, 2) := by decide +kernel
theorem dX7_readRun_24 : decode cX7_readRun 24 = .ok (.iadd, 1) := by decide +kernel
theorem dX7_readRun_25 : decode cX7_readRun 25 = .ok (.bipush 16, 2) := by decide +kernel
theorem dX7_readRun_27 : decode cX7_readRun 27 = .ok (.if_icmp .le 8, 3) := by decide +kernel
theorem dX7_readRun_30 : decode cX7_readRun 30 = .ok (.aload_n 0, 1) := by decide +kernel
theorem dX7_readRun_31 : decode cX7_readRun 31 = .ok (.iload_n 3, 1) := by decide +kernel
theorem dX7_readRun_32 : decode cX7_readRun 32 = .ok (.invokevirtual 133, 3) := by decide +kernel
theorem dX7_readRun_35 : decode cX7_readRun 35 = .ok (.aload_n 0, 1) := by decide +kernel
theorem dX7_readRun_36 : decode cX7_readRun 36 = .ok (.invokevirtual 139, 3) := by decide +kernel
theorem dX7_readRun_39 : decode cX7_readRun 39 = .ok (.ifCond .ne 4, 3) := by decide +kernel
theorem dX7_readRun_42 : decode cX7_readRun 42 = .ok (.return_, 1) := by decide +kernel
theorem dX7_readRun_43 : decode cX7_readRun 43 = .ok (.aload_n 0, 1) := by decide +kernel
theorem dX7_readRun_44 : decode cX7_readRun 44 = .ok (.invokevirtual 145, 3) := by decide +kernel
theorem dX7_readRun_47 : decode cX7_readRun 47 = .ok (.istore 5, 2) := by decide +kernel
theorem dX7_readRun_49 : decode cX7_readRun 49 = .ok (.iconst 0, 1) := by decide +kernel
theorem dX7_readRun_50 : decode cX7_readRun 50 = .ok (.istore 6, 2) := by decide +kernel
theorem dX7_readRun_52 : decode cX7_readRun 52 = .ok (.iload 6, 2) := by decide +kernel
theorem dX7_readRun_54 : decode cX7_readRun 54 = .ok (.iload 4, 2) := by decide +kernel
theorem dX7_readRun_56 : decode cX7_readRun 56 = .ok (.if_icmp .ge 32, 3) := by decide +kernel
theorem dX7_readRun_59 : decode cX7_readRun 59 = .ok (.aload_n 0, 1) := by decide +kernel
theorem dX7_readRun_60 : decode cX7_readRun 60 = .ok (.invokevirtual 139, 3) := by decide +kernel
theorem dX7_readRun_63 : decode cX7_readRun 63 = .ok (.ifCond .eq 25, 3) := by decide +kernel
theorem dX7_readRun_66 : decode cX7_readRun 66 = .ok (.aload_n 0, 1) := by decide +kernel
theorem dX7_readRun_67 : decode cX7_readRun 67 = .ok (.getfield 25, 3) := by decide +kernel
theorem dX7_readRun_70 : decode cX7_readRun 70 = .ok (.bipush 16, 2) := by decide +kernel
theorem dX7_readRun_72 : decode cX7_readRun 72 = .ok (.iload_n 1, 1) := by decide +kernel
theorem dX7_readRun_73 : decode cX7_readRun 73 = .ok (.imul, 1) := by decide +kernel
theorem dX7_readRun_74 : decode cX7_readRun 74 = .ok (.iload_n 2, 1) := by decide +kernel
theorem dX7_readRun_75 : decode cX7_readRun 75 = .ok (.iadd, 1) := by decide +kernel
theorem dX7_readRun_76 : decode cX7_readRun 76 = .ok (.iload 6, 2) := by decide +kernel
theorem dX7_readRun_78 : decode cX7_readRun 78 = .ok (.iadd, 1) := by decide +kernel
theorem dX7_readRun_79 : decode cX7_readRun 79 = .ok (.iload 5, 2) := by decide +kernel
theorem dX7_readRun_81 : decode cX7_readRun 81 = .ok (.iastore, 1) := by decide +kernel
theorem dX7_readRun_82 : decode cX7_readRun 82 = .ok (.iinc 6 1, 3) := by decide +kernel
theorem dX7_readRun_85 : decode cX7_readRun 85 = .ok (.goto (-33), 3) := by decide +kernel
theorem dX7_readRun_88 : decode cX7_readRun 88 = .ok (.aload_n 0, 1) := by decide +kernel
theorem dX7_readRun_89 : decode cX7_readRun 89 = .ok (.iload_n 2, 1) := by decide +kernel
theorem dX7_readRun_90 : decode cX7_readRun 90 = .ok (.iload 4, 2) := by decide +kernel
theorem dX7_readRun_92 : decode cX7_readRun 92 = .ok (.iadd, 1) := by decide +kernel
theorem dX7_readRun_93 : decode cX7_readRun 93 = .ok (.putfield 148, 3) := by decide +kernel
theorem dX7_readRun_96 : decode cX7_readRun 96 = .ok (.return_, 1) := by decide +kernel
set_option maxRecDepth 20000 in
theorem ggX7_readRow_X7_number : GoodIn wsX7_readRow wsX7_number := goodIn_r _ [7, 2, 8, 9, 10, 11, 6, 12, 13, 14, 15, 16, 17, 18, 19, 20, 21, 22, 23, 24, 25, 26, 27, 28, 29, 47, 48, 49, 50, 51, 52, 53, 54, 55, 56, 57, 58, 59, 60, 61] (by decide +kernel) (by decide +kernel)
set_option maxRecDepth 20000 in
theorem gX7_readRow_X7_number : GoodIn wsX7_readRow (wsV RX7 142 RX7 yX7_number wsX7_number) := goodIn_app (goodIn_of _ (by decide +kernel)) ggX7_readRow_X7_number
set_option maxRecDepth 20000 in
theorem ggX7_readRow_X7_expect : GoodIn wsX7_readRow wsX7_expect := goodIn_r _ [33, 2, 34, 35, 36, 6, 37, 25, 13, 14, 15, 16, 17, 8, 21, 22, 23, 24, 26, 27, 28, 29, 47, 48, 49, 50, 51, 52, 53, 54, 55, 56, 57, 58, 59, 60, 61] (by decide +kernel) (by decide +kernel)
set_option maxRecDepth 20000 in
theorem gX7_readRow_X7_expect : GoodIn wsX7_readRow (wsV RX7 151 RX7 yX7_expect wsX7_expect) := goodIn_app (goodIn_of _ (by decide +kernel)) ggX7_readRow_X7_expect
set_option maxRecDepth 20000 in
theorem ggX7_readRow_X7_isWell : GoodIn wsX7_readRow wsX7_isWell := goodIn_r _ [37, 25, 47, 48, 49, 50, 51, 52, 53, 54, 55, 56, 57, 58, 59, 60, 61] (by decide +kernel) (by decide +kernel)
set_option maxRecDepth 20000 in
theorem gX7_readRow_X7_isWell : GoodIn wsX7_readRow (wsV RX7 139 RX7 yX7_isWell wsX7_isWell) := goodIn_app (goodIn_of _ (by decide +kernel)) ggX7_readRow_X7_isWell
set_option maxRecDepth 20000 in
theorem ggX7_readRow_X7_isDigit : GoodIn wsX7_readRow wsX7_isDigit := goodIn_r _ [12, 13, 14, 15, 6, 16, 2, 17, 8, 18, 19, 20, 47, 48, 49, 50, 51, 52, 53, 54, 55, 56, 57, 58, 59, 60, 61] (by decide +kernel) (by decide +kernel)
set_option maxRecDepth 20000 in
theorem gX7_readRow_X7_isDigit : GoodIn wsX7_readRow (wsV RX7 129 RX7 yX7_isDigit wsX7_isDigit) := goodIn_app (goodIn_of _ (by decide +kernel)) ggX7_readRow_X7_isDigit
set_option maxRecDepth 20000 in
theorem ggX7_readRow_X7_readRun : GoodIn wsX7_readRow wsX7_readRun := goodIn_r _ [41, 2, 42, 1, 3, 4, 5, 6, 7, 8, 9, 10, 11, 12, 13, 14, 15, 16, 17, 18, 19, 20, 21, 22, 23, 24, 25, 26, 27, 28, 29, 34, 35, 36, 37, 43, 44, 45, 46, 47, 48, 49, 50, 51, 52, 53, 54, 55, 56, 57, 58, 59, 60, 61] (by decide +kernel) (by decide +kernel)
set_option maxRecDepth 20000 in
theorem gX7_readRow_X7_readRun : GoodIn wsX7_readRow (wsV RX7 154 RX7 yX7_readRun wsX7_readRun) := goodIn_app (goodIn_of _ (by decide +kernel)) ggX7_readRow_X7_readRun
set_option maxRecDepth 20000 in
theorem ggX7_readRow_X7_here : GoodIn wsX7_readRow wsX7_here := goodIn_r _ [16, 2, 17, 8, 47, 48, 49, 50, 51, 52, 53, 54, 55, 56, 57, 58, 59, 60, 61] (by decide +kernel) (by decide +kernel)
set_option maxRecDepth 20000 in
theorem gX7_readRow_X7_here : GoodIn wsX7_readRow (wsV RX7 123 RX7 yX7_here wsX7_here) := goodIn_app (goodIn_of _ (by decide +kernel)) ggX7_readRow_X7_here
set_option maxRecDepth 20000 in
theorem ggX7_readRow_X7_fail : GoodIn wsX7_readRow wsX7_fail := goodIn_r _ [24, 25, 47, 48, 49, 50, 51, 52, 53, 54, 55, 56, 57, 58, 59, 60, 61] (by decide +kernel) (by decide +kernel)
set_option maxRecDepth 20000 in
theorem gX7_readRow_X7_fail : GoodIn wsX7_readRow (wsV RX7 133 RX7 yX7_fail wsX7_fail) := goodIn_app (goodIn_of _ (by decide +kernel)) ggX7_readRow_X7_fail
theorem dX7_readRow_0 : decode cX7_readRow 0 = .ok (.aload_n 0, 1) := by decide +kernel
theorem dX7_readRow_1 : decode cX7_readRow 1 = .ok (.iconst 0, 1) := by decide +kernel
theorem dX7_readRow_2 : decode cX7_readRow 2 = .ok (.bipush 11, 2) := by decide +kernel
theorem dX7_readRow_4 : decode cX7_readRow 4 = .ok (.invokevirtual 142, 3) := by decide +kernel
theorem dX7_readRow_7 : decode cX7_readRow 7 = .ok (.istore_n 1, 1) := by decide +kernel
theorem dX7_readRow_8 : decode cX7_readRow 8 = .ok (.aload_n 0, 1) := by decide +kernel
theorem dX7_readRow_9 : decode cX7_readRow 9 = .ok (.bipush 58, 2) := by decide +kernel
theorem dX7_readRow_11 : decode cX7_readRow 11 = .ok (.invokevirtual 151, 3) := by decide +kernel
theorem dX7_readRow_14 : decode cX7_readRow 14 = .ok (.aload_n 0, 1) := by decide +kernel
theorem dX7_readRow_15 : decode cX7_readRow 15 = .ok (.iconst 0, 1) := by decide +kernel
theorem dX7_readRow_16 : decode cX7_readRow 16 = .ok (.putfield 148, 3) := by decide +kernel
theorem dX7_readRow_19 : decode cX7_readRow 19 = .ok (.aload_n 0, 1) := by decide +kernel
theorem dX7_readRow_20 : decode cX7_readRow 20 = .ok (.invokevirtual 139, 3) := by decide +kernel
theorem dX7_readRow_23 : decode cX7_readRow 23 = .ok (.ifCond .eq 22, 3) := by decide +kernel
theorem dX7_readRow_26 : decode cX7_readRow 26 = .ok (.aload_n 0, 1) := by decide +kernel
theorem dX7_readRow_27 : decode cX7_readRow 27 = .ok (.invokevirtual 129, 3) := by decide +kernel
theorem dX7_readRow_30 : decode cX7_readRow 30 = .ok (.ifCond .eq 15, 3) := by decide +kernel
theorem dX7_readRow_33 : decode cX7_readRow 33 = .ok (.aload_n 0, 1) := by decide +kernel
theorem dX7_readRow_34 : decode cX7_readRow 34 = .ok (.iload_n 1, 1) := by decide +kernel
theorem dX7_readRow_35 : decode cX7_readRow 35 = .ok (.aload_n 0, 1) := by decide +kernel
theorem dX7_readRow_36 : decode cX7_readRow 36 = .ok (.getfield 148, 3) := by decide +kernel
theorem dX7_readRow_39 : decode cX7_readRow 39 = .ok (.invokevirtual 154, 3) := by decide +kernel
theorem dX7_readRow_42 : decode cX7_readRow 42 = .ok (.goto (-23), 3) := by decide +kernel
theorem dX7_readRow_45 : decode cX7_readRow 45 = .ok (.aload_n 0, 1) := by decide +kernel
theorem dX7_readRow_46 : decode cX7_readRow 46 = .ok (.invokevirtual 139, 3) := by decide +kernel
theorem dX7_readRow_49 : decode cX7_readRow 49 = .ok (.ifCond .eq 29, 3) := by decide +kernel
theorem dX7_readRow_52 : decode cX7_readRow 52 = .ok (.aload_n 0, 1) := by decide +kernel
theorem dX7_readRow_53 : decode cX7_readRow 53 = .ok (.invokevirtual 123, 3) := by decide +kernel
theorem dX7_readRow_56 : decode cX7_readRow 56 = .ok (.bipush 59, 2) := by decide +kernel
theorem dX7_readRow_58 : decode cX7_readRow 58 = .ok (.if_icmp .ne 20, 3) := by decide +kernel
theorem dX7_readRow_61 : decode cX7_readRow 61 = .ok (.aload_n 0, 1) := by decide +kernel
theorem dX7_readRow_62 : decode cX7_readRow 62 = .ok (.getfield 148, 3) := by decide +kernel
theorem dX7_readRow_65 : decode cX7_readRow 65 = .ok (.bipush 16, 2) := by decide +kernel
theorem dX7_readRow_67 : decode cX7_readRow 67 = .ok (.if_icmp .ge 11, 3) := by decide +kernel
theorem dX7_readRow_70 : decode cX7_readRow 70 = .ok (.aload_n 0, 1) := by decide +kernel
theorem dX7_readRow_71 : decode cX7_readRow 71 = .ok (.aload_n 0, 1) := by decide +kernel
theorem dX7_readRow_72 : decode cX7_readRow 72 = .ok (.getfield 120, 3) := by decide +kernel
theorem dX7_readRow_75 : decode cX7_readRow 75 = .ok (.invokevirtual 133, 3) := by decide +kernel
theorem dX7_readRow_78 : decode cX7_readRow 78 = .ok (.aload_n 0, 1) := by decide +kernel
theorem dX7_readRow_79 : decode cX7_readRow 79 = .ok (.bipush 59, 2) := by decide +kernel
theorem dX7_readRow_81 : decode cX7_readRow 81 = .ok (.invokevirtual 151, 3) := by decide +kernel
theorem dX7_readRow_84 : decode cX7_readRow 84 = .ok (.return_, 1) := by decide +kernel
set_option maxRecDepth 20000 in
theorem ggX7_load_X7_skip : GoodIn wsX7_load wsX7_skip := goodIn_r _ [11, 4, 12, 13, 14, 10, 15, 6, 16, 59, 60, 61, 62, 63, 64, 65, 66, 67, 68, 69, 70, 71, 72, 73] (by decide +kernel) (by decide +kernel)
set_option maxRecDepth 20000 in
theorem gX7_load_X7_skip : GoodIn wsX7_load (wsV RX7 136 RX7 yX7_skip wsX7_skip) := goodIn_app (goodIn_of _ (by decide +kernel)) ggX7_load_X7_skip
set_option maxRecDepth 20000 in
theorem ggX7_load_X7_isWell : GoodIn wsX7_load wsX7_isWell := goodIn_r _ [20, 5, 59, 60, 61, 62, 63, 64, 65, 66, 67, 68, 69, 70, 71, 72, 73] (by decide +kernel) (by decide +kernel)
set_option maxRecDepth 20000 in
theorem gX7_load_X7_isWell : GoodIn wsX7_load (wsV RX7 139 RX7 yX7_isWell wsX7_isWell) := goodIn_app (goodIn_of _ (by decide +kernel)) ggX7_load_X7_isWell
set_option maxRecDepth 20000 in
theorem ggX7_load_X7_readRow : GoodIn wsX7_load wsX7_readRow := goodIn_r _ [24, 25, 4, 26, 27, 28, 10, 29, 16, 30, 31, 32, 33, 12, 13, 14, 15, 6, 34, 35, 36, 37, 38, 39, 40, 5, 7, 8, 9, 11, 41, 42, 43, 44, 17, 18, 19, 20, 45, 46, 47, 48, 2, 49, 50, 51, 52, 59, 60, 61, 62, 63, 64, 65, 66, 67, 68, 69, 70, 71, 72, 73] (by decide +kernel) (by decide +kernel)
set_option maxRecDepth 20000 in
theorem gX7_load_X7_readRow : GoodIn wsX7_load (wsV RX7 157 RX7 yX7_readRow wsX7_readRow) := goodIn_app (goodIn_of _ (by decide +kernel)) ggX7_load_X7_readRow
set_option maxRecDepth 20000 in
theorem ggX7_load_X7_act : GoodIn wsX7_load wsX7_act := goodIn_r _ [56, 57, 58, 3, 59, 60, 61, 62, 63, 64, 65, 66, 67, 68, 69, 70, 71, 72, 73] (by decide +kernel) (by decide +kernel)
set_option maxRecDepth 20000 in
theorem gX7_load_X7_act : GoodIn wsX7_load (wsV RX7 88 RX7 yX7_act wsX7_act) := goodIn_app (goodIn_of _ (by decide +kernel)) ggX7_load_X7_act
theorem dX7_load_0 : decode cX7_load 0 = .ok (.aload_n 0, 1) := by decide +kernel
theorem dX7_load_1 : decode cX7_load 1 = .ok (.iconst 0, 1) := by decide +kernel
theorem dX7_load_2 : decode cX7_load 2 = .ok (.putfield 28, 3) := by decide +kernel
theorem dX7_load_5 : decode cX7_load 5 = .ok (.iconst 0, 1) := by decide +kernel
theorem dX7_load_6 : decode cX7_load 6 = .ok (.istore_n 1, 1) := by decide +kernel
theorem dX7_load_7 : decode cX7_load 7 = .ok (.iload_n 1, 1) := by decide +kernel
theorem dX7_load_8 : decode cX7_load 8 = .ok (.sipush 192, 3) := by decide +kernel
theorem dX7_load_11 : decode cX7_load 11 = .ok (.if_icmp .ge 23, 3) := by decide +kernel
theorem dX7_load_14 : decode cX7_load 14 = .ok (.aload_n 0, 1) := by decide +kernel
theorem dX7_load_15 : decode cX7_load 15 = .ok (.getfield 25, 3) := by decide +kernel
theorem dX7_load_18 : decode cX7_load 18 = .ok (.iload_n 1, 1) := by decide +kernel
theorem dX7_load_19 : decode cX7_load 19 = .ok (.aload_n 0, 1) := by decide +kernel
theorem dX7_load_20 : decode cX7_load 20 = .ok (.getfield 7, 3) := by decide +kernel
theorem dX7_load_23 : decode cX7_load 23 = .ok (.iconst 0, 1) := by decide +kernel
theorem dX7_load_24 : decode cX7_load 24 = .ok (.iload_n 1, 1) := by decide +kernel
theorem dX7_load_25 : decode cX7_load 25 = .ok (.iadd, 1) := by decide +kernel
theorem dX7_load_26 : decode cX7_load 26 = .ok (.iaload, 1) := by decide +kernel
theorem dX7_load_27 : decode cX7_load 27 = .ok (.iastore, 1) := by decide +kernel
theorem dX7_load_28 : decode cX7_load 28 = .ok (.iinc 1 1, 3) := by decide +kernel
theorem dX7_load_31 : decode cX7_load 31 = .ok (.goto (-24), 3) := by decide +kernel
theorem dX7_load_34 : decode cX7_load 34 = .ok (.aload_n 0, 1) := by decide +kernel
theorem dX7_load_35 : decode cX7_load 35 = .ok (.iconst 0, 1) := by decide +kernel
theorem dX7_load_36 : decode cX7_load 36 = .ok (.putfield 120, 3) := by decide +kernel
theorem dX7_load_39 : decode cX7_load 39 = .ok (.aload_n 0, 1) := by decide +kernel
theorem dX7_load_40 : decode cX7_load 40 = .ok (.iconst (-1), 1) := by decide +kernel
theorem dX7_load_41 : decode cX7_load 41 = .ok (.putfield 126, 3) := by decide +kernel
theorem dX7_load_44 : decode cX7_load 44 = .ok (.iconst 0, 1) := by decide +kernel
theorem dX7_load_45 : decode cX7_load 45 = .ok (.istore_n 1, 1) := by decide +kernel
theorem dX7_load_46 : decode cX7_load 46 = .ok (.aload_n 0, 1) := by decide +kernel
theorem dX7_load_47 : decode cX7_load 47 = .ok (.invokevirtual 136, 3) := by decide +kernel
theorem dX7_load_50 : decode cX7_load 50 = .ok (.aload_n 0, 1) := by decide +kernel
theorem dX7_load_51 : decode cX7_load 51 = .ok (.invokevirtual 139, 3) := by decide +kernel
theorem dX7_load_54 : decode cX7_load 54 = .ok (.ifCond .eq 24, 3) := by decide +kernel
theorem dX7_load_57 : decode cX7_load 57 = .ok (.aload_n 0, 1) := by decide +kernel
theorem dX7_load_58 : decode cX7_load 58 = .ok (.getfield 120, 3) := by decide +kernel
theorem dX7_load_61 : decode cX7_load 61 = .ok (.aload_n 0, 1) := by decide +kernel
theorem dX7_load_62 : decode cX7_load 62 = .ok (.getfield 117, 3) := by decide +kernel
theorem dX7_load_65 : decode cX7_load 65 = .ok (.if_icmp .ge 13, 3) := by decide +kernel
theorem dX7_load_68 : decode cX7_load 68 = .ok (.aload_n 0, 1) := by decide +kernel
theorem dX7_load_69 : decode cX7_load 69 = .ok (.invokevirtual 157, 3) := by decide +kernel
theorem dX7_load_72 : decode cX7_load 72 = .ok (.iinc 1 1, 3) := by decide +kernel
theorem dX7_load_75 : decode cX7_load 75 = .ok (.goto (-25), 3) := by decide +kernel
theorem dX7_load_78 : decode cX7_load 78 = .ok (.aload_n 0, 1) := by decide +kernel
theorem dX7_load_79 : decode cX7_load 79 = .ok (.invokevirtual 139, 3) := by decide +kernel
theorem dX7_load_82 : decode cX7_load 82 = .ok (.ifCond .ne 12, 3) := by decide +kernel
theorem dX7_load_85 : decode cX7_load 85 = .ok (.sipush (-2000), 3) := by decide +kernel
theorem dX7_load_88 : decode cX7_load 88 = .ok (.aload_n 0, 1) := by decide +kernel
theorem dX7_load_89 : decode cX7_load 89 = .ok (.getfield 126, 3) := by decide +kernel
theorem dX7_load_92 : decode cX7_load 92 = .ok (.isub, 1) := by decide +kernel
theorem dX7_load_93 : decode cX7_load 93 = .ok (.ireturn, 1) := by decide +kernel
theorem dX7_load_94 : decode cX7_load 94 = .ok (.aload_n 0, 1) := by decide +kernel
theorem dX7_load_95 : decode cX7_load 95 = .ok (.invokevirtual 88, 3) := by decide +kernel
theorem dX7_load_98 : decode cX7_load 98 = .ok (.iconst 0, 1) := by decide +kernel
theorem dX7_load_99 : decode cX7_load 99 = .ok (.istore_n 2, 1) := by decide +kernel
theorem dX7_load_100 : decode cX7_load 100 = .ok (.iload_n 2, 1) := by decide +kernel
theorem dX7_load_101 : decode cX7_load 101 = .ok (.sipush 192, 3) := by decide +kernel
theorem dX7_load_104 : decode cX7_load 104 = .ok (.if_icmp .ge 23, 3) := by decide +kernel
theorem dX7_load_107 : decode cX7_load 107 = .ok (.aload_n 0, 1) := by decide +kernel
theorem dX7_load_108 : decode cX7_load 108 = .ok (.getfield 7, 3) := by decide +kernel
theorem dX7_load_111 : decode cX7_load 111 = .ok (.iconst 0, 1) := by decide +kernel
theorem dX7_load_112 : decode cX7_load 112 = .ok (.iload_n 2, 1) := by decide +kernel
theorem dX7_load_113 : decode cX7_load 113 = .ok (.iadd, 1) := by decide +kernel
theorem dX7_load_114 : decode cX7_load 114 = .ok (.aload_n 0, 1) := by decide +kernel
theorem dX7_load_115 : decode cX7_load 115 = .ok (.getfield 25, 3) := by decide +kernel
theorem dX7_load_118 : decode cX7_load 118 = .ok (.iload_n 2, 1) := by decide +kernel
theorem dX7_load_119 : decode cX7_load 119 = .ok (.iaload, 1) := by decide +kernel
theorem dX7_load_120 : decode cX7_load 120 = .ok (.iastore, 1) := by decide +kernel
theorem dX7_load_121 : decode cX7_load 121 = .ok (.iinc 2 1, 3) := by decide +kernel
theorem dX7_load_124 : decode cX7_load 124 = .ok (.goto (-24), 3) := by decide +kernel
theorem dX7_load_127 : decode cX7_load 127 = .ok (.aload_n 0, 1) := by decide +kernel
theorem dX7_load_128 : decode cX7_load 128 = .ok (.iconst 0, 1) := by decide +kernel
theorem dX7_load_129 : decode cX7_load 129 = .ok (.putfield 117, 3) := by decide +kernel
theorem dX7_load_132 : decode cX7_load 132 = .ok (.iload_n 1, 1) := by decide +kernel
theorem dX7_load_133 : decode cX7_load 133 = .ok (.ireturn, 1) := by decide +kernel
set_option maxRecDepth 20000 in
theorem ggX7_count_X7_shiftX : GoodIn wsX7_count wsX7_shiftX := goodIn_r _ [9, 2, 26, 27, 28, 29, 30, 31, 32, 33, 34, 35, 36, 37, 38, 39, 40] (by decide +kernel) (by decide +kernel)
set_option maxRecDepth 20000 in
theorem gX7_count_X7_shiftX : GoodIn wsX7_count (wsV RX7 81 RX7 yX7_shiftX wsX7_shiftX) := goodIn_app (goodIn_of _ (by decide +kernel)) ggX7_count_X7_shiftX
set_option maxRecDepth 20000 in
theorem ggX7_count_X7_shiftY : GoodIn wsX7_count wsX7_shiftY := goodIn_r _ [13, 2, 26, 27, 28, 29, 30, 31, 32, 33, 34, 35, 36, 37, 38, 39, 40] (by decide +kernel) (by decide +kernel)
set_option maxRecDepth 20000 in
theorem gX7_count_X7_shiftY : GoodIn wsX7_count (wsV RX7 85 RX7 yX7_shiftY wsX7_shiftY) := goodIn_app (goodIn_of _ (by decide +kernel)) ggX7_count_X7_shiftY
set_option maxRecDepth 20000 in
theorem ggX7_count_X7_many : GoodIn wsX7_count wsX7_many := goodIn_r _ [17, 2, 26, 27, 28, 29, 30, 31, 32, 33, 34, 35, 36, 37, 38, 39, 40] (by decide +kernel) (by decide +kernel)
set_option maxRecDepth 20000 in
theorem gX7_count_X7_many : GoodIn wsX7_count (wsV RX7 39 RX7 yX7_many wsX7_many) := goodIn_app (goodIn_of _ (by decide +kernel)) ggX7_count_X7_many
set_option maxRecDepth 20000 in
theorem ggX7_count_X7_wornCells : GoodIn wsX7_count wsX7_wornCells := goodIn_r _ [21, 22, 23, 24, 8, 25, 2, 26, 27, 28, 29, 30, 31, 32, 33, 34, 35, 36, 37, 38, 39, 40] (by decide +kernel) (by decide +kernel)
set_option maxRecDepth 20000 in
theorem gX7_count_X7_wornCells : GoodIn wsX7_count (wsV RX7 98 RX7 yX7_wornCells wsX7_wornCells) := goodIn_app (goodIn_of _ (by decide +kernel)) ggX7_count_X7_wornCells
theorem dX7_count_0 : decode cX7_count 0 = .ok (.aload_n 0, 1) := by decide +kernel
theorem dX7_count_1 : decode cX7_count 1 = .ok (.iconst 0, 1) := by decide +kernel
theorem dX7_count_2 : decode cX7_count 2 = .ok (.putfield 28, 3) := by decide +kernel
theorem dX7_count_5 : decode cX7_count 5 = .ok (.iload_n 1, 1) := by decide +kernel
theorem dX7_count_6 : decode cX7_count 6 = .ok (.tableswitch 230 0 19 #[94, 103, 103, 103, 103, 103, 103, 103, 116, 129, 142, 142, 142, 152, 161, 170, 175, 202, 220, 225], 94) := by decide +kernel
theorem dX7_count_100 : decode cX7_count 100 = .ok (.aload_n 0, 1) := by decide +kernel
theorem dX7_count_101 : decode cX7_count 101 = .ok (.getfield 7, 3) := by decide +kernel
theorem dX7_count_104 : decode cX7_count 104 = .ok (.sipush 775, 3) := by decide +kernel
theorem dX7_count_107 : decode cX7_count 107 = .ok (.iaload, 1) := by decide +kernel
theorem dX7_count_108 : decode cX7_count 108 = .ok (.ireturn, 1) := by decide +kernel
theorem dX7_count_109 : decode cX7_count 109 = .ok (.aload_n 0, 1) := by decide +kernel
theorem dX7_count_110 : decode cX7_count 110 = .ok (.getfield 7, 3) := by decide +kernel
theorem dX7_count_113 : decode cX7_count 113 = .ok (.sipush 768, 3) := by decide +kernel
theorem dX7_count_116 : decode cX7_count 116 = .ok (.iload_n 1, 1) := by decide +kernel
theorem dX7_count_117 : decode cX7_count 117 = .ok (.iadd, 1) := by decide +kernel
theorem dX7_count_118 : decode cX7_count 118 = .ok (.iconst 1, 1) := by decide +kernel
theorem dX7_count_119 : decode cX7_count 119 = .ok (.isub, 1) := by decide +kernel
theorem dX7_count_120 : decode cX7_count 120 = .ok (.iaload, 1) := by decide +kernel
theorem dX7_count_121 : decode cX7_count 121 = .ok (.ireturn, 1) := by decide +kernel
theorem dX7_count_122 : decode cX7_count 122 = .ok (.aload_n 0, 1) := by decide +kernel
theorem dX7_count_123 : decode cX7_count 123 = .ok (.aload_n 0, 1) := by decide +kernel
theorem dX7_count_124 : decode cX7_count 124 = .ok (.getfield 7, 3) := by decide +kernel
theorem dX7_count_127 : decode cX7_count 127 = .ok (.sipush 773, 3) := by decide +kernel
theorem dX7_count_130 : decode cX7_count 130 = .ok (.iaload, 1) := by decide +kernel
theorem dX7_count_131 : decode cX7_count 131 = .ok (.invokevirtual 81, 3) := by decide +kernel
theorem dX7_count_134 : decode cX7_count 134 = .ok (.ireturn, 1) := by decide +kernel
theorem dX7_count_135 : decode cX7_count 135 = .ok (.aload_n 0, 1) := by decide +kernel
theorem dX7_count_136 : decode cX7_count 136 = .ok (.aload_n 0, 1) := by decide +kernel
theorem dX7_count_137 : decode cX7_count 137 = .ok (.getfield 7, 3) := by decide +kernel
theorem dX7_count_140 : decode cX7_count 140 = .ok (.sipush 774, 3) := by decide +kernel
theorem dX7_count_143 : decode cX7_count 143 = .ok (.iaload, 1) := by decide +kernel
theorem dX7_count_144 : decode cX7_count 144 = .ok (.invokevirtual 85, 3) := by decide +kernel
theorem dX7_count_147 : decode cX7_count 147 = .ok (.ireturn, 1) := by decide +kernel
theorem dX7_count_148 : decode cX7_count 148 = .ok (.aload_n 0, 1) := by decide +kernel
theorem dX7_count_149 : decode cX7_count 149 = .ok (.iconst 0, 1) := by decide +kernel
theorem dX7_count_150 : decode cX7_count 150 = .ok (.iload_n 1, 1) := by decide +kernel
theorem dX7_count_151 : decode cX7_count 151 = .ok (.bipush 10, 2) := by decide +kernel
theorem dX7_count_153 : decode cX7_count 153 = .ok (.isub, 1) := by decide +kernel
theorem dX7_count_154 : decode cX7_count 154 = .ok (.invokevirtual 39, 3) := by decide +kernel
theorem dX7_count_157 : decode cX7_count 157 = .ok (.ireturn, 1) := by decide +kernel
theorem dX7_count_158 : decode cX7_count 158 = .ok (.aload_n 0, 1) := by decide +kernel
theorem dX7_count_159 : decode cX7_count 159 = .ok (.sipush 192, 3) := by decide +kernel
theorem dX7_count_162 : decode cX7_count 162 = .ok (.iconst 1, 1) := by decide +kernel
theorem dX7_count_163 : decode cX7_count 163 = .ok (.invokevirtual 39, 3) := by decide +kernel
theorem dX7_count_166 : decode cX7_count 166 = .ok (.ireturn, 1) := by decide +kernel
theorem dX7_count_167 : decode cX7_count 167 = .ok (.aload_n 0, 1) := by decide +kernel
theorem dX7_count_168 : decode cX7_count 168 = .ok (.sipush 576, 3) := by decide +kernel
theorem dX7_count_171 : decode cX7_count 171 = .ok (.iconst 1, 1) := by decide +kernel
theorem dX7_count_172 : decode cX7_count 172 = .ok (.invokevirtual 39, 3) := by decide +kernel
theorem dX7_count_175 : decode cX7_count 175 = .ok (.ireturn, 1) := by decide +kernel
theorem dX7_count_176 : decode cX7_count 176 = .ok (.aload_n 0, 1) := by decide +kernel
theorem dX7_count_177 : decode cX7_count 177 = .ok (.invokevirtual 98, 3) := by decide +kernel
theorem dX7_count_180 : decode cX7_count 180 = .ok (.ireturn, 1) := by decide +kernel
theorem dX7_count_181 : decode cX7_count 181 = .ok (.aload_n 0, 1) := by decide +kernel
theorem dX7_count_182 : decode cX7_count 182 = .ok (.getfield 7, 3) := by decide +kernel
theorem dX7_count_185 : decode cX7_count 185 = .ok (.sipush 775, 3) := by decide +kernel
theorem dX7_count_188 : decode cX7_count 188 = .ok (.iaload, 1) := by decide +kernel
theorem dX7_count_189 : decode cX7_count 189 = .ok (.bipush 12, 2) := by decide +kernel
theorem dX7_count_191 : decode cX7_count 191 = .ok (.if_icmp .ge 14, 3) := by decide +kernel
theorem dX7_count_194 : decode cX7_count 194 = .ok (.aload_n 0, 1) := by decide +kernel
theorem dX7_count_195 : decode cX7_count 195 = .ok (.getfield 7, 3) := by decide +kernel
theorem dX7_count_198 : decode cX7_count 198 = .ok (.sipush 775, 3) := by decide +kernel
theorem dX7_count_201 : decode cX7_count 201 = .ok (.iaload, 1) := by decide +kernel
theorem dX7_count_202 : decode cX7_count 202 = .ok (.goto 5, 3) := by decide +kernel
theorem dX7_count_205 : decode cX7_count 205 = .ok (.bipush 12, 2) := by decide +kernel
theorem dX7_count_207 : decode cX7_count 207 = .ok (.ireturn, 1) := by decide +kernel
theorem dX7_count_208 : decode cX7_count 208 = .ok (.aload_n 0, 1) := by decide +kernel
theorem dX7_count_209 : decode cX7_count 209 = .ok (.getfield 7, 3) := by decide +kernel
theorem dX7_count_212 : decode cX7_count 212 = .ok (.sipush 836, 3) := by decide +kernel
theorem dX7_count_215 : decode cX7_count 215 = .ok (.iaload, 1) := by decide +kernel
theorem dX7_count_216 : decode cX7_count 216 = .ok (.aload_n 0, 1) := by decide +kernel
theorem dX7_count_217 : decode cX7_count 217 = .ok (.getfield 7, 3) := by decide +kernel
theorem dX7_count_220 : decode cX7_count 220 = .ok (.sipush 1605, 3) := by decide +kernel
theorem dX7_count_223 : decode cX7_count 223 = .ok (.iaload, 1) := by decide +kernel
theorem dX7_count_224 : decode cX7_count 224 = .ok (.iadd, 1) := by decide +kernel
theorem dX7_count_225 : decode cX7_count 225 = .ok (.ireturn, 1) := by decide +kernel
theorem dX7_count_226 : decode cX7_count 226 = .ok (.aload_n 0, 1) := by decide +kernel
theorem dX7_count_227 : decode cX7_count 227 = .ok (.getfield 36, 3) := by decide +kernel
theorem dX7_count_230 : decode cX7_count 230 = .ok (.ireturn, 1) := by decide +kernel
theorem dX7_count_231 : decode cX7_count 231 = .ok (.aload_n 0, 1) := by decide +kernel
theorem dX7_count_232 : decode cX7_count 232 = .ok (.getfield 117, 3) := by decide +kernel
theorem dX7_count_235 : decode cX7_count 235 = .ok (.ireturn, 1) := by decide +kernel
theorem dX7_count_236 : decode cX7_count 236 = .ok (.sipush (-1001), 3) := by decide +kernel
theorem dX7_count_239 : decode cX7_count 239 = .ok (.ireturn, 1) := by decide +kernel
set_option maxRecDepth 20000 in
theorem ggX7_cell_X7_isCell : GoodIn wsX7_cell wsX7_isCell := goodIn_r _ [6, 7, 8, 5, 9] (by decide +kernel) (by decide +kernel)
set_option maxRecDepth 20000 in
theorem gX7_cell_X7_isCell : GoodIn wsX7_cell (va_wsS RX7 47 yX7_isCell wsX7_isCell) := goodIn_app (goodIn_of _ (by decide +kernel)) ggX7_cell_X7_isCell
set_option maxRecDepth 20000 in
theorem ggX7_cell_X7_isWorn : GoodIn wsX7_cell wsX7_isWorn := goodIn_r _ [13, 2, 14, 15, 16, 17, 18, 19, 20, 21, 22, 23, 24, 25, 26, 27, 28] (by decide +kernel) (by decide +kernel)
set_option maxRecDepth 20000 in
theorem gX7_cell_X7_isWorn : GoodIn wsX7_cell (wsV RX7 43 RX7 yX7_isWorn wsX7_isWorn) := goodIn_app (goodIn_of _ (by decide +kernel)) ggX7_cell_X7_isWorn
theorem dX7_cell_0 : decode cX7_cell 0 = .ok (.aload_n 0, 1) := by decide +kernel
theorem dX7_cell_1 : decode cX7_cell 1 = .ok (.iconst 0, 1) := by decide +kernel
theorem dX7_cell_2 : decode cX7_cell 2 = .ok (.putfield 28, 3) := by decide +kernel
theorem dX7_cell_5 : decode cX7_cell 5 = .ok (.iload_n 1, 1) := by decide +kernel
theorem dX7_cell_6 : decode cX7_cell 6 = .ok (.iload_n 2, 1) := by decide +kernel
theorem dX7_cell_7 : decode cX7_cell 7 = .ok (.invokestatic 47, 3) := by decide +kernel
theorem dX7_cell_10 : decode cX7_cell 10 = .ok (.ifCond .ne 7, 3) := by decide +kernel
theorem dX7_cell_13 : decode cX7_cell 13 = .ok (.sipush (-1001), 3) := by decide +kernel
theorem dX7_cell_16 : decode cX7_cell 16 = .ok (.ireturn, 1) := by decide +kernel
theorem dX7_cell_17 : decode cX7_cell 17 = .ok (.bipush 16, 2) := by decide +kernel
theorem dX7_cell_19 : decode cX7_cell 19 = .ok (.iload_n 2, 1) := by decide +kernel
theorem dX7_cell_20 : decode cX7_cell 20 = .ok (.imul, 1) := by decide +kernel
theorem dX7_cell_21 : decode cX7_cell 21 = .ok (.iload_n 1, 1) := by decide +kernel
theorem dX7_cell_22 : decode cX7_cell 22 = .ok (.iadd, 1) := by decide +kernel
theorem dX7_cell_23 : decode cX7_cell 23 = .ok (.istore 4, 2) := by decide +kernel
theorem dX7_cell_25 : decode cX7_cell 25 = .ok (.iload_n 3, 1) := by decide +kernel
theorem dX7_cell_26 : decode cX7_cell 26 = .ok (.tableswitch 114 0 4 #[34, 44, 56, 68, 99], 34) := by decide +kernel
theorem dX7_cell_60 : decode cX7_cell 60 = .ok (.aload_n 0, 1) := by decide +kernel
theorem dX7_cell_61 : decode cX7_cell 61 = .ok (.getfield 7, 3) := by decide +kernel
theorem dX7_cell_64 : decode cX7_cell 64 = .ok (.iconst 0, 1) := by decide +kernel
theorem dX7_cell_65 : decode cX7_cell 65 = .ok (.iload 4, 2) := by decide +kernel
theorem dX7_cell_67 : decode cX7_cell 67 = .ok (.iadd, 1) := by decide +kernel
theorem dX7_cell_68 : decode cX7_cell 68 = .ok (.iaload, 1) := by decide +kernel
theorem dX7_cell_69 : decode cX7_cell 69 = .ok (.ireturn, 1) := by decide +kernel
theorem dX7_cell_70 : decode cX7_cell 70 = .ok (.aload_n 0, 1) := by decide +kernel
theorem dX7_cell_71 : decode cX7_cell 71 = .ok (.getfield 7, 3) := by decide +kernel
theorem dX7_cell_74 : decode cX7_cell 74 = .ok (.sipush 192, 3) := by decide +kernel
theorem dX7_cell_77 : decode cX7_cell 77 = .ok (.iload 4, 2) := by decide +kernel
theorem dX7_cell_79 : decode cX7_cell 79 = .ok (.iadd, 1) := by decide +kernel
theorem dX7_cell_80 : decode cX7_cell 80 = .ok (.iaload, 1) := by decide +kernel
theorem dX7_cell_81 : decode cX7_cell 81 = .ok (.ireturn, 1) := by decide +kernel
theorem dX7_cell_82 : decode cX7_cell 82 = .ok (.aload_n 0, 1) := by decide +kernel
theorem dX7_cell_83 : decode cX7_cell 83 = .ok (.getfield 7, 3) := by decide +kernel
theorem dX7_cell_86 : decode cX7_cell 86 = .ok (.sipush 576, 3) := by decide +kernel
theorem dX7_cell_89 : decode cX7_cell 89 = .ok (.iload 4, 2) := by decide +kernel
theorem dX7_cell_91 : decode cX7_cell 91 = .ok (.iadd, 1) := by decide +kernel
theorem dX7_cell_92 : decode cX7_cell 92 = .ok (.iaload, 1) := by decide +kernel
theorem dX7_cell_93 : decode cX7_cell 93 = .ok (.ireturn, 1) := by decide +kernel
theorem dX7_cell_94 : decode cX7_cell 94 = .ok (.aload_n 0, 1) := by decide +kernel
theorem dX7_cell_95 : decode cX7_cell 95 = .ok (.getfield 7, 3) := by decide +kernel
theorem dX7_cell_98 : decode cX7_cell 98 = .ok (.sipush 192, 3) := by decide +kernel
theorem dX7_cell_101 : decode cX7_cell 101 = .ok (.iload 4, 2) := by decide +kernel
theorem dX7_cell_103 : decode cX7_cell 103 = .ok (.iadd, 1) := by decide +kernel
theorem dX7_cell_104 : decode cX7_cell 104 = .ok (.iaload, 1) := by decide +kernel
theorem dX7_cell_105 : decode cX7_cell 105 = .ok (.iconst 1, 1) := by decide +kernel
theorem dX7_cell_106 : decode cX7_cell 106 = .ok (.if_icmp .ne 17, 3) := by decide +kernel
theorem dX7_cell_109 : decode cX7_cell 109 = .ok (.aload_n 0, 1) := by decide +kernel
theorem dX7_cell_110 : decode cX7_cell 110 = .ok (.getfield 7, 3) := by decide +kernel
theorem dX7_cell_113 : decode cX7_cell 113 = .ok (.sipush 384, 3) := by decide +kernel
theorem dX7_cell_116 : decode cX7_cell 116 = .ok (.iload 4, 2) := by decide +kernel
theorem dX7_cell_118 : decode cX7_cell 118 = .ok (.iadd, 1) := by decide +kernel
theorem dX7_cell_119 : decode cX7_cell 119 = .ok (.iaload, 1) := by decide +kernel
theorem dX7_cell_120 : decode cX7_cell 120 = .ok (.goto 4, 3) := by decide +kernel
theorem dX7_cell_123 : decode cX7_cell 123 = .ok (.iconst 0, 1) := by decide +kernel
theorem dX7_cell_124 : decode cX7_cell 124 = .ok (.ireturn, 1) := by decide +kernel
theorem dX7_cell_125 : decode cX7_cell 125 = .ok (.aload_n 0, 1) := by decide +kernel
theorem dX7_cell_126 : decode cX7_cell 126 = .ok (.iload 4, 2) := by decide +kernel
theorem dX7_cell_128 : decode cX7_cell 128 = .ok (.invokevirtual 43, 3) := by decide +kernel
theorem dX7_cell_131 : decode cX7_cell 131 = .ok (.ifCond .eq 7, 3) := by decide +kernel
theorem dX7_cell_134 : decode cX7_cell 134 = .ok (.iconst 1, 1) := by decide +kernel
theorem dX7_cell_135 : decode cX7_cell 135 = .ok (.goto 4, 3) := by decide +kernel
theorem dX7_cell_138 : decode cX7_cell 138 = .ok (.iconst 0, 1) := by decide +kernel
theorem dX7_cell_139 : decode cX7_cell 139 = .ok (.ireturn, 1) := by decide +kernel
theorem dX7_cell_140 : decode cX7_cell 140 = .ok (.sipush (-1001), 3) := by decide +kernel
theorem dX7_cell_143 : decode cX7_cell 143 = .ok (.ireturn, 1) := by decide +kernel
set_option maxRecDepth 20000 in
theorem ggX7_printed_X7_isCell : GoodIn wsX7_printed wsX7_isCell := goodIn_r _ [5, 6, 7, 4, 8] (by decide +kernel) (by decide +kernel)
set_option maxRecDepth 20000 in
theorem gX7_printed_X7_isCell : GoodIn wsX7_printed (va_wsS RX7 47 yX7_isCell wsX7_isCell) := goodIn_app (goodIn_of _ (by decide +kernel)) ggX7_printed_X7_isCell
set_option maxRecDepth 20000 in
theorem ggX7_printed_X7_isShift : GoodIn wsX7_printed wsX7_isShift := goodIn_r _ [11, 6, 7, 4, 8] (by decide +kernel) (by decide +kernel)
set_option maxRecDepth 20000 in
theorem gX7_printed_X7_isShift : GoodIn wsX7_printed (va_wsS RX7 160 yX7_isShift wsX7_isShift) := goodIn_app (goodIn_of _ (by decide +kernel)) ggX7_printed_X7_isShift
set_option maxRecDepth 20000 in
theorem ggX7_printed_X7_lay : GoodIn wsX7_printed wsX7_lay := goodIn_r _ [15, 16, 17, 18, 19, 20, 4, 21, 30, 31, 32, 33, 34, 35, 36, 37, 38, 39, 40, 41, 42, 43, 44] (by decide +kernel) (by decide +kernel)
set_option maxRecDepth 20000 in
theorem gX7_printed_X7_lay : GoodIn wsX7_printed (wsV RX7 78 RX7 yX7_lay wsX7_lay) := goodIn_app (goodIn_of _ (by decide +kernel)) ggX7_printed_X7_lay
set_option maxRecDepth 20000 in
theorem ggX7_printed_X7_look : GoodIn wsX7_printed wsX7_look := goodIn_r _ [25, 16, 26, 27, 28, 4, 29, 2, 3, 5, 6, 7, 8, 30, 31, 32, 33, 34, 35, 36, 37, 38, 39, 40, 41, 42, 43, 44] (by decide +kernel) (by decide +kernel)
set_option maxRecDepth 20000 in
theorem gX7_printed_X7_look : GoodIn wsX7_printed (wsV RX7 70 RX7 yX7_look wsX7_look) := goodIn_app (goodIn_of _ (by decide +kernel)) ggX7_printed_X7_look
theorem dX7_printed_0 : decode cX7_printed 0 = .ok (.aload_n 0, 1) := by decide +kernel
theorem dX7_printed_1 : decode cX7_printed 1 = .ok (.iconst 0, 1) := by decide +kernel
theorem dX7_printed_2 : decode cX7_printed 2 = .ok (.putfield 28, 3) := by decide +kernel
theorem dX7_printed_5 : decode cX7_printed 5 = .ok (.iload_n 1, 1) := by decide +kernel
theorem dX7_printed_6 : decode cX7_printed 6 = .ok (.iload_n 2, 1) := by decide +kernel
theorem dX7_printed_7 : decode cX7_printed 7 = .ok (.invokestatic 47, 3) := by decide +kernel
theorem dX7_printed_10 : decode cX7_printed 10 = .ok (.ifCond .eq 12, 3) := by decide +kernel
theorem dX7_printed_13 : decode cX7_printed 13 = .ok (.iload_n 3, 1) := by decide +kernel
theorem dX7_printed_14 : decode cX7_printed 14 = .ok (.iload 4, 2) := by decide +kernel
theorem dX7_printed_16 : decode cX7_printed 16 = .ok (.invokestatic 160, 3) := by decide +kernel
theorem dX7_printed_19 : decode cX7_printed 19 = .ok (.ifCond .ne 7, 3) := by decide +kernel
theorem dX7_printed_22 : decode cX7_printed 22 = .ok (.sipush (-1001), 3) := by decide +kernel
theorem dX7_printed_25 : decode cX7_printed 25 = .ok (.ireturn, 1) := by decide +kernel
theorem dX7_printed_26 : decode cX7_printed 26 = .ok (.aload_n 0, 1) := by decide +kernel
theorem dX7_printed_27 : decode cX7_printed 27 = .ok (.invokevirtual 78, 3) := by decide +kernel
theorem dX7_printed_30 : decode cX7_printed 30 = .ok (.aload_n 0, 1) := by decide +kernel
theorem dX7_printed_31 : decode cX7_printed 31 = .ok (.iload_n 1, 1) := by decide +kernel
theorem dX7_printed_32 : decode cX7_printed 32 = .ok (.iload_n 2, 1) := by decide +kernel
theorem dX7_printed_33 : decode cX7_printed 33 = .ok (.iload_n 3, 1) := by decide +kernel
theorem dX7_printed_34 : decode cX7_printed 34 = .ok (.iload 4, 2) := by decide +kernel
theorem dX7_printed_36 : decode cX7_printed 36 = .ok (.invokevirtual 70, 3) := by decide +kernel
theorem dX7_printed_39 : decode cX7_printed 39 = .ok (.ireturn, 1) := by decide +kernel
set_option maxRecDepth 20000 in
theorem ggX7_proof_X7_in : GoodIn wsX7_proof wsX7_in := goodIn_r _ [6] (by decide +kernel) (by decide +kernel)
set_option maxRecDepth 20000 in
theorem gX7_proof_X7_in : GoodIn wsX7_proof (va_wsS RX7 32 yX7_in wsX7_in) := goodIn_app (goodIn_of _ (by decide +kernel)) ggX7_proof_X7_in
theorem dX7_proof_0 : decode cX7_proof 0 = .ok (.aload_n 0, 1) := by decide +kernel
theorem dX7_proof_1 : decode cX7_proof 1 = .ok (.iconst 0, 1) := by decide +kernel
theorem dX7_proof_2 : decode cX7_proof 2 = .ok (.putfield 28, 3) := by decide +kernel
theorem dX7_proof_5 : decode cX7_proof 5 = .ok (.iload_n 1, 1) := by decide +kernel
theorem dX7_proof_6 : decode cX7_proof 6 = .ok (.ifCond .lt 12, 3) := by decide +kernel
theorem dX7_proof_9 : decode cX7_proof 9 = .ok (.iload_n 2, 1) := by decide +kernel
theorem dX7_proof_10 : decode cX7_proof 10 = .ok (.iconst 0, 1) := by decide +kernel
theorem dX7_proof_11 : decode cX7_proof 11 = .ok (.iconst 5, 1) := by decide +kernel
theorem dX7_proof_12 : decode cX7_proof 12 = .ok (.invokestatic 32, 3) := by decide +kernel
theorem dX7_proof_15 : decode cX7_proof 15 = .ok (.ifCond .ne 7, 3) := by decide +kernel
theorem dX7_proof_18 : decode cX7_proof 18 = .ok (.sipush (-1001), 3) := by decide +kernel
theorem dX7_proof_21 : decode cX7_proof 21 = .ok (.ireturn, 1) := by decide +kernel
theorem dX7_proof_22 : decode cX7_proof 22 = .ok (.iload_n 1, 1) := by decide +kernel
theorem dX7_proof_23 : decode cX7_proof 23 = .ok (.bipush 12, 2) := by decide +kernel
theorem dX7_proof_25 : decode cX7_proof 25 = .ok (.if_icmp .ge 15, 3) := by decide +kernel
theorem dX7_proof_28 : decode cX7_proof 28 = .ok (.iload_n 1, 1) := by decide +kernel
theorem dX7_proof_29 : decode cX7_proof 29 = .ok (.aload_n 0, 1) := by decide +kernel
theorem dX7_proof_30 : decode cX7_proof 30 = .ok (.getfield 7, 3) := by decide +kernel
theorem dX7_proof_33 : decode cX7_proof 33 = .ok (.sipush 775, 3) := by decide +kernel
theorem dX7_proof_36 : decode cX7_proof 36 = .ok (.iaload, 1) := by decide +kernel
theorem dX7_proof_37 : decode cX7_proof 37 = .ok (.if_icmp .lt 7, 3) := by decide +kernel
theorem dX7_proof_40 : decode cX7_proof 40 = .ok (.sipush (-1009), 3) := by decide +kernel
theorem dX7_proof_43 : decode cX7_proof 43 = .ok (.ireturn, 1) := by decide +kernel
theorem dX7_proof_44 : decode cX7_proof 44 = .ok (.aload_n 0, 1) := by decide +kernel
theorem dX7_proof_45 : decode cX7_proof 45 = .ok (.getfield 7, 3) := by decide +kernel
theorem dX7_proof_48 : decode cX7_proof 48 = .ok (.sipush 775, 3) := by decide +kernel
theorem dX7_proof_51 : decode cX7_proof 51 = .ok (.iaload, 1) := by decide +kernel
theorem dX7_proof_52 : decode cX7_proof 52 = .ok (.iload_n 1, 1) := by decide +kernel
theorem dX7_proof_53 : decode cX7_proof 53 = .ok (.isub, 1) := by decide +kernel
theorem dX7_proof_54 : decode cX7_proof 54 = .ok (.istore_n 3, 1) := by decide +kernel
theorem dX7_proof_55 : decode cX7_proof 55 = .ok (.iload_n 2, 1) := by decide +kernel
theorem dX7_proof_56 : decode cX7_proof 56 = .ok (.ifCond .ne 5, 3) := by decide +kernel
theorem dX7_proof_59 : decode cX7_proof 59 = .ok (.iload_n 3, 1) := by decide +kernel
theorem dX7_proof_60 : decode cX7_proof 60 = .ok (.ireturn, 1) := by decide +kernel
theorem dX7_proof_61 : decode cX7_proof 61 = .ok (.aload_n 0, 1) := by decide +kernel
theorem dX7_proof_62 : decode cX7_proof 62 = .ok (.getfield 7, 3) := by decide +kernel
theorem dX7_proof_65 : decode cX7_proof 65 = .ok (.sipush 776, 3) := by decide +kernel
theorem dX7_proof_68 : decode cX7_proof 68 = .ok (.iconst 5, 1) := by decide +kernel
theorem dX7_proof_69 : decode cX7_proof 69 = .ok (.iload_n 3, 1) := by decide +kernel
theorem dX7_proof_70 : decode cX7_proof 70 = .ok (.iconst 1, 1) := by decide +kernel
theorem dX7_proof_71 : decode cX7_proof 71 = .ok (.isub, 1) := by decide +kernel
theorem dX7_proof_72 : decode cX7_proof 72 = .ok (.bipush 12, 2) := by decide +kernel
theorem dX7_proof_74 : decode cX7_proof 74 = .ok (.irem, 1) := by decide +kernel
theorem dX7_proof_75 : decode cX7_proof 75 = .ok (.imul, 1) := by decide +kernel
theorem dX7_proof_76 : decode cX7_proof 76 = .ok (.iadd, 1) := by decide +kernel
theorem dX7_proof_77 : decode cX7_proof 77 = .ok (.iload_n 2, 1) := by decide +kernel
theorem dX7_proof_78 : decode cX7_proof 78 = .ok (.iadd, 1) := by decide +kernel
theorem dX7_proof_79 : decode cX7_proof 79 = .ok (.iconst 1, 1) := by decide +kernel
theorem dX7_proof_80 : decode cX7_proof 80 = .ok (.isub, 1) := by decide +kernel
theorem dX7_proof_81 : decode cX7_proof 81 = .ok (.iaload, 1) := by decide +kernel
theorem dX7_proof_82 : decode cX7_proof 82 = .ok (.istore 4, 2) := by decide +kernel
theorem dX7_proof_84 : decode cX7_proof 84 = .ok (.iload_n 2, 1) := by decide +kernel
theorem dX7_proof_85 : decode cX7_proof 85 = .ok (.iconst 3, 1) := by decide +kernel
theorem dX7_proof_86 : decode cX7_proof 86 = .ok (.if_icmp .ge 11, 3) := by decide +kernel
theorem dX7_proof_89 : decode cX7_proof 89 = .ok (.iload 4, 2) := by decide +kernel
theorem dX7_proof_91 : decode cX7_proof 91 = .ok (.bipush 8, 2) := by decide +kernel
theorem dX7_proof_93 : decode cX7_proof 93 = .ok (.iadd, 1) := by decide +kernel
theorem dX7_proof_94 : decode cX7_proof 94 = .ok (.goto 5, 3) := by decide +kernel
theorem dX7_proof_97 : decode cX7_proof 97 = .ok (.iload 4, 2) := by decide +kernel
theorem dX7_proof_99 : decode cX7_proof 99 = .ok (.ireturn, 1) := by decide +kernel
set_option maxRecDepth 20000 in
theorem ggX7_faults_X7_isShift : GoodIn wsX7_faults wsX7_isShift := goodIn_r _ [8, 9, 10, 7, 11] (by decide +kernel) (by decide +kernel)
set_option maxRecDepth 20000 in
theorem gX7_faults_X7_isShift : GoodIn wsX7_faults (va_wsS RX7 160 yX7_isShift wsX7_isShift) := goodIn_app (goodIn_of _ (by decide +kernel)) ggX7_faults_X7_isShift
set_option maxRecDepth 20000 in
theorem ggX7_faults_X7_in : GoodIn wsX7_faults wsX7_in := goodIn_r _ [11] (by decide +kernel) (by decide +kernel)
set_option maxRecDepth 20000 in
theorem gX7_faults_X7_in : GoodIn wsX7_faults (va_wsS RX7 32 yX7_in wsX7_in) := goodIn_app (goodIn_of _ (by decide +kernel)) ggX7_faults_X7_in
set_option maxRecDepth 20000 in
theorem ggX7_faults_X7_lay : GoodIn wsX7_faults wsX7_lay := goodIn_r _ [15, 16, 17, 18, 19, 20, 7, 21, 37, 38, 39, 40, 41, 42, 43, 44, 45, 46, 47, 48, 49, 50, 51] (by decide +kernel) (by decide +kernel)
set_option maxRecDepth 20000 in
theorem gX7_faults_X7_lay : GoodIn wsX7_faults (wsV RX7 78 RX7 yX7_lay wsX7_lay) := goodIn_app (goodIn_of _ (by decide +kernel)) ggX7_faults_X7_lay
set_option maxRecDepth 20000 in
theorem ggX7_faults_X7_check : GoodIn wsX7_faults wsX7_check := goodIn_r _ [25, 2, 3, 4, 17, 26, 27, 28, 7, 29, 16, 30, 31, 32, 33, 34, 35, 36, 9, 10, 11, 37, 38, 39, 40, 41, 42, 43, 44, 45, 46, 47, 48, 49, 50, 51] (by decide +kernel) (by decide +kernel)
set_option maxRecDepth 20000 in
theorem gX7_faults_X7_check : GoodIn wsX7_faults (wsV RX7 74 RX7 yX7_check wsX7_check) := goodIn_app (goodIn_of _ (by decide +kernel)) ggX7_faults_X7_check
theorem dX7_faults_0 : decode cX7_faults 0 = .ok (.aload_n 0, 1) := by decide +kernel
theorem dX7_faults_1 : decode cX7_faults 1 = .ok (.iconst 0, 1) := by decide +kernel
theorem dX7_faults_2 : decode cX7_faults 2 = .ok (.putfield 28, 3) := by decide +kernel
theorem dX7_faults_5 : decode cX7_faults 5 = .ok (.iload_n 1, 1) := by decide +kernel
theorem dX7_faults_6 : decode cX7_faults 6 = .ok (.iload_n 2, 1) := by decide +kernel
theorem dX7_faults_7 : decode cX7_faults 7 = .ok (.invokestatic 160, 3) := by decide +kernel
theorem dX7_faults_10 : decode cX7_faults 10 = .ok (.ifCond .eq 12, 3) := by decide +kernel
theorem dX7_faults_13 : decode cX7_faults 13 = .ok (.iload_n 3, 1) := by decide +kernel
theorem dX7_faults_14 : decode cX7_faults 14 = .ok (.iconst 0, 1) := by decide +kernel
theorem dX7_faults_15 : decode cX7_faults 15 = .ok (.iconst 2, 1) := by decide +kernel
theorem dX7_faults_16 : decode cX7_faults 16 = .ok (.invokestatic 32, 3) := by decide +kernel
theorem dX7_faults_19 : decode cX7_faults 19 = .ok (.ifCond .ne 7, 3) := by decide +kernel
theorem dX7_faults_22 : decode cX7_faults 22 = .ok (.sipush (-1001), 3) := by decide +kernel
theorem dX7_faults_25 : decode cX7_faults 25 = .ok (.ireturn, 1) := by decide +kernel
theorem dX7_faults_26 : decode cX7_faults 26 = .ok (.aload_n 0, 1) := by decide +kernel
theorem dX7_faults_27 : decode cX7_faults 27 = .ok (.invokevirtual 78, 3) := by decide +kernel
theorem dX7_faults_30 : decode cX7_faults 30 = .ok (.aload_n 0, 1) := by decide +kernel
theorem dX7_faults_31 : decode cX7_faults 31 = .ok (.iload_n 1, 1) := by decide +kernel
theorem dX7_faults_32 : decode cX7_faults 32 = .ok (.iload_n 2, 1) := by decide +kernel
theorem dX7_faults_33 : decode cX7_faults 33 = .ok (.invokevirtual 74, 3) := by decide +kernel
theorem dX7_faults_36 : decode cX7_faults 36 = .ok (.iload_n 3, 1) := by decide +kernel
theorem dX7_faults_37 : decode cX7_faults 37 = .ok (.ifCond .ne 10, 3) := by decide +kernel
theorem dX7_faults_40 : decode cX7_faults 40 = .ok (.aload_n 0, 1) := by decide +kernel
theorem dX7_faults_41 : decode cX7_faults 41 = .ok (.getfield 61, 3) := by decide +kernel
theorem dX7_faults_44 : decode cX7_faults 44 = .ok (.goto 19, 3) := by decide +kernel
theorem dX7_faults_47 : decode cX7_faults 47 = .ok (.iload_n 3, 1) := by decide +kernel
theorem dX7_faults_48 : decode cX7_faults 48 = .ok (.iconst 1, 1) := by decide +kernel
theorem dX7_faults_49 : decode cX7_faults 49 = .ok (.if_icmp .ne 10, 3) := by decide +kernel
theorem dX7_faults_52 : decode cX7_faults 52 = .ok (.aload_n 0, 1) := by decide +kernel
theorem dX7_faults_53 : decode cX7_faults 53 = .ok (.getfield 64, 3) := by decide +kernel
theorem dX7_faults_56 : decode cX7_faults 56 = .ok (.goto 7, 3) := by decide +kernel
theorem dX7_faults_59 : decode cX7_faults 59 = .ok (.aload_n 0, 1) := by decide +kernel
theorem dX7_faults_60 : decode cX7_faults 60 = .ok (.getfield 67, 3) := by decide +kernel
theorem dX7_faults_63 : decode cX7_faults 63 = .ok (.ireturn, 1) := by decide +kernel
set_option maxRecDepth 20000 in
theorem ggX7_why_X7_isCell : GoodIn wsX7_why wsX7_isCell := goodIn_r _ [6, 7, 8, 5, 9] (by decide +kernel) (by decide +kernel)
set_option maxRecDepth 20000 in
theorem gX7_why_X7_isCell : GoodIn wsX7_why (va_wsS RX7 47 yX7_isCell wsX7_isCell) := goodIn_app (goodIn_of _ (by decide +kernel)) ggX7_why_X7_isCell
set_option maxRecDepth 20000 in
theorem ggX7_why_X7_lay : GoodIn wsX7_why wsX7_lay := goodIn_r _ [13, 14, 2, 15, 16, 17, 5, 18, 35, 36, 37, 38, 39, 40, 41, 42, 43, 44, 45, 46, 47, 48, 49] (by decide +kernel) (by decide +kernel)
set_option maxRecDepth 20000 in
theorem gX7_why_X7_lay : GoodIn wsX7_why (wsV RX7 78 RX7 yX7_lay wsX7_lay) := goodIn_app (goodIn_of _ (by decide +kernel)) ggX7_why_X7_lay
set_option maxRecDepth 20000 in
theorem ggX7_why_X7_shiftX : GoodIn wsX7_why wsX7_shiftX := goodIn_r _ [22, 2, 35, 36, 37, 38, 39, 40, 41, 42, 43, 44, 45, 46, 47, 48, 49] (by decide +kernel) (by decide +kernel)
set_option maxRecDepth 20000 in
theorem gX7_why_X7_shiftX : GoodIn wsX7_why (wsV RX7 81 RX7 yX7_shiftX wsX7_shiftX) := goodIn_app (goodIn_of _ (by decide +kernel)) ggX7_why_X7_shiftX
set_option maxRecDepth 20000 in
theorem ggX7_why_X7_shiftY : GoodIn wsX7_why wsX7_shiftY := goodIn_r _ [26, 2, 35, 36, 37, 38, 39, 40, 41, 42, 43, 44, 45, 46, 47, 48, 49] (by decide +kernel) (by decide +kernel)
set_option maxRecDepth 20000 in
theorem gX7_why_X7_shiftY : GoodIn wsX7_why (wsV RX7 85 RX7 yX7_shiftY wsX7_shiftY) := goodIn_app (goodIn_of _ (by decide +kernel)) ggX7_why_X7_shiftY
set_option maxRecDepth 20000 in
theorem ggX7_why_X7_look : GoodIn wsX7_why wsX7_look := goodIn_r _ [30, 14, 31, 32, 33, 5, 34, 3, 4, 6, 7, 8, 9, 35, 36, 37, 38, 39, 40, 41, 42, 43, 44, 45, 46, 47, 48, 49] (by decide +kernel) (by decide +kernel)
set_option maxRecDepth 20000 in
theorem gX7_why_X7_look : GoodIn wsX7_why (wsV RX7 70 RX7 yX7_look wsX7_look) := goodIn_app (goodIn_of _ (by decide +kernel)) ggX7_why_X7_look
set_option maxRecDepth 20000 in
theorem ggX7_why_X7_isWorn : GoodIn wsX7_why wsX7_isWorn := goodIn_r _ [18, 2, 35, 36, 37, 38, 39, 40, 41, 42, 43, 44, 45, 46, 47, 48, 49] (by decide +kernel) (by decide +kernel)
set_option maxRecDepth 20000 in
theorem gX7_why_X7_isWorn : GoodIn wsX7_why (wsV RX7 43 RX7 yX7_isWorn wsX7_isWorn) := goodIn_app (goodIn_of _ (by decide +kernel)) ggX7_why_X7_isWorn
theorem dX7_why_0 : decode cX7_why 0 = .ok (.aload_n 0, 1) := by decide +kernel
theorem dX7_why_1 : decode cX7_why 1 = .ok (.iconst 0, 1) := by decide +kernel
theorem dX7_why_2 : decode cX7_why 2 = .ok (.putfield 28, 3) := by decide +kernel
theorem dX7_why_5 : decode cX7_why 5 = .ok (.iload_n 1, 1) := by decide +kernel
theorem dX7_why_6 : decode cX7_why 6 = .ok (.iload_n 2, 1) := by decide +kernel
theorem dX7_why_7 : decode cX7_why 7 = .ok (.invokestatic 47, 3) := by decide +kernel
theorem dX7_why_10 : decode cX7_why 10 = .ok (.ifCond .ne 7, 3) := by decide +kernel
theorem dX7_why_13 : decode cX7_why 13 = .ok (.sipush (-1001), 3) := by decide +kernel
theorem dX7_why_16 : decode cX7_why 16 = .ok (.ireturn, 1) := by decide +kernel
theorem dX7_why_17 : decode cX7_why 17 = .ok (.aload_n 0, 1) := by decide +kernel
theorem dX7_why_18 : decode cX7_why 18 = .ok (.invokevirtual 78, 3) := by decide +kernel
theorem dX7_why_21 : decode cX7_why 21 = .ok (.bipush 16, 2) := by decide +kernel
theorem dX7_why_23 : decode cX7_why 23 = .ok (.iload_n 2, 1) := by decide +kernel
theorem dX7_why_24 : decode cX7_why 24 = .ok (.imul, 1) := by decide +kernel
theorem dX7_why_25 : decode cX7_why 25 = .ok (.iload_n 1, 1) := by decide +kernel
theorem dX7_why_26 : decode cX7_why 26 = .ok (.iadd, 1) := by decide +kernel
theorem dX7_why_27 : decode cX7_why 27 = .ok (.istore_n 3, 1) := by decide +kernel
theorem dX7_why_28 : decode cX7_why 28 = .ok (.aload_n 0, 1) := by decide +kernel
theorem dX7_why_29 : decode cX7_why 29 = .ok (.getfield 7, 3) := by decide +kernel
theorem dX7_why_32 : decode cX7_why 32 = .ok (.iconst 0, 1) := by decide +kernel
theorem dX7_why_33 : decode cX7_why 33 = .ok (.iload_n 3, 1) := by decide +kernel
theorem dX7_why_34 : decode cX7_why 34 = .ok (.iadd, 1) := by decide +kernel
theorem dX7_why_35 : decode cX7_why 35 = .ok (.iaload, 1) := by decide +kernel
theorem dX7_why_36 : decode cX7_why 36 = .ok (.istore 4, 2) := by decide +kernel
theorem dX7_why_38 : decode cX7_why 38 = .ok (.aload_n 0, 1) := by decide +kernel
theorem dX7_why_39 : decode cX7_why 39 = .ok (.iload_n 1, 1) := by decide +kernel
theorem dX7_why_40 : decode cX7_why 40 = .ok (.iload_n 2, 1) := by decide +kernel
theorem dX7_why_41 : decode cX7_why 41 = .ok (.aload_n 0, 1) := by decide +kernel
theorem dX7_why_42 : decode cX7_why 42 = .ok (.aload_n 0, 1) := by decide +kernel
theorem dX7_why_43 : decode cX7_why 43 = .ok (.getfield 7, 3) := by decide +kernel
theorem dX7_why_46 : decode cX7_why 46 = .ok (.sipush 773, 3) := by decide +kernel
theorem dX7_why_49 : decode cX7_why 49 = .ok (.iaload, 1) := by decide +kernel
theorem dX7_why_50 : decode cX7_why 50 = .ok (.invokevirtual 81, 3) := by decide +kernel
theorem dX7_why_53 : decode cX7_why 53 = .ok (.aload_n 0, 1) := by decide +kernel
theorem dX7_why_54 : decode cX7_why 54 = .ok (.aload_n 0, 1) := by decide +kernel
theorem dX7_why_55 : decode cX7_why 55 = .ok (.getfield 7, 3) := by decide +kernel
theorem dX7_why_58 : decode cX7_why 58 = .ok (.sipush 774, 3) := by decide +kernel
theorem dX7_why_61 : decode cX7_why 61 = .ok (.iaload, 1) := by decide +kernel
theorem dX7_why_62 : decode cX7_why 62 = .ok (.invokevirtual 85, 3) := by decide +kernel
theorem dX7_why_65 : decode cX7_why 65 = .ok (.invokevirtual 70, 3) := by decide +kernel
theorem dX7_why_68 : decode cX7_why 68 = .ok (.istore 5, 2) := by decide +kernel
theorem dX7_why_70 : decode cX7_why 70 = .ok (.iload 4, 2) := by decide +kernel
theorem dX7_why_72 : decode cX7_why 72 = .ok (.ifCond .eq 22, 3) := by decide +kernel
theorem dX7_why_75 : decode cX7_why 75 = .ok (.iload 5, 2) := by decide +kernel
theorem dX7_why_77 : decode cX7_why 77 = .ok (.ifCond .ne 17, 3) := by decide +kernel
theorem dX7_why_80 : decode cX7_why 80 = .ok (.aload_n 0, 1) := by decide +kernel
theorem dX7_why_81 : decode cX7_why 81 = .ok (.iload_n 3, 1) := by decide +kernel
theorem dX7_why_82 : decode cX7_why 82 = .ok (.invokevirtual 43, 3) := by decide +kernel
theorem dX7_why_85 : decode cX7_why 85 = .ok (.ifCond .eq 7, 3) := by decide +kernel
theorem dX7_why_88 : decode cX7_why 88 = .ok (.iconst 1, 1) := by decide +kernel
theorem dX7_why_89 : decode cX7_why 89 = .ok (.goto 4, 3) := by decide +kernel
theorem dX7_why_92 : decode cX7_why 92 = .ok (.iconst 2, 1) := by decide +kernel
theorem dX7_why_93 : decode cX7_why 93 = .ok (.ireturn, 1) := by decide +kernel
theorem dX7_why_94 : decode cX7_why 94 = .ok (.iload 4, 2) := by decide +kernel
theorem dX7_why_96 : decode cX7_why 96 = .ok (.ifCond .ne 13, 3) := by decide +kernel
theorem dX7_why_99 : decode cX7_why 99 = .ok (.iload 5, 2) := by decide +kernel
theorem dX7_why_101 : decode cX7_why 101 = .ok (.iconst 2, 1) := by decide +kernel
theorem dX7_why_102 : decode cX7_why 102 = .ok (.irem, 1) := by decide +kernel
theorem dX7_why_103 : decode cX7_why 103 = .ok (.iconst 1, 1) := by decide +kernel
theorem dX7_why_104 : decode cX7_why 104 = .ok (.if_icmp .ne 5, 3) := by decide +kernel
theorem dX7_why_107 : decode cX7_why 107 = .ok (.iconst 3, 1) := by decide +kernel
theorem dX7_why_108 : decode cX7_why 108 = .ok (.ireturn, 1) := by decide +kernel
theorem dX7_why_109 : decode cX7_why 109 = .ok (.iload 4, 2) := by decide +kernel
theorem dX7_why_111 : decode cX7_why 111 = .ok (.iconst 2, 1) := by decide +kernel
theorem dX7_why_112 : decode cX7_why 112 = .ok (.if_icmp .eq 15, 3) := by decide +kernel
theorem dX7_why_115 : decode cX7_why 115 = .ok (.iload 5, 2) := by decide +kernel
theorem dX7_why_117 : decode cX7_why 117 = .ok (.iconst 2, 1) := by decide +kernel
theorem dX7_why_118 : decode cX7_why 118 = .ok (.if_icmp .ge 7, 3) := by decide +kernel
theorem dX7_why_121 : decode cX7_why 121 = .ok (.iconst 0, 1) := by decide +kernel
theorem dX7_why_122 : decode cX7_why 122 = .ok (.goto 4, 3) := by decide +kernel
theorem dX7_why_125 : decode cX7_why 125 = .ok (.iconst 4, 1) := by decide +kernel
theorem dX7_why_126 : decode cX7_why 126 = .ok (.ireturn, 1) := by decide +kernel
theorem dX7_why_127 : decode cX7_why 127 = .ok (.iload 5, 2) := by decide +kernel
theorem dX7_why_129 : decode cX7_why 129 = .ok (.iconst 2, 1) := by decide +kernel
theorem dX7_why_130 : decode cX7_why 130 = .ok (.if_icmp .ge 7, 3) := by decide +kernel
theorem dX7_why_133 : decode cX7_why 133 = .ok (.iconst 5, 1) := by decide +kernel
theorem dX7_why_134 : decode cX7_why 134 = .ok (.goto 4, 3) := by decide +kernel
theorem dX7_why_137 : decode cX7_why 137 = .ok (.iconst 0, 1) := by decide +kernel
theorem dX7_why_138 : decode cX7_why 138 = .ok (.ireturn, 1) := by decide +kernel
set_option maxRecDepth 20000 in
theorem ggX7_tolerance_X7_lay : GoodIn wsX7_tolerance wsX7_lay := goodIn_r _ [6, 7, 8, 9, 10, 11, 5, 12, 38, 39, 40, 41, 42, 43, 44, 45, 46, 47, 48, 49, 50, 51, 52] (by decide +kernel) (by decide +kernel)
set_option maxRecDepth 20000 in
theorem gX7_tolerance_X7_lay : GoodIn wsX7_tolerance (wsV RX7 78 RX7 yX7_lay wsX7_lay) := goodIn_app (goodIn_of _ (by decide +kernel)) ggX7_tolerance_X7_lay
set_option maxRecDepth 20000 in
theorem ggX7_tolerance_X7_hasGapsWithin : GoodIn wsX7_tolerance wsX7_hasGapsWithin := goodIn_r _ [16, 17, 18, 19, 20, 5, 21, 22, 23, 8, 24, 25, 26, 27, 7, 28, 29, 30, 31, 32, 33, 34, 35, 36, 37, 38, 39, 40, 41, 42, 43, 44, 45, 46, 47, 48, 49, 50, 51, 52] (by decide +kernel) (by decide +kernel)
set_option maxRecDepth 20000 in
theorem gX7_tolerance_X7_hasGapsWithin : GoodIn wsX7_tolerance (wsV RX7 163 RX7 yX7_hasGapsWithin wsX7_hasGapsWithin) := goodIn_app (goodIn_of _ (by decide +kernel)) ggX7_tolerance_X7_hasGapsWithin
theorem dX7_tolerance_0 : decode cX7_tolerance 0 = .ok (.aload_n 0, 1) := by decide +kernel
theorem dX7_tolerance_1 : decode cX7_tolerance 1 = .ok (.iconst 0, 1) := by decide +kernel
theorem dX7_tolerance_2 : decode cX7_tolerance 2 = .ok (.putfield 28, 3) := by decide +kernel
theorem dX7_tolerance_5 : decode cX7_tolerance 5 = .ok (.aload_n 0, 1) := by decide +kernel
theorem dX7_tolerance_6 : decode cX7_tolerance 6 = .ok (.invokevirtual 78, 3) := by decide +kernel
theorem dX7_tolerance_9 : decode cX7_tolerance 9 = .ok (.iconst 0, 1) := by decide +kernel
theorem dX7_tolerance_10 : decode cX7_tolerance 10 = .ok (.istore_n 1, 1) := by decide +kernel
theorem dX7_tolerance_11 : decode cX7_tolerance 11 = .ok (.iload_n 1, 1) := by decide +kernel
theorem dX7_tolerance_12 : decode cX7_tolerance 12 = .ok (.iconst 4, 1) := by decide +kernel
theorem dX7_tolerance_13 : decode cX7_tolerance 13 = .ok (.if_icmp .gt 31, 3) := by decide +kernel
theorem dX7_tolerance_16 : decode cX7_tolerance 16 = .ok (.aload_n 0, 1) := by decide +kernel
theorem dX7_tolerance_17 : decode cX7_tolerance 17 = .ok (.iload_n 1, 1) := by decide +kernel
theorem dX7_tolerance_18 : decode cX7_tolerance 18 = .ok (.invokevirtual 163, 3) := by decide +kernel
theorem dX7_tolerance_21 : decode cX7_tolerance 21 = .ok (.ifCond .eq 17, 3) := by decide +kernel
theorem dX7_tolerance_24 : decode cX7_tolerance 24 = .ok (.iload_n 1, 1) := by decide +kernel
theorem dX7_tolerance_25 : decode cX7_tolerance 25 = .ok (.ifCond .ne 9, 3) := by decide +kernel
theorem dX7_tolerance_28 : decode cX7_tolerance 28 = .ok (.sipush (-1009), 3) := by decide +kernel
theorem dX7_tolerance_31 : decode cX7_tolerance 31 = .ok (.goto 6, 3) := by decide +kernel
theorem dX7_tolerance_34 : decode cX7_tolerance 34 = .ok (.iload_n 1, 1) := by decide +kernel
theorem dX7_tolerance_35 : decode cX7_tolerance 35 = .ok (.iconst 1, 1) := by decide +kernel
theorem dX7_tolerance_36 : decode cX7_tolerance 36 = .ok (.isub, 1) := by decide +kernel
theorem dX7_tolerance_37 : decode cX7_tolerance 37 = .ok (.ireturn, 1) := by decide +kernel
theorem dX7_tolerance_38 : decode cX7_tolerance 38 = .ok (.iinc 1 1, 3) := by decide +kernel
theorem dX7_tolerance_41 : decode cX7_tolerance 41 = .ok (.goto (-30), 3) := by decide +kernel
theorem dX7_tolerance_44 : decode cX7_tolerance 44 = .ok (.iconst 4, 1) := by decide +kernel
theorem dX7_tolerance_45 : decode cX7_tolerance 45 = .ok (.ireturn, 1) := by decide +kernel
set_option maxRecDepth 20000 in
theorem ggX7_trapFor_X7_in : GoodIn wsX7_trapFor wsX7_in := goodIn_r _ [5] (by decide +kernel) (by decide +kernel)
set_option maxRecDepth 20000 in
theorem gX7_trapFor_X7_in : GoodIn wsX7_trapFor (va_wsS RX7 32 yX7_in wsX7_in) := goodIn_app (goodIn_of _ (by decide +kernel)) ggX7_trapFor_X7_in
set_option maxRecDepth 20000 in
theorem ggX7_trapFor_X7_measure : GoodIn wsX7_trapFor wsX7_measure := goodIn_r _ [9, 10, 11, 12, 13, 14, 4, 15, 16, 17, 18, 19, 20, 21, 2, 3, 5, 46, 47, 48, 49, 50, 51, 52, 53, 54, 55, 56, 57, 58, 59, 60] (by decide +kernel) (by decide +kernel)
set_option maxRecDepth 20000 in
theorem gX7_trapFor_X7_measure : GoodIn wsX7_trapFor (wsV RX7 91 RX7 yX7_measure wsX7_measure) := goodIn_app (goodIn_of _ (by decide +kernel)) ggX7_trapFor_X7_measure
set_option maxRecDepth 20000 in
theorem ggX7_trapFor_X7_layCut : GoodIn wsX7_trapFor wsX7_layCut := goodIn_r _ [25, 26, 11, 10, 46, 47, 48, 49, 50, 51, 52, 53, 54, 55, 56, 57, 58, 59, 60] (by decide +kernel) (by decide +kernel)
set_option maxRecDepth 20000 in
theorem gX7_trapFor_X7_layCut : GoodIn wsX7_trapFor (wsV RX7 94 RX7 yX7_layCut wsX7_layCut) := goodIn_app (goodIn_of _ (by decide +kernel)) ggX7_trapFor_X7_layCut
set_option maxRecDepth 20000 in
theorem ggX7_trapFor_X7_hasGapsWithin : GoodIn wsX7_trapFor wsX7_hasGapsWithin := goodIn_r _ [30, 31, 32, 33, 34, 4, 35, 36, 37, 11, 38, 39, 40, 41, 26, 42, 43, 44, 45, 19, 20, 21, 2, 3, 5, 46, 47, 48, 49, 50, 51, 52, 53, 54, 55, 56, 57, 58, 59, 60] (by decide +kernel) (by decide +kernel)
set_option maxRecDepth 20000 in
theorem gX7_trapFor_X7_hasGapsWithin : GoodIn wsX7_trapFor (wsV RX7 163 RX7 yX7_hasGapsWithin wsX7_hasGapsWithin) := goodIn_app (goodIn_of _ (by decide +kernel)) ggX7_trapFor_X7_hasGapsWithin
theorem dX7_trapFor_0 : decode cX7_trapFor 0 = .ok (.aload_n 0, 1) := by decide +kernel
theorem dX7_trapFor_1 : decode cX7_trapFor 1 = .ok (.iconst 0, 1) := by decide +kernel
theorem dX7_trapFor_2 : decode cX7_trapFor 2 = .ok (.putfield 28, 3) := by decide +kernel
theorem dX7_trapFor_5 : decode cX7_trapFor 5 = .ok (.iload_n 1, 1) := by decide +kernel
theorem dX7_trapFor_6 : decode cX7_trapFor 6 = .ok (.iconst 0, 1) := by decide +kernel
theorem dX7_trapFor_7 : decode cX7_trapFor 7 = .ok (.iconst 4, 1) := by decide +kernel
theorem dX7_trapFor_8 : decode cX7_trapFor 8 = .ok (.invokestatic 32, 3) := by decide +kernel
theorem dX7_trapFor_11 : decode cX7_trapFor 11 = .ok (.ifCond .ne 7, 3) := by decide +kernel
theorem dX7_trapFor_14 : decode cX7_trapFor 14 = .ok (.sipush (-1001), 3) := by decide +kernel
theorem dX7_trapFor_17 : decode cX7_trapFor 17 = .ok (.ireturn, 1) := by decide +kernel
theorem dX7_trapFor_18 : decode cX7_trapFor 18 = .ok (.aload_n 0, 1) := by decide +kernel
theorem dX7_trapFor_19 : decode cX7_trapFor 19 = .ok (.invokevirtual 91, 3) := by decide +kernel
theorem dX7_trapFor_22 : decode cX7_trapFor 22 = .ok (.iconst 0, 1) := by decide +kernel
theorem dX7_trapFor_23 : decode cX7_trapFor 23 = .ok (.istore_n 2, 1) := by decide +kernel
theorem dX7_trapFor_24 : decode cX7_trapFor 24 = .ok (.iload_n 2, 1) := by decide +kernel
theorem dX7_trapFor_25 : decode cX7_trapFor 25 = .ok (.iconst 4, 1) := by decide +kernel
theorem dX7_trapFor_26 : decode cX7_trapFor 26 = .ok (.if_icmp .gt 24, 3) := by decide +kernel
theorem dX7_trapFor_29 : decode cX7_trapFor 29 = .ok (.aload_n 0, 1) := by decide +kernel
theorem dX7_trapFor_30 : decode cX7_trapFor 30 = .ok (.iload_n 2, 1) := by decide +kernel
theorem dX7_trapFor_31 : decode cX7_trapFor 31 = .ok (.invokevirtual 94, 3) := by decide +kernel
theorem dX7_trapFor_34 : decode cX7_trapFor 34 = .ok (.aload_n 0, 1) := by decide +kernel
theorem dX7_trapFor_35 : decode cX7_trapFor 35 = .ok (.iload_n 1, 1) := by decide +kernel
theorem dX7_trapFor_36 : decode cX7_trapFor 36 = .ok (.invokevirtual 163, 3) := by decide +kernel
theorem dX7_trapFor_39 : decode cX7_trapFor 39 = .ok (.ifCond .ne 5, 3) := by decide +kernel
theorem dX7_trapFor_42 : decode cX7_trapFor 42 = .ok (.iload_n 2, 1) := by decide +kernel
theorem dX7_trapFor_43 : decode cX7_trapFor 43 = .ok (.ireturn, 1) := by decide +kernel
theorem dX7_trapFor_44 : decode cX7_trapFor 44 = .ok (.iinc 2 1, 3) := by decide +kernel
theorem dX7_trapFor_47 : decode cX7_trapFor 47 = .ok (.goto (-23), 3) := by decide +kernel
theorem dX7_trapFor_50 : decode cX7_trapFor 50 = .ok (.sipush (-1009), 3) := by decide +kernel
theorem dX7_trapFor_53 : decode cX7_trapFor 53 = .ok (.ireturn, 1) := by decide +kernel
set_option maxRecDepth 20000 in
theorem ggX7_bestPins_X7_in : GoodIn wsX7_bestPins wsX7_in := goodIn_r _ [7] (by decide +kernel) (by decide +kernel)
set_option maxRecDepth 20000 in
theorem gX7_bestPins_X7_in : GoodIn wsX7_bestPins (va_wsS RX7 32 yX7_in wsX7_in) := goodIn_app (goodIn_of _ (by decide +kernel)) ggX7_bestPins_X7_in
set_option maxRecDepth 20000 in
theorem ggX7_bestPins_X7_lay : GoodIn wsX7_bestPins wsX7_lay := goodIn_r _ [11, 12, 13, 14, 15, 16, 6, 17, 42, 43, 44, 45, 46, 47, 48, 49, 50, 51, 52, 53, 54, 55, 56] (by decide +kernel) (by decide +kernel)
set_option maxRecDepth 20000 in
theorem gX7_bestPins_X7_lay : GoodIn wsX7_bestPins (wsV RX7 78 RX7 yX7_lay wsX7_lay) := goodIn_app (goodIn_of _ (by decide +kernel)) ggX7_bestPins_X7_lay
set_option maxRecDepth 20000 in
theorem ggX7_bestPins_X7_shiftX : GoodIn wsX7_bestPins wsX7_shiftX := goodIn_r _ [21, 13, 42, 43, 44, 45, 46, 47, 48, 49, 50, 51, 52, 53, 54, 55, 56] (by decide +kernel) (by decide +kernel)
set_option maxRecDepth 20000 in
theorem gX7_bestPins_X7_shiftX : GoodIn wsX7_bestPins (wsV RX7 81 RX7 yX7_shiftX wsX7_shiftX) := goodIn_app (goodIn_of _ (by decide +kernel)) ggX7_bestPins_X7_shiftX
set_option maxRecDepth 20000 in
theorem ggX7_bestPins_X7_shiftY : GoodIn wsX7_bestPins wsX7_shiftY := goodIn_r _ [25, 13, 42, 43, 44, 45, 46, 47, 48, 49, 50, 51, 52, 53, 54, 55, 56] (by decide +kernel) (by decide +kernel)
set_option maxRecDepth 20000 in
theorem gX7_bestPins_X7_shiftY : GoodIn wsX7_bestPins (wsV RX7 85 RX7 yX7_shiftY wsX7_shiftY) := goodIn_app (goodIn_of _ (by decide +kernel)) ggX7_bestPins_X7_shiftY
set_option maxRecDepth 20000 in
theorem ggX7_bestPins_X7_check : GoodIn wsX7_bestPins wsX7_check := goodIn_r _ [29, 2, 3, 30, 13, 31, 32, 33, 6, 34, 12, 35, 36, 37, 38, 39, 40, 41, 4, 5, 7, 42, 43, 44, 45, 46, 47, 48, 49, 50, 51, 52, 53, 54, 55, 56] (by decide +kernel) (by decide +kernel)
set_option maxRecDepth 20000 in
theorem gX7_bestPins_X7_check : GoodIn wsX7_bestPins (wsV RX7 74 RX7 yX7_check wsX7_check) := goodIn_app (goodIn_of _ (by decide +kernel)) ggX7_bestPins_X7_check
theorem dX7_bestPins_0 : decode cX7_bestPins 0 = .ok (.aload_n 0, 1) := by decide +kernel
theorem dX7_bestPins_1 : decode cX7_bestPins 1 = .ok (.iconst 0, 1) := by decide +kernel
theorem dX7_bestPins_2 : decode cX7_bestPins 2 = .ok (.putfield 28, 3) := by decide +kernel
theorem dX7_bestPins_5 : decode cX7_bestPins 5 = .ok (.iload_n 1, 1) := by decide +kernel
theorem dX7_bestPins_6 : decode cX7_bestPins 6 = .ok (.iconst 0, 1) := by decide +kernel
theorem dX7_bestPins_7 : decode cX7_bestPins 7 = .ok (.iconst 2, 1) := by decide +kernel
theorem dX7_bestPins_8 : decode cX7_bestPins 8 = .ok (.invokestatic 32, 3) := by decide +kernel
theorem dX7_bestPins_11 : decode cX7_bestPins 11 = .ok (.ifCond .ne 7, 3) := by decide +kernel
theorem dX7_bestPins_14 : decode cX7_bestPins 14 = .ok (.sipush (-1001), 3) := by decide +kernel
theorem dX7_bestPins_17 : decode cX7_bestPins 17 = .ok (.ireturn, 1) := by decide +kernel
theorem dX7_bestPins_18 : decode cX7_bestPins 18 = .ok (.aload_n 0, 1) := by decide +kernel
theorem dX7_bestPins_19 : decode cX7_bestPins 19 = .ok (.invokevirtual 78, 3) := by decide +kernel
theorem dX7_bestPins_22 : decode cX7_bestPins 22 = .ok (.iconst 0, 1) := by decide +kernel
theorem dX7_bestPins_23 : decode cX7_bestPins 23 = .ok (.istore_n 2, 1) := by decide +kernel
theorem dX7_bestPins_24 : decode cX7_bestPins 24 = .ok (.iconst 0, 1) := by decide +kernel
theorem dX7_bestPins_25 : decode cX7_bestPins 25 = .ok (.istore_n 3, 1) := by decide +kernel
theorem dX7_bestPins_26 : decode cX7_bestPins 26 = .ok (.sipush 385, 3) := by decide +kernel
theorem dX7_bestPins_29 : decode cX7_bestPins 29 = .ok (.istore 4, 2) := by decide +kernel
theorem dX7_bestPins_31 : decode cX7_bestPins 31 = .ok (.bipush (-4), 2) := by decide +kernel
theorem dX7_bestPins_33 : decode cX7_bestPins 33 = .ok (.istore 5, 2) := by decide +kernel
theorem dX7_bestPins_35 : decode cX7_bestPins 35 = .ok (.iload 5, 2) := by decide +kernel
theorem dX7_bestPins_37 : decode cX7_bestPins 37 = .ok (.iconst 4, 1) := by decide +kernel
theorem dX7_bestPins_38 : decode cX7_bestPins 38 = .ok (.if_icmp .gt 72, 3) := by decide +kernel
theorem dX7_bestPins_41 : decode cX7_bestPins 41 = .ok (.bipush (-4), 2) := by decide +kernel
theorem dX7_bestPins_43 : decode cX7_bestPins 43 = .ok (.istore 6, 2) := by decide +kernel
theorem dX7_bestPins_45 : decode cX7_bestPins 45 = .ok (.iload 6, 2) := by decide +kernel
theorem dX7_bestPins_47 : decode cX7_bestPins 47 = .ok (.iconst 4, 1) := by decide +kernel
theorem dX7_bestPins_48 : decode cX7_bestPins 48 = .ok (.if_icmp .gt 56, 3) := by decide +kernel
theorem dX7_bestPins_51 : decode cX7_bestPins 51 = .ok (.aload_n 0, 1) := by decide +kernel
theorem dX7_bestPins_52 : decode cX7_bestPins 52 = .ok (.aload_n 0, 1) := by decide +kernel
theorem dX7_bestPins_53 : decode cX7_bestPins 53 = .ok (.iload 5, 2) := by decide +kernel
theorem dX7_bestPins_55 : decode cX7_bestPins 55 = .ok (.invokevirtual 81, 3) := by decide +kernel
theorem dX7_bestPins_58 : decode cX7_bestPins 58 = .ok (.aload_n 0, 1) := by decide +kernel
theorem dX7_bestPins_59 : decode cX7_bestPins 59 = .ok (.iload 6, 2) := by decide +kernel
theorem dX7_bestPins_61 : decode cX7_bestPins 61 = .ok (.invokevirtual 85, 3) := by decide +kernel
theorem dX7_bestPins_64 : decode cX7_bestPins 64 = .ok (.invokevirtual 74, 3) := by decide +kernel
theorem dX7_bestPins_67 : decode cX7_bestPins 67 = .ok (.aload_n 0, 1) := by decide +kernel
theorem dX7_bestPins_68 : decode cX7_bestPins 68 = .ok (.getfield 61, 3) := by decide +kernel
theorem dX7_bestPins_71 : decode cX7_bestPins 71 = .ok (.aload_n 0, 1) := by decide +kernel
theorem dX7_bestPins_72 : decode cX7_bestPins 72 = .ok (.getfield 64, 3) := by decide +kernel
theorem dX7_bestPins_75 : decode cX7_bestPins 75 = .ok (.iadd, 1) := by decide +kernel
theorem dX7_bestPins_76 : decode cX7_bestPins 76 = .ok (.iload 4, 2) := by decide +kernel
theorem dX7_bestPins_78 : decode cX7_bestPins 78 = .ok (.if_icmp .ge 20, 3) := by decide +kernel
theorem dX7_bestPins_81 : decode cX7_bestPins 81 = .ok (.aload_n 0, 1) := by decide +kernel
theorem dX7_bestPins_82 : decode cX7_bestPins 82 = .ok (.getfield 61, 3) := by decide +kernel
theorem dX7_bestPins_85 : decode cX7_bestPins 85 = .ok (.aload_n 0, 1) := by decide +kernel
theorem dX7_bestPins_86 : decode cX7_bestPins 86 = .ok (.getfield 64, 3) := by decide +kernel
theorem dX7_bestPins_89 : decode cX7_bestPins 89 = .ok (.iadd, 1) := by decide +kernel
theorem dX7_bestPins_90 : decode cX7_bestPins 90 = .ok (.istore 4, 2) := by decide +kernel
theorem dX7_bestPins_92 : decode cX7_bestPins 92 = .ok (.iload 5, 2) := by decide +kernel
theorem dX7_bestPins_94 : decode cX7_bestPins 94 = .ok (.istore_n 2, 1) := by decide +kernel
theorem dX7_bestPins_95 : decode cX7_bestPins 95 = .ok (.iload 6, 2) := by decide +kernel
theorem dX7_bestPins_97 : decode cX7_bestPins 97 = .ok (.istore_n 3, 1) := by decide +kernel
theorem dX7_bestPins_98 : decode cX7_bestPins 98 = .ok (.iinc 6 1, 3) := by decide +kernel
theorem dX7_bestPins_101 : decode cX7_bestPins 101 = .ok (.goto (-56), 3) := by decide +kernel
theorem dX7_bestPins_104 : decode cX7_bestPins 104 = .ok (.iinc 5 1, 3) := by decide +kernel
theorem dX7_bestPins_107 : decode cX7_bestPins 107 = .ok (.goto (-72), 3) := by decide +kernel
theorem dX7_bestPins_110 : decode cX7_bestPins 110 = .ok (.iload_n 1, 1) := by decide +kernel
theorem dX7_bestPins_111 : decode cX7_bestPins 111 = .ok (.ifCond .ne 9, 3) := by decide +kernel
theorem dX7_bestPins_114 : decode cX7_bestPins 114 = .ok (.iload_n 2, 1) := by decide +kernel
theorem dX7_bestPins_115 : decode cX7_bestPins 115 = .ok (.iconst 4, 1) := by decide +kernel
theorem dX7_bestPins_116 : decode cX7_bestPins 116 = .ok (.iadd, 1) := by decide +kernel
theorem dX7_bestPins_117 : decode cX7_bestPins 117 = .ok (.goto 16, 3) := by decide +kernel
theorem dX7_bestPins_120 : decode cX7_bestPins 120 = .ok (.iload_n 1, 1) := by decide +kernel
theorem dX7_bestPins_121 : decode cX7_bestPins 121 = .ok (.iconst 1, 1) := by decide +kernel
theorem dX7_bestPins_122 : decode cX7_bestPins 122 = .ok (.if_icmp .ne 9, 3) := by decide +kernel
theorem dX7_bestPins_125 : decode cX7_bestPins 125 = .ok (.iload_n 3, 1) := by decide +kernel
theorem dX7_bestPins_126 : decode cX7_bestPins 126 = .ok (.iconst 4, 1) := by decide +kernel
theorem dX7_bestPins_127 : decode cX7_bestPins 127 = .ok (.iadd, 1) := by decide +kernel
theorem dX7_bestPins_128 : decode cX7_bestPins 128 = .ok (.goto 5, 3) := by decide +kernel
theorem dX7_bestPins_131 : decode cX7_bestPins 131 = .ok (.iload 4, 2) := by decide +kernel
theorem dX7_bestPins_133 : decode cX7_bestPins 133 = .ok (.ireturn, 1) := by decide +kernel
set_option maxRecDepth 20000 in
theorem ggX7_printsLeft_X7_lay : GoodIn wsX7_printsLeft wsX7_lay := goodIn_r _ [8, 2, 3, 9, 10, 11, 7, 12, 26, 27, 28, 29, 30, 31, 32, 33, 34, 35, 36, 37, 38, 39, 40] (by decide +kernel) (by decide +kernel)
set_option maxRecDepth 20000 in
theorem gX7_printsLeft_X7_lay : GoodIn wsX7_printsLeft (wsV RX7 78 RX7 yX7_lay wsX7_lay) := goodIn_app (goodIn_of _ (by decide +kernel)) ggX7_printsLeft_X7_lay
set_option maxRecDepth 20000 in
theorem ggX7_printsLeft_X7_rubs : GoodIn wsX7_printsLeft wsX7_rubs := goodIn_r _ [16, 2, 17, 18, 7, 19, 20, 21, 22, 23, 24, 25, 26, 27, 28, 29, 30, 31, 32, 33, 34, 35, 36, 37, 38, 39, 40] (by decide +kernel) (by decide +kernel)
set_option maxRecDepth 20000 in
theorem gX7_printsLeft_X7_rubs : GoodIn wsX7_printsLeft (wsV RX7 108 RX7 yX7_rubs wsX7_rubs) := goodIn_app (goodIn_of _ (by decide +kernel)) ggX7_printsLeft_X7_rubs
theorem dX7_printsLeft_0 : decode cX7_printsLeft 0 = .ok (.aload_n 0, 1) := by decide +kernel
theorem dX7_printsLeft_1 : decode cX7_printsLeft 1 = .ok (.iconst 0, 1) := by decide +kernel
theorem dX7_printsLeft_2 : decode cX7_printsLeft 2 = .ok (.putfield 28, 3) := by decide +kernel
theorem dX7_printsLeft_5 : decode cX7_printsLeft 5 = .ok (.aload_n 0, 1) := by decide +kernel
theorem dX7_printsLeft_6 : decode cX7_printsLeft 6 = .ok (.invokevirtual 78, 3) := by decide +kernel
theorem dX7_printsLeft_9 : decode cX7_printsLeft 9 = .ok (.sipush 501, 3) := by decide +kernel
theorem dX7_printsLeft_12 : decode cX7_printsLeft 12 = .ok (.istore_n 1, 1) := by decide +kernel
theorem dX7_printsLeft_13 : decode cX7_printsLeft 13 = .ok (.iconst 0, 1) := by decide +kernel
theorem dX7_printsLeft_14 : decode cX7_printsLeft 14 = .ok (.istore_n 2, 1) := by decide +kernel
theorem dX7_printsLeft_15 : decode cX7_printsLeft 15 = .ok (.iload_n 2, 1) := by decide +kernel
theorem dX7_printsLeft_16 : decode cX7_printsLeft 16 = .ok (.sipush 192, 3) := by decide +kernel
theorem dX7_printsLeft_19 : decode cX7_printsLeft 19 = .ok (.if_icmp .ge 62, 3) := by decide +kernel
theorem dX7_printsLeft_22 : decode cX7_printsLeft 22 = .ok (.aload_n 0, 1) := by decide +kernel
theorem dX7_printsLeft_23 : decode cX7_printsLeft 23 = .ok (.getfield 19, 3) := by decide +kernel
theorem dX7_printsLeft_26 : decode cX7_printsLeft 26 = .ok (.iload_n 2, 1) := by decide +kernel
theorem dX7_printsLeft_27 : decode cX7_printsLeft 27 = .ok (.iaload, 1) := by decide +kernel
theorem dX7_printsLeft_28 : decode cX7_printsLeft 28 = .ok (.iconst 1, 1) := by decide +kernel
theorem dX7_printsLeft_29 : decode cX7_printsLeft 29 = .ok (.if_icmp .ne 33, 3) := by decide +kernel
theorem dX7_printsLeft_32 : decode cX7_printsLeft 32 = .ok (.aload_n 0, 1) := by decide +kernel
theorem dX7_printsLeft_33 : decode cX7_printsLeft 33 = .ok (.getfield 7, 3) := by decide +kernel
theorem dX7_printsLeft_36 : decode cX7_printsLeft 36 = .ok (.sipush 771, 3) := by decide +kernel
theorem dX7_printsLeft_39 : decode cX7_printsLeft 39 = .ok (.iaload, 1) := by decide +kernel
theorem dX7_printsLeft_40 : decode cX7_printsLeft 40 = .ok (.aload_n 0, 1) := by decide +kernel
theorem dX7_printsLeft_41 : decode cX7_printsLeft 41 = .ok (.getfield 7, 3) := by decide +kernel
theorem dX7_printsLeft_44 : decode cX7_printsLeft 44 = .ok (.sipush 384, 3) := by decide +kernel
theorem dX7_printsLeft_47 : decode cX7_printsLeft 47 = .ok (.iload_n 2, 1) := by decide +kernel
theorem dX7_printsLeft_48 : decode cX7_printsLeft 48 = .ok (.iadd, 1) := by decide +kernel
theorem dX7_printsLeft_49 : decode cX7_printsLeft 49 = .ok (.iaload, 1) := by decide +kernel
theorem dX7_printsLeft_50 : decode cX7_printsLeft 50 = .ok (.isub, 1) := by decide +kernel
theorem dX7_printsLeft_51 : decode cX7_printsLeft 51 = .ok (.aload_n 0, 1) := by decide +kernel
theorem dX7_printsLeft_52 : decode cX7_printsLeft 52 = .ok (.iload_n 2, 1) := by decide +kernel
theorem dX7_printsLeft_53 : decode cX7_printsLeft 53 = .ok (.invokevirtual 108, 3) := by decide +kernel
theorem dX7_printsLeft_56 : decode cX7_printsLeft 56 = .ok (.idiv, 1) := by decide +kernel
theorem dX7_printsLeft_57 : decode cX7_printsLeft 57 = .ok (.iconst 1, 1) := by decide +kernel
theorem dX7_printsLeft_58 : decode cX7_printsLeft 58 = .ok (.iadd, 1) := by decide +kernel
theorem dX7_printsLeft_59 : decode cX7_printsLeft 59 = .ok (.goto 4, 3) := by decide +kernel
theorem dX7_printsLeft_62 : decode cX7_printsLeft 62 = .ok (.iload_n 1, 1) := by decide +kernel
theorem dX7_printsLeft_63 : decode cX7_printsLeft 63 = .ok (.istore_n 3, 1) := by decide +kernel
theorem dX7_printsLeft_64 : decode cX7_printsLeft 64 = .ok (.iload_n 3, 1) := by decide +kernel
theorem dX7_printsLeft_65 : decode cX7_printsLeft 65 = .ok (.iload_n 1, 1) := by decide +kernel
theorem dX7_printsLeft_66 : decode cX7_printsLeft 66 = .ok (.if_icmp .ge 7, 3) := by decide +kernel
theorem dX7_printsLeft_69 : decode cX7_printsLeft 69 = .ok (.iload_n 3, 1) := by decide +kernel
theorem dX7_printsLeft_70 : decode cX7_printsLeft 70 = .ok (.goto 4, 3) := by decide +kernel
theorem dX7_printsLeft_73 : decode cX7_printsLeft 73 = .ok (.iload_n 1, 1) := by decide +kernel
theorem dX7_printsLeft_74 : decode cX7_printsLeft 74 = .ok (.istore_n 1, 1) := by decide +kernel
theorem dX7_printsLeft_75 : decode cX7_printsLeft 75 = .ok (.iinc 2 1, 3) := by decide +kernel
theorem dX7_printsLeft_78 : decode cX7_printsLeft 78 = .ok (.goto (-63), 3) := by decide +kernel
theorem dX7_printsLeft_81 : decode cX7_printsLeft 81 = .ok (.iload_n 1, 1) := by decide +kernel
theorem dX7_printsLeft_82 : decode cX7_printsLeft 82 = .ok (.sipush 500, 3) := by decide +kernel
theorem dX7_printsLeft_85 : decode cX7_printsLeft 85 = .ok (.if_icmp .le 9, 3) := by decide +kernel
theorem dX7_printsLeft_88 : decode cX7_printsLeft 88 = .ok (.sipush (-1009), 3) := by decide +kernel
theorem dX7_printsLeft_91 : decode cX7_printsLeft 91 = .ok (.goto 4, 3) := by decide +kernel
theorem dX7_printsLeft_94 : decode cX7_printsLeft 94 = .ok (.iload_n 1, 1) := by decide +kernel
theorem dX7_printsLeft_95 : decode cX7_printsLeft 95 = .ok (.ireturn, 1) := by decide +kernel
theorem dJ6_bitCount_0f7a4_0 : decode cJ6_bitCount_0f7a4 0 = .ok (.iload_n 0, 1) := by decide +kernel
theorem dJ6_bitCount_0f7a4_1 : decode cJ6_bitCount_0f7a4 1 = .ok (.iload_n 0, 1) := by decide +kernel
theorem dJ6_bitCount_0f7a4_2 : decode cJ6_bitCount_0f7a4 2 = .ok (.iconst 1, 1) := by decide +kernel
theorem dJ6_bitCount_0f7a4_3 : decode cJ6_bitCount_0f7a4 3 = .ok (.iushr, 1) := by decide +kernel
theorem dJ6_bitCount_0f7a4_4 : decode cJ6_bitCount_0f7a4 4 = .ok (.ldc_w 265, 3) := by decide +kernel
theorem dJ6_bitCount_0f7a4_7 : decode cJ6_bitCount_0f7a4 7 = .ok (.iand, 1) := by decide +kernel
theorem dJ6_bitCount_0f7a4_8 : decode cJ6_bitCount_0f7a4 8 = .ok (.isub, 1) := by decide +kernel
theorem dJ6_bitCount_0f7a4_9 : decode cJ6_bitCount_0f7a4 9 = .ok (.istore_n 0, 1) := by decide +kernel
theorem dJ6_bitCount_0f7a4_10 : decode cJ6_bitCount_0f7a4 10 = .ok (.iload_n 0, 1) := by decide +kernel
theorem dJ6_bitCount_0f7a4_11 : decode cJ6_bitCount_0f7a4 11 = .ok (.ldc_w 266, 3) := by decide +kernel
theorem dJ6_bitCount_0f7a4_14 : decode cJ6_bitCount_0f7a4 14 = .ok (.iand, 1) := by decide +kernel
theorem dJ6_bitCount_0f7a4_15 : decode cJ6_bitCount_0f7a4 15 = .ok (.iload_n 0, 1) := by decide +kernel
theorem dJ6_bitCount_0f7a4_16 : decode cJ6_bitCount_0f7a4 16 = .ok (.iconst 2, 1) := by decide +kernel
theorem dJ6_bitCount_0f7a4_17 : decode cJ6_bitCount_0f7a4 17 = .ok (.iushr, 1) := by decide +kernel
theorem dJ6_bitCount_0f7a4_18 : decode cJ6_bitCount_0f7a4 18 = .ok (.ldc_w 266, 3) := by decide +kernel
theorem dJ6_bitCount_0f7a4_21 : decode cJ6_bitCount_0f7a4 21 = .ok (.iand, 1) := by decide +kernel
theorem dJ6_bitCount_0f7a4_22 : decode cJ6_bitCount_0f7a4 22 = .ok (.iadd, 1) := by decide +kernel
theorem dJ6_bitCount_0f7a4_23 : decode cJ6_bitCount_0f7a4 23 = .ok (.istore_n 0, 1) := by decide +kernel
theorem dJ6_bitCount_0f7a4_24 : decode cJ6_bitCount_0f7a4 24 = .ok (.iload_n 0, 1) := by decide +kernel
theorem dJ6_bitCount_0f7a4_25 : decode cJ6_bitCount_0f7a4 25 = .ok (.iload_n 0, 1) := by decide +kernel
theorem dJ6_bitCount_0f7a4_26 : decode cJ6_bitCount_0f7a4 26 = .ok (.iconst 4, 1) := by decide +kernel
theorem dJ6_bitCount_0f7a4_27 : decode cJ6_bitCount_0f7a4 27 = .ok (.iushr, 1) := by decide +kernel
theorem dJ6_bitCount_0f7a4_28 : decode cJ6_bitCount_0f7a4 28 = .ok (.iadd, 1) := by decide +kernel
theorem dJ6_bitCount_0f7a4_29 : decode cJ6_bitCount_0f7a4 29 = .ok (.ldc_w 267, 3) := by decide +kernel
theorem dJ6_bitCount_0f7a4_32 : decode cJ6_bitCount_0f7a4 32 = .ok (.iand, 1) := by decide +kernel
theorem dJ6_bitCount_0f7a4_33 : decode cJ6_bitCount_0f7a4 33 = .ok (.istore_n 0, 1) := by decide +kernel
theorem dJ6_bitCount_0f7a4_34 : decode cJ6_bitCount_0f7a4 34 = .ok (.iload_n 0, 1) := by decide +kernel
theorem dJ6_bitCount_0f7a4_35 : decode cJ6_bitCount_0f7a4 35 = .ok (.iload_n 0, 1) := by decide +kernel
theorem dJ6_bitCount_0f7a4_36 : decode cJ6_bitCount_0f7a4 36 = .ok (.bipush 8, 2) := by decide +kernel
theorem dJ6_bitCount_0f7a4_38 : decode cJ6_bitCount_0f7a4 38 = .ok (.iushr, 1) := by decide +kernel
theorem dJ6_bitCount_0f7a4_39 : decode cJ6_bitCount_0f7a4 39 = .ok (.iadd, 1) := by decide +kernel
theorem dJ6_bitCount_0f7a4_40 : decode cJ6_bitCount_0f7a4 40 = .ok (.istore_n 0, 1) := by decide +kernel
theorem dJ6_bitCount_0f7a4_41 : decode cJ6_bitCount_0f7a4 41 = .ok (.iload_n 0, 1) := by decide +kernel
theorem dJ6_bitCount_0f7a4_42 : decode cJ6_bitCount_0f7a4 42 = .ok (.iload_n 0, 1) := by decide +kernel
theorem dJ6_bitCount_0f7a4_43 : decode cJ6_bitCount_0f7a4 43 = .ok (.bipush 16, 2) := by decide +kernel
theorem dJ6_bitCount_0f7a4_45 : decode cJ6_bitCount_0f7a4 45 = .ok (.iushr, 1) := by decide +kernel
theorem dJ6_bitCount_0f7a4_46 : decode cJ6_bitCount_0f7a4 46 = .ok (.iadd, 1) := by decide +kernel
theorem dJ6_bitCount_0f7a4_47 : decode cJ6_bitCount_0f7a4 47 = .ok (.istore_n 0, 1) := by decide +kernel
theorem dJ6_bitCount_0f7a4_48 : decode cJ6_bitCount_0f7a4 48 = .ok (.iload_n 0, 1) := by decide +kernel
theorem dJ6_bitCount_0f7a4_49 : decode cJ6_bitCount_0f7a4 49 = .ok (.bipush 63, 2) := by decide +kernel
theorem dJ6_bitCount_0f7a4_51 : decode cJ6_bitCount_0f7a4 51 = .ok (.iand, 1) := by decide +kernel
theorem dJ6_bitCount_0f7a4_52 : decode cJ6_bitCount_0f7a4 52 = .ok (.ireturn, 1) := by decide +kernel
theorem dJ9_max_7cf53_0 : decode cJ9_max_7cf53 0 = .ok (.iload_n 0, 1) := by decide +kernel
theorem dJ9_max_7cf53_1 : decode cJ9_max_7cf53 1 = .ok (.iload_n 1, 1) := by decide +kernel
theorem dJ9_max_7cf53_2 : decode cJ9_max_7cf53 2 = .ok (.if_icmp .lt 7, 3) := by decide +kernel
theorem dJ9_max_7cf53_5 : decode cJ9_max_7cf53 5 = .ok (.iload_n 0, 1) := by decide +kernel
theorem dJ9_max_7cf53_6 : decode cJ9_max_7cf53 6 = .ok (.goto 4, 3) := by decide +kernel
theorem dJ9_max_7cf53_9 : decode cJ9_max_7cf53 9 = .ok (.iload_n 1, 1) := by decide +kernel
theorem dJ9_max_7cf53_10 : decode cJ9_max_7cf53 10 = .ok (.ireturn, 1) := by decide +kernel
theorem dJ9_min_7cf53_0 : decode cJ9_min_7cf53 0 = .ok (.iload_n 0, 1) := by decide +kernel
theorem dJ9_min_7cf53_1 : decode cJ9_min_7cf53 1 = .ok (.iload_n 1, 1) := by decide +kernel
theorem dJ9_min_7cf53_2 : decode cJ9_min_7cf53 2 = .ok (.if_icmp .gt 7, 3) := by decide +kernel
theorem dJ9_min_7cf53_5 : decode cJ9_min_7cf53 5 = .ok (.iload_n 0, 1) := by decide +kernel
theorem dJ9_min_7cf53_6 : decode cJ9_min_7cf53 6 = .ok (.goto 4, 3) := by decide +kernel
theorem dJ9_min_7cf53_9 : decode cJ9_min_7cf53 9 = .ok (.iload_n 1, 1) := by decide +kernel
theorem dJ9_min_7cf53_10 : decode cJ9_min_7cf53 10 = .ok (.ireturn, 1) := by decide +kernel
theorem dJ7_fill_53178_0 : decode cJ7_fill_53178 0 = .ok (.iconst 0, 1) := by decide +kernel
theorem dJ7_fill_53178_1 : decode cJ7_fill_53178 1 = .ok (.istore_n 2, 1) := by decide +kernel
theorem dJ7_fill_53178_2 : decode cJ7_fill_53178 2 = .ok (.aload_n 0, 1) := by decide +kernel
theorem dJ7_fill_53178_3 : decode cJ7_fill_53178 3 = .ok (.arraylength, 1) := by decide +kernel
theorem dJ7_fill_53178_4 : decode cJ7_fill_53178 4 = .ok (.istore_n 3, 1) := by decide +kernel
theorem dJ7_fill_53178_5 : decode cJ7_fill_53178 5 = .ok (.iload_n 2, 1) := by decide +kernel
theorem dJ7_fill_53178_6 : decode cJ7_fill_53178 6 = .ok (.iload_n 3, 1) := by decide +kernel
theorem dJ7_fill_53178_7 : decode cJ7_fill_53178 7 = .ok (.if_icmp .ge 13, 3) := by decide +kernel
theorem dJ7_fill_53178_10 : decode cJ7_fill_53178 10 = .ok (.aload_n 0, 1) := by decide +kernel
theorem dJ7_fill_53178_11 : decode cJ7_fill_53178 11 = .ok (.iload_n 2, 1) := by decide +kernel
theorem dJ7_fill_53178_12 : decode cJ7_fill_53178 12 = .ok (.iload_n 1, 1) := by decide +kernel
theorem dJ7_fill_53178_13 : decode cJ7_fill_53178 13 = .ok (.iastore, 1) := by decide +kernel
theorem dJ7_fill_53178_14 : decode cJ7_fill_53178 14 = .ok (.iinc 2 1, 3) := by decide +kernel
theorem dJ7_fill_53178_17 : decode cJ7_fill_53178 17 = .ok (.goto (-12), 3) := by decide +kernel
theorem dJ7_fill_53178_20 : decode cJ7_fill_53178 20 = .ok (.return_, 1) := by decide +kernel
end
section
set_option maxRecDepth 20000 in
theorem ggL_law_X6_init : GoodIn wsL_law wsX6_init := goodIn_r _ [8, 9, 10, 11, 12, 13, 14, 15, 16, 17, 18, 19, 20, 21, 22, 23, 24, 25, 26, 27, 28, 29, 30, 31, 32, 33, 34, 35, 36, 37, 38, 39, 40, 41, 42, 43, 44, 45, 46, 47, 48, 49, 50, 51, 52, 53, 54, 55, 56, 57, 58, 59, 60, 61, 62, 63, 64, 65, 66, 67, 68, 69, 70, 71, 72, 73, 74, 75, 76, 77, 78, 79, 80, 81, 82, 83, 84, 85, 86, 87, 88, 89, 90, 91, 92, 93, 94, 95, 96, 97, 771, 772, 773, 774, 775, 776, 777, 778, 779, 780, 751, 752, 753, 754, 755, 781, 782, 783, 784, 785, 786, 787, 788, 789, 790, 791, 792, 793, 794, 795, 796, 797, 798] (by decide +kernel) (by decide +kernel)
set_option maxRecDepth 20000 in
theorem gL_law_X6_init : GoodIn wsL_law (wsX6_init) := ggL_law_X6_init
set_option maxRecDepth 20000 in
theorem ggL_law_X7_init : GoodIn wsL_law wsX7_init := goodIn_r _ [100, 101, 10, 11, 37, 102, 103, 104, 105, 106, 107, 108, 756, 757, 758, 759, 760, 761, 762, 763, 764, 765, 766, 767, 768, 769, 770] (by decide +kernel) (by decide +kernel)
set_option maxRecDepth 20000 in
theorem gL_law_X7_init : GoodIn wsL_law (wsX7_init) := ggL_law_X7_init
set_option maxRecDepth 20000 in
theorem ggL_law_X6_paint : GoodIn wsL_law wsX6_paint := goodIn_r _ [112, 19, 15, 113, 114, 115, 2, 116, 117, 118, 119, 120, 121, 122, 18, 123, 81, 83, 82, 124, 125, 126, 127, 128, 129, 130, 14, 131, 36, 38, 39, 40, 41, 42, 46, 47, 48, 49, 50, 51, 52, 53, 132, 133, 134, 35, 135, 59, 60, 61, 62, 63, 136, 137, 138, 139, 26, 140, 68, 141, 142, 143, 144, 45, 145, 73, 146, 74, 75, 147, 148, 149, 150, 151, 152, 153, 154, 155, 156, 157, 158, 159, 160, 161, 162, 163, 164, 751, 752, 753, 754, 755, 771, 772, 773, 774, 775, 776, 777, 778, 779, 780, 781, 782, 783, 791, 792, 793, 794, 795, 790, 796, 797, 798] (by decide +kernel) (by decide +kernel)
set_option maxRecDepth 20000 in
theorem gL_law_X6_paint : GoodIn wsL_law (wsV RL 13 RX6 yX6_paint wsX6_paint) := goodIn_app (goodIn_of _ (by decide +kernel)) ggL_law_X6_paint
set_option maxRecDepth 20000 in
theorem ggL_law_X7_paint : GoodIn wsL_law wsX7_paint := goodIn_r _ [168, 108, 102, 169, 170, 5, 171, 172, 173, 174, 175, 176, 177, 178, 179, 103, 756, 757, 758, 759, 760, 761, 762, 763, 764, 765, 766, 767, 768, 769, 770] (by decide +kernel) (by decide +kernel)
set_option maxRecDepth 20000 in
theorem gL_law_X7_paint : GoodIn wsL_law (wsV RL 17 RX7 yX7_paint wsX7_paint) := goodIn_app (goodIn_of _ (by decide +kernel)) ggL_law_X7_paint
set_option maxRecDepth 20000 in
theorem ggL_law_X6_cut : GoodIn wsL_law wsX6_cut := goodIn_r _ [183, 19, 15, 113, 184, 117, 118, 2, 119, 120, 121, 122, 18, 123, 81, 83, 82, 124, 125, 126, 127, 128, 129, 130, 14, 131, 36, 38, 39, 40, 41, 42, 46, 47, 48, 49, 50, 51, 52, 53, 132, 133, 134, 35, 135, 59, 60, 61, 62, 63, 136, 137, 138, 139, 26, 140, 68, 141, 142, 143, 144, 45, 145, 73, 146, 74, 75, 185, 186, 187, 188, 189, 190, 191, 192, 193, 194, 195, 196, 197, 198, 199, 200, 201, 202, 203, 204, 205, 206, 207, 208, 209, 210, 211, 212, 213, 214, 215, 751, 752, 753, 754, 755, 771, 772, 773, 774, 775, 776, 777, 778, 779, 780, 791, 792, 793, 794, 795, 781, 782, 783, 790, 796, 797, 798] (by decide +kernel) (by decide +kernel)
set_option maxRecDepth 20000 in
theorem gL_law_X6_cut : GoodIn wsL_law (wsV RL 18 RX6 yX6_cut wsX6_cut) := goodIn_app (goodIn_of _ (by decide +kernel)) ggL_law_X6_cut
set_option maxRecDepth 20000 in
theorem ggL_law_X7_cut : GoodIn wsL_law wsX7_cut := goodIn_r _ [219, 108, 102, 105, 172, 173, 5, 174, 175, 176, 177, 178, 179, 103, 220, 221, 222, 223, 106, 224, 225, 226, 227, 228, 229, 230, 169, 170, 171, 231, 232, 233, 234, 235, 236, 237, 238, 756, 757, 758, 759, 760, 761, 762, 763, 764, 765, 766, 767, 768, 769, 770] (by decide +kernel) (by decide +kernel)
set_option maxRecDepth 20000 in
theorem gL_law_X7_cut : GoodIn wsL_law (wsV RL 22 RX7 yX7_cut wsX7_cut) := goodIn_app (goodIn_of _ (by decide +kernel)) ggL_law_X7_cut
set_option maxRecDepth 20000 in
theorem ggL_law_X6_carve : GoodIn wsL_law wsX6_carve := goodIn_r _ [242, 19, 15, 113, 243, 184, 117, 118, 2, 119, 114, 115, 116, 120, 121, 122, 18, 123, 81, 83, 82, 124, 125, 126, 127, 128, 129, 130, 14, 131, 36, 38, 39, 40, 41, 42, 46, 47, 48, 49, 50, 51, 52, 53, 132, 133, 134, 35, 135, 59, 60, 61, 62, 63, 136, 137, 138, 139, 26, 140, 68, 141, 142, 143, 144, 45, 145, 73, 146, 74, 75, 244, 156, 157, 158, 245, 159, 160, 246, 162, 163, 164, 247, 248, 249, 250, 751, 752, 753, 754, 755, 771, 772, 773, 774, 775, 776, 777, 778, 779, 780, 791, 792, 793, 794, 795, 781, 782, 783, 790, 796, 797, 798] (by decide +kernel) (by decide +kernel)
set_option maxRecDepth 20000 in
theorem gL_law_X6_carve : GoodIn wsL_law (wsV RL 23 RX6 yX6_carve wsX6_carve) := goodIn_app (goodIn_of _ (by decide +kernel)) ggL_law_X6_carve
set_option maxRecDepth 20000 in
theorem ggL_law_X7_carve : GoodIn wsL_law wsX7_carve := goodIn_r _ [254, 108, 102, 172, 173, 5, 174, 169, 170, 171, 175, 176, 177, 178, 179, 103, 756, 757, 758, 759, 760, 761, 762, 763, 764, 765, 766, 767, 768, 769, 770] (by decide +kernel) (by decide +kernel)
set_option maxRecDepth 20000 in
theorem gL_law_X7_carve : GoodIn wsL_law (wsV RL 27 RX7 yX7_carve wsX7_carve) := goodIn_app (goodIn_of _ (by decide +kernel)) ggL_law_X7_carve
set_option maxRecDepth 20000 in
theorem ggL_law_X6_plug : GoodIn wsL_law wsX6_plug := goodIn_r _ [258, 15, 113, 19, 114, 115, 2, 116, 259, 260, 261, 14, 262, 38, 263, 264, 265, 35, 266, 61, 155, 156, 157, 26, 158, 68, 267, 268, 269, 270, 63, 120, 121, 122, 18, 123, 81, 83, 82, 124, 125, 126, 127, 128, 129, 130, 131, 36, 39, 40, 41, 42, 46, 47, 48, 49, 50, 51, 52, 53, 132, 133, 134, 135, 59, 60, 62, 136, 137, 138, 139, 140, 141, 142, 143, 144, 45, 145, 73, 146, 74, 75, 247, 248, 249, 250, 271, 272, 273, 274, 243, 27, 275, 276, 277, 278, 279, 280, 281, 282, 159, 160, 283, 202, 203, 204, 284, 285, 286, 287, 288, 205, 206, 207, 208, 209, 210, 211, 212, 213, 214, 215, 751, 752, 753, 754, 755, 771, 772, 773, 774, 775, 776, 777, 778, 779, 780, 791, 792, 793, 794, 795, 790, 781, 782, 783, 796, 797, 798] (by decide +kernel) (by decide +kernel)
set_option maxRecDepth 20000 in
theorem gL_law_X6_plug : GoodIn wsL_law (wsV RL 28 RX6 yX6_plug wsX6_plug) := goodIn_app (goodIn_of _ (by decide +kernel)) ggL_law_X6_plug
set_option maxRecDepth 20000 in
theorem ggL_law_X7_plug : GoodIn wsL_law wsX7_plug := goodIn_r _ [292, 108, 102, 169, 170, 5, 171, 172, 173, 174, 293, 294, 295, 296, 175, 176, 177, 178, 179, 103, 297, 298, 299, 300, 756, 757, 758, 759, 760, 761, 762, 763, 764, 765, 766, 767, 768, 769, 770] (by decide +kernel) (by decide +kernel)
set_option maxRecDepth 20000 in
theorem gL_law_X7_plug : GoodIn wsL_law (wsV RL 32 RX7 yX7_plug wsX7_plug) := goodIn_app (goodIn_of _ (by decide +kernel)) ggL_law_X7_plug
set_option maxRecDepth 20000 in
theorem ggL_law_X6_setPins : GoodIn wsL_law wsX6_setPins := goodIn_r _ [304, 19, 15, 305, 306, 117, 118, 2, 119, 120, 121, 122, 18, 123, 81, 83, 82, 124, 125, 126, 127, 128, 129, 130, 14, 131, 36, 38, 39, 40, 41, 42, 46, 47, 48, 49, 50, 51, 52, 53, 132, 133, 134, 35, 135, 59, 60, 61, 62, 63, 136, 137, 138, 139, 26, 140, 68, 141, 142, 143, 144, 45, 145, 73, 146, 74, 75, 275, 276, 277, 278, 113, 27, 259, 260, 261, 262, 279, 280, 281, 282, 159, 160, 283, 202, 203, 204, 284, 285, 286, 287, 288, 307, 308, 309, 310, 311, 312, 313, 314, 315, 316, 317, 318, 319, 320, 321, 322, 323, 324, 325, 326, 184, 327, 328, 329, 330, 331, 332, 333, 334, 201, 335, 210, 211, 212, 213, 214, 215, 751, 752, 753, 754, 755, 771, 772, 773, 774, 775, 776, 777, 778, 779, 780, 781, 782, 783, 791, 792, 793, 794, 795, 790, 796, 797, 798] (by decide +kernel) (by decide +kernel)
set_option maxRecDepth 20000 in
theorem gL_law_X6_setPins : GoodIn wsL_law (wsV RL 33 RX6 yX6_setPins wsX6_setPins) := goodIn_app (goodIn_of _ (by decide +kernel)) ggL_law_X6_setPins
set_option maxRecDepth 20000 in
theorem ggL_law_X7_setPins : GoodIn wsL_law wsX7_setPins := goodIn_r _ [339, 108, 102, 340, 172, 173, 5, 174, 175, 176, 177, 178, 179, 103, 341, 342, 343, 344, 345, 346, 347, 348, 105, 293, 294, 295, 296, 349, 350, 351, 352, 353, 354, 355, 356, 357, 358, 359, 360, 361, 362, 363, 364, 365, 366, 367, 368, 369, 370, 169, 170, 171, 756, 757, 758, 759, 760, 761, 762, 763, 764, 765, 766, 767, 768, 769, 770] (by decide +kernel) (by decide +kernel)
set_option maxRecDepth 20000 in
theorem gL_law_X7_setPins : GoodIn wsL_law (wsV RL 36 RX7 yX7_setPins wsX7_setPins) := goodIn_app (goodIn_of _ (by decide +kernel)) ggL_law_X7_setPins
set_option maxRecDepth 20000 in
theorem ggL_law_X6_set : GoodIn wsL_law wsX6_set := goodIn_r _ [374, 375, 376, 19, 15, 377, 117, 118, 2, 119, 120, 121, 122, 18, 123, 81, 83, 82, 124, 125, 126, 127, 128, 129, 130, 14, 131, 36, 38, 39, 40, 41, 42, 46, 47, 48, 49, 50, 51, 52, 53, 132, 133, 134, 35, 135, 59, 60, 61, 62, 63, 136, 137, 138, 139, 26, 140, 68, 141, 142, 143, 144, 45, 145, 73, 146, 74, 75, 751, 752, 753, 754, 755, 771, 772, 773, 774, 775, 776, 777, 778, 779, 780, 781, 782, 783, 791, 792, 793, 794, 795, 790, 796, 797, 798] (by decide +kernel) (by decide +kernel)
set_option maxRecDepth 20000 in
theorem gL_law_X6_set : GoodIn wsL_law (wsV RL 37 RX6 yX6_set wsX6_set) := goodIn_app (goodIn_of _ (by decide +kernel)) ggL_law_X6_set
set_option maxRecDepth 20000 in
theorem ggL_law_X7_set : GoodIn wsL_law wsX7_set := goodIn_r _ [381, 108, 102, 382, 383, 5, 384, 172, 173, 174, 175, 176, 177, 178, 179, 103, 756, 757, 758, 759, 760, 761, 762, 763, 764, 765, 766, 767, 768, 769, 770] (by decide +kernel) (by decide +kernel)
set_option maxRecDepth 20000 in
theorem gL_law_X7_set : GoodIn wsL_law (wsV RL 40 RX7 yX7_set wsX7_set) := goodIn_app (goodIn_of _ (by decide +kernel)) ggL_law_X7_set
set_option maxRecDepth 20000 in
theorem ggL_law_X6_print : GoodIn wsL_law wsX6_print := goodIn_r _ [388, 15, 389, 19, 117, 118, 2, 119, 120, 121, 122, 18, 123, 81, 83, 82, 124, 125, 126, 127, 128, 129, 130, 14, 131, 36, 38, 39, 40, 41, 42, 46, 47, 48, 49, 50, 51, 52, 53, 132, 133, 134, 35, 135, 59, 60, 61, 62, 63, 136, 137, 138, 139, 26, 140, 68, 141, 142, 143, 144, 45, 145, 73, 146, 74, 75, 390, 391, 392, 393, 394, 113, 27, 275, 276, 277, 278, 259, 260, 261, 262, 279, 280, 281, 282, 159, 160, 283, 202, 203, 204, 284, 285, 286, 287, 288, 307, 308, 309, 310, 311, 312, 313, 314, 315, 316, 317, 318, 319, 320, 321, 322, 323, 324, 325, 326, 184, 327, 328, 329, 330, 331, 332, 333, 334, 201, 335, 210, 211, 212, 213, 214, 215, 395, 396, 397, 398, 399, 400, 401, 402, 403, 404, 405, 406, 407, 408, 409, 410, 411, 412, 413, 414, 415, 416, 417, 418, 419, 155, 156, 157, 158, 115, 116, 420, 421, 422, 423, 424, 425, 426, 427, 428, 429, 430, 431, 432, 433, 434, 751, 752, 753, 754, 755, 771, 772, 773, 774, 775, 776, 777, 778, 779, 780, 781, 782, 783, 791, 792, 793, 794, 795, 790, 796, 797, 798] (by decide +kernel) (by decide +kernel)
set_option maxRecDepth 20000 in
theorem gL_law_X6_print : GoodIn wsL_law (wsV RL 41 RX6 yX6_print wsX6_print) := goodIn_app (goodIn_of _ (by decide +kernel)) ggL_law_X6_print
set_option maxRecDepth 20000 in
theorem ggL_law_X7_print : GoodIn wsL_law wsX7_print := goodIn_r _ [438, 108, 102, 340, 172, 173, 5, 174, 175, 176, 177, 178, 179, 103, 439, 440, 441, 442, 361, 362, 105, 341, 342, 343, 344, 345, 346, 347, 348, 293, 294, 295, 296, 349, 350, 351, 352, 353, 354, 355, 356, 357, 358, 359, 360, 363, 364, 365, 366, 367, 368, 369, 370, 169, 170, 171, 443, 444, 445, 446, 228, 229, 230, 756, 757, 758, 759, 760, 761, 762, 763, 764, 765, 766, 767, 768, 769, 770] (by decide +kernel) (by decide +kernel)
set_option maxRecDepth 20000 in
theorem gL_law_X7_print : GoodIn wsL_law (wsV RL 44 RX7 yX7_print wsX7_print) := goodIn_app (goodIn_of _ (by decide +kernel)) ggL_law_X7_print
set_option maxRecDepth 20000 in
theorem ggL_law_X6_take : GoodIn wsL_law wsX6_take := goodIn_r _ [450, 19, 15, 113, 117, 118, 2, 119, 120, 121, 122, 18, 123, 81, 83, 82, 124, 125, 126, 127, 128, 129, 130, 14, 131, 36, 38, 39, 40, 41, 42, 46, 47, 48, 49, 50, 51, 52, 53, 132, 133, 134, 35, 135, 59, 60, 61, 62, 63, 136, 137, 138, 139, 26, 140, 68, 141, 142, 143, 144, 45, 145, 73, 146, 74, 75, 451, 452, 453, 454, 455, 456, 457, 458, 459, 460, 461, 462, 463, 206, 207, 208, 209, 210, 211, 212, 213, 214, 215, 751, 752, 753, 754, 755, 771, 772, 773, 774, 775, 776, 777, 778, 779, 780, 781, 782, 783, 791, 792, 793, 794, 795, 790, 796, 797, 798] (by decide +kernel) (by decide +kernel)
set_option maxRecDepth 20000 in
theorem gL_law_X6_take : GoodIn wsL_law (wsV RL 45 RX6 yX6_take wsX6_take) := goodIn_app (goodIn_of _ (by decide +kernel)) ggL_law_X6_take
set_option maxRecDepth 20000 in
theorem ggL_law_X7_take : GoodIn wsL_law wsX7_take := goodIn_r _ [467, 108, 102, 172, 173, 5, 174, 175, 176, 177, 178, 179, 103, 468, 469, 470, 471, 235, 236, 237, 238, 756, 757, 758, 759, 760, 761, 762, 763, 764, 765, 766, 767, 768, 769, 770] (by decide +kernel) (by decide +kernel)
set_option maxRecDepth 20000 in
theorem gL_law_X7_take : GoodIn wsL_law (wsV RL 48 RX7 yX7_take wsX7_take) := goodIn_app (goodIn_of _ (by decide +kernel)) ggL_law_X7_take
set_option maxRecDepth 20000 in
theorem ggL_law_X6_restore : GoodIn wsL_law wsX6_restore := goodIn_r _ [475, 15, 19, 113, 117, 118, 2, 119, 476, 477, 478, 14, 479, 52, 53, 120, 121, 122, 18, 123, 81, 83, 82, 124, 125, 126, 127, 128, 129, 130, 131, 36, 38, 39, 40, 41, 42, 46, 47, 48, 49, 50, 51, 132, 133, 134, 35, 135, 59, 60, 61, 62, 63, 136, 137, 138, 139, 26, 140, 68, 141, 142, 143, 144, 45, 145, 73, 146, 74, 75, 480, 481, 482, 483, 455, 456, 457, 458, 459, 460, 461, 462, 463, 206, 207, 208, 209, 210, 211, 212, 213, 214, 215, 751, 752, 753, 754, 755, 771, 772, 773, 774, 775, 776, 777, 778, 779, 780, 781, 782, 783, 791, 792, 793, 794, 795, 790, 796, 797, 798] (by decide +kernel) (by decide +kernel)
set_option maxRecDepth 20000 in
theorem gL_law_X6_restore : GoodIn wsL_law (wsV RL 49 RX6 yX6_restore wsX6_restore) := goodIn_app (goodIn_of _ (by decide +kernel)) ggL_law_X6_restore
set_option maxRecDepth 20000 in
theorem ggL_law_X7_restore : GoodIn wsL_law wsX7_restore := goodIn_r _ [487, 108, 102, 172, 173, 5, 174, 175, 176, 177, 178, 179, 103, 468, 469, 470, 471, 235, 236, 237, 238, 756, 757, 758, 759, 760, 761, 762, 763, 764, 765, 766, 767, 768, 769, 770] (by decide +kernel) (by decide +kernel)
set_option maxRecDepth 20000 in
theorem gL_law_X7_restore : GoodIn wsL_law (wsV RL 52 RX7 yX7_restore wsX7_restore) := goodIn_app (goodIn_of _ (by decide +kernel)) ggL_law_X7_restore
set_option maxRecDepth 20000 in
theorem ggL_law_X6_undo : GoodIn wsL_law wsX6_undo := goodIn_r _ [491, 19, 15, 492, 493, 494, 18, 495, 82, 496, 497, 498, 499, 83, 500, 433, 126, 434, 81, 128, 129, 130, 14, 131, 36, 38, 39, 40, 41, 42, 46, 47, 48, 49, 50, 51, 52, 53, 132, 133, 134, 35, 135, 59, 60, 61, 62, 63, 136, 137, 138, 139, 26, 140, 68, 141, 142, 143, 144, 45, 145, 73, 146, 74, 75, 751, 752, 753, 754, 755, 781, 782, 783, 771, 772, 773, 774, 775, 776, 777, 778, 779, 780, 791, 792, 793, 794, 795, 790, 796, 797, 798] (by decide +kernel) (by decide +kernel)
set_option maxRecDepth 20000 in
theorem gL_law_X6_undo : GoodIn wsL_law (wsV RL 53 RX6 yX6_undo wsX6_undo) := goodIn_app (goodIn_of _ (by decide +kernel)) ggL_law_X6_undo
set_option maxRecDepth 20000 in
theorem ggL_law_X7_undo : GoodIn wsL_law wsX7_undo := goodIn_r _ [504, 108, 179, 102, 103, 756, 757, 758, 759, 760, 761, 762, 763, 764, 765, 766, 767, 768, 769, 770] (by decide +kernel) (by decide +kernel)
set_option maxRecDepth 20000 in
theorem gL_law_X7_undo : GoodIn wsL_law (wsV RL 57 RX7 yX7_undo wsX7_undo) := goodIn_app (goodIn_of _ (by decide +kernel)) ggL_law_X7_undo
set_option maxRecDepth 20000 in
theorem ggL_law_X6_append : GoodIn wsL_law wsX6_append := goodIn_r _ [508, 23, 117, 118, 2, 119, 509, 510, 511, 22, 512, 90, 513, 514, 515, 516, 89, 751, 752, 753, 754, 755, 784, 785, 786, 787, 788, 789] (by decide +kernel) (by decide +kernel)
set_option maxRecDepth 20000 in
theorem gL_law_X6_append : GoodIn wsL_law (wsV RL 58 RX6 yX6_append wsX6_append) := goodIn_app (goodIn_of _ (by decide +kernel)) ggL_law_X6_append
set_option maxRecDepth 20000 in
theorem ggL_law_X7_append : GoodIn wsL_law wsX7_append := goodIn_r _ [520, 108, 521, 104, 172, 173, 5, 174, 756, 757, 758, 759, 760, 761, 762, 763, 764, 765, 766, 767, 768, 769, 770] (by decide +kernel) (by decide +kernel)
set_option maxRecDepth 20000 in
theorem gL_law_X7_append : GoodIn wsL_law (wsV RL 61 RX7 yX7_append wsX7_append) := goodIn_app (goodIn_of _ (by decide +kernel)) ggL_law_X7_append
set_option maxRecDepth 20000 in
theorem ggL_law_X6_clearText : GoodIn wsL_law wsX6_clearText := goodIn_r _ [525, 23, 509, 510, 511, 22, 512, 90, 526, 527, 528, 529, 751, 752, 753, 754, 755, 784, 785, 786, 787, 788, 789] (by decide +kernel) (by decide +kernel)
set_option maxRecDepth 20000 in
theorem gL_law_X6_clearText : GoodIn wsL_law (wsV RL 62 RX6 yX6_clearText wsX6_clearText) := goodIn_app (goodIn_of _ (by decide +kernel)) ggL_law_X6_clearText
set_option maxRecDepth 20000 in
theorem ggL_law_X7_clearText : GoodIn wsL_law wsX7_clearText := goodIn_r _ [533, 108, 521, 756, 757, 758, 759, 760, 761, 762, 763, 764, 765, 766, 767, 768, 769, 770] (by decide +kernel) (by decide +kernel)
set_option maxRecDepth 20000 in
theorem gL_law_X7_clearText : GoodIn wsL_law (wsV RL 65 RX7 yX7_clearText wsX7_clearText) := goodIn_app (goodIn_of _ (by decide +kernel)) ggL_law_X7_clearText
set_option maxRecDepth 20000 in
theorem ggL_law_X6_load : GoodIn wsL_law wsX6_load := goodIn_r _ [537, 23, 15, 113, 19, 538, 539, 540, 22, 541, 94, 542, 95, 543, 91, 92, 90, 544, 138, 139, 26, 140, 68, 141, 40, 41, 42, 545, 546, 547, 548, 549, 550, 551, 552, 89, 553, 554, 555, 556, 557, 558, 559, 560, 561, 125, 126, 127, 562, 563, 564, 118, 2, 119, 565, 566, 567, 568, 569, 570, 571, 572, 573, 285, 286, 287, 288, 574, 575, 576, 577, 120, 121, 122, 18, 123, 81, 83, 82, 124, 128, 129, 130, 14, 131, 36, 38, 39, 46, 47, 48, 49, 50, 51, 52, 53, 132, 133, 134, 35, 135, 59, 60, 61, 62, 63, 136, 137, 142, 143, 144, 45, 145, 73, 146, 74, 75, 578, 579, 580, 581, 526, 527, 528, 529, 751, 752, 753, 754, 755, 771, 772, 773, 774, 775, 776, 777, 778, 779, 780, 784, 785, 786, 787, 788, 789, 791, 792, 793, 794, 795, 790, 781, 782, 783, 796, 797, 798] (by decide +kernel) (by decide +kernel)
set_option maxRecDepth 20000 in
theorem gL_law_X6_load : GoodIn wsL_law (wsV RL 66 RX6 yX6_load wsX6_load) := goodIn_app (goodIn_of _ (by decide +kernel)) ggL_law_X6_load
set_option maxRecDepth 20000 in
theorem ggL_law_X7_load : GoodIn wsL_law wsX7_load := goodIn_r _ [585, 108, 107, 102, 586, 587, 521, 588, 589, 590, 5, 591, 592, 593, 594, 595, 104, 596, 597, 598, 599, 600, 601, 602, 603, 604, 605, 606, 607, 608, 609, 610, 611, 612, 172, 173, 174, 613, 614, 615, 616, 617, 618, 619, 620, 621, 622, 623, 624, 625, 626, 627, 628, 175, 176, 177, 178, 179, 103, 756, 757, 758, 759, 760, 761, 762, 763, 764, 765, 766, 767, 768, 769, 770] (by decide +kernel) (by decide +kernel)
set_option maxRecDepth 20000 in
theorem gL_law_X7_load : GoodIn wsL_law (wsV RL 69 RX7 yX7_load wsX7_load) := goodIn_app (goodIn_of _ (by decide +kernel)) ggL_law_X7_load
set_option maxRecDepth 20000 in
theorem ggL_law_X6_count : GoodIn wsL_law wsX6_count := goodIn_r _ [632, 15, 389, 377, 305, 306, 113, 633, 634, 243, 184, 394, 19, 23, 307, 308, 309, 14, 310, 47, 311, 312, 313, 314, 38, 315, 316, 317, 318, 48, 319, 320, 321, 322, 459, 460, 461, 35, 462, 59, 60, 463, 206, 207, 26, 208, 68, 209, 210, 211, 212, 213, 214, 215, 205, 271, 272, 273, 2, 274, 27, 275, 276, 277, 278, 259, 260, 261, 262, 279, 280, 281, 282, 63, 61, 159, 160, 283, 202, 203, 204, 284, 285, 286, 287, 288, 635, 636, 637, 45, 638, 74, 639, 640, 641, 642, 52, 53, 492, 493, 494, 18, 495, 82, 509, 510, 511, 22, 512, 90, 751, 752, 753, 754, 755, 771, 772, 773, 774, 775, 776, 777, 778, 779, 780, 791, 792, 793, 794, 795, 790, 796, 797, 798, 781, 782, 783, 784, 785, 786, 787, 788, 789] (by decide +kernel) (by decide +kernel)
set_option maxRecDepth 20000 in
theorem gL_law_X6_count : GoodIn wsL_law (wsV RL 70 RX6 yX6_count wsX6_count) := goodIn_app (goodIn_of _ (by decide +kernel)) ggL_law_X6_count
set_option maxRecDepth 20000 in
theorem ggL_law_X7_count : GoodIn wsL_law wsX7_count := goodIn_r _ [646, 108, 102, 179, 521, 349, 350, 351, 5, 352, 353, 354, 355, 356, 235, 236, 237, 238, 297, 298, 299, 300, 293, 294, 295, 296, 756, 757, 758, 759, 760, 761, 762, 763, 764, 765, 766, 767, 768, 769, 770] (by decide +kernel) (by decide +kernel)
set_option maxRecDepth 20000 in
theorem gL_law_X7_count : GoodIn wsL_law (wsV RL 73 RX7 yX7_count wsX7_count) := goodIn_app (goodIn_of _ (by decide +kernel)) ggL_law_X7_count
set_option maxRecDepth 20000 in
theorem ggL_law_X6_cell : GoodIn wsL_law wsX6_cell := goodIn_r _ [650, 15, 113, 243, 184, 114, 115, 2, 116, 651, 152, 153, 35, 154, 60, 59, 155, 156, 157, 26, 158, 68, 244, 245, 159, 160, 652, 268, 269, 270, 63, 259, 260, 261, 14, 262, 38, 263, 264, 265, 266, 61, 267, 751, 752, 753, 754, 755, 771, 772, 773, 774, 775, 776, 777, 778, 779, 780, 791, 792, 793, 794, 795, 790] (by decide +kernel) (by decide +kernel)
set_option maxRecDepth 20000 in
theorem gL_law_X6_cell : GoodIn wsL_law (wsV RL 74 RX6 yX6_cell wsX6_cell) := goodIn_app (goodIn_of _ (by decide +kernel)) ggL_law_X6_cell
set_option maxRecDepth 20000 in
theorem ggL_law_X7_cell : GoodIn wsL_law wsX7_cell := goodIn_r _ [656, 108, 102, 169, 170, 5, 171, 172, 173, 174, 293, 294, 295, 296, 756, 757, 758, 759, 760, 761, 762, 763, 764, 765, 766, 767, 768, 769, 770] (by decide +kernel) (by decide +kernel)
set_option maxRecDepth 20000 in
theorem gL_law_X7_cell : GoodIn wsL_law (wsV RL 78 RX7 yX7_cell wsX7_cell) := goodIn_app (goodIn_of _ (by decide +kernel)) ggL_law_X7_cell
set_option maxRecDepth 20000 in
theorem ggL_law_X6_printed : GoodIn wsL_law wsX6_printed := goodIn_r _ [660, 27, 114, 115, 2, 116, 661, 662, 663, 117, 118, 119, 275, 276, 277, 278, 15, 113, 259, 260, 261, 14, 262, 38, 279, 280, 281, 35, 282, 63, 61, 159, 160, 283, 202, 203, 26, 204, 68, 284, 285, 286, 287, 288, 664, 665, 666, 667, 184, 244, 156, 157, 158, 245, 751, 752, 753, 754, 755, 771, 772, 773, 774, 775, 776, 777, 778, 779, 780, 791, 792, 793, 794, 795, 790] (by decide +kernel) (by decide +kernel)
set_option maxRecDepth 20000 in
theorem gL_law_X6_printed : GoodIn wsL_law (wsV RL 79 RX6 yX6_printed wsX6_printed) := goodIn_app (goodIn_of _ (by decide +kernel)) ggL_law_X6_printed
set_option maxRecDepth 20000 in
theorem ggL_law_X7_printed : GoodIn wsL_law wsX7_printed := goodIn_r _ [671, 108, 169, 170, 5, 171, 172, 173, 174, 672, 673, 674, 345, 346, 347, 348, 105, 102, 293, 294, 295, 296, 363, 364, 365, 366, 367, 368, 369, 370, 756, 757, 758, 759, 760, 761, 762, 763, 764, 765, 766, 767, 768, 769, 770] (by decide +kernel) (by decide +kernel)
set_option maxRecDepth 20000 in
theorem gL_law_X7_printed : GoodIn wsL_law (wsV RL 82 RX7 yX7_printed wsX7_printed) := goodIn_app (goodIn_of _ (by decide +kernel)) ggL_law_X7_printed
set_option maxRecDepth 20000 in
theorem ggL_law_X6_proof : GoodIn wsL_law wsX6_proof := goodIn_r _ [678, 15, 394, 117, 118, 2, 119, 635, 636, 637, 45, 638, 74, 679, 680, 681, 682, 75, 73, 751, 752, 753, 754, 755, 771, 772, 773, 774, 775, 776, 777, 778, 779, 780, 796, 797, 798] (by decide +kernel) (by decide +kernel)
set_option maxRecDepth 20000 in
theorem gL_law_X6_proof : GoodIn wsL_law (wsV RL 83 RX6 yX6_proof wsX6_proof) := goodIn_app (goodIn_of _ (by decide +kernel)) ggL_law_X6_proof
set_option maxRecDepth 20000 in
theorem ggL_law_X7_proof : GoodIn wsL_law wsX7_proof := goodIn_r _ [686, 108, 102, 172, 173, 5, 174, 756, 757, 758, 759, 760, 761, 762, 763, 764, 765, 766, 767, 768, 769, 770] (by decide +kernel) (by decide +kernel)
set_option maxRecDepth 20000 in
theorem gL_law_X7_proof : GoodIn wsL_law (wsV RL 86 RX7 yX7_proof wsX7_proof) := goodIn_app (goodIn_of _ (by decide +kernel)) ggL_law_X7_proof
set_option maxRecDepth 20000 in
theorem ggL_law_X6_faults : GoodIn wsL_law wsX6_faults := goodIn_r _ [690, 15, 113, 27, 661, 662, 2, 663, 117, 118, 119, 275, 276, 277, 278, 259, 260, 261, 14, 262, 38, 279, 280, 281, 35, 282, 63, 61, 159, 160, 283, 202, 203, 26, 204, 68, 284, 285, 286, 287, 288, 323, 324, 325, 326, 184, 327, 328, 329, 330, 59, 60, 331, 332, 333, 334, 201, 335, 210, 211, 212, 213, 214, 215, 400, 401, 402, 403, 404, 405, 406, 407, 408, 409, 410, 411, 751, 752, 753, 754, 755, 771, 772, 773, 774, 775, 776, 777, 778, 779, 780, 791, 792, 793, 794, 795, 790] (by decide +kernel) (by decide +kernel)
set_option maxRecDepth 20000 in
theorem gL_law_X6_faults : GoodIn wsL_law (wsV RL 87 RX6 yX6_faults wsX6_faults) := goodIn_app (goodIn_of _ (by decide +kernel)) ggL_law_X6_faults
set_option maxRecDepth 20000 in
theorem ggL_law_X7_faults : GoodIn wsL_law wsX7_faults := goodIn_r _ [694, 108, 340, 361, 362, 672, 673, 5, 674, 172, 173, 174, 345, 346, 347, 348, 105, 102, 293, 294, 295, 296, 357, 358, 359, 360, 363, 364, 365, 366, 367, 368, 369, 370, 169, 170, 171, 756, 757, 758, 759, 760, 761, 762, 763, 764, 765, 766, 767, 768, 769, 770] (by decide +kernel) (by decide +kernel)
set_option maxRecDepth 20000 in
theorem gL_law_X7_faults : GoodIn wsL_law (wsV RL 90 RX7 yX7_faults wsX7_faults) := goodIn_app (goodIn_of _ (by decide +kernel)) ggL_law_X7_faults
set_option maxRecDepth 20000 in
theorem ggL_law_X6_why : GoodIn wsL_law wsX6_why := goodIn_r _ [698, 15, 113, 27, 114, 115, 2, 116, 275, 276, 277, 278, 259, 260, 261, 14, 262, 38, 279, 280, 281, 35, 282, 63, 61, 159, 160, 283, 202, 203, 26, 204, 68, 284, 285, 286, 287, 288, 651, 152, 153, 154, 60, 59, 155, 156, 157, 158, 244, 307, 308, 309, 310, 47, 311, 312, 313, 314, 315, 316, 317, 318, 48, 319, 320, 321, 322, 664, 665, 666, 667, 184, 263, 264, 265, 266, 267, 268, 269, 270, 751, 752, 753, 754, 755, 771, 772, 773, 774, 775, 776, 777, 778, 779, 780, 791, 792, 793, 794, 795, 790] (by decide +kernel) (by decide +kernel)
set_option maxRecDepth 20000 in
theorem gL_law_X6_why : GoodIn wsL_law (wsV RL 91 RX6 yX6_why wsX6_why) := goodIn_app (goodIn_of _ (by decide +kernel)) ggL_law_X6_why
set_option maxRecDepth 20000 in
theorem ggL_law_X7_why : GoodIn wsL_law wsX7_why := goodIn_r _ [702, 108, 102, 169, 170, 5, 171, 172, 173, 174, 345, 346, 347, 348, 105, 293, 294, 295, 296, 349, 350, 351, 352, 353, 354, 355, 356, 363, 364, 365, 366, 367, 368, 369, 370, 756, 757, 758, 759, 760, 761, 762, 763, 764, 765, 766, 767, 768, 769, 770] (by decide +kernel) (by decide +kernel)
set_option maxRecDepth 20000 in
theorem gL_law_X7_why : GoodIn wsL_law (wsV RL 94 RX7 yX7_why wsX7_why) := goodIn_app (goodIn_of _ (by decide +kernel)) ggL_law_X7_why
set_option maxRecDepth 20000 in
theorem ggL_law_X6_tolerance : GoodIn wsL_law wsX6_tolerance := goodIn_r _ [706, 27, 15, 113, 184, 275, 276, 277, 2, 278, 259, 260, 261, 14, 262, 38, 279, 280, 281, 35, 282, 63, 61, 159, 160, 283, 202, 203, 26, 204, 68, 284, 285, 286, 287, 288, 707, 708, 709, 710, 327, 328, 329, 330, 59, 60, 331, 332, 333, 334, 201, 335, 210, 211, 212, 213, 214, 215, 751, 752, 753, 754, 755, 771, 772, 773, 774, 775, 776, 777, 778, 779, 780, 791, 792, 793, 794, 795, 790] (by decide +kernel) (by decide +kernel)
set_option maxRecDepth 20000 in
theorem gL_law_X6_tolerance : GoodIn wsL_law (wsV RL 95 RX6 yX6_tolerance wsX6_tolerance) := goodIn_app (goodIn_of _ (by decide +kernel)) ggL_law_X6_tolerance
set_option maxRecDepth 20000 in
theorem ggL_law_X7_tolerance : GoodIn wsL_law wsX7_tolerance := goodIn_r _ [714, 108, 345, 346, 347, 5, 348, 105, 102, 293, 294, 295, 296, 715, 716, 717, 718, 340, 357, 358, 359, 360, 361, 362, 363, 364, 365, 366, 367, 368, 369, 370, 169, 170, 171, 172, 173, 174, 756, 757, 758, 759, 760, 761, 762, 763, 764, 765, 766, 767, 768, 769, 770] (by decide +kernel) (by decide +kernel)
set_option maxRecDepth 20000 in
theorem gL_law_X7_tolerance : GoodIn wsL_law (wsV RL 98 RX7 yX7_tolerance wsX7_tolerance) := goodIn_app (goodIn_of _ (by decide +kernel)) ggL_law_X7_tolerance
set_option maxRecDepth 20000 in
theorem ggL_law_X6_trapFor : GoodIn wsL_law wsX6_trapFor := goodIn_r _ [722, 15, 113, 28, 634, 117, 118, 2, 119, 723, 194, 195, 35, 196, 59, 60, 137, 138, 139, 26, 140, 68, 141, 40, 41, 42, 197, 198, 199, 200, 201, 202, 203, 204, 707, 708, 709, 710, 327, 328, 329, 330, 283, 331, 332, 333, 334, 288, 335, 210, 211, 212, 213, 214, 215, 751, 752, 753, 754, 755, 771, 772, 773, 774, 775, 776, 777, 778, 779, 780, 791, 792, 793, 794, 795, 790] (by decide +kernel) (by decide +kernel)
set_option maxRecDepth 20000 in
theorem gL_law_X6_trapFor : GoodIn wsL_law (wsV RL 99 RX6 yX6_trapFor wsX6_trapFor) := goodIn_app (goodIn_of _ (by decide +kernel)) ggL_law_X6_trapFor
set_option maxRecDepth 20000 in
theorem ggL_law_X7_trapFor : GoodIn wsL_law wsX7_trapFor := goodIn_r _ [727, 108, 172, 173, 5, 174, 220, 221, 222, 223, 106, 102, 224, 225, 226, 227, 228, 229, 230, 169, 170, 171, 231, 232, 233, 234, 105, 715, 716, 717, 718, 340, 357, 358, 359, 360, 361, 362, 363, 364, 365, 366, 367, 368, 369, 370, 756, 757, 758, 759, 760, 761, 762, 763, 764, 765, 766, 767, 768, 769, 770] (by decide +kernel) (by decide +kernel)
set_option maxRecDepth 20000 in
theorem gL_law_X7_trapFor : GoodIn wsL_law (wsV RL 102 RX7 yX7_trapFor wsX7_trapFor) := goodIn_app (goodIn_of _ (by decide +kernel)) ggL_law_X7_trapFor
set_option maxRecDepth 20000 in
theorem ggL_law_X6_bestPins : GoodIn wsL_law wsX6_bestPins := goodIn_r _ [731, 15, 117, 118, 2, 119, 275, 276, 277, 278, 113, 27, 259, 260, 261, 14, 262, 38, 279, 280, 281, 35, 282, 63, 61, 159, 160, 283, 202, 203, 26, 204, 68, 284, 285, 286, 287, 288, 732, 312, 313, 314, 733, 320, 321, 322, 323, 324, 325, 326, 184, 327, 328, 329, 330, 59, 60, 331, 332, 333, 334, 201, 335, 210, 211, 212, 213, 214, 215, 400, 401, 402, 403, 404, 405, 406, 407, 751, 752, 753, 754, 755, 771, 772, 773, 774, 775, 776, 777, 778, 779, 780, 791, 792, 793, 794, 795, 790] (by decide +kernel) (by decide +kernel)
set_option maxRecDepth 20000 in
theorem gL_law_X6_bestPins : GoodIn wsL_law (wsV RL 103 RX6 yX6_bestPins wsX6_bestPins) := goodIn_app (goodIn_of _ (by decide +kernel)) ggL_law_X6_bestPins
set_option maxRecDepth 20000 in
theorem ggL_law_X7_bestPins : GoodIn wsL_law wsX7_bestPins := goodIn_r _ [737, 108, 340, 361, 172, 173, 5, 174, 345, 346, 347, 348, 105, 102, 293, 294, 295, 296, 349, 350, 351, 352, 353, 354, 355, 356, 357, 358, 359, 360, 362, 363, 364, 365, 366, 367, 368, 369, 370, 169, 170, 171, 756, 757, 758, 759, 760, 761, 762, 763, 764, 765, 766, 767, 768, 769, 770] (by decide +kernel) (by decide +kernel)
set_option maxRecDepth 20000 in
theorem gL_law_X7_bestPins : GoodIn wsL_law (wsV RL 106 RX7 yX7_bestPins wsX7_bestPins) := goodIn_app (goodIn_of _ (by decide +kernel)) ggL_law_X7_bestPins
set_option maxRecDepth 20000 in
theorem ggL_law_X6_printsLeft : GoodIn wsL_law wsX6_printsLeft := goodIn_r _ [741, 15, 113, 27, 275, 276, 277, 2, 278, 259, 260, 261, 14, 262, 38, 279, 280, 281, 35, 282, 63, 61, 159, 160, 283, 202, 203, 26, 204, 68, 284, 285, 286, 287, 288, 742, 743, 744, 745, 746, 125, 126, 127, 420, 421, 422, 423, 424, 425, 426, 427, 156, 157, 158, 115, 116, 155, 751, 752, 753, 754, 755, 771, 772, 773, 774, 775, 776, 777, 778, 779, 780, 791, 792, 793, 794, 795, 790] (by decide +kernel) (by decide +kernel)
set_option maxRecDepth 20000 in
theorem gL_law_X6_printsLeft : GoodIn wsL_law (wsV RL 107 RX6 yX6_printsLeft wsX6_printsLeft) := goodIn_app (goodIn_of _ (by decide +kernel)) ggL_law_X6_printsLeft
set_option maxRecDepth 20000 in
theorem ggL_law_X7_printsLeft : GoodIn wsL_law wsX7_printsLeft := goodIn_r _ [750, 108, 105, 102, 345, 346, 347, 5, 348, 293, 294, 295, 296, 443, 444, 445, 446, 228, 229, 230, 169, 170, 171, 172, 173, 174, 756, 757, 758, 759, 760, 761, 762, 763, 764, 765, 766, 767, 768, 769, 770] (by decide +kernel) (by decide +kernel)
set_option maxRecDepth 20000 in
theorem gL_law_X7_printsLeft : GoodIn wsL_law (wsV RL 110 RX7 yX7_printsLeft wsX7_printsLeft) := goodIn_app (goodIn_of _ (by decide +kernel)) ggL_law_X7_printsLeft
theorem dL_law_0 : decode cL_law 0 = .ok (.new 7, 3) := by decide +kernel
theorem dL_law_3 : decode cL_law 3 = .ok (.dup, 1) := by decide +kernel
theorem dL_law_4 : decode cL_law 4 = .ok (.invokespecial 9, 3) := by decide +kernel
theorem dL_law_7 : decode cL_law 7 = .ok (.astore_n 1, 1) := by decide +kernel
theorem dL_law_8 : decode cL_law 8 = .ok (.new 10, 3) := by decide +kernel
theorem dL_law_11 : decode cL_law 11 = .ok (.dup, 1) := by decide +kernel
theorem dL_law_12 : decode cL_law 12 = .ok (.invokespecial 12, 3) := by decide +kernel
theorem dL_law_15 : decode cL_law 15 = .ok (.astore_n 2, 1) := by decide +kernel
theorem dL_law_16 : decode cL_law 16 = .ok (.iconst 0, 1) := by decide +kernel
theorem dL_law_17 : decode cL_law 17 = .ok (.istore_n 3, 1) := by decide +kernel
theorem dL_law_18 : decode cL_law 18 = .ok (.iload_n 3, 1) := by decide +kernel
theorem dL_law_19 : decode cL_law 19 = .ok (.aload_n 0, 1) := by decide +kernel
theorem dL_law_20 : decode cL_law 20 = .ok (.arraylength, 1) := by decide +kernel
theorem dL_law_21 : decode cL_law 21 = .ok (.bipush 6, 2) := by decide +kernel
theorem dL_law_23 : decode cL_law 23 = .ok (.isub, 1) := by decide +kernel
theorem dL_law_24 : decode cL_law 24 = .ok (.if_icmp .gt 791, 3) := by decide +kernel
theorem dL_law_27 : decode cL_law 27 = .ok (.aload_n 0, 1) := by decide +kernel
theorem dL_law_28 : decode cL_law 28 = .ok (.iload_n 3, 1) := by decide +kernel
theorem dL_law_29 : decode cL_law 29 = .ok (.iaload, 1) := by decide +kernel
theorem dL_law_30 : decode cL_law 30 = .ok (.bipush 31, 2) := by decide +kernel
theorem dL_law_32 : decode cL_law 32 = .ok (.iand, 1) := by decide +kernel
theorem dL_law_33 : decode cL_law 33 = .ok (.tableswitch 776 0 22 #[107, 170, 193, 246, 279, 312, 345, 368, 391, 414, 427, 450, 463, 476, 499, 542, 595, 628, 671, 704, 717, 740, 763], 107) := by decide +kernel
theorem dL_law_140 : decode cL_law 140 = .ok (.aload_n 1, 1) := by decide +kernel
theorem dL_law_141 : decode cL_law 141 = .ok (.aload_n 0, 1) := by decide +kernel
theorem dL_law_142 : decode cL_law 142 = .ok (.iload_n 3, 1) := by decide +kernel
theorem dL_law_143 : decode cL_law 143 = .ok (.iconst 1, 1) := by decide +kernel
theorem dL_law_144 : decode cL_law 144 = .ok (.iadd, 1) := by decide +kernel
theorem dL_law_145 : decode cL_law 145 = .ok (.iaload, 1) := by decide +kernel
theorem dL_law_146 : decode cL_law 146 = .ok (.aload_n 0, 1) := by decide +kernel
theorem dL_law_147 : decode cL_law 147 = .ok (.iload_n 3, 1) := by decide +kernel
theorem dL_law_148 : decode cL_law 148 = .ok (.iconst 2, 1) := by decide +kernel
theorem dL_law_149 : decode cL_law 149 = .ok (.iadd, 1) := by decide +kernel
theorem dL_law_150 : decode cL_law 150 = .ok (.iaload, 1) := by decide +kernel
theorem dL_law_151 : decode cL_law 151 = .ok (.aload_n 0, 1) := by decide +kernel
theorem dL_law_152 : decode cL_law 152 = .ok (.iload_n 3, 1) := by decide +kernel
theorem dL_law_153 : decode cL_law 153 = .ok (.iconst 3, 1) := by decide +kernel
theorem dL_law_154 : decode cL_law 154 = .ok (.iadd, 1) := by decide +kernel
theorem dL_law_155 : decode cL_law 155 = .ok (.iaload, 1) := by decide +kernel
theorem dL_law_156 : decode cL_law 156 = .ok (.aload_n 0, 1) := by decide +kernel
theorem dL_law_157 : decode cL_law 157 = .ok (.iload_n 3, 1) := by decide +kernel
theorem dL_law_158 : decode cL_law 158 = .ok (.iconst 4, 1) := by decide +kernel
theorem dL_law_159 : decode cL_law 159 = .ok (.iadd, 1) := by decide +kernel
theorem dL_law_160 : decode cL_law 160 = .ok (.iaload, 1) := by decide +kernel
theorem dL_law_161 : decode cL_law 161 = .ok (.aload_n 0, 1) := by decide +kernel
theorem dL_law_162 : decode cL_law 162 = .ok (.iload_n 3, 1) := by decide +kernel
theorem dL_law_163 : decode cL_law 163 = .ok (.iconst 5, 1) := by decide +kernel
theorem dL_law_164 : decode cL_law 164 = .ok (.iadd, 1) := by decide +kernel
theorem dL_law_165 : decode cL_law 165 = .ok (.iaload, 1) := by decide +kernel
theorem dL_law_166 : decode cL_law 166 = .ok (.invokevirtual 13, 3) := by decide +kernel
theorem dL_law_169 : decode cL_law 169 = .ok (.aload_n 2, 1) := by decide +kernel
theorem dL_law_170 : decode cL_law 170 = .ok (.aload_n 0, 1) := by decide +kernel
theorem dL_law_171 : decode cL_law 171 = .ok (.iload_n 3, 1) := by decide +kernel
theorem dL_law_172 : decode cL_law 172 = .ok (.iconst 1, 1) := by decide +kernel
theorem dL_law_173 : decode cL_law 173 = .ok (.iadd, 1) := by decide +kernel
theorem dL_law_174 : decode cL_law 174 = .ok (.iaload, 1) := by decide +kernel
theorem dL_law_175 : decode cL_law 175 = .ok (.aload_n 0, 1) := by decide +kernel
theorem dL_law_176 : decode cL_law 176 = .ok (.iload_n 3, 1) := by decide +kernel
theorem dL_law_177 : decode cL_law 177 = .ok (.iconst 2, 1) := by decide +kernel
theorem dL_law_178 : decode cL_law 178 = .ok (.iadd, 1) := by decide +kernel
theorem dL_law_179 : decode cL_law 179 = .ok (.iaload, 1) := by decide +kernel
theorem dL_law_180 : decode cL_law 180 = .ok (.aload_n 0, 1) := by decide +kernel
theorem dL_law_181 : decode cL_law 181 = .ok (.iload_n 3, 1) := by decide +kernel
theorem dL_law_182 : decode cL_law 182 = .ok (.iconst 3, 1) := by decide +kernel
theorem dL_law_183 : decode cL_law 183 = .ok (.iadd, 1) := by decide +kernel
theorem dL_law_184 : decode cL_law 184 = .ok (.iaload, 1) := by decide +kernel
theorem dL_law_185 : decode cL_law 185 = .ok (.aload_n 0, 1) := by decide +kernel
theorem dL_law_186 : decode cL_law 186 = .ok (.iload_n 3, 1) := by decide +kernel
theorem dL_law_187 : decode cL_law 187 = .ok (.iconst 4, 1) := by decide +kernel
theorem dL_law_188 : decode cL_law 188 = .ok (.iadd, 1) := by decide +kernel
theorem dL_law_189 : decode cL_law 189 = .ok (.iaload, 1) := by decide +kernel
theorem dL_law_190 : decode cL_law 190 = .ok (.aload_n 0, 1) := by decide +kernel
theorem dL_law_191 : decode cL_law 191 = .ok (.iload_n 3, 1) := by decide +kernel
theorem dL_law_192 : decode cL_law 192 = .ok (.iconst 5, 1) := by decide +kernel
theorem dL_law_193 : decode cL_law 193 = .ok (.iadd, 1) := by decide +kernel
theorem dL_law_194 : decode cL_law 194 = .ok (.iaload, 1) := by decide +kernel
theorem dL_law_195 : decode cL_law 195 = .ok (.invokevirtual 17, 3) := by decide +kernel
theorem dL_law_198 : decode cL_law 198 = .ok (.if_icmp .eq 611, 3) := by decide +kernel
theorem dL_law_201 : decode cL_law 201 = .ok (.iconst 0, 1) := by decide +kernel
theorem dL_law_202 : decode cL_law 202 = .ok (.ireturn, 1) := by decide +kernel
theorem dL_law_203 : decode cL_law 203 = .ok (.aload_n 1, 1) := by decide +kernel
theorem dL_law_204 : decode cL_law 204 = .ok (.aload_n 0, 1) := by decide +kernel
theorem dL_law_205 : decode cL_law 205 = .ok (.iload_n 3, 1) := by decide +kernel
theorem dL_law_206 : decode cL_law 206 = .ok (.iconst 1, 1) := by decide +kernel
theorem dL_law_207 : decode cL_law 207 = .ok (.iadd, 1) := by decide +kernel
theorem dL_law_208 : decode cL_law 208 = .ok (.iaload, 1) := by decide +kernel
theorem dL_law_209 : decode cL_law 209 = .ok (.invokevirtual 18, 3) := by decide +kernel
theorem dL_law_212 : decode cL_law 212 = .ok (.aload_n 2, 1) := by decide +kernel
theorem dL_law_213 : decode cL_law 213 = .ok (.aload_n 0, 1) := by decide +kernel
theorem dL_law_214 : decode cL_law 214 = .ok (.iload_n 3, 1) := by decide +kernel
theorem dL_law_215 : decode cL_law 215 = .ok (.iconst 1, 1) := by decide +kernel
theorem dL_law_216 : decode cL_law 216 = .ok (.iadd, 1) := by decide +kernel
theorem dL_law_217 : decode cL_law 217 = .ok (.iaload, 1) := by decide +kernel
theorem dL_law_218 : decode cL_law 218 = .ok (.invokevirtual 22, 3) := by decide +kernel
theorem dL_law_221 : decode cL_law 221 = .ok (.if_icmp .eq 588, 3) := by decide +kernel
theorem dL_law_224 : decode cL_law 224 = .ok (.iconst 0, 1) := by decide +kernel
theorem dL_law_225 : decode cL_law 225 = .ok (.ireturn, 1) := by decide +kernel
theorem dL_law_226 : decode cL_law 226 = .ok (.aload_n 1, 1) := by decide +kernel
theorem dL_law_227 : decode cL_law 227 = .ok (.aload_n 0, 1) := by decide +kernel
theorem dL_law_228 : decode cL_law 228 = .ok (.iload_n 3, 1) := by decide +kernel
theorem dL_law_229 : decode cL_law 229 = .ok (.iconst 1, 1) := by decide +kernel
theorem dL_law_230 : decode cL_law 230 = .ok (.iadd, 1) := by decide +kernel
theorem dL_law_231 : decode cL_law 231 = .ok (.iaload, 1) := by decide +kernel
theorem dL_law_232 : decode cL_law 232 = .ok (.aload_n 0, 1) := by decide +kernel
theorem dL_law_233 : decode cL_law 233 = .ok (.iload_n 3, 1) := by decide +kernel
theorem dL_law_234 : decode cL_law 234 = .ok (.iconst 2, 1) := by decide +kernel
theorem dL_law_235 : decode cL_law 235 = .ok (.iadd, 1) := by decide +kernel
theorem dL_law_236 : decode cL_law 236 = .ok (.iaload, 1) := by decide +kernel
theorem dL_law_237 : decode cL_law 237 = .ok (.aload_n 0, 1) := by decide +kernel
theorem dL_law_238 : decode cL_law 238 = .ok (.iload_n 3, 1) := by decide +kernel
theorem dL_law_239 : decode cL_law 239 = .ok (.iconst 3, 1) := by decide +kernel
theorem dL_law_240 : decode cL_law 240 = .ok (.iadd, 1) := by decide +kernel
theorem dL_law_241 : decode cL_law 241 = .ok (.iaload, 1) := by decide +kernel
theorem dL_law_242 : decode cL_law 242 = .ok (.aload_n 0, 1) := by decide +kernel
theorem dL_law_243 : decode cL_law 243 = .ok (.iload_n 3, 1) := by decide +kernel
theorem dL_law_244 : decode cL_law 244 = .ok (.iconst 4, 1) := by decide +kernel
theorem dL_law_245 : decode cL_law 245 = .ok (.iadd, 1) := by decide +kernel
theorem dL_law_246 : decode cL_law 246 = .ok (.iaload, 1) := by decide +kernel
theorem dL_law_247 : decode cL_law 247 = .ok (.invokevirtual 23, 3) := by decide +kernel
theorem dL_law_250 : decode cL_law 250 = .ok (.aload_n 2, 1) := by decide +kernel
theorem dL_law_251 : decode cL_law 251 = .ok (.aload_n 0, 1) := by decide +kernel
theorem dL_law_252 : decode cL_law 252 = .ok (.iload_n 3, 1) := by decide +kernel
theorem dL_law_253 : decode cL_law 253 = .ok (.iconst 1, 1) := by decide +kernel
theorem dL_law_254 : decode cL_law 254 = .ok (.iadd, 1) := by decide +kernel
theorem dL_law_255 : decode cL_law 255 = .ok (.iaload, 1) := by decide +kernel
theorem dL_law_256 : decode cL_law 256 = .ok (.aload_n 0, 1) := by decide +kernel
theorem dL_law_257 : decode cL_law 257 = .ok (.iload_n 3, 1) := by decide +kernel
theorem dL_law_258 : decode cL_law 258 = .ok (.iconst 2, 1) := by decide +kernel
theorem dL_law_259 : decode cL_law 259 = .ok (.iadd, 1) := by decide +kernel
theorem dL_law_260 : decode cL_law 260 = .ok (.iaload, 1) := by decide +kernel
theorem dL_law_261 : decode cL_law 261 = .ok (.aload_n 0, 1) := by decide +kernel
theorem dL_law_262 : decode cL_law 262 = .ok (.iload_n 3, 1) := by decide +kernel
theorem dL_law_263 : decode cL_law 263 = .ok (.iconst 3, 1) := by decide +kernel
theorem dL_law_264 : decode cL_law 264 = .ok (.iadd, 1) := by decide +kernel
theorem dL_law_265 : decode cL_law 265 = .ok (.iaload, 1) := by decide +kernel
theorem dL_law_266 : decode cL_law 266 = .ok (.aload_n 0, 1) := by decide +kernel
theorem dL_law_267 : decode cL_law 267 = .ok (.iload_n 3, 1) := by decide +kernel
theorem dL_law_268 : decode cL_law 268 = .ok (.iconst 4, 1) := by decide +kernel
theorem dL_law_269 : decode cL_law 269 = .ok (.iadd, 1) := by decide +kernel
theorem dL_law_270 : decode cL_law 270 = .ok (.iaload, 1) := by decide +kernel
theorem dL_law_271 : decode cL_law 271 = .ok (.invokevirtual 27, 3) := by decide +kernel
theorem dL_law_274 : decode cL_law 274 = .ok (.if_icmp .eq 535, 3) := by decide +kernel
theorem dL_law_277 : decode cL_law 277 = .ok (.iconst 0, 1) := by decide +kernel
theorem dL_law_278 : decode cL_law 278 = .ok (.ireturn, 1) := by decide +kernel
theorem dL_law_279 : decode cL_law 279 = .ok (.aload_n 1, 1) := by decide +kernel
theorem dL_law_280 : decode cL_law 280 = .ok (.aload_n 0, 1) := by decide +kernel
theorem dL_law_281 : decode cL_law 281 = .ok (.iload_n 3, 1) := by decide +kernel
theorem dL_law_282 : decode cL_law 282 = .ok (.iconst 1, 1) := by decide +kernel
theorem dL_law_283 : decode cL_law 283 = .ok (.iadd, 1) := by decide +kernel
theorem dL_law_284 : decode cL_law 284 = .ok (.iaload, 1) := by decide +kernel
theorem dL_law_285 : decode cL_law 285 = .ok (.aload_n 0, 1) := by decide +kernel
theorem dL_law_286 : decode cL_law 286 = .ok (.iload_n 3, 1) := by decide +kernel
theorem dL_law_287 : decode cL_law 287 = .ok (.iconst 2, 1) := by decide +kernel
theorem dL_law_288 : decode cL_law 288 = .ok (.iadd, 1) := by decide +kernel
theorem dL_law_289 : decode cL_law 289 = .ok (.iaload, 1) := by decide +kernel
theorem dL_law_290 : decode cL_law 290 = .ok (.invokevirtual 28, 3) := by decide +kernel
theorem dL_law_293 : decode cL_law 293 = .ok (.aload_n 2, 1) := by decide +kernel
theorem dL_law_294 : decode cL_law 294 = .ok (.aload_n 0, 1) := by decide +kernel
theorem dL_law_295 : decode cL_law 295 = .ok (.iload_n 3, 1) := by decide +kernel
theorem dL_law_296 : decode cL_law 296 = .ok (.iconst 1, 1) := by decide +kernel
theorem dL_law_297 : decode cL_law 297 = .ok (.iadd, 1) := by decide +kernel
theorem dL_law_298 : decode cL_law 298 = .ok (.iaload, 1) := by decide +kernel
theorem dL_law_299 : decode cL_law 299 = .ok (.aload_n 0, 1) := by decide +kernel
theorem dL_law_300 : decode cL_law 300 = .ok (.iload_n 3, 1) := by decide +kernel
theorem dL_law_301 : decode cL_law 301 = .ok (.iconst 2, 1) := by decide +kernel
theorem dL_law_302 : decode cL_law 302 = .ok (.iadd, 1) := by decide +kernel
theorem dL_law_303 : decode cL_law 303 = .ok (.iaload, 1) := by decide +kernel
theorem dL_law_304 : decode cL_law 304 = .ok (.invokevirtual 32, 3) := by decide +kernel
theorem dL_law_307 : decode cL_law 307 = .ok (.if_icmp .eq 502, 3) := by decide +kernel
theorem dL_law_310 : decode cL_law 310 = .ok (.iconst 0, 1) := by decide +kernel
theorem dL_law_311 : decode cL_law 311 = .ok (.ireturn, 1) := by decide +kernel
theorem dL_law_312 : decode cL_law 312 = .ok (.aload_n 1, 1) := by decide +kernel
theorem dL_law_313 : decode cL_law 313 = .ok (.aload_n 0, 1) := by decide +kernel
theorem dL_law_314 : decode cL_law 314 = .ok (.iload_n 3, 1) := by decide +kernel
theorem dL_law_315 : decode cL_law 315 = .ok (.iconst 1, 1) := by decide +kernel
theorem dL_law_316 : decode cL_law 316 = .ok (.iadd, 1) := by decide +kernel
theorem dL_law_317 : decode cL_law 317 = .ok (.iaload, 1) := by decide +kernel
theorem dL_law_318 : decode cL_law 318 = .ok (.aload_n 0, 1) := by decide +kernel
theorem dL_law_319 : decode cL_law 319 = .ok (.iload_n 3, 1) := by decide +kernel
theorem dL_law_320 : decode cL_law 320 = .ok (.iconst 2, 1) := by decide +kernel
theorem dL_law_321 : decode cL_law 321 = .ok (.iadd, 1) := by decide +kernel
theorem dL_law_322 : decode cL_law 322 = .ok (.iaload, 1) := by decide +kernel
theorem dL_law_323 : decode cL_law 323 = .ok (.invokevirtual 33, 3) := by decide +kernel
theorem dL_law_326 : decode cL_law 326 = .ok (.aload_n 2, 1) := by decide +kernel
theorem dL_law_327 : decode cL_law 327 = .ok (.aload_n 0, 1) := by decide +kernel
theorem dL_law_328 : decode cL_law 328 = .ok (.iload_n 3, 1) := by decide +kernel
theorem dL_law_329 : decode cL_law 329 = .ok (.iconst 1, 1) := by decide +kernel
theorem dL_law_330 : decode cL_law 330 = .ok (.iadd, 1) := by decide +kernel
theorem dL_law_331 : decode cL_law 331 = .ok (.iaload, 1) := by decide +kernel
theorem dL_law_332 : decode cL_law 332 = .ok (.aload_n 0, 1) := by decide +kernel
theorem dL_law_333 : decode cL_law 333 = .ok (.iload_n 3, 1) := by decide +kernel
theorem dL_law_334 : decode cL_law 334 = .ok (.iconst 2, 1) := by decide +kernel
theorem dL_law_335 : decode cL_law 335 = .ok (.iadd, 1) := by decide +kernel
theorem dL_law_336 : decode cL_law 336 = .ok (.iaload, 1) := by decide +kernel
theorem dL_law_337 : decode cL_law 337 = .ok (.invokevirtual 36, 3) := by decide +kernel
theorem dL_law_340 : decode cL_law 340 = .ok (.if_icmp .eq 469, 3) := by decide +kernel
theorem dL_law_343 : decode cL_law 343 = .ok (.iconst 0, 1) := by decide +kernel
theorem dL_law_344 : decode cL_law 344 = .ok (.ireturn, 1) := by decide +kernel
theorem dL_law_345 : decode cL_law 345 = .ok (.aload_n 1, 1) := by decide +kernel
theorem dL_law_346 : decode cL_law 346 = .ok (.aload_n 0, 1) := by decide +kernel
theorem dL_law_347 : decode cL_law 347 = .ok (.iload_n 3, 1) := by decide +kernel
theorem dL_law_348 : decode cL_law 348 = .ok (.iconst 1, 1) := by decide +kernel
theorem dL_law_349 : decode cL_law 349 = .ok (.iadd, 1) := by decide +kernel
theorem dL_law_350 : decode cL_law 350 = .ok (.iaload, 1) := by decide +kernel
theorem dL_law_351 : decode cL_law 351 = .ok (.aload_n 0, 1) := by decide +kernel
theorem dL_law_352 : decode cL_law 352 = .ok (.iload_n 3, 1) := by decide +kernel
theorem dL_law_353 : decode cL_law 353 = .ok (.iconst 2, 1) := by decide +kernel
theorem dL_law_354 : decode cL_law 354 = .ok (.iadd, 1) := by decide +kernel
theorem dL_law_355 : decode cL_law 355 = .ok (.iaload, 1) := by decide +kernel
theorem dL_law_356 : decode cL_law 356 = .ok (.invokevirtual 37, 3) := by decide +kernel
theorem dL_law_359 : decode cL_law 359 = .ok (.aload_n 2, 1) := by decide +kernel
theorem dL_law_360 : decode cL_law 360 = .ok (.aload_n 0, 1) := by decide +kernel
theorem dL_law_361 : decode cL_law 361 = .ok (.iload_n 3, 1) := by decide +kernel
theorem dL_law_362 : decode cL_law 362 = .ok (.iconst 1, 1) := by decide +kernel
theorem dL_law_363 : decode cL_law 363 = .ok (.iadd, 1) := by decide +kernel
theorem dL_law_364 : decode cL_law 364 = .ok (.iaload, 1) := by decide +kernel
theorem dL_law_365 : decode cL_law 365 = .ok (.aload_n 0, 1) := by decide +kernel
theorem dL_law_366 : decode cL_law 366 = .ok (.iload_n 3, 1) := by decide +kernel
theorem dL_law_367 : decode cL_law 367 = .ok (.iconst 2, 1) := by decide +kernel
theorem dL_law_368 : decode cL_law 368 = .ok (.iadd, 1) := by decide +kernel
theorem dL_law_369 : decode cL_law 369 = .ok (.iaload, 1) := by decide +kernel
theorem dL_law_370 : decode cL_law 370 = .ok (.invokevirtual 40, 3) := by decide +kernel
theorem dL_law_373 : decode cL_law 373 = .ok (.if_icmp .eq 436, 3) := by decide +kernel
theorem dL_law_376 : decode cL_law 376 = .ok (.iconst 0, 1) := by decide +kernel
theorem dL_law_377 : decode cL_law 377 = .ok (.ireturn, 1) := by decide +kernel
theorem dL_law_378 : decode cL_law 378 = .ok (.aload_n 1, 1) := by decide +kernel
theorem dL_law_379 : decode cL_law 379 = .ok (.aload_n 0, 1) := by decide +kernel
theorem dL_law_380 : decode cL_law 380 = .ok (.iload_n 3, 1) := by decide +kernel
theorem dL_law_381 : decode cL_law 381 = .ok (.iconst 1, 1) := by decide +kernel
theorem dL_law_382 : decode cL_law 382 = .ok (.iadd, 1) := by decide +kernel
theorem dL_law_383 : decode cL_law 383 = .ok (.iaload, 1) := by decide +kernel
theorem dL_law_384 : decode cL_law 384 = .ok (.invokevirtual 41, 3) := by decide +kernel
theorem dL_law_387 : decode cL_law 387 = .ok (.aload_n 2, 1) := by decide +kernel
theorem dL_law_388 : decode cL_law 388 = .ok (.aload_n 0, 1) := by decide +kernel
theorem dL_law_389 : decode cL_law 389 = .ok (.iload_n 3, 1) := by decide +kernel
theorem dL_law_390 : decode cL_law 390 = .ok (.iconst 1, 1) := by decide +kernel
theorem dL_law_391 : decode cL_law 391 = .ok (.iadd, 1) := by decide +kernel
theorem dL_law_392 : decode cL_law 392 = .ok (.iaload, 1) := by decide +kernel
theorem dL_law_393 : decode cL_law 393 = .ok (.invokevirtual 44, 3) := by decide +kernel
theorem dL_law_396 : decode cL_law 396 = .ok (.if_icmp .eq 413, 3) := by decide +kernel
theorem dL_law_399 : decode cL_law 399 = .ok (.iconst 0, 1) := by decide +kernel
theorem dL_law_400 : decode cL_law 400 = .ok (.ireturn, 1) := by decide +kernel
theorem dL_law_401 : decode cL_law 401 = .ok (.aload_n 1, 1) := by decide +kernel
theorem dL_law_402 : decode cL_law 402 = .ok (.aload_n 0, 1) := by decide +kernel
theorem dL_law_403 : decode cL_law 403 = .ok (.iload_n 3, 1) := by decide +kernel
theorem dL_law_404 : decode cL_law 404 = .ok (.iconst 1, 1) := by decide +kernel
theorem dL_law_405 : decode cL_law 405 = .ok (.iadd, 1) := by decide +kernel
theorem dL_law_406 : decode cL_law 406 = .ok (.iaload, 1) := by decide +kernel
theorem dL_law_407 : decode cL_law 407 = .ok (.invokevirtual 45, 3) := by decide +kernel
theorem dL_law_410 : decode cL_law 410 = .ok (.aload_n 2, 1) := by decide +kernel
theorem dL_law_411 : decode cL_law 411 = .ok (.aload_n 0, 1) := by decide +kernel
theorem dL_law_412 : decode cL_law 412 = .ok (.iload_n 3, 1) := by decide +kernel
theorem dL_law_413 : decode cL_law 413 = .ok (.iconst 1, 1) := by decide +kernel
theorem dL_law_414 : decode cL_law 414 = .ok (.iadd, 1) := by decide +kernel
theorem dL_law_415 : decode cL_law 415 = .ok (.iaload, 1) := by decide +kernel
theorem dL_law_416 : decode cL_law 416 = .ok (.invokevirtual 48, 3) := by decide +kernel
theorem dL_law_419 : decode cL_law 419 = .ok (.if_icmp .eq 390, 3) := by decide +kernel
theorem dL_law_422 : decode cL_law 422 = .ok (.iconst 0, 1) := by decide +kernel
theorem dL_law_423 : decode cL_law 423 = .ok (.ireturn, 1) := by decide +kernel
theorem dL_law_424 : decode cL_law 424 = .ok (.aload_n 1, 1) := by decide +kernel
theorem dL_law_425 : decode cL_law 425 = .ok (.aload_n 0, 1) := by decide +kernel
theorem dL_law_426 : decode cL_law 426 = .ok (.iload_n 3, 1) := by decide +kernel
theorem dL_law_427 : decode cL_law 427 = .ok (.iconst 1, 1) := by decide +kernel
theorem dL_law_428 : decode cL_law 428 = .ok (.iadd, 1) := by decide +kernel
theorem dL_law_429 : decode cL_law 429 = .ok (.iaload, 1) := by decide +kernel
theorem dL_law_430 : decode cL_law 430 = .ok (.invokevirtual 49, 3) := by decide +kernel
theorem dL_law_433 : decode cL_law 433 = .ok (.aload_n 2, 1) := by decide +kernel
theorem dL_law_434 : decode cL_law 434 = .ok (.aload_n 0, 1) := by decide +kernel
theorem dL_law_435 : decode cL_law 435 = .ok (.iload_n 3, 1) := by decide +kernel
theorem dL_law_436 : decode cL_law 436 = .ok (.iconst 1, 1) := by decide +kernel
theorem dL_law_437 : decode cL_law 437 = .ok (.iadd, 1) := by decide +kernel
theorem dL_law_438 : decode cL_law 438 = .ok (.iaload, 1) := by decide +kernel
theorem dL_law_439 : decode cL_law 439 = .ok (.invokevirtual 52, 3) := by decide +kernel
theorem dL_law_442 : decode cL_law 442 = .ok (.if_icmp .eq 367, 3) := by decide +kernel
theorem dL_law_445 : decode cL_law 445 = .ok (.iconst 0, 1) := by decide +kernel
theorem dL_law_446 : decode cL_law 446 = .ok (.ireturn, 1) := by decide +kernel
theorem dL_law_447 : decode cL_law 447 = .ok (.aload_n 1, 1) := by decide +kernel
theorem dL_law_448 : decode cL_law 448 = .ok (.invokevirtual 53, 3) := by decide +kernel
theorem dL_law_451 : decode cL_law 451 = .ok (.aload_n 2, 1) := by decide +kernel
theorem dL_law_452 : decode cL_law 452 = .ok (.invokevirtual 57, 3) := by decide +kernel
theorem dL_law_455 : decode cL_law 455 = .ok (.if_icmp .eq 354, 3) := by decide +kernel
theorem dL_law_458 : decode cL_law 458 = .ok (.iconst 0, 1) := by decide +kernel
theorem dL_law_459 : decode cL_law 459 = .ok (.ireturn, 1) := by decide +kernel
theorem dL_law_460 : decode cL_law 460 = .ok (.aload_n 1, 1) := by decide +kernel
theorem dL_law_461 : decode cL_law 461 = .ok (.aload_n 0, 1) := by decide +kernel
theorem dL_law_462 : decode cL_law 462 = .ok (.iload_n 3, 1) := by decide +kernel
theorem dL_law_463 : decode cL_law 463 = .ok (.iconst 1, 1) := by decide +kernel
theorem dL_law_464 : decode cL_law 464 = .ok (.iadd, 1) := by decide +kernel
theorem dL_law_465 : decode cL_law 465 = .ok (.iaload, 1) := by decide +kernel
theorem dL_law_466 : decode cL_law 466 = .ok (.invokevirtual 58, 3) := by decide +kernel
theorem dL_law_469 : decode cL_law 469 = .ok (.aload_n 2, 1) := by decide +kernel
theorem dL_law_470 : decode cL_law 470 = .ok (.aload_n 0, 1) := by decide +kernel
theorem dL_law_471 : decode cL_law 471 = .ok (.iload_n 3, 1) := by decide +kernel
theorem dL_law_472 : decode cL_law 472 = .ok (.iconst 1, 1) := by decide +kernel
theorem dL_law_473 : decode cL_law 473 = .ok (.iadd, 1) := by decide +kernel
theorem dL_law_474 : decode cL_law 474 = .ok (.iaload, 1) := by decide +kernel
theorem dL_law_475 : decode cL_law 475 = .ok (.invokevirtual 61, 3) := by decide +kernel
theorem dL_law_478 : decode cL_law 478 = .ok (.if_icmp .eq 331, 3) := by decide +kernel
theorem dL_law_481 : decode cL_law 481 = .ok (.iconst 0, 1) := by decide +kernel
theorem dL_law_482 : decode cL_law 482 = .ok (.ireturn, 1) := by decide +kernel
theorem dL_law_483 : decode cL_law 483 = .ok (.aload_n 1, 1) := by decide +kernel
theorem dL_law_484 : decode cL_law 484 = .ok (.invokevirtual 62, 3) := by decide +kernel
theorem dL_law_487 : decode cL_law 487 = .ok (.aload_n 2, 1) := by decide +kernel
theorem dL_law_488 : decode cL_law 488 = .ok (.invokevirtual 65, 3) := by decide +kernel
theorem dL_law_491 : decode cL_law 491 = .ok (.if_icmp .eq 318, 3) := by decide +kernel
theorem dL_law_494 : decode cL_law 494 = .ok (.iconst 0, 1) := by decide +kernel
theorem dL_law_495 : decode cL_law 495 = .ok (.ireturn, 1) := by decide +kernel
theorem dL_law_496 : decode cL_law 496 = .ok (.aload_n 1, 1) := by decide +kernel
theorem dL_law_497 : decode cL_law 497 = .ok (.invokevirtual 66, 3) := by decide +kernel
theorem dL_law_500 : decode cL_law 500 = .ok (.aload_n 2, 1) := by decide +kernel
theorem dL_law_501 : decode cL_law 501 = .ok (.invokevirtual 69, 3) := by decide +kernel
theorem dL_law_504 : decode cL_law 504 = .ok (.if_icmp .eq 305, 3) := by decide +kernel
theorem dL_law_507 : decode cL_law 507 = .ok (.iconst 0, 1) := by decide +kernel
theorem dL_law_508 : decode cL_law 508 = .ok (.ireturn, 1) := by decide +kernel
theorem dL_law_509 : decode cL_law 509 = .ok (.aload_n 1, 1) := by decide +kernel
theorem dL_law_510 : decode cL_law 510 = .ok (.aload_n 0, 1) := by decide +kernel
theorem dL_law_511 : decode cL_law 511 = .ok (.iload_n 3, 1) := by decide +kernel
theorem dL_law_512 : decode cL_law 512 = .ok (.iconst 1, 1) := by decide +kernel
theorem dL_law_513 : decode cL_law 513 = .ok (.iadd, 1) := by decide +kernel
theorem dL_law_514 : decode cL_law 514 = .ok (.iaload, 1) := by decide +kernel
theorem dL_law_515 : decode cL_law 515 = .ok (.invokevirtual 70, 3) := by decide +kernel
theorem dL_law_518 : decode cL_law 518 = .ok (.aload_n 2, 1) := by decide +kernel
theorem dL_law_519 : decode cL_law 519 = .ok (.aload_n 0, 1) := by decide +kernel
theorem dL_law_520 : decode cL_law 520 = .ok (.iload_n 3, 1) := by decide +kernel
theorem dL_law_521 : decode cL_law 521 = .ok (.iconst 1, 1) := by decide +kernel
theorem dL_law_522 : decode cL_law 522 = .ok (.iadd, 1) := by decide +kernel
theorem dL_law_523 : decode cL_law 523 = .ok (.iaload, 1) := by decide +kernel
theorem dL_law_524 : decode cL_law 524 = .ok (.invokevirtual 73, 3) := by decide +kernel
theorem dL_law_527 : decode cL_law 527 = .ok (.if_icmp .eq 282, 3) := by decide +kernel
theorem dL_law_530 : decode cL_law 530 = .ok (.iconst 0, 1) := by decide +kernel
theorem dL_law_531 : decode cL_law 531 = .ok (.ireturn, 1) := by decide +kernel
theorem dL_law_532 : decode cL_law 532 = .ok (.aload_n 1, 1) := by decide +kernel
theorem dL_law_533 : decode cL_law 533 = .ok (.aload_n 0, 1) := by decide +kernel
theorem dL_law_534 : decode cL_law 534 = .ok (.iload_n 3, 1) := by decide +kernel
theorem dL_law_535 : decode cL_law 535 = .ok (.iconst 1, 1) := by decide +kernel
theorem dL_law_536 : decode cL_law 536 = .ok (.iadd, 1) := by decide +kernel
theorem dL_law_537 : decode cL_law 537 = .ok (.iaload, 1) := by decide +kernel
theorem dL_law_538 : decode cL_law 538 = .ok (.aload_n 0, 1) := by decide +kernel
theorem dL_law_539 : decode cL_law 539 = .ok (.iload_n 3, 1) := by decide +kernel
theorem dL_law_540 : decode cL_law 540 = .ok (.iconst 2, 1) := by decide +kernel
theorem dL_law_541 : decode cL_law 541 = .ok (.iadd, 1) := by decide +kernel
theorem dL_law_542 : decode cL_law 542 = .ok (.iaload, 1) := by decide +kernel
theorem dL_law_543 : decode cL_law 543 = .ok (.aload_n 0, 1) := by decide +kernel
theorem dL_law_544 : decode cL_law 544 = .ok (.iload_n 3, 1) := by decide +kernel
theorem dL_law_545 : decode cL_law 545 = .ok (.iconst 3, 1) := by decide +kernel
theorem dL_law_546 : decode cL_law 546 = .ok (.iadd, 1) := by decide +kernel
theorem dL_law_547 : decode cL_law 547 = .ok (.iaload, 1) := by decide +kernel
theorem dL_law_548 : decode cL_law 548 = .ok (.invokevirtual 74, 3) := by decide +kernel
theorem dL_law_551 : decode cL_law 551 = .ok (.aload_n 2, 1) := by decide +kernel
theorem dL_law_552 : decode cL_law 552 = .ok (.aload_n 0, 1) := by decide +kernel
theorem dL_law_553 : decode cL_law 553 = .ok (.iload_n 3, 1) := by decide +kernel
theorem dL_law_554 : decode cL_law 554 = .ok (.iconst 1, 1) := by decide +kernel
theorem dL_law_555 : decode cL_law 555 = .ok (.iadd, 1) := by decide +kernel
theorem dL_law_556 : decode cL_law 556 = .ok (.iaload, 1) := by decide +kernel
theorem dL_law_557 : decode cL_law 557 = .ok (.aload_n 0, 1) := by decide +kernel
theorem dL_law_558 : decode cL_law 558 = .ok (.iload_n 3, 1) := by decide +kernel
theorem dL_law_559 : decode cL_law 559 = .ok (.iconst 2, 1) := by decide +kernel
theorem dL_law_560 : decode cL_law 560 = .ok (.iadd, 1) := by decide +kernel
theorem dL_law_561 : decode cL_law 561 = .ok (.iaload, 1) := by decide +kernel
theorem dL_law_562 : decode cL_law 562 = .ok (.aload_n 0, 1) := by decide +kernel
theorem dL_law_563 : decode cL_law 563 = .ok (.iload_n 3, 1) := by decide +kernel
theorem dL_law_564 : decode cL_law 564 = .ok (.iconst 3, 1) := by decide +kernel
theorem dL_law_565 : decode cL_law 565 = .ok (.iadd, 1) := by decide +kernel
theorem dL_law_566 : decode cL_law 566 = .ok (.iaload, 1) := by decide +kernel
theorem dL_law_567 : decode cL_law 567 = .ok (.invokevirtual 78, 3) := by decide +kernel
theorem dL_law_570 : decode cL_law 570 = .ok (.if_icmp .eq 239, 3) := by decide +kernel
theorem dL_law_573 : decode cL_law 573 = .ok (.iconst 0, 1) := by decide +kernel
theorem dL_law_574 : decode cL_law 574 = .ok (.ireturn, 1) := by decide +kernel
theorem dL_law_575 : decode cL_law 575 = .ok (.aload_n 1, 1) := by decide +kernel
theorem dL_law_576 : decode cL_law 576 = .ok (.aload_n 0, 1) := by decide +kernel
theorem dL_law_577 : decode cL_law 577 = .ok (.iload_n 3, 1) := by decide +kernel
theorem dL_law_578 : decode cL_law 578 = .ok (.iconst 1, 1) := by decide +kernel
theorem dL_law_579 : decode cL_law 579 = .ok (.iadd, 1) := by decide +kernel
theorem dL_law_580 : decode cL_law 580 = .ok (.iaload, 1) := by decide +kernel
theorem dL_law_581 : decode cL_law 581 = .ok (.aload_n 0, 1) := by decide +kernel
theorem dL_law_582 : decode cL_law 582 = .ok (.iload_n 3, 1) := by decide +kernel
theorem dL_law_583 : decode cL_law 583 = .ok (.iconst 2, 1) := by decide +kernel
theorem dL_law_584 : decode cL_law 584 = .ok (.iadd, 1) := by decide +kernel
theorem dL_law_585 : decode cL_law 585 = .ok (.iaload, 1) := by decide +kernel
theorem dL_law_586 : decode cL_law 586 = .ok (.aload_n 0, 1) := by decide +kernel
theorem dL_law_587 : decode cL_law 587 = .ok (.iload_n 3, 1) := by decide +kernel
theorem dL_law_588 : decode cL_law 588 = .ok (.iconst 3, 1) := by decide +kernel
theorem dL_law_589 : decode cL_law 589 = .ok (.iadd, 1) := by decide +kernel
theorem dL_law_590 : decode cL_law 590 = .ok (.iaload, 1) := by decide +kernel
theorem dL_law_591 : decode cL_law 591 = .ok (.aload_n 0, 1) := by decide +kernel
theorem dL_law_592 : decode cL_law 592 = .ok (.iload_n 3, 1) := by decide +kernel
theorem dL_law_593 : decode cL_law 593 = .ok (.iconst 4, 1) := by decide +kernel
theorem dL_law_594 : decode cL_law 594 = .ok (.iadd, 1) := by decide +kernel
theorem dL_law_595 : decode cL_law 595 = .ok (.iaload, 1) := by decide +kernel
theorem dL_law_596 : decode cL_law 596 = .ok (.invokevirtual 79, 3) := by decide +kernel
theorem dL_law_599 : decode cL_law 599 = .ok (.aload_n 2, 1) := by decide +kernel
theorem dL_law_600 : decode cL_law 600 = .ok (.aload_n 0, 1) := by decide +kernel
theorem dL_law_601 : decode cL_law 601 = .ok (.iload_n 3, 1) := by decide +kernel
theorem dL_law_602 : decode cL_law 602 = .ok (.iconst 1, 1) := by decide +kernel
theorem dL_law_603 : decode cL_law 603 = .ok (.iadd, 1) := by decide +kernel
theorem dL_law_604 : decode cL_law 604 = .ok (.iaload, 1) := by decide +kernel
theorem dL_law_605 : decode cL_law 605 = .ok (.aload_n 0, 1) := by decide +kernel
theorem dL_law_606 : decode cL_law 606 = .ok (.iload_n 3, 1) := by decide +kernel
theorem dL_law_607 : decode cL_law 607 = .ok (.iconst 2, 1) := by decide +kernel
theorem dL_law_608 : decode cL_law 608 = .ok (.iadd, 1) := by decide +kernel
theorem dL_law_609 : decode cL_law 609 = .ok (.iaload, 1) := by decide +kernel
theorem dL_law_610 : decode cL_law 610 = .ok (.aload_n 0, 1) := by decide +kernel
theorem dL_law_611 : decode cL_law 611 = .ok (.iload_n 3, 1) := by decide +kernel
theorem dL_law_612 : decode cL_law 612 = .ok (.iconst 3, 1) := by decide +kernel
theorem dL_law_613 : decode cL_law 613 = .ok (.iadd, 1) := by decide +kernel
theorem dL_law_614 : decode cL_law 614 = .ok (.iaload, 1) := by decide +kernel
theorem dL_law_615 : decode cL_law 615 = .ok (.aload_n 0, 1) := by decide +kernel
theorem dL_law_616 : decode cL_law 616 = .ok (.iload_n 3, 1) := by decide +kernel
theorem dL_law_617 : decode cL_law 617 = .ok (.iconst 4, 1) := by decide +kernel
theorem dL_law_618 : decode cL_law 618 = .ok (.iadd, 1) := by decide +kernel
theorem dL_law_619 : decode cL_law 619 = .ok (.iaload, 1) := by decide +kernel
theorem dL_law_620 : decode cL_law 620 = .ok (.invokevirtual 82, 3) := by decide +kernel
theorem dL_law_623 : decode cL_law 623 = .ok (.if_icmp .eq 186, 3) := by decide +kernel
theorem dL_law_626 : decode cL_law 626 = .ok (.iconst 0, 1) := by decide +kernel
theorem dL_law_627 : decode cL_law 627 = .ok (.ireturn, 1) := by decide +kernel
theorem dL_law_628 : decode cL_law 628 = .ok (.aload_n 1, 1) := by decide +kernel
theorem dL_law_629 : decode cL_law 629 = .ok (.aload_n 0, 1) := by decide +kernel
theorem dL_law_630 : decode cL_law 630 = .ok (.iload_n 3, 1) := by decide +kernel
theorem dL_law_631 : decode cL_law 631 = .ok (.iconst 1, 1) := by decide +kernel
theorem dL_law_632 : decode cL_law 632 = .ok (.iadd, 1) := by decide +kernel
theorem dL_law_633 : decode cL_law 633 = .ok (.iaload, 1) := by decide +kernel
theorem dL_law_634 : decode cL_law 634 = .ok (.aload_n 0, 1) := by decide +kernel
theorem dL_law_635 : decode cL_law 635 = .ok (.iload_n 3, 1) := by decide +kernel
theorem dL_law_636 : decode cL_law 636 = .ok (.iconst 2, 1) := by decide +kernel
theorem dL_law_637 : decode cL_law 637 = .ok (.iadd, 1) := by decide +kernel
theorem dL_law_638 : decode cL_law 638 = .ok (.iaload, 1) := by decide +kernel
theorem dL_law_639 : decode cL_law 639 = .ok (.invokevirtual 83, 3) := by decide +kernel
theorem dL_law_642 : decode cL_law 642 = .ok (.aload_n 2, 1) := by decide +kernel
theorem dL_law_643 : decode cL_law 643 = .ok (.aload_n 0, 1) := by decide +kernel
theorem dL_law_644 : decode cL_law 644 = .ok (.iload_n 3, 1) := by decide +kernel
theorem dL_law_645 : decode cL_law 645 = .ok (.iconst 1, 1) := by decide +kernel
theorem dL_law_646 : decode cL_law 646 = .ok (.iadd, 1) := by decide +kernel
theorem dL_law_647 : decode cL_law 647 = .ok (.iaload, 1) := by decide +kernel
theorem dL_law_648 : decode cL_law 648 = .ok (.aload_n 0, 1) := by decide +kernel
theorem dL_law_649 : decode cL_law 649 = .ok (.iload_n 3, 1) := by decide +kernel
theorem dL_law_650 : decode cL_law 650 = .ok (.iconst 2, 1) := by decide +kernel
theorem dL_law_651 : decode cL_law 651 = .ok (.iadd, 1) := by decide +kernel
theorem dL_law_652 : decode cL_law 652 = .ok (.iaload, 1) := by decide +kernel
theorem dL_law_653 : decode cL_law 653 = .ok (.invokevirtual 86, 3) := by decide +kernel
theorem dL_law_656 : decode cL_law 656 = .ok (.if_icmp .eq 153, 3) := by decide +kernel
theorem dL_law_659 : decode cL_law 659 = .ok (.iconst 0, 1) := by decide +kernel
theorem dL_law_660 : decode cL_law 660 = .ok (.ireturn, 1) := by decide +kernel
theorem dL_law_661 : decode cL_law 661 = .ok (.aload_n 1, 1) := by decide +kernel
theorem dL_law_662 : decode cL_law 662 = .ok (.aload_n 0, 1) := by decide +kernel
theorem dL_law_663 : decode cL_law 663 = .ok (.iload_n 3, 1) := by decide +kernel
theorem dL_law_664 : decode cL_law 664 = .ok (.iconst 1, 1) := by decide +kernel
theorem dL_law_665 : decode cL_law 665 = .ok (.iadd, 1) := by decide +kernel
theorem dL_law_666 : decode cL_law 666 = .ok (.iaload, 1) := by decide +kernel
theorem dL_law_667 : decode cL_law 667 = .ok (.aload_n 0, 1) := by decide +kernel
theorem dL_law_668 : decode cL_law 668 = .ok (.iload_n 3, 1) := by decide +kernel
theorem dL_law_669 : decode cL_law 669 = .ok (.iconst 2, 1) := by decide +kernel
theorem dL_law_670 : decode cL_law 670 = .ok (.iadd, 1) := by decide +kernel
theorem dL_law_671 : decode cL_law 671 = .ok (.iaload, 1) := by decide +kernel
theorem dL_law_672 : decode cL_law 672 = .ok (.aload_n 0, 1) := by decide +kernel
theorem dL_law_673 : decode cL_law 673 = .ok (.iload_n 3, 1) := by decide +kernel
theorem dL_law_674 : decode cL_law 674 = .ok (.iconst 3, 1) := by decide +kernel
theorem dL_law_675 : decode cL_law 675 = .ok (.iadd, 1) := by decide +kernel
theorem dL_law_676 : decode cL_law 676 = .ok (.iaload, 1) := by decide +kernel
theorem dL_law_677 : decode cL_law 677 = .ok (.invokevirtual 87, 3) := by decide +kernel
theorem dL_law_680 : decode cL_law 680 = .ok (.aload_n 2, 1) := by decide +kernel
theorem dL_law_681 : decode cL_law 681 = .ok (.aload_n 0, 1) := by decide +kernel
theorem dL_law_682 : decode cL_law 682 = .ok (.iload_n 3, 1) := by decide +kernel
theorem dL_law_683 : decode cL_law 683 = .ok (.iconst 1, 1) := by decide +kernel
theorem dL_law_684 : decode cL_law 684 = .ok (.iadd, 1) := by decide +kernel
theorem dL_law_685 : decode cL_law 685 = .ok (.iaload, 1) := by decide +kernel
theorem dL_law_686 : decode cL_law 686 = .ok (.aload_n 0, 1) := by decide +kernel
theorem dL_law_687 : decode cL_law 687 = .ok (.iload_n 3, 1) := by decide +kernel
theorem dL_law_688 : decode cL_law 688 = .ok (.iconst 2, 1) := by decide +kernel
theorem dL_law_689 : decode cL_law 689 = .ok (.iadd, 1) := by decide +kernel
theorem dL_law_690 : decode cL_law 690 = .ok (.iaload, 1) := by decide +kernel
theorem dL_law_691 : decode cL_law 691 = .ok (.aload_n 0, 1) := by decide +kernel
theorem dL_law_692 : decode cL_law 692 = .ok (.iload_n 3, 1) := by decide +kernel
theorem dL_law_693 : decode cL_law 693 = .ok (.iconst 3, 1) := by decide +kernel
theorem dL_law_694 : decode cL_law 694 = .ok (.iadd, 1) := by decide +kernel
theorem dL_law_695 : decode cL_law 695 = .ok (.iaload, 1) := by decide +kernel
theorem dL_law_696 : decode cL_law 696 = .ok (.invokevirtual 90, 3) := by decide +kernel
theorem dL_law_699 : decode cL_law 699 = .ok (.if_icmp .eq 110, 3) := by decide +kernel
theorem dL_law_702 : decode cL_law 702 = .ok (.iconst 0, 1) := by decide +kernel
theorem dL_law_703 : decode cL_law 703 = .ok (.ireturn, 1) := by decide +kernel
theorem dL_law_704 : decode cL_law 704 = .ok (.aload_n 1, 1) := by decide +kernel
theorem dL_law_705 : decode cL_law 705 = .ok (.aload_n 0, 1) := by decide +kernel
theorem dL_law_706 : decode cL_law 706 = .ok (.iload_n 3, 1) := by decide +kernel
theorem dL_law_707 : decode cL_law 707 = .ok (.iconst 1, 1) := by decide +kernel
theorem dL_law_708 : decode cL_law 708 = .ok (.iadd, 1) := by decide +kernel
theorem dL_law_709 : decode cL_law 709 = .ok (.iaload, 1) := by decide +kernel
theorem dL_law_710 : decode cL_law 710 = .ok (.aload_n 0, 1) := by decide +kernel
theorem dL_law_711 : decode cL_law 711 = .ok (.iload_n 3, 1) := by decide +kernel
theorem dL_law_712 : decode cL_law 712 = .ok (.iconst 2, 1) := by decide +kernel
theorem dL_law_713 : decode cL_law 713 = .ok (.iadd, 1) := by decide +kernel
theorem dL_law_714 : decode cL_law 714 = .ok (.iaload, 1) := by decide +kernel
theorem dL_law_715 : decode cL_law 715 = .ok (.invokevirtual 91, 3) := by decide +kernel
theorem dL_law_718 : decode cL_law 718 = .ok (.aload_n 2, 1) := by decide +kernel
theorem dL_law_719 : decode cL_law 719 = .ok (.aload_n 0, 1) := by decide +kernel
theorem dL_law_720 : decode cL_law 720 = .ok (.iload_n 3, 1) := by decide +kernel
theorem dL_law_721 : decode cL_law 721 = .ok (.iconst 1, 1) := by decide +kernel
theorem dL_law_722 : decode cL_law 722 = .ok (.iadd, 1) := by decide +kernel
theorem dL_law_723 : decode cL_law 723 = .ok (.iaload, 1) := by decide +kernel
theorem dL_law_724 : decode cL_law 724 = .ok (.aload_n 0, 1) := by decide +kernel
theorem dL_law_725 : decode cL_law 725 = .ok (.iload_n 3, 1) := by decide +kernel
theorem dL_law_726 : decode cL_law 726 = .ok (.iconst 2, 1) := by decide +kernel
theorem dL_law_727 : decode cL_law 727 = .ok (.iadd, 1) := by decide +kernel
theorem dL_law_728 : decode cL_law 728 = .ok (.iaload, 1) := by decide +kernel
theorem dL_law_729 : decode cL_law 729 = .ok (.invokevirtual 94, 3) := by decide +kernel
theorem dL_law_732 : decode cL_law 732 = .ok (.if_icmp .eq 77, 3) := by decide +kernel
theorem dL_law_735 : decode cL_law 735 = .ok (.iconst 0, 1) := by decide +kernel
theorem dL_law_736 : decode cL_law 736 = .ok (.ireturn, 1) := by decide +kernel
theorem dL_law_737 : decode cL_law 737 = .ok (.aload_n 1, 1) := by decide +kernel
theorem dL_law_738 : decode cL_law 738 = .ok (.invokevirtual 95, 3) := by decide +kernel
theorem dL_law_741 : decode cL_law 741 = .ok (.aload_n 2, 1) := by decide +kernel
theorem dL_law_742 : decode cL_law 742 = .ok (.invokevirtual 98, 3) := by decide +kernel
theorem dL_law_745 : decode cL_law 745 = .ok (.if_icmp .eq 64, 3) := by decide +kernel
theorem dL_law_748 : decode cL_law 748 = .ok (.iconst 0, 1) := by decide +kernel
theorem dL_law_749 : decode cL_law 749 = .ok (.ireturn, 1) := by decide +kernel
theorem dL_law_750 : decode cL_law 750 = .ok (.aload_n 1, 1) := by decide +kernel
theorem dL_law_751 : decode cL_law 751 = .ok (.aload_n 0, 1) := by decide +kernel
theorem dL_law_752 : decode cL_law 752 = .ok (.iload_n 3, 1) := by decide +kernel
theorem dL_law_753 : decode cL_law 753 = .ok (.iconst 1, 1) := by decide +kernel
theorem dL_law_754 : decode cL_law 754 = .ok (.iadd, 1) := by decide +kernel
theorem dL_law_755 : decode cL_law 755 = .ok (.iaload, 1) := by decide +kernel
theorem dL_law_756 : decode cL_law 756 = .ok (.invokevirtual 99, 3) := by decide +kernel
theorem dL_law_759 : decode cL_law 759 = .ok (.aload_n 2, 1) := by decide +kernel
theorem dL_law_760 : decode cL_law 760 = .ok (.aload_n 0, 1) := by decide +kernel
theorem dL_law_761 : decode cL_law 761 = .ok (.iload_n 3, 1) := by decide +kernel
theorem dL_law_762 : decode cL_law 762 = .ok (.iconst 1, 1) := by decide +kernel
theorem dL_law_763 : decode cL_law 763 = .ok (.iadd, 1) := by decide +kernel
theorem dL_law_764 : decode cL_law 764 = .ok (.iaload, 1) := by decide +kernel
theorem dL_law_765 : decode cL_law 765 = .ok (.invokevirtual 102, 3) := by decide +kernel
theorem dL_law_768 : decode cL_law 768 = .ok (.if_icmp .eq 41, 3) := by decide +kernel
theorem dL_law_771 : decode cL_law 771 = .ok (.iconst 0, 1) := by decide +kernel
theorem dL_law_772 : decode cL_law 772 = .ok (.ireturn, 1) := by decide +kernel
theorem dL_law_773 : decode cL_law 773 = .ok (.aload_n 1, 1) := by decide +kernel
theorem dL_law_774 : decode cL_law 774 = .ok (.aload_n 0, 1) := by decide +kernel
theorem dL_law_775 : decode cL_law 775 = .ok (.iload_n 3, 1) := by decide +kernel
theorem dL_law_776 : decode cL_law 776 = .ok (.iconst 1, 1) := by decide +kernel
theorem dL_law_777 : decode cL_law 777 = .ok (.iadd, 1) := by decide +kernel
theorem dL_law_778 : decode cL_law 778 = .ok (.iaload, 1) := by decide +kernel
theorem dL_law_779 : decode cL_law 779 = .ok (.invokevirtual 103, 3) := by decide +kernel
theorem dL_law_782 : decode cL_law 782 = .ok (.aload_n 2, 1) := by decide +kernel
theorem dL_law_783 : decode cL_law 783 = .ok (.aload_n 0, 1) := by decide +kernel
theorem dL_law_784 : decode cL_law 784 = .ok (.iload_n 3, 1) := by decide +kernel
theorem dL_law_785 : decode cL_law 785 = .ok (.iconst 1, 1) := by decide +kernel
theorem dL_law_786 : decode cL_law 786 = .ok (.iadd, 1) := by decide +kernel
theorem dL_law_787 : decode cL_law 787 = .ok (.iaload, 1) := by decide +kernel
theorem dL_law_788 : decode cL_law 788 = .ok (.invokevirtual 106, 3) := by decide +kernel
theorem dL_law_791 : decode cL_law 791 = .ok (.if_icmp .eq 18, 3) := by decide +kernel
theorem dL_law_794 : decode cL_law 794 = .ok (.iconst 0, 1) := by decide +kernel
theorem dL_law_795 : decode cL_law 795 = .ok (.ireturn, 1) := by decide +kernel
theorem dL_law_796 : decode cL_law 796 = .ok (.aload_n 1, 1) := by decide +kernel
theorem dL_law_797 : decode cL_law 797 = .ok (.invokevirtual 107, 3) := by decide +kernel
theorem dL_law_800 : decode cL_law 800 = .ok (.aload_n 2, 1) := by decide +kernel
theorem dL_law_801 : decode cL_law 801 = .ok (.invokevirtual 110, 3) := by decide +kernel
theorem dL_law_804 : decode cL_law 804 = .ok (.if_icmp .eq 5, 3) := by decide +kernel
theorem dL_law_807 : decode cL_law 807 = .ok (.iconst 0, 1) := by decide +kernel
theorem dL_law_808 : decode cL_law 808 = .ok (.ireturn, 1) := by decide +kernel
theorem dL_law_809 : decode cL_law 809 = .ok (.iinc 3 6, 3) := by decide +kernel
theorem dL_law_812 : decode cL_law 812 = .ok (.goto (-794), 3) := by decide +kernel
theorem dL_law_815 : decode cL_law 815 = .ok (.iconst 1, 1) := by decide +kernel
theorem dL_law_816 : decode cL_law 816 = .ok (.ireturn, 1) := by decide +kernel
end
