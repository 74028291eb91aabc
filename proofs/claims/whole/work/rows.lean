section
-- ===== PART A: goes FIRST, ahead of the names: the tables' words, and 'selects' of the private methods out of them =====
/-- a private method of a class that the tables say can be made, by its rows of tables_1 -/
def lw_okq (q : MethodName × Nat) : Prop := (q.1.cls ≠ "java/lang/invoke/MethodHandle" ∧ q.1.cls ≠ "java/lang/invoke/VarHandle") ∧ Cond.instantiable q.1.cls q.2 ∈ tables_1 ∧ Cond.privateMethod q.1 ∈ tables_1 ∧ Cond.instanceMethod q.1 ∈ tables_1
theorem lw_p0 : lw_okq (⟨"ChainFrames$Kinds", "isOfClass", "(I)Z"⟩, 1) := ⟨⟨by decide +kernel, by decide +kernel⟩, List.mem_of_getElem? (i := 41) (by decide +kernel), List.mem_of_getElem? (i := 186) (by decide +kernel), List.mem_of_getElem? (i := 187) (by decide +kernel)⟩
theorem lw_p1 : lw_okq (⟨"ChainFrames", "find", "(I)LChainFrames$Method;"⟩, 6) := ⟨⟨by decide +kernel, by decide +kernel⟩, List.mem_of_getElem? (i := 14) (by decide +kernel), List.mem_of_getElem? (i := 334) (by decide +kernel), List.mem_of_getElem? (i := 335) (by decide +kernel)⟩
theorem lw_p2 : lw_okq (⟨"ChainFrames", "isOp", "(III)Z"⟩, 6) := ⟨⟨by decide +kernel, by decide +kernel⟩, List.mem_of_getElem? (i := 14) (by decide +kernel), List.mem_of_getElem? (i := 347) (by decide +kernel), List.mem_of_getElem? (i := 348) (by decide +kernel)⟩
theorem lw_p3 : lw_okq (⟨"ChainFrames$Worker", "meetHandlers", "(LChainFrames$Method;I)I"⟩, 3) := ⟨⟨by decide +kernel, by decide +kernel⟩, List.mem_of_getElem? (i := 51) (by decide +kernel), List.mem_of_getElem? (i := 387) (by decide +kernel), List.mem_of_getElem? (i := 388) (by decide +kernel)⟩
theorem lw_p4 : lw_okq (⟨"ChainFrames$Worker", "meet", "(LChainFrames$Work;ILChainFrames$Frame;)Z"⟩, 3) := ⟨⟨by decide +kernel, by decide +kernel⟩, List.mem_of_getElem? (i := 51) (by decide +kernel), List.mem_of_getElem? (i := 406) (by decide +kernel), List.mem_of_getElem? (i := 407) (by decide +kernel)⟩
theorem lw_p5 : lw_okq (⟨"ChainFrames$Worker", "canMeet", "(LChainFrames$Frame;LChainFrames$Frame;)Z"⟩, 3) := ⟨⟨by decide +kernel, by decide +kernel⟩, List.mem_of_getElem? (i := 51) (by decide +kernel), List.mem_of_getElem? (i := 425) (by decide +kernel), List.mem_of_getElem? (i := 426) (by decide +kernel)⟩
theorem lw_p6 : lw_okq (⟨"ChainFrames$Worker", "mergeRow", "([I[II)Z"⟩, 3) := ⟨⟨by decide +kernel, by decide +kernel⟩, List.mem_of_getElem? (i := 51) (by decide +kernel), List.mem_of_getElem? (i := 430) (by decide +kernel), List.mem_of_getElem? (i := 431) (by decide +kernel)⟩
theorem lw_p7 : lw_okq (⟨"ChainFrames$Step", "useLocal", "(II)V"⟩, 3) := ⟨⟨by decide +kernel, by decide +kernel⟩, List.mem_of_getElem? (i := 83) (by decide +kernel), List.mem_of_getElem? (i := 439) (by decide +kernel), List.mem_of_getElem? (i := 440) (by decide +kernel)⟩
theorem lw_p8 : lw_okq (⟨"ChainFrames$Step", "expectInLocal", "(Z)V"⟩, 3) := ⟨⟨by decide +kernel, by decide +kernel⟩, List.mem_of_getElem? (i := 83) (by decide +kernel), List.mem_of_getElem? (i := 443) (by decide +kernel), List.mem_of_getElem? (i := 444) (by decide +kernel)⟩
theorem lw_p9 : lw_okq (⟨"ChainFrames$Step", "breakRule", "(I)V"⟩, 3) := ⟨⟨by decide +kernel, by decide +kernel⟩, List.mem_of_getElem? (i := 83) (by decide +kernel), List.mem_of_getElem? (i := 447) (by decide +kernel), List.mem_of_getElem? (i := 448) (by decide +kernel)⟩
theorem lw_p10 : lw_okq (⟨"ChainFrames$Step", "lay", "(I)V"⟩, 3) := ⟨⟨by decide +kernel, by decide +kernel⟩, List.mem_of_getElem? (i := 83) (by decide +kernel), List.mem_of_getElem? (i := 451) (by decide +kernel), List.mem_of_getElem? (i := 452) (by decide +kernel)⟩
theorem lw_p11 : lw_okq (⟨"ChainFrames$Step", "take", "(I)V"⟩, 3) := ⟨⟨by decide +kernel, by decide +kernel⟩, List.mem_of_getElem? (i := 83) (by decide +kernel), List.mem_of_getElem? (i := 455) (by decide +kernel), List.mem_of_getElem? (i := 456) (by decide +kernel)⟩
theorem lw_p12 : lw_okq (⟨"ChainFrames$Step", "takeLong", "()V"⟩, 3) := ⟨⟨by decide +kernel, by decide +kernel⟩, List.mem_of_getElem? (i := 83) (by decide +kernel), List.mem_of_getElem? (i := 459) (by decide +kernel), List.mem_of_getElem? (i := 460) (by decide +kernel)⟩
theorem lw_p13 : lw_okq (⟨"ChainFrames$Step", "takeAny", "()I"⟩, 3) := ⟨⟨by decide +kernel, by decide +kernel⟩, List.mem_of_getElem? (i := 83) (by decide +kernel), List.mem_of_getElem? (i := 467) (by decide +kernel), List.mem_of_getElem? (i := 468) (by decide +kernel)⟩
theorem lw_p14 : lw_okq (⟨"ChainFrames$Step", "expect", "(Z)V"⟩, 3) := ⟨⟨by decide +kernel, by decide +kernel⟩, List.mem_of_getElem? (i := 83) (by decide +kernel), List.mem_of_getElem? (i := 480) (by decide +kernel), List.mem_of_getElem? (i := 481) (by decide +kernel)⟩
theorem lw_p15 : lw_okq (⟨"ChainFrames$Step", "put", "(II)V"⟩, 3) := ⟨⟨by decide +kernel, by decide +kernel⟩, List.mem_of_getElem? (i := 83) (by decide +kernel), List.mem_of_getElem? (i := 484) (by decide +kernel), List.mem_of_getElem? (i := 485) (by decide +kernel)⟩
def lw_privs_1 : List (MethodName × Nat) := [(⟨"ChainFrames$Kinds", "isOfClass", "(I)Z"⟩, 1), (⟨"ChainFrames", "find", "(I)LChainFrames$Method;"⟩, 6), (⟨"ChainFrames", "isOp", "(III)Z"⟩, 6), (⟨"ChainFrames$Worker", "meetHandlers", "(LChainFrames$Method;I)I"⟩, 3), (⟨"ChainFrames$Worker", "meet", "(LChainFrames$Work;ILChainFrames$Frame;)Z"⟩, 3), (⟨"ChainFrames$Worker", "canMeet", "(LChainFrames$Frame;LChainFrames$Frame;)Z"⟩, 3), (⟨"ChainFrames$Worker", "mergeRow", "([I[II)Z"⟩, 3), (⟨"ChainFrames$Step", "useLocal", "(II)V"⟩, 3), (⟨"ChainFrames$Step", "expectInLocal", "(Z)V"⟩, 3), (⟨"ChainFrames$Step", "breakRule", "(I)V"⟩, 3), (⟨"ChainFrames$Step", "lay", "(I)V"⟩, 3), (⟨"ChainFrames$Step", "take", "(I)V"⟩, 3), (⟨"ChainFrames$Step", "takeLong", "()V"⟩, 3), (⟨"ChainFrames$Step", "takeAny", "()I"⟩, 3), (⟨"ChainFrames$Step", "expect", "(Z)V"⟩, 3), (⟨"ChainFrames$Step", "put", "(II)V"⟩, 3)]
theorem lw_r1 : ∀ q ∈ lw_privs_1, lw_okq q := List.forall_mem_cons.mpr ⟨lw_p0, List.forall_mem_cons.mpr ⟨lw_p1, List.forall_mem_cons.mpr ⟨lw_p2, List.forall_mem_cons.mpr ⟨lw_p3, List.forall_mem_cons.mpr ⟨lw_p4, List.forall_mem_cons.mpr ⟨lw_p5, List.forall_mem_cons.mpr ⟨lw_p6, List.forall_mem_cons.mpr ⟨lw_p7, List.forall_mem_cons.mpr ⟨lw_p8, List.forall_mem_cons.mpr ⟨lw_p9, List.forall_mem_cons.mpr ⟨lw_p10, List.forall_mem_cons.mpr ⟨lw_p11, List.forall_mem_cons.mpr ⟨lw_p12, List.forall_mem_cons.mpr ⟨lw_p13, List.forall_mem_cons.mpr ⟨lw_p14, List.forall_mem_cons.mpr ⟨lw_p15, fun _ h => absurd h List.not_mem_nil⟩⟩⟩⟩⟩⟩⟩⟩⟩⟩⟩⟩⟩⟩⟩⟩
theorem lw_p16 : lw_okq (⟨"ChainFrames$Step", "putLong", "(I)V"⟩, 3) := ⟨⟨by decide +kernel, by decide +kernel⟩, List.mem_of_getElem? (i := 83) (by decide +kernel), List.mem_of_getElem? (i := 497) (by decide +kernel), List.mem_of_getElem? (i := 498) (by decide +kernel)⟩
theorem lw_p17 : lw_okq (⟨"ChainFrames$Step", "useThing", "(LChainFrames$Method;I)V"⟩, 3) := ⟨⟨by decide +kernel, by decide +kernel⟩, List.mem_of_getElem? (i := 83) (by decide +kernel), List.mem_of_getElem? (i := 506) (by decide +kernel), List.mem_of_getElem? (i := 507) (by decide +kernel)⟩
theorem lw_p18 : lw_okq (⟨"ChainFrames$Step", "make", "(LChainFrames$Method;I)V"⟩, 3) := ⟨⟨by decide +kernel, by decide +kernel⟩, List.mem_of_getElem? (i := 83) (by decide +kernel), List.mem_of_getElem? (i := 510) (by decide +kernel), List.mem_of_getElem? (i := 511) (by decide +kernel)⟩
theorem lw_p19 : lw_okq (⟨"ChainFrames$Step", "loadElement", "()V"⟩, 3) := ⟨⟨by decide +kernel, by decide +kernel⟩, List.mem_of_getElem? (i := 83) (by decide +kernel), List.mem_of_getElem? (i := 524) (by decide +kernel), List.mem_of_getElem? (i := 525) (by decide +kernel)⟩
theorem lw_p20 : lw_okq (⟨"ChainFrames$Step", "storeElement", "()V"⟩, 3) := ⟨⟨by decide +kernel, by decide +kernel⟩, List.mem_of_getElem? (i := 83) (by decide +kernel), List.mem_of_getElem? (i := 529) (by decide +kernel), List.mem_of_getElem? (i := 530) (by decide +kernel)⟩
theorem lw_p21 : lw_okq (⟨"ChainFrames$Step", "useValue", "(II)V"⟩, 3) := ⟨⟨by decide +kernel, by decide +kernel⟩, List.mem_of_getElem? (i := 83) (by decide +kernel), List.mem_of_getElem? (i := 533) (by decide +kernel), List.mem_of_getElem? (i := 534) (by decide +kernel)⟩
theorem lw_p22 : lw_okq (⟨"ChainFrames$Step", "layTop", "()V"⟩, 3) := ⟨⟨by decide +kernel, by decide +kernel⟩, List.mem_of_getElem? (i := 83) (by decide +kernel), List.mem_of_getElem? (i := 537) (by decide +kernel), List.mem_of_getElem? (i := 538) (by decide +kernel)⟩
theorem lw_p23 : lw_okq (⟨"ChainFrames$Worker", "goOn", "(LChainFrames$Method;I)I"⟩, 3) := ⟨⟨by decide +kernel, by decide +kernel⟩, List.mem_of_getElem? (i := 51) (by decide +kernel), List.mem_of_getElem? (i := 541) (by decide +kernel), List.mem_of_getElem? (i := 542) (by decide +kernel)⟩
theorem lw_p24 : lw_okq (⟨"ChainFrames$Worker", "jumpRule", "(LChainFrames$Method;I)I"⟩, 3) := ⟨⟨by decide +kernel, by decide +kernel⟩, List.mem_of_getElem? (i := 51) (by decide +kernel), List.mem_of_getElem? (i := 549) (by decide +kernel), List.mem_of_getElem? (i := 550) (by decide +kernel)⟩
theorem lw_p25 : lw_okq (⟨"ChainFrames$Method", "localsOfOp", "(I)I"⟩, 13) := ⟨⟨by decide +kernel, by decide +kernel⟩, List.mem_of_getElem? (i := 219) (by decide +kernel), List.mem_of_getElem? (i := 570) (by decide +kernel), List.mem_of_getElem? (i := 571) (by decide +kernel)⟩
theorem lw_p26 : lw_okq (⟨"ChainFrames$Forms", "markTold", "(LChainFrames$Method;)V"⟩, 3) := ⟨⟨by decide +kernel, by decide +kernel⟩, List.mem_of_getElem? (i := 112) (by decide +kernel), List.mem_of_getElem? (i := 597) (by decide +kernel), List.mem_of_getElem? (i := 598) (by decide +kernel)⟩
theorem lw_p27 : lw_okq (⟨"ChainFrames$Forms", "mark", "(I)V"⟩, 3) := ⟨⟨by decide +kernel, by decide +kernel⟩, List.mem_of_getElem? (i := 112) (by decide +kernel), List.mem_of_getElem? (i := 603) (by decide +kernel), List.mem_of_getElem? (i := 604) (by decide +kernel)⟩
theorem lw_p28 : lw_okq (⟨"ChainFrames$Forms", "toldBefore", "(I)I"⟩, 3) := ⟨⟨by decide +kernel, by decide +kernel⟩, List.mem_of_getElem? (i := 112) (by decide +kernel), List.mem_of_getElem? (i := 608) (by decide +kernel), List.mem_of_getElem? (i := 609) (by decide +kernel)⟩
theorem lw_p29 : lw_okq (⟨"ChainFrames$Forms", "isAlike", "(I)Z"⟩, 3) := ⟨⟨by decide +kernel, by decide +kernel⟩, List.mem_of_getElem? (i := 112) (by decide +kernel), List.mem_of_getElem? (i := 618) (by decide +kernel), List.mem_of_getElem? (i := 619) (by decide +kernel)⟩
theorem lw_p30 : lw_okq (⟨"ChainFramesModel", "isClass", "(I)Z"⟩, 34) := ⟨⟨by decide +kernel, by decide +kernel⟩, List.mem_of_getElem? (i := 630) (by decide +kernel), List.mem_of_getElem? (i := 743) (by decide +kernel), List.mem_of_getElem? (i := 744) (by decide +kernel)⟩
theorem lw_p31 : lw_okq (⟨"ChainFramesModel", "fitsClass", "(II)Z"⟩, 34) := ⟨⟨by decide +kernel, by decide +kernel⟩, List.mem_of_getElem? (i := 630) (by decide +kernel), List.mem_of_getElem? (i := 754) (by decide +kernel), List.mem_of_getElem? (i := 755) (by decide +kernel)⟩
def lw_privs_2 : List (MethodName × Nat) := [(⟨"ChainFrames$Step", "putLong", "(I)V"⟩, 3), (⟨"ChainFrames$Step", "useThing", "(LChainFrames$Method;I)V"⟩, 3), (⟨"ChainFrames$Step", "make", "(LChainFrames$Method;I)V"⟩, 3), (⟨"ChainFrames$Step", "loadElement", "()V"⟩, 3), (⟨"ChainFrames$Step", "storeElement", "()V"⟩, 3), (⟨"ChainFrames$Step", "useValue", "(II)V"⟩, 3), (⟨"ChainFrames$Step", "layTop", "()V"⟩, 3), (⟨"ChainFrames$Worker", "goOn", "(LChainFrames$Method;I)I"⟩, 3), (⟨"ChainFrames$Worker", "jumpRule", "(LChainFrames$Method;I)I"⟩, 3), (⟨"ChainFrames$Method", "localsOfOp", "(I)I"⟩, 13), (⟨"ChainFrames$Forms", "markTold", "(LChainFrames$Method;)V"⟩, 3), (⟨"ChainFrames$Forms", "mark", "(I)V"⟩, 3), (⟨"ChainFrames$Forms", "toldBefore", "(I)I"⟩, 3), (⟨"ChainFrames$Forms", "isAlike", "(I)Z"⟩, 3), (⟨"ChainFramesModel", "isClass", "(I)Z"⟩, 34), (⟨"ChainFramesModel", "fitsClass", "(II)Z"⟩, 34)]
theorem lw_r2 : ∀ q ∈ lw_privs_2, lw_okq q := List.forall_mem_cons.mpr ⟨lw_p16, List.forall_mem_cons.mpr ⟨lw_p17, List.forall_mem_cons.mpr ⟨lw_p18, List.forall_mem_cons.mpr ⟨lw_p19, List.forall_mem_cons.mpr ⟨lw_p20, List.forall_mem_cons.mpr ⟨lw_p21, List.forall_mem_cons.mpr ⟨lw_p22, List.forall_mem_cons.mpr ⟨lw_p23, List.forall_mem_cons.mpr ⟨lw_p24, List.forall_mem_cons.mpr ⟨lw_p25, List.forall_mem_cons.mpr ⟨lw_p26, List.forall_mem_cons.mpr ⟨lw_p27, List.forall_mem_cons.mpr ⟨lw_p28, List.forall_mem_cons.mpr ⟨lw_p29, List.forall_mem_cons.mpr ⟨lw_p30, List.forall_mem_cons.mpr ⟨lw_p31, fun _ h => absurd h List.not_mem_nil⟩⟩⟩⟩⟩⟩⟩⟩⟩⟩⟩⟩⟩⟩⟩⟩
theorem lw_p32 : lw_okq (⟨"ChainFramesModel", "isBelow", "(II)Z"⟩, 34) := ⟨⟨by decide +kernel, by decide +kernel⟩, List.mem_of_getElem? (i := 630) (by decide +kernel), List.mem_of_getElem? (i := 758) (by decide +kernel), List.mem_of_getElem? (i := 759) (by decide +kernel)⟩
theorem lw_p33 : lw_okq (⟨"ChainFramesModel", "isKind", "(I)Z"⟩, 34) := ⟨⟨by decide +kernel, by decide +kernel⟩, List.mem_of_getElem? (i := 630) (by decide +kernel), List.mem_of_getElem? (i := 766) (by decide +kernel), List.mem_of_getElem? (i := 767) (by decide +kernel)⟩
theorem lw_p34 : lw_okq (⟨"ChainFramesModel", "isThing", "(I)Z"⟩, 34) := ⟨⟨by decide +kernel, by decide +kernel⟩, List.mem_of_getElem? (i := 630) (by decide +kernel), List.mem_of_getElem? (i := 770) (by decide +kernel), List.mem_of_getElem? (i := 771) (by decide +kernel)⟩
theorem lw_p35 : lw_okq (⟨"ChainFramesModel", "isThings", "(I)Z"⟩, 34) := ⟨⟨by decide +kernel, by decide +kernel⟩, List.mem_of_getElem? (i := 630) (by decide +kernel), List.mem_of_getElem? (i := 774) (by decide +kernel), List.mem_of_getElem? (i := 775) (by decide +kernel)⟩
theorem lw_p36 : lw_okq (⟨"ChainFramesModel", "joined", "(II)I"⟩, 34) := ⟨⟨by decide +kernel, by decide +kernel⟩, List.mem_of_getElem? (i := 630) (by decide +kernel), List.mem_of_getElem? (i := 778) (by decide +kernel), List.mem_of_getElem? (i := 779) (by decide +kernel)⟩
theorem lw_p37 : lw_okq (⟨"ChainFramesModel", "joinClass", "(II)I"⟩, 34) := ⟨⟨by decide +kernel, by decide +kernel⟩, List.mem_of_getElem? (i := 630) (by decide +kernel), List.mem_of_getElem? (i := 785) (by decide +kernel), List.mem_of_getElem? (i := 786) (by decide +kernel)⟩
theorem lw_p38 : lw_okq (⟨"ChainFramesModel", "isArgument", "(I)Z"⟩, 34) := ⟨⟨by decide +kernel, by decide +kernel⟩, List.mem_of_getElem? (i := 630) (by decide +kernel), List.mem_of_getElem? (i := 793) (by decide +kernel), List.mem_of_getElem? (i := 794) (by decide +kernel)⟩
theorem lw_p39 : lw_okq (⟨"ChainFramesModel", "isMethod", "(I)Z"⟩, 34) := ⟨⟨by decide +kernel, by decide +kernel⟩, List.mem_of_getElem? (i := 630) (by decide +kernel), List.mem_of_getElem? (i := 801) (by decide +kernel), List.mem_of_getElem? (i := 802) (by decide +kernel)⟩
theorem lw_p40 : lw_okq (⟨"ChainFramesModel", "isOp", "(III)Z"⟩, 34) := ⟨⟨by decide +kernel, by decide +kernel⟩, List.mem_of_getElem? (i := 630) (by decide +kernel), List.mem_of_getElem? (i := 809) (by decide +kernel), List.mem_of_getElem? (i := 810) (by decide +kernel)⟩
theorem lw_p41 : lw_okq (⟨"ChainFramesModel", "meets", "(I)Z"⟩, 34) := ⟨⟨by decide +kernel, by decide +kernel⟩, List.mem_of_getElem? (i := 630) (by decide +kernel), List.mem_of_getElem? (i := 821) (by decide +kernel), List.mem_of_getElem? (i := 822) (by decide +kernel)⟩
theorem lw_p42 : lw_okq (⟨"ChainFramesModel", "meetsFirst", "(I)Z"⟩, 34) := ⟨⟨by decide +kernel, by decide +kernel⟩, List.mem_of_getElem? (i := 630) (by decide +kernel), List.mem_of_getElem? (i := 825) (by decide +kernel), List.mem_of_getElem? (i := 826) (by decide +kernel)⟩
theorem lw_p43 : lw_okq (⟨"ChainFramesModel", "keepMost", "(I)V"⟩, 34) := ⟨⟨by decide +kernel, by decide +kernel⟩, List.mem_of_getElem? (i := 630) (by decide +kernel), List.mem_of_getElem? (i := 829) (by decide +kernel), List.mem_of_getElem? (i := 830) (by decide +kernel)⟩
theorem lw_p44 : lw_okq (⟨"ChainFramesModel", "breaks", "(I)Z"⟩, 34) := ⟨⟨by decide +kernel, by decide +kernel⟩, List.mem_of_getElem? (i := 630) (by decide +kernel), List.mem_of_getElem? (i := 833) (by decide +kernel), List.mem_of_getElem? (i := 834) (by decide +kernel)⟩
theorem lw_p45 : lw_okq (⟨"ChainFramesModel", "leastLooked", "()I"⟩, 34) := ⟨⟨by decide +kernel, by decide +kernel⟩, List.mem_of_getElem? (i := 630) (by decide +kernel), List.mem_of_getElem? (i := 837) (by decide +kernel), List.mem_of_getElem? (i := 838) (by decide +kernel)⟩
theorem lw_p46 : lw_okq (⟨"ChainFramesModel", "goes", "()Z"⟩, 34) := ⟨⟨by decide +kernel, by decide +kernel⟩, List.mem_of_getElem? (i := 630) (by decide +kernel), List.mem_of_getElem? (i := 841) (by decide +kernel), List.mem_of_getElem? (i := 842) (by decide +kernel)⟩
theorem lw_p47 : lw_okq (⟨"ChainFramesModel", "hands", "(I)Z"⟩, 34) := ⟨⟨by decide +kernel, by decide +kernel⟩, List.mem_of_getElem? (i := 630) (by decide +kernel), List.mem_of_getElem? (i := 845) (by decide +kernel), List.mem_of_getElem? (i := 846) (by decide +kernel)⟩
def lw_privs_3 : List (MethodName × Nat) := [(⟨"ChainFramesModel", "isBelow", "(II)Z"⟩, 34), (⟨"ChainFramesModel", "isKind", "(I)Z"⟩, 34), (⟨"ChainFramesModel", "isThing", "(I)Z"⟩, 34), (⟨"ChainFramesModel", "isThings", "(I)Z"⟩, 34), (⟨"ChainFramesModel", "joined", "(II)I"⟩, 34), (⟨"ChainFramesModel", "joinClass", "(II)I"⟩, 34), (⟨"ChainFramesModel", "isArgument", "(I)Z"⟩, 34), (⟨"ChainFramesModel", "isMethod", "(I)Z"⟩, 34), (⟨"ChainFramesModel", "isOp", "(III)Z"⟩, 34), (⟨"ChainFramesModel", "meets", "(I)Z"⟩, 34), (⟨"ChainFramesModel", "meetsFirst", "(I)Z"⟩, 34), (⟨"ChainFramesModel", "keepMost", "(I)V"⟩, 34), (⟨"ChainFramesModel", "breaks", "(I)Z"⟩, 34), (⟨"ChainFramesModel", "leastLooked", "()I"⟩, 34), (⟨"ChainFramesModel", "goes", "()Z"⟩, 34), (⟨"ChainFramesModel", "hands", "(I)Z"⟩, 34)]
theorem lw_r3 : ∀ q ∈ lw_privs_3, lw_okq q := List.forall_mem_cons.mpr ⟨lw_p32, List.forall_mem_cons.mpr ⟨lw_p33, List.forall_mem_cons.mpr ⟨lw_p34, List.forall_mem_cons.mpr ⟨lw_p35, List.forall_mem_cons.mpr ⟨lw_p36, List.forall_mem_cons.mpr ⟨lw_p37, List.forall_mem_cons.mpr ⟨lw_p38, List.forall_mem_cons.mpr ⟨lw_p39, List.forall_mem_cons.mpr ⟨lw_p40, List.forall_mem_cons.mpr ⟨lw_p41, List.forall_mem_cons.mpr ⟨lw_p42, List.forall_mem_cons.mpr ⟨lw_p43, List.forall_mem_cons.mpr ⟨lw_p44, List.forall_mem_cons.mpr ⟨lw_p45, List.forall_mem_cons.mpr ⟨lw_p46, List.forall_mem_cons.mpr ⟨lw_p47, fun _ h => absurd h List.not_mem_nil⟩⟩⟩⟩⟩⟩⟩⟩⟩⟩⟩⟩⟩⟩⟩⟩
theorem lw_p48 : lw_okq (⟨"ChainFramesModel", "load", "(I)V"⟩, 34) := ⟨⟨by decide +kernel, by decide +kernel⟩, List.mem_of_getElem? (i := 630) (by decide +kernel), List.mem_of_getElem? (i := 849) (by decide +kernel), List.mem_of_getElem? (i := 850) (by decide +kernel)⟩
theorem lw_p49 : lw_okq (⟨"ChainFramesModel", "does", "(III)Z"⟩, 34) := ⟨⟨by decide +kernel, by decide +kernel⟩, List.mem_of_getElem? (i := 630) (by decide +kernel), List.mem_of_getElem? (i := 853) (by decide +kernel), List.mem_of_getElem? (i := 854) (by decide +kernel)⟩
theorem lw_p50 : lw_okq (⟨"ChainFramesModel", "takes", "(I)Z"⟩, 34) := ⟨⟨by decide +kernel, by decide +kernel⟩, List.mem_of_getElem? (i := 630) (by decide +kernel), List.mem_of_getElem? (i := 857) (by decide +kernel), List.mem_of_getElem? (i := 858) (by decide +kernel)⟩
theorem lw_p51 : lw_okq (⟨"ChainFramesModel", "wants", "(I)Z"⟩, 34) := ⟨⟨by decide +kernel, by decide +kernel⟩, List.mem_of_getElem? (i := 630) (by decide +kernel), List.mem_of_getElem? (i := 861) (by decide +kernel), List.mem_of_getElem? (i := 862) (by decide +kernel)⟩
theorem lw_p52 : lw_okq (⟨"ChainFramesModel", "fitsKind", "(II)Z"⟩, 34) := ⟨⟨by decide +kernel, by decide +kernel⟩, List.mem_of_getElem? (i := 630) (by decide +kernel), List.mem_of_getElem? (i := 865) (by decide +kernel), List.mem_of_getElem? (i := 866) (by decide +kernel)⟩
theorem lw_p53 : lw_okq (⟨"ChainFramesModel", "lays", "(I)Z"⟩, 34) := ⟨⟨by decide +kernel, by decide +kernel⟩, List.mem_of_getElem? (i := 630) (by decide +kernel), List.mem_of_getElem? (i := 869) (by decide +kernel), List.mem_of_getElem? (i := 870) (by decide +kernel)⟩
theorem lw_p54 : lw_okq (⟨"ChainFramesModel", "top", "()I"⟩, 34) := ⟨⟨by decide +kernel, by decide +kernel⟩, List.mem_of_getElem? (i := 630) (by decide +kernel), List.mem_of_getElem? (i := 873) (by decide +kernel), List.mem_of_getElem? (i := 874) (by decide +kernel)⟩
theorem lw_p55 : lw_okq (⟨"ChainFramesModel", "makes", "(I)Z"⟩, 34) := ⟨⟨by decide +kernel, by decide +kernel⟩, List.mem_of_getElem? (i := 630) (by decide +kernel), List.mem_of_getElem? (i := 877) (by decide +kernel), List.mem_of_getElem? (i := 878) (by decide +kernel)⟩
theorem lw_p56 : lw_okq (⟨"ChainFramesModel", "takesTop", "(Z)Z"⟩, 34) := ⟨⟨by decide +kernel, by decide +kernel⟩, List.mem_of_getElem? (i := 630) (by decide +kernel), List.mem_of_getElem? (i := 881) (by decide +kernel), List.mem_of_getElem? (i := 882) (by decide +kernel)⟩
theorem lw_p57 : lw_okq (⟨"ChainFramesModel", "reads", "()Z"⟩, 34) := ⟨⟨by decide +kernel, by decide +kernel⟩, List.mem_of_getElem? (i := 630) (by decide +kernel), List.mem_of_getElem? (i := 885) (by decide +kernel), List.mem_of_getElem? (i := 886) (by decide +kernel)⟩
theorem lw_p58 : lw_okq (⟨"ChainFramesModel", "writes", "()Z"⟩, 34) := ⟨⟨by decide +kernel, by decide +kernel⟩, List.mem_of_getElem? (i := 630) (by decide +kernel), List.mem_of_getElem? (i := 889) (by decide +kernel), List.mem_of_getElem? (i := 890) (by decide +kernel)⟩
theorem lw_p59 : lw_okq (⟨"ChainFramesModel", "moves", "(II)Z"⟩, 34) := ⟨⟨by decide +kernel, by decide +kernel⟩, List.mem_of_getElem? (i := 630) (by decide +kernel), List.mem_of_getElem? (i := 893) (by decide +kernel), List.mem_of_getElem? (i := 894) (by decide +kernel)⟩
theorem lw_p60 : lw_okq (⟨"ChainFramesModel", "puts", "(II)V"⟩, 34) := ⟨⟨by decide +kernel, by decide +kernel⟩, List.mem_of_getElem? (i := 630) (by decide +kernel), List.mem_of_getElem? (i := 897) (by decide +kernel), List.mem_of_getElem? (i := 898) (by decide +kernel)⟩
theorem lw_p61 : lw_okq (⟨"ChainFramesModel", "jumps", "(I)Z"⟩, 34) := ⟨⟨by decide +kernel, by decide +kernel⟩, List.mem_of_getElem? (i := 630) (by decide +kernel), List.mem_of_getElem? (i := 904) (by decide +kernel), List.mem_of_getElem? (i := 905) (by decide +kernel)⟩
theorem lw_p62 : lw_okq (⟨"ChainFramesModel", "hasUnmade", "()Z"⟩, 34) := ⟨⟨by decide +kernel, by decide +kernel⟩, List.mem_of_getElem? (i := 630) (by decide +kernel), List.mem_of_getElem? (i := 908) (by decide +kernel), List.mem_of_getElem? (i := 909) (by decide +kernel)⟩
theorem lw_p63 : lw_okq (⟨"ChainFramesModel", "goesOn", "()Z"⟩, 34) := ⟨⟨by decide +kernel, by decide +kernel⟩, List.mem_of_getElem? (i := 630) (by decide +kernel), List.mem_of_getElem? (i := 912) (by decide +kernel), List.mem_of_getElem? (i := 913) (by decide +kernel)⟩
def lw_privs_4 : List (MethodName × Nat) := [(⟨"ChainFramesModel", "load", "(I)V"⟩, 34), (⟨"ChainFramesModel", "does", "(III)Z"⟩, 34), (⟨"ChainFramesModel", "takes", "(I)Z"⟩, 34), (⟨"ChainFramesModel", "wants", "(I)Z"⟩, 34), (⟨"ChainFramesModel", "fitsKind", "(II)Z"⟩, 34), (⟨"ChainFramesModel", "lays", "(I)Z"⟩, 34), (⟨"ChainFramesModel", "top", "()I"⟩, 34), (⟨"ChainFramesModel", "makes", "(I)Z"⟩, 34), (⟨"ChainFramesModel", "takesTop", "(Z)Z"⟩, 34), (⟨"ChainFramesModel", "reads", "()Z"⟩, 34), (⟨"ChainFramesModel", "writes", "()Z"⟩, 34), (⟨"ChainFramesModel", "moves", "(II)Z"⟩, 34), (⟨"ChainFramesModel", "puts", "(II)V"⟩, 34), (⟨"ChainFramesModel", "jumps", "(I)Z"⟩, 34), (⟨"ChainFramesModel", "hasUnmade", "()Z"⟩, 34), (⟨"ChainFramesModel", "goesOn", "()Z"⟩, 34)]
theorem lw_r4 : ∀ q ∈ lw_privs_4, lw_okq q := List.forall_mem_cons.mpr ⟨lw_p48, List.forall_mem_cons.mpr ⟨lw_p49, List.forall_mem_cons.mpr ⟨lw_p50, List.forall_mem_cons.mpr ⟨lw_p51, List.forall_mem_cons.mpr ⟨lw_p52, List.forall_mem_cons.mpr ⟨lw_p53, List.forall_mem_cons.mpr ⟨lw_p54, List.forall_mem_cons.mpr ⟨lw_p55, List.forall_mem_cons.mpr ⟨lw_p56, List.forall_mem_cons.mpr ⟨lw_p57, List.forall_mem_cons.mpr ⟨lw_p58, List.forall_mem_cons.mpr ⟨lw_p59, List.forall_mem_cons.mpr ⟨lw_p60, List.forall_mem_cons.mpr ⟨lw_p61, List.forall_mem_cons.mpr ⟨lw_p62, List.forall_mem_cons.mpr ⟨lw_p63, fun _ h => absurd h List.not_mem_nil⟩⟩⟩⟩⟩⟩⟩⟩⟩⟩⟩⟩⟩⟩⟩⟩
theorem lw_p64 : lw_okq (⟨"ChainFramesModel", "wanted", "(I)I"⟩, 34) := ⟨⟨by decide +kernel, by decide +kernel⟩, List.mem_of_getElem? (i := 630) (by decide +kernel), List.mem_of_getElem? (i := 920) (by decide +kernel), List.mem_of_getElem? (i := 921) (by decide +kernel)⟩
theorem lw_p65 : lw_okq (⟨"ChainFramesModel", "isPlace", "(II)Z"⟩, 34) := ⟨⟨by decide +kernel, by decide +kernel⟩, List.mem_of_getElem? (i := 630) (by decide +kernel), List.mem_of_getElem? (i := 928) (by decide +kernel), List.mem_of_getElem? (i := 929) (by decide +kernel)⟩
theorem lw_p66 : lw_okq (⟨"ChainFramesModel", "isTold", "(II)Z"⟩, 34) := ⟨⟨by decide +kernel, by decide +kernel⟩, List.mem_of_getElem? (i := 630) (by decide +kernel), List.mem_of_getElem? (i := 940) (by decide +kernel), List.mem_of_getElem? (i := 941) (by decide +kernel)⟩
def lw_privs_5 : List (MethodName × Nat) := [(⟨"ChainFramesModel", "wanted", "(I)I"⟩, 34), (⟨"ChainFramesModel", "isPlace", "(II)Z"⟩, 34), (⟨"ChainFramesModel", "isTold", "(II)Z"⟩, 34)]
theorem lw_r5 : ∀ q ∈ lw_privs_5, lw_okq q := List.forall_mem_cons.mpr ⟨lw_p64, List.forall_mem_cons.mpr ⟨lw_p65, List.forall_mem_cons.mpr ⟨lw_p66, fun _ h => absurd h List.not_mem_nil⟩⟩⟩
def lw_privs : List (MethodName × Nat) := lw_privs_1 ++ (lw_privs_2 ++ (lw_privs_3 ++ (lw_privs_4 ++ (lw_privs_5))))
def lw_tbl : List Cond := k2_sels lw_privs ++ tables_1
theorem lw_privs_ok : ∀ q ∈ lw_privs, lw_okq q := by
  show ∀ q ∈ lw_privs_1 ++ (lw_privs_2 ++ (lw_privs_3 ++ (lw_privs_4 ++ (lw_privs_5)))), lw_okq q
  exact List.forall_mem_append.mpr ⟨lw_r1, List.forall_mem_append.mpr ⟨lw_r2, List.forall_mem_append.mpr ⟨lw_r3, List.forall_mem_append.mpr ⟨lw_r4, lw_r5⟩⟩⟩⟩
end
section
def RX0 : String := "ChainFrames$Classes"
def TX0 : u_T := fun k => match k with
  | 0 => ("ChainFrames$Classes", "above", "[I", true)
  | 1 => ("ChainFrames$Classes", "faces", "[Z", true)
  | _ => ("ChainFrames$Classes", "size", "I", false)
def tyX0 : Nat → FieldType := fun k => match k with
  | 0 => .array .int
  | 1 => .array .boolean
  | _ => .int
abbrev wsX00 : List Cond := u_ws RX0 TX0 3
theorem nmX0 : ∀ a, a < 3 → ∀ b, b < 3 → a ≠ b → (TX0 a).2.1 ≠ (TX0 b).2.1 := by decide +kernel
theorem tyX0_ok : ∀ k, k < 3 → parseFieldDescriptor (TX0 k).2.2.1 = some (tyX0 k) := by decide +kernel
abbrev cX0_init : ByteArray := prog_2_method_1_code
def yX0_init : MethodName := ⟨RX0, "<init>", "()V"⟩
abbrev cX0_has : ByteArray := prog_2_method_2_code
def yX0_has : MethodName := ⟨RX0, "has", "(I)Z"⟩
abbrev cX0_isFull : ByteArray := prog_2_method_3_code
def yX0_isFull : MethodName := ⟨RX0, "isFull", "()Z"⟩
abbrev cX0_isFace : ByteArray := prog_2_method_4_code
def yX0_isFace : MethodName := ⟨RX0, "isFace", "(I)Z"⟩
abbrev cX0_add : ByteArray := prog_2_method_5_code
def yX0_add : MethodName := ⟨RX0, "add", "(I)I"⟩
abbrev cX0_suits : ByteArray := prog_2_method_6_code
def yX0_suits : MethodName := ⟨RX0, "suits", "(II)Z"⟩
abbrev cX0_nearest : ByteArray := prog_2_method_7_code
def yX0_nearest : MethodName := ⟨RX0, "nearest", "(II)I"⟩
def RX1 : String := "ChainFrames$Forms"
def TX1 : u_T := fun k => match k with
  | 0 => ("ChainFrames$Forms", "isTold", "[Z", true)
  | 1 => ("ChainFrames$Forms", "oldRow", "[I", true)
  | _ => ("ChainFrames$Forms", "newRow", "[I", true)
def tyX1 : Nat → FieldType := fun k => match k with
  | 0 => .array .boolean
  | 1 => .array .int
  | _ => .array .int
abbrev wsX10 : List Cond := u_ws RX1 TX1 3
theorem nmX1 : ∀ a, a < 3 → ∀ b, b < 3 → a ≠ b → (TX1 a).2.1 ≠ (TX1 b).2.1 := by decide +kernel
theorem tyX1_ok : ∀ k, k < 3 → parseFieldDescriptor (TX1 k).2.2.1 = some (tyX1 k) := by decide +kernel
abbrev cX1_init : ByteArray := prog_3_method_1_code
def yX1_init : MethodName := ⟨RX1, "<init>", "()V"⟩
abbrev cX1_formAt : ByteArray := prog_3_method_2_code
def yX1_formAt : MethodName := ⟨RX1, "formAt", "(LChainFrames$Method;I)I"⟩
abbrev cX1_markTold : ByteArray := prog_3_method_3_code
def yX1_markTold : MethodName := ⟨RX1, "markTold", "(LChainFrames$Method;)V"⟩
abbrev cX1_mark : ByteArray := prog_3_method_4_code
def yX1_mark : MethodName := ⟨RX1, "mark", "(I)V"⟩
abbrev cX1_toldBefore : ByteArray := prog_3_method_5_code
def yX1_toldBefore : MethodName := ⟨RX1, "toldBefore", "(I)I"⟩
abbrev cX1_writeRow : ByteArray := prog_3_method_6_code
def yX1_writeRow : MethodName := ⟨RX1, "writeRow", "([I[I)I"⟩
abbrev cX1_isAlike : ByteArray := prog_3_method_7_code
def yX1_isAlike : MethodName := ⟨RX1, "isAlike", "(I)Z"⟩
abbrev cX1_formOf : ByteArray := prog_3_method_8_code
def yX1_formOf : MethodName := ⟨RX1, "formOf", "(LChainFrames$Frame;I)I"⟩
def RX2 : String := "ChainFrames$Frame"
def TX2 : u_T := fun k => match k with
  | 0 => ("ChainFrames$Frame", "locals", "[I", true)
  | 1 => ("ChainFrames$Frame", "pile", "[I", true)
  | _ => ("ChainFrames$Frame", "depth", "I", false)
def tyX2 : Nat → FieldType := fun k => match k with
  | 0 => .array .int
  | 1 => .array .int
  | _ => .int
abbrev wsX20 : List Cond := u_ws RX2 TX2 3
theorem nmX2 : ∀ a, a < 3 → ∀ b, b < 3 → a ≠ b → (TX2 a).2.1 ≠ (TX2 b).2.1 := by decide +kernel
theorem tyX2_ok : ∀ k, k < 3 → parseFieldDescriptor (TX2 k).2.2.1 = some (tyX2 k) := by decide +kernel
abbrev cX2_init : ByteArray := prog_4_method_1_code
def yX2_init : MethodName := ⟨RX2, "<init>", "()V"⟩
abbrev cX2_isThere : ByteArray := prog_4_method_2_code
def yX2_isThere : MethodName := ⟨RX2, "isThere", "()Z"⟩
abbrev cX2_copyFrom : ByteArray := prog_4_method_3_code
def yX2_copyFrom : MethodName := ⟨RX2, "copyFrom", "(LChainFrames$Frame;)V"⟩
abbrev cX2_startWith : ByteArray := prog_4_method_4_code
def yX2_startWith : MethodName := ⟨RX2, "startWith", "([I)V"⟩
abbrev cX2_becomeRaised : ByteArray := prog_4_method_5_code
def yX2_becomeRaised : MethodName := ⟨RX2, "becomeRaised", "(LChainFrames$Frame;I)V"⟩
abbrev cX2_slot : ByteArray := prog_4_method_6_code
def yX2_slot : MethodName := ⟨RX2, "slot", "(I)I"⟩
abbrev cX2_top : ByteArray := prog_4_method_7_code
def yX2_top : MethodName := ⟨RX2, "top", "()I"⟩
abbrev cX2_hasLongOnTop : ByteArray := prog_4_method_8_code
def yX2_hasLongOnTop : MethodName := ⟨RX2, "hasLongOnTop", "()Z"⟩
abbrev cX2_hasLongAt : ByteArray := prog_4_method_9_code
def yX2_hasLongAt : MethodName := ⟨RX2, "hasLongAt", "(I)Z"⟩
abbrev cX2_holdsUnmade : ByteArray := prog_4_method_10_code
def yX2_holdsUnmade : MethodName := ⟨RX2, "holdsUnmade", "()Z"⟩
abbrev cX2_replace : ByteArray := prog_4_method_11_code
def yX2_replace : MethodName := ⟨RX2, "replace", "(II)V"⟩
abbrev cX2_breakLong : ByteArray := prog_4_method_12_code
def yX2_breakLong : MethodName := ⟨RX2, "breakLong", "(I)V"⟩
def RX3 : String := "ChainFrames$Kinds"
def TX3 : u_T := fun k => match k with
  | _ => ("ChainFrames$Kinds", "classes", "LChainFrames$Classes;", true)
def tyX3 : Nat → FieldType := fun k => match k with
  | _ => .object "ChainFrames$Classes"
abbrev wsX30 : List Cond := u_ws RX3 TX3 1
theorem nmX3 : ∀ a, a < 1 → ∀ b, b < 1 → a ≠ b → (TX3 a).2.1 ≠ (TX3 b).2.1 := by decide +kernel
theorem tyX3_ok : ∀ k, k < 1 → parseFieldDescriptor (TX3 k).2.2.1 = some (tyX3 k) := by decide +kernel
abbrev cX3_init : ByteArray := prog_5_method_1_code
def yX3_init : MethodName := ⟨RX3, "<init>", "(LChainFrames$Classes;)V"⟩
abbrev cX3_isThing : ByteArray := prog_5_method_2_code
def yX3_isThing : MethodName := ⟨RX3, "isThing", "(I)Z"⟩
abbrev cX3_isThingRow : ByteArray := prog_5_method_3_code
def yX3_isThingRow : MethodName := ⟨RX3, "isThingRow", "(I)Z"⟩
abbrev cX3_isUnmade : ByteArray := prog_5_method_4_code
def yX3_isUnmade : MethodName := ⟨RX3, "isUnmade", "(I)Z"⟩
abbrev cX3_isReference : ByteArray := prog_5_method_5_code
def yX3_isReference : MethodName := ⟨RX3, "isReference", "(I)Z"⟩
abbrev cX3_isOfClass : ByteArray := prog_5_method_6_code
def yX3_isOfClass : MethodName := ⟨RX3, "isOfClass", "(I)Z"⟩
abbrev cX3_isKnown : ByteArray := prog_5_method_7_code
def yX3_isKnown : MethodName := ⟨RX3, "isKnown", "(I)Z"⟩
abbrev cX3_isArgument : ByteArray := prog_5_method_8_code
def yX3_isArgument : MethodName := ⟨RX3, "isArgument", "(I)Z"⟩
abbrev cX3_isResult : ByteArray := prog_5_method_9_code
def yX3_isResult : MethodName := ⟨RX3, "isResult", "(I)Z"⟩
abbrev cX3_suits : ByteArray := prog_5_method_10_code
def yX3_suits : MethodName := ⟨RX3, "suits", "(II)Z"⟩
abbrev cX3_merge : ByteArray := prog_5_method_11_code
def yX3_merge : MethodName := ⟨RX3, "merge", "(II)I"⟩
def RX4 : String := "ChainFrames$Method"
def TX4 : u_T := fun k => match k with
  | 0 => ("ChainFrames$Method", "result", "I", true)
  | 1 => ("ChainFrames$Method", "beginning", "[I", true)
  | 2 => ("ChainFrames$Method", "argumentLocals", "I", false)
  | 3 => ("ChainFrames$Method", "ops", "[I", true)
  | 4 => ("ChainFrames$Method", "as", "[I", true)
  | 5 => ("ChainFrames$Method", "bs", "[I", true)
  | 6 => ("ChainFrames$Method", "opCount", "I", false)
  | 7 => ("ChainFrames$Method", "froms", "[I", true)
  | 8 => ("ChainFrames$Method", "tos", "[I", true)
  | 9 => ("ChainFrames$Method", "handlers", "[I", true)
  | 10 => ("ChainFrames$Method", "raised", "[I", true)
  | 11 => ("ChainFrames$Method", "guardCount", "I", false)
  | _ => ("ChainFrames$Method", "work", "LChainFrames$Work;", true)
def tyX4 : Nat → FieldType := fun k => match k with
  | 0 => .int
  | 1 => .array .int
  | 2 => .int
  | 3 => .array .int
  | 4 => .array .int
  | 5 => .array .int
  | 6 => .int
  | 7 => .array .int
  | 8 => .array .int
  | 9 => .array .int
  | 10 => .array .int
  | 11 => .int
  | _ => .object "ChainFrames$Work"
abbrev wsX40 : List Cond := u_ws RX4 TX4 13
theorem nmX4 : ∀ a, a < 13 → ∀ b, b < 13 → a ≠ b → (TX4 a).2.1 ≠ (TX4 b).2.1 := by decide +kernel
theorem tyX4_ok : ∀ k, k < 13 → parseFieldDescriptor (TX4 k).2.2.1 = some (tyX4 k) := by decide +kernel
abbrev cX4_init : ByteArray := prog_6_method_1_code
def yX4_init : MethodName := ⟨RX4, "<init>", "(I)V"⟩
abbrev cX4_addArgument : ByteArray := prog_6_method_2_code
def yX4_addArgument : MethodName := ⟨RX4, "addArgument", "(I)I"⟩
abbrev cX4_addOp : ByteArray := prog_6_method_3_code
def yX4_addOp : MethodName := ⟨RX4, "addOp", "(III)I"⟩
abbrev cX4_addGuard : ByteArray := prog_6_method_4_code
def yX4_addGuard : MethodName := ⟨RX4, "addGuard", "(IIII)I"⟩
abbrev cX4_hasPlace : ByteArray := prog_6_method_5_code
def yX4_hasPlace : MethodName := ⟨RX4, "hasPlace", "(I)Z"⟩
abbrev cX4_isGuarded : ByteArray := prog_6_method_6_code
def yX4_isGuarded : MethodName := ⟨RX4, "isGuarded", "(II)Z"⟩
abbrev cX4_isJump : ByteArray := prog_6_method_7_code
def yX4_isJump : MethodName := ⟨RX4, "isJump", "(I)Z"⟩
abbrev cX4_classOfUnmade : ByteArray := prog_6_method_8_code
def yX4_classOfUnmade : MethodName := ⟨RX4, "classOfUnmade", "(I)I"⟩
abbrev cX4_wantedLocals : ByteArray := prog_6_method_9_code
def yX4_wantedLocals : MethodName := ⟨RX4, "wantedLocals", "()I"⟩
abbrev cX4_localsOfOp : ByteArray := prog_6_method_10_code
def yX4_localsOfOp : MethodName := ⟨RX4, "localsOfOp", "(I)I"⟩
def RX5 : String := "ChainFrames$Step"
def TX5 : u_T := fun k => match k with
  | 0 => ("ChainFrames$Step", "kinds", "LChainFrames$Kinds;", true)
  | 1 => ("ChainFrames$Step", "frame", "LChainFrames$Frame;", true)
  | _ => ("ChainFrames$Step", "rule", "I", false)
def tyX5 : Nat → FieldType := fun k => match k with
  | 0 => .object "ChainFrames$Kinds"
  | 1 => .object "ChainFrames$Frame"
  | _ => .int
abbrev wsX50 : List Cond := u_ws RX5 TX5 3
theorem nmX5 : ∀ a, a < 3 → ∀ b, b < 3 → a ≠ b → (TX5 a).2.1 ≠ (TX5 b).2.1 := by decide +kernel
theorem tyX5_ok : ∀ k, k < 3 → parseFieldDescriptor (TX5 k).2.2.1 = some (tyX5 k) := by decide +kernel
abbrev cX5_init : ByteArray := prog_7_method_1_code
def yX5_init : MethodName := ⟨RX5, "<init>", "(LChainFrames$Kinds;)V"⟩
abbrev cX5_perform : ByteArray := prog_7_method_2_code
def yX5_perform : MethodName := ⟨RX5, "perform", "(LChainFrames$Method;I)I"⟩
abbrev cX5_useLocal : ByteArray := prog_7_method_3_code
def yX5_useLocal : MethodName := ⟨RX5, "useLocal", "(II)V"⟩
abbrev cX5_useValue : ByteArray := prog_7_method_4_code
def yX5_useValue : MethodName := ⟨RX5, "useValue", "(II)V"⟩
abbrev cX5_useThing : ByteArray := prog_7_method_5_code
def yX5_useThing : MethodName := ⟨RX5, "useThing", "(LChainFrames$Method;I)V"⟩
abbrev cX5_layTop : ByteArray := prog_7_method_6_code
def yX5_layTop : MethodName := ⟨RX5, "layTop", "()V"⟩
abbrev cX5_make : ByteArray := prog_7_method_7_code
def yX5_make : MethodName := ⟨RX5, "make", "(LChainFrames$Method;I)V"⟩
abbrev cX5_loadElement : ByteArray := prog_7_method_8_code
def yX5_loadElement : MethodName := ⟨RX5, "loadElement", "()V"⟩
abbrev cX5_storeElement : ByteArray := prog_7_method_9_code
def yX5_storeElement : MethodName := ⟨RX5, "storeElement", "()V"⟩
abbrev cX5_isReferenceOrUnmade : ByteArray := prog_7_method_10_code
def yX5_isReferenceOrUnmade : MethodName := ⟨RX5, "isReferenceOrUnmade", "(I)Z"⟩
abbrev cX5_breakRule : ByteArray := prog_7_method_11_code
def yX5_breakRule : MethodName := ⟨RX5, "breakRule", "(I)V"⟩
abbrev cX5_expect : ByteArray := prog_7_method_12_code
def yX5_expect : MethodName := ⟨RX5, "expect", "(Z)V"⟩
abbrev cX5_expectInLocal : ByteArray := prog_7_method_13_code
def yX5_expectInLocal : MethodName := ⟨RX5, "expectInLocal", "(Z)V"⟩
abbrev cX5_takeAny : ByteArray := prog_7_method_14_code
def yX5_takeAny : MethodName := ⟨RX5, "takeAny", "()I"⟩
abbrev cX5_take : ByteArray := prog_7_method_15_code
def yX5_take : MethodName := ⟨RX5, "take", "(I)V"⟩
abbrev cX5_takeLong : ByteArray := prog_7_method_16_code
def yX5_takeLong : MethodName := ⟨RX5, "takeLong", "()V"⟩
abbrev cX5_lay : ByteArray := prog_7_method_17_code
def yX5_lay : MethodName := ⟨RX5, "lay", "(I)V"⟩
abbrev cX5_put : ByteArray := prog_7_method_18_code
def yX5_put : MethodName := ⟨RX5, "put", "(II)V"⟩
abbrev cX5_putLong : ByteArray := prog_7_method_19_code
def yX5_putLong : MethodName := ⟨RX5, "putLong", "(I)V"⟩
def RX6 : String := "ChainFrames$Work"
def TX6 : u_T := fun k => match k with
  | 0 => ("ChainFrames$Work", "frames", "[LChainFrames$Frame;", true)
  | 1 => ("ChainFrames$Work", "waiting", "[Z", true)
  | 2 => ("ChainFrames$Work", "isDone", "Z", false)
  | 3 => ("ChainFrames$Work", "rule", "I", false)
  | 4 => ("ChainFrames$Work", "brokenAt", "I", false)
  | 5 => ("ChainFrames$Work", "passes", "I", false)
  | _ => ("ChainFrames$Work", "highest", "I", false)
def tyX6 : Nat → FieldType := fun k => match k with
  | 0 => .array (.object "ChainFrames$Frame")
  | 1 => .array .boolean
  | 2 => .boolean
  | 3 => .int
  | 4 => .int
  | 5 => .int
  | _ => .int
abbrev wsX60 : List Cond := u_ws RX6 TX6 7
theorem nmX6 : ∀ a, a < 7 → ∀ b, b < 7 → a ≠ b → (TX6 a).2.1 ≠ (TX6 b).2.1 := by decide +kernel
theorem tyX6_ok : ∀ k, k < 7 → parseFieldDescriptor (TX6 k).2.2.1 = some (tyX6 k) := by decide +kernel
abbrev cX6_init : ByteArray := prog_8_method_1_code
def yX6_init : MethodName := ⟨RX6, "<init>", "()V"⟩
abbrev cX6_startWith : ByteArray := prog_8_method_2_code
def yX6_startWith : MethodName := ⟨RX6, "startWith", "([I)V"⟩
abbrev cX6_leastWaiting : ByteArray := prog_8_method_3_code
def yX6_leastWaiting : MethodName := ⟨RX6, "leastWaiting", "()I"⟩
abbrev cX6_breakAt : ByteArray := prog_8_method_4_code
def yX6_breakAt : MethodName := ⟨RX6, "breakAt", "(II)V"⟩
abbrev cX6_note : ByteArray := prog_8_method_5_code
def yX6_note : MethodName := ⟨RX6, "note", "(I)V"⟩
def RX7 : String := "ChainFrames$Worker"
def TX7 : u_T := fun k => match k with
  | 0 => ("ChainFrames$Worker", "kinds", "LChainFrames$Kinds;", true)
  | 1 => ("ChainFrames$Worker", "step", "LChainFrames$Step;", true)
  | _ => ("ChainFrames$Worker", "raisedFrame", "LChainFrames$Frame;", true)
def tyX7 : Nat → FieldType := fun k => match k with
  | 0 => .object "ChainFrames$Kinds"
  | 1 => .object "ChainFrames$Step"
  | _ => .object "ChainFrames$Frame"
abbrev wsX70 : List Cond := u_ws RX7 TX7 3
theorem nmX7 : ∀ a, a < 3 → ∀ b, b < 3 → a ≠ b → (TX7 a).2.1 ≠ (TX7 b).2.1 := by decide +kernel
theorem tyX7_ok : ∀ k, k < 3 → parseFieldDescriptor (TX7 k).2.2.1 = some (tyX7 k) := by decide +kernel
abbrev cX7_init : ByteArray := prog_9_method_1_code
def yX7_init : MethodName := ⟨RX7, "<init>", "(LChainFrames$Kinds;)V"⟩
abbrev cX7_run : ByteArray := prog_9_method_2_code
def yX7_run : MethodName := ⟨RX7, "run", "(LChainFrames$Method;)V"⟩
abbrev cX7_meetHandlers : ByteArray := prog_9_method_3_code
def yX7_meetHandlers : MethodName := ⟨RX7, "meetHandlers", "(LChainFrames$Method;I)I"⟩
abbrev cX7_goOn : ByteArray := prog_9_method_4_code
def yX7_goOn : MethodName := ⟨RX7, "goOn", "(LChainFrames$Method;I)I"⟩
abbrev cX7_jumpRule : ByteArray := prog_9_method_5_code
def yX7_jumpRule : MethodName := ⟨RX7, "jumpRule", "(LChainFrames$Method;I)I"⟩
abbrev cX7_meet : ByteArray := prog_9_method_6_code
def yX7_meet : MethodName := ⟨RX7, "meet", "(LChainFrames$Work;ILChainFrames$Frame;)Z"⟩
abbrev cX7_canMeet : ByteArray := prog_9_method_7_code
def yX7_canMeet : MethodName := ⟨RX7, "canMeet", "(LChainFrames$Frame;LChainFrames$Frame;)Z"⟩
abbrev cX7_mergeRow : ByteArray := prog_9_method_8_code
def yX7_mergeRow : MethodName := ⟨RX7, "mergeRow", "([I[II)Z"⟩
def RX8 : String := "ChainFrames"
def TX8 : u_T := fun k => match k with
  | 0 => ("ChainFrames", "classes", "LChainFrames$Classes;", true)
  | 1 => ("ChainFrames", "kinds", "LChainFrames$Kinds;", true)
  | 2 => ("ChainFrames", "worker", "LChainFrames$Worker;", true)
  | 3 => ("ChainFrames", "forms", "LChainFrames$Forms;", true)
  | 4 => ("ChainFrames", "methods", "[LChainFrames$Method;", true)
  | _ => ("ChainFrames", "methodCount", "I", false)
def tyX8 : Nat → FieldType := fun k => match k with
  | 0 => .object "ChainFrames$Classes"
  | 1 => .object "ChainFrames$Kinds"
  | 2 => .object "ChainFrames$Worker"
  | 3 => .object "ChainFrames$Forms"
  | 4 => .array (.object "ChainFrames$Method")
  | _ => .int
abbrev wsX80 : List Cond := u_ws RX8 TX8 6
theorem nmX8 : ∀ a, a < 6 → ∀ b, b < 6 → a ≠ b → (TX8 a).2.1 ≠ (TX8 b).2.1 := by decide +kernel
theorem tyX8_ok : ∀ k, k < 6 → parseFieldDescriptor (TX8 k).2.2.1 = some (tyX8 k) := by decide +kernel
abbrev cX8_init : ByteArray := prog_1_method_1_code
def yX8_init : MethodName := ⟨RX8, "<init>", "()V"⟩
abbrev cX8_cls : ByteArray := prog_1_method_2_code
def yX8_cls : MethodName := ⟨RX8, "cls", "(I)I"⟩
abbrev cX8_fits : ByteArray := prog_1_method_3_code
def yX8_fits : MethodName := ⟨RX8, "fits", "(II)I"⟩
abbrev cX8_join : ByteArray := prog_1_method_4_code
def yX8_join : MethodName := ⟨RX8, "join", "(II)I"⟩
abbrev cX8_method : ByteArray := prog_1_method_5_code
def yX8_method : MethodName := ⟨RX8, "method", "(I)I"⟩
abbrev cX8_argument : ByteArray := prog_1_method_6_code
def yX8_argument : MethodName := ⟨RX8, "argument", "(II)I"⟩
abbrev cX8_op : ByteArray := prog_1_method_7_code
def yX8_op : MethodName := ⟨RX8, "op", "(IIII)I"⟩
abbrev cX8_guard : ByteArray := prog_1_method_8_code
def yX8_guard : MethodName := ⟨RX8, "guard", "(IIIII)I"⟩
abbrev cX8_compute : ByteArray := prog_1_method_9_code
def yX8_compute : MethodName := ⟨RX8, "compute", "(I)I"⟩
abbrev cX8_told : ByteArray := prog_1_method_10_code
def yX8_told : MethodName := ⟨RX8, "told", "(II)I"⟩
abbrev cX8_frame : ByteArray := prog_1_method_11_code
def yX8_frame : MethodName := ⟨RX8, "frame", "(III)I"⟩
abbrev cX8_height : ByteArray := prog_1_method_12_code
def yX8_height : MethodName := ⟨RX8, "height", "(II)I"⟩
abbrev cX8_form : ByteArray := prog_1_method_13_code
def yX8_form : MethodName := ⟨RX8, "form", "(II)I"⟩
abbrev cX8_count : ByteArray := prog_1_method_14_code
def yX8_count : MethodName := ⟨RX8, "count", "(II)I"⟩
abbrev cX8_find : ByteArray := prog_1_method_15_code
def yX8_find : MethodName := ⟨RX8, "find", "(I)LChainFrames$Method;"⟩
abbrev cX8_isOp : ByteArray := prog_1_method_16_code
def yX8_isOp : MethodName := ⟨RX8, "isOp", "(III)Z"⟩
def RX9 : String := "ChainFramesModel"
def TX9 : u_T := fun k => match k with
  | 0 => ("ChainFramesModel", "classes", "I", false)
  | 1 => ("ChainFramesModel", "parent", "[I", true)
  | 2 => ("ChainFramesModel", "isFace", "[Z", true)
  | 3 => ("ChainFramesModel", "methods", "I", false)
  | 4 => ("ChainFramesModel", "result", "[I", true)
  | 5 => ("ChainFramesModel", "taken", "[I", true)
  | 6 => ("ChainFramesModel", "begin", "[I", true)
  | 7 => ("ChainFramesModel", "many", "[I", true)
  | 8 => ("ChainFramesModel", "ops", "[I", true)
  | 9 => ("ChainFramesModel", "as", "[I", true)
  | 10 => ("ChainFramesModel", "bs", "[I", true)
  | 11 => ("ChainFramesModel", "guards", "[I", true)
  | 12 => ("ChainFramesModel", "guardFrom", "[I", true)
  | 13 => ("ChainFramesModel", "guardTo", "[I", true)
  | 14 => ("ChainFramesModel", "guardHandler", "[I", true)
  | 15 => ("ChainFramesModel", "guardClass", "[I", true)
  | 16 => ("ChainFramesModel", "isDone", "[Z", true)
  | 17 => ("ChainFramesModel", "rule", "[I", true)
  | 18 => ("ChainFramesModel", "rulePlace", "[I", true)
  | 19 => ("ChainFramesModel", "gone", "[I", true)
  | 20 => ("ChainFramesModel", "highest", "[I", true)
  | 21 => ("ChainFramesModel", "has", "[Z", true)
  | 22 => ("ChainFramesModel", "isLooked", "[Z", true)
  | 23 => ("ChainFramesModel", "heights", "[I", true)
  | 24 => ("ChainFramesModel", "cells", "[I", true)
  | 25 => ("ChainFramesModel", "local", "[I", true)
  | 26 => ("ChainFramesModel", "pile", "[I", true)
  | 27 => ("ChainFramesModel", "height", "I", false)
  | 28 => ("ChainFramesModel", "broken", "I", false)
  | 29 => ("ChainFramesModel", "now", "I", false)
  | 30 => ("ChainFramesModel", "at", "I", false)
  | 31 => ("ChainFramesModel", "met", "[I", true)
  | 32 => ("ChainFramesModel", "older", "[I", true)
  | _ => ("ChainFramesModel", "newer", "[I", true)
def tyX9 : Nat → FieldType := fun k => match k with
  | 0 => .int
  | 1 => .array .int
  | 2 => .array .boolean
  | 3 => .int
  | 4 => .array .int
  | 5 => .array .int
  | 6 => .array .int
  | 7 => .array .int
  | 8 => .array .int
  | 9 => .array .int
  | 10 => .array .int
  | 11 => .array .int
  | 12 => .array .int
  | 13 => .array .int
  | 14 => .array .int
  | 15 => .array .int
  | 16 => .array .boolean
  | 17 => .array .int
  | 18 => .array .int
  | 19 => .array .int
  | 20 => .array .int
  | 21 => .array .boolean
  | 22 => .array .boolean
  | 23 => .array .int
  | 24 => .array .int
  | 25 => .array .int
  | 26 => .array .int
  | 27 => .int
  | 28 => .int
  | 29 => .int
  | 30 => .int
  | 31 => .array .int
  | 32 => .array .int
  | _ => .array .int
abbrev wsX90 : List Cond := u_ws RX9 TX9 34
theorem nmX9 : ∀ a, a < 34 → ∀ b, b < 34 → a ≠ b → (TX9 a).2.1 ≠ (TX9 b).2.1 := by decide +kernel
theorem tyX9_ok : ∀ k, k < 34 → parseFieldDescriptor (TX9 k).2.2.1 = some (tyX9 k) := by decide +kernel
abbrev cX9_init : ByteArray := prog_11_method_1_code
def yX9_init : MethodName := ⟨RX9, "<init>", "()V"⟩
abbrev cX9_in : ByteArray := prog_11_method_3_code
def yX9_in : MethodName := ⟨RX9, "in", "(III)Z"⟩
abbrev cX9_isClass : ByteArray := prog_11_method_4_code
def yX9_isClass : MethodName := ⟨RX9, "isClass", "(I)Z"⟩
abbrev cX9_cls : ByteArray := prog_11_method_5_code
def yX9_cls : MethodName := ⟨RX9, "cls", "(I)I"⟩
abbrev cX9_isBelow : ByteArray := prog_11_method_6_code
def yX9_isBelow : MethodName := ⟨RX9, "isBelow", "(II)Z"⟩
abbrev cX9_fitsClass : ByteArray := prog_11_method_7_code
def yX9_fitsClass : MethodName := ⟨RX9, "fitsClass", "(II)Z"⟩
abbrev cX9_joinClass : ByteArray := prog_11_method_8_code
def yX9_joinClass : MethodName := ⟨RX9, "joinClass", "(II)I"⟩
abbrev cX9_fits : ByteArray := prog_11_method_9_code
def yX9_fits : MethodName := ⟨RX9, "fits", "(II)I"⟩
abbrev cX9_isThing : ByteArray := prog_11_method_10_code
def yX9_isThing : MethodName := ⟨RX9, "isThing", "(I)Z"⟩
abbrev cX9_isThings : ByteArray := prog_11_method_11_code
def yX9_isThings : MethodName := ⟨RX9, "isThings", "(I)Z"⟩
abbrev cX9_isReference : ByteArray := prog_11_method_12_code
def yX9_isReference : MethodName := ⟨RX9, "isReference", "(I)Z"⟩
abbrev cX9_fitsKind : ByteArray := prog_11_method_13_code
def yX9_fitsKind : MethodName := ⟨RX9, "fitsKind", "(II)Z"⟩
abbrev cX9_joined : ByteArray := prog_11_method_14_code
def yX9_joined : MethodName := ⟨RX9, "joined", "(II)I"⟩
abbrev cX9_isKind : ByteArray := prog_11_method_15_code
def yX9_isKind : MethodName := ⟨RX9, "isKind", "(I)Z"⟩
abbrev cX9_join : ByteArray := prog_11_method_16_code
def yX9_join : MethodName := ⟨RX9, "join", "(II)I"⟩
abbrev cX9_isArgument : ByteArray := prog_11_method_17_code
def yX9_isArgument : MethodName := ⟨RX9, "isArgument", "(I)Z"⟩
abbrev cX9_isMethod : ByteArray := prog_11_method_18_code
def yX9_isMethod : MethodName := ⟨RX9, "isMethod", "(I)Z"⟩
abbrev cX9_method : ByteArray := prog_11_method_19_code
def yX9_method : MethodName := ⟨RX9, "method", "(I)I"⟩
abbrev cX9_argument : ByteArray := prog_11_method_20_code
def yX9_argument : MethodName := ⟨RX9, "argument", "(II)I"⟩
abbrev cX9_isOp : ByteArray := prog_11_method_21_code
def yX9_isOp : MethodName := ⟨RX9, "isOp", "(III)Z"⟩
abbrev cX9_op : ByteArray := prog_11_method_22_code
def yX9_op : MethodName := ⟨RX9, "op", "(IIII)I"⟩
abbrev cX9_guard : ByteArray := prog_11_method_23_code
def yX9_guard : MethodName := ⟨RX9, "guard", "(IIIII)I"⟩
abbrev cX9_breaks : ByteArray := prog_11_method_24_code
def yX9_breaks : MethodName := ⟨RX9, "breaks", "(I)Z"⟩
abbrev cX9_wants : ByteArray := prog_11_method_25_code
def yX9_wants : MethodName := ⟨RX9, "wants", "(I)Z"⟩
abbrev cX9_takes : ByteArray := prog_11_method_26_code
def yX9_takes : MethodName := ⟨RX9, "takes", "(I)Z"⟩
abbrev cX9_takesTop : ByteArray := prog_11_method_27_code
def yX9_takesTop : MethodName := ⟨RX9, "takesTop", "(Z)Z"⟩
abbrev cX9_top : ByteArray := prog_11_method_28_code
def yX9_top : MethodName := ⟨RX9, "top", "()I"⟩
abbrev cX9_lays : ByteArray := prog_11_method_29_code
def yX9_lays : MethodName := ⟨RX9, "lays", "(I)Z"⟩
abbrev cX9_puts : ByteArray := prog_11_method_30_code
def yX9_puts : MethodName := ⟨RX9, "puts", "(II)V"⟩
abbrev cX9_isHeld : ByteArray := prog_11_method_31_code
def yX9_isHeld : MethodName := ⟨RX9, "isHeld", "(I)Z"⟩
abbrev cX9_moves : ByteArray := prog_11_method_32_code
def yX9_moves : MethodName := ⟨RX9, "moves", "(II)Z"⟩
abbrev cX9_makes : ByteArray := prog_11_method_33_code
def yX9_makes : MethodName := ⟨RX9, "makes", "(I)Z"⟩
abbrev cX9_reads : ByteArray := prog_11_method_34_code
def yX9_reads : MethodName := ⟨RX9, "reads", "()Z"⟩
abbrev cX9_writes : ByteArray := prog_11_method_35_code
def yX9_writes : MethodName := ⟨RX9, "writes", "()Z"⟩
abbrev cX9_does : ByteArray := prog_11_method_36_code
def yX9_does : MethodName := ⟨RX9, "does", "(III)Z"⟩
abbrev cX9_keepMost : ByteArray := prog_11_method_37_code
def yX9_keepMost : MethodName := ⟨RX9, "keepMost", "(I)V"⟩
abbrev cX9_meetsFirst : ByteArray := prog_11_method_38_code
def yX9_meetsFirst : MethodName := ⟨RX9, "meetsFirst", "(I)Z"⟩
abbrev cX9_meets : ByteArray := prog_11_method_39_code
def yX9_meets : MethodName := ⟨RX9, "meets", "(I)Z"⟩
abbrev cX9_load : ByteArray := prog_11_method_40_code
def yX9_load : MethodName := ⟨RX9, "load", "(I)V"⟩
abbrev cX9_hands : ByteArray := prog_11_method_41_code
def yX9_hands : MethodName := ⟨RX9, "hands", "(I)Z"⟩
abbrev cX9_hasUnmade : ByteArray := prog_11_method_42_code
def yX9_hasUnmade : MethodName := ⟨RX9, "hasUnmade", "()Z"⟩
abbrev cX9_jumps : ByteArray := prog_11_method_43_code
def yX9_jumps : MethodName := ⟨RX9, "jumps", "(I)Z"⟩
abbrev cX9_goesOn : ByteArray := prog_11_method_44_code
def yX9_goesOn : MethodName := ⟨RX9, "goesOn", "()Z"⟩
abbrev cX9_goes : ByteArray := prog_11_method_45_code
def yX9_goes : MethodName := ⟨RX9, "goes", "()Z"⟩
abbrev cX9_leastLooked : ByteArray := prog_11_method_46_code
def yX9_leastLooked : MethodName := ⟨RX9, "leastLooked", "()I"⟩
abbrev cX9_compute : ByteArray := prog_11_method_47_code
def yX9_compute : MethodName := ⟨RX9, "compute", "(I)I"⟩
abbrev cX9_wanted : ByteArray := prog_11_method_48_code
def yX9_wanted : MethodName := ⟨RX9, "wanted", "(I)I"⟩
abbrev cX9_told : ByteArray := prog_11_method_49_code
def yX9_told : MethodName := ⟨RX9, "told", "(II)I"⟩
abbrev cX9_isPlace : ByteArray := prog_11_method_50_code
def yX9_isPlace : MethodName := ⟨RX9, "isPlace", "(II)Z"⟩
abbrev cX9_frame : ByteArray := prog_11_method_51_code
def yX9_frame : MethodName := ⟨RX9, "frame", "(III)I"⟩
abbrev cX9_height : ByteArray := prog_11_method_52_code
def yX9_height : MethodName := ⟨RX9, "height", "(II)I"⟩
abbrev cX9_isTold : ByteArray := prog_11_method_53_code
def yX9_isTold : MethodName := ⟨RX9, "isTold", "(II)Z"⟩
abbrev cX9_written : ByteArray := prog_11_method_54_code
def yX9_written : MethodName := ⟨RX9, "written", "([II[I)I"⟩
abbrev cX9_form : ByteArray := prog_11_method_55_code
def yX9_form : MethodName := ⟨RX9, "form", "(II)I"⟩
abbrev cX9_count : ByteArray := prog_11_method_56_code
def yX9_count : MethodName := ⟨RX9, "count", "(II)I"⟩
def RJ9 : String := "java/lang/Math"
def TJ9 : u_T := fun k => match k with
  | _ => ("", "", "", false)
def tyJ9 : Nat → FieldType := fun k => match k with
  | _ => .int
abbrev wsJ90 : List Cond := u_ws RJ9 TJ9 0
theorem nmJ9 : ∀ a, a < 0 → ∀ b, b < 0 → a ≠ b → (TJ9 a).2.1 ≠ (TJ9 b).2.1 := by decide +kernel
theorem tyJ9_ok : ∀ k, k < 0 → parseFieldDescriptor (TJ9 k).2.2.1 = some (tyJ9 k) := by decide +kernel
abbrev cJ9_max_7cf53 : ByteArray := prog_12_method_65_code
def yJ9_max_7cf53 : MethodName := ⟨RJ9, "max", "(II)I"⟩
abbrev cJ9_min_7cf53 : ByteArray := prog_12_method_69_code
def yJ9_min_7cf53 : MethodName := ⟨RJ9, "min", "(II)I"⟩
def RJ10 : String := "java/lang/System"
def TJ10 : u_T := fun k => match k with
  | _ => ("", "", "", false)
def tyJ10 : Nat → FieldType := fun k => match k with
  | _ => .int
abbrev wsJ100 : List Cond := u_ws RJ10 TJ10 0
theorem nmJ10 : ∀ a, a < 0 → ∀ b, b < 0 → a ≠ b → (TJ10 a).2.1 ≠ (TJ10 b).2.1 := by decide +kernel
theorem tyJ10_ok : ∀ k, k < 0 → parseFieldDescriptor (TJ10 k).2.2.1 = some (tyJ10 k) := by decide +kernel
def RL : String := "ChainFramesLaw"
abbrev cL_law : ByteArray := code
def yL_law : MethodName := ⟨RL, "law", "([I)Z"⟩
end
section
/-! ===== numbers ===== -/
def iv (z : Int) : Value := .int (Int32.ofInt z)
def inR (z : Int) : Prop := -2147483648 ≤ z ∧ z ≤ 2147483647
theorem inR_toInt {z : Int} (h : inR z) : (Int32.ofInt z).toInt = z := Int32.toInt_ofInt_of_le (by have := h.1; omega) (by have := h.2; omega)
theorem inR_of (x : Int32) : inR x.toInt := ⟨by have := Int32.le_toInt x; omega, by have := Int32.toInt_lt x; omega⟩
theorem iv_of (x : Int32) : Value.int x = iv x.toInt := by unfold iv; rw [Int32.ofInt_toInt]
theorem iv_lt {x y : Int} (hx : inR x) (hy : inR y) : Int32.ofInt x < Int32.ofInt y ↔ x < y := by
  rw [Int32.lt_iff_toInt_lt, inR_toInt hx, inR_toInt hy]
theorem iv_le {x y : Int} (hx : inR x) (hy : inR y) : Int32.ofInt x ≤ Int32.ofInt y ↔ x ≤ y := by
  rw [Int32.le_iff_toInt_le, inR_toInt hx, inR_toInt hy]
theorem iv_eq {x y : Int} (hx : inR x) (hy : inR y) : Int32.ofInt x = Int32.ofInt y ↔ x = y := by
  rw [← Int32.toInt_inj, inR_toInt hx, inR_toInt hy]
theorem iv_inj {x y : Int} (hx : inR x) (hy : inR y) : iv x = iv y ↔ x = y := by
  unfold iv
  rw [Value.int.injEq]
  exact iv_eq hx hy
theorem iv_cat (z : Int) : (iv z).category = 1 := rfl
theorem iv_0 : Int32.ofInt 0 = 0 := by first | rfl | decide
theorem iv_add (x y : Int) : Int32.ofInt x + Int32.ofInt y = Int32.ofInt (x + y) := by
  first | exact (Int32.ofInt_add x y).symm | exact (Int32.ofInt_add).symm | simp [Int32.ofInt_add]
theorem iv_sub (x y : Int) : Int32.ofInt x - Int32.ofInt y = Int32.ofInt (x - y) := by
  first | exact (Int32.ofInt_sub x y).symm | exact (Int32.ofInt_sub).symm | simp [Int32.ofInt_sub]
theorem iv_mul (x y : Int) : Int32.ofInt x * Int32.ofInt y = Int32.ofInt (x * y) := by
  first | exact (Int32.ofInt_mul x y).symm | exact (Int32.ofInt_mul).symm | simp [Int32.ofInt_mul]
theorem iv_clamp {i : Nat} (h : i < 2147483648) : (Int32.ofInt (i : Int)).toNatClampNeg = i := by
  rw [Int32.ofInt_eq_ofNat, Int32.toNatClampNeg_ofNat_of_lt (by omega)]
theorem iv_nneg {x : Int} (hx : inR x) (h : 0 ≤ x) : ¬ Int32.ofInt x < 0 := by
  rw [← iv_0, iv_lt hx ⟨by omega, by omega⟩]; omega
theorem inR_nat {i : Nat} (h : i < 2147483648) : inR (i : Int) := ⟨by omega, by omega⟩
/-! ===== flat memory: per address a tag and a length, references, ints ===== -/
abbrev w_Sh : Type := (Nat → Nat × Nat) × (Nat → Nat → Option Nat) × Nat
abbrev w_Mm : Type := Nat → Nat → Int
/-- the launch, the classes' numbers and slots, the arrays' classes, the heap at the law's start, the script: its cell, its length, its ints -/
abbrev w_E : Type := Launch × va_G × (Nat → ClassId) × Heap × Nat × Nat × (Nat → Int32)
abbrev w_M : Type := MethodName × ByteArray × Nat × Option FieldType
abbrev w_cl : List vw_C := [(RX0, TX0, 3), (RX1, TX1, 3), (RX2, TX2, 3), (RX3, TX3, 1), (RX4, TX4, 13), (RX5, TX5, 3), (RX6, TX6, 7), (RX7, TX7, 3), (RX8, TX8, 6), (RX9, TX9, 34)]
def w_isR (d : String) : Bool := !(d == "I") && !(d == "Z")
def w_ref (ci k : Nat) : Bool := match w_cl[ci]? with
  | some q => w_isR (q.2.1 k).2.2.1
  | none => false
def w_fv (ci : Nat) (r : Nat → Option Nat) (z : Nat → Int) (k : Nat) : Value := if w_ref ci k = true then va_rf (r k) else iv (z k)
def w_at (E : w_E) (a : Nat) (t : Nat × Nat) (r : Nat → Option Nat) (z : Nat → Int) (H : Heap) : Prop :=
  if t.1 < 10 then ∃ q : vw_C, w_cl[t.1]? = some q ∧ t_OB a (E.2.1.1 t.1) q.2.2 (E.2.1.2 t.1) H (w_fv t.1 r z)
  else if t.1 < 12 then H[a]? = some (arrV (E.2.2.1 (t.1 - 10)) t.2 (fun j => iv (z j)))
  else H[a]? = some (arrV (E.2.2.1 (t.1 - 10)) t.2 (fun j => va_rf (r j)))
/-- the heap H holds the memory: shape G, ints I; below the first heap nothing has changed -/
def w_Rel (E : w_E) (G : w_Sh) (I : w_Mm) (H : Heap) : Prop :=
  H.size = G.2.2 ∧ E.2.2.2.1.size ≤ H.size ∧ (∀ a, (G.1 a).1 < 14 → w_at E a (G.1 a) (G.2.1 a) (I a) H) ∧ (∀ a k, inR (I a k)) ∧ (∀ a, (G.1 a).1 < 14 → E.2.2.2.1.size ≤ a) ∧ ∀ q, q < E.2.2.2.1.size → H[q]? = E.2.2.2.1[q]?
theorem w_at.kept {E : w_E} {a : Nat} {t : Nat × Nat} {r : Nat → Option Nat} {z : Nat → Int} {H H1 : Heap} (h : w_at E a t r z H) (hq : H1[a]? = H[a]?) : w_at E a t r z H1 := by
  unfold w_at at h ⊢
  split
  · rename_i h1
    rw [if_pos h1] at h
    obtain ⟨q, h2, h3⟩ := h
    exact ⟨q, h2, h3.kept hq⟩
  · rename_i h1
    rw [if_neg h1] at h
    split
    · rename_i h2
      rw [if_pos h2] at h
      rw [hq]; exact h
    · rename_i h2
      rw [if_neg h2] at h
      rw [hq]; exact h
theorem w_at.lt {E : w_E} {a : Nat} {t : Nat × Nat} {r : Nat → Option Nat} {z : Nat → Int} {H : Heap} (h : w_at E a t r z H) : a < H.size := by
  unfold w_at at h
  split at h
  · obtain ⟨q, h2, cell, h3, -⟩ := h
    exact (Array.getElem?_eq_some_iff.mp h3).1
  · split at h
    · exact (Array.getElem?_eq_some_iff.mp h).1
    · exact (Array.getElem?_eq_some_iff.mp h).1
/-- one cell is another one now -/
theorem w_Rel.set {E : w_E} {G G' : w_Sh} {I I' : w_Mm} {H H1 : Heap} {a : Nat} (h : w_Rel E G I H) (ha : (G.1 a).1 < 14) (hT : G'.1 = G.1) (ht : G'.2.2 = G.2.2) (hR : ∀ b, b ≠ a → G'.2.1 b = G.2.1 b) (hI : ∀ b, b ≠ a → I' b = I b) (hr : ∀ k, inR (I' a k))
    (hs : H1.size = H.size) (ho : ∀ q, q ≠ a → H1[q]? = H[q]?) (hat : w_at E a (G.1 a) (G'.2.1 a) (I' a) H1) : w_Rel E G' I' H1 := by
  obtain ⟨h1, h2, h3, h4, h5, h6⟩ := h
  refine ⟨by rw [hs, ht]; exact h1, by rw [hs]; exact h2, fun b hb => ?_, fun b k => ?_, fun b hb => ?_, fun q hq => ?_⟩
  · rw [hT] at hb ⊢
    by_cases e : b = a
    · subst e
      exact hat
    · rw [hR b e, hI b e]
      exact (h3 b hb).kept (ho b e)
  · by_cases e : b = a
    · subst e
      exact hr k
    · rw [hI b e]; exact h4 b k
  · rw [hT] at hb; exact h5 b hb
  · have := h5 a ha
    rw [ho q (by omega)]; exact h6 q hq
/-- a cell more, at the end -/
theorem w_Rel.new {E : w_E} {G G' : w_Sh} {I I' : w_Mm} {H H1 : Heap} {t : Nat × Nat} (h : w_Rel E G I H) (hT : ∀ b, b ≠ G.2.2 → G'.1 b = G.1 b) (hTa : G'.1 G.2.2 = t) (ht : G'.2.2 = G.2.2 + 1) (hR : ∀ b, b ≠ G.2.2 → G'.2.1 b = G.2.1 b) (hI : ∀ b, b ≠ G.2.2 → I' b = I b) (hr : ∀ k, inR (I' G.2.2 k))
    (hs : H1.size = H.size + 1) (ho : ∀ q, q < H.size → H1[q]? = H[q]?) (hat : w_at E G.2.2 t (G'.2.1 G.2.2) (I' G.2.2) H1) : w_Rel E G' I' H1 := by
  obtain ⟨h1, h2, h3, h4, h5, h6⟩ := h
  refine ⟨by rw [hs, ht, h1], by rw [hs]; omega, fun b hb => ?_, fun b k => ?_, fun b hb => ?_, fun q hq => ?_⟩
  · by_cases e : b = G.2.2
    · subst e
      rw [hTa]; exact hat
    · rw [hT b e] at hb ⊢
      rw [hR b e, hI b e]
      exact (h3 b hb).kept (ho b (h3 b hb).lt)
  · by_cases e : b = G.2.2
    · subst e
      exact hr k
    · rw [hI b e]; exact h4 b k
  · by_cases e : b = G.2.2
    · omega
    · rw [hT b e] at hb; exact h5 b hb
  · rw [ho q (by omega)]; exact h6 q hq
def w_up (I : w_Mm) (a k : Nat) (z : Int) : w_Mm := fun b j => if b = a ∧ j = k then z else I b j
def w_upR (r : Nat → Nat → Option Nat) (a k : Nat) (z : Option Nat) : Nat → Nat → Option Nat := fun b j => if b = a ∧ j = k then z else r b j
def w_upT (t : Nat → Nat × Nat) (a : Nat) (z : Nat × Nat) : Nat → Nat × Nat := fun b => if b = a then z else t b
theorem w_up_s {I : w_Mm} {a k : Nat} {z : Int} : w_up I a k z a k = z := by simp [w_up]
theorem w_up_n {I : w_Mm} {a k b j : Nat} {z : Int} (h : ¬ (b = a ∧ j = k)) : w_up I a k z b j = I b j := by simp [w_up, h]
theorem w_up_o {I : w_Mm} {a k b : Nat} {z : Int} (h : b ≠ a) : w_up I a k z b = I b := by
  funext j
  simp [w_up, h]
theorem w_upR_o {r : Nat → Nat → Option Nat} {a k b : Nat} {z : Option Nat} (h : b ≠ a) : w_upR r a k z b = r b := by
  funext j
  simp [w_upR, h]
/-! ===== the words that hold, and what is known of the tables ===== -/
def w_nest : Jvm.Cond → Bool
  | .fieldLinkNest _ _ _ _ _ _ => true
  | .methodLinkNest _ _ _ _ => true
  | _ => false
def w_good : List Jvm.Cond := lw_tbl.filter goodWord
def w_nw : List Jvm.Cond := lw_tbl.filter w_nest
def w_tys (ca : Nat → ClassId) : List (ClassId × FieldType) := [(ca 0, .int), (ca 1, .boolean), (ca 2, .object RX2), (ca 3, .object RX4)]
def w_K (E : w_E) (U : State) : Prop := va_K E.2.1 w_cl (w_tys E.2.2.1) U ∧ (∀ w ∈ w_nw, va_Nw w U) ∧ va_AO RX2 U ∧ va_AO RX4 U ∧ va_X E.2.2.2.2.1 E.2.2.2.2.2.1 E.2.2.2.2.2.2 U E.2.2.2.1 ∧ E.2.2.2.2.1 < E.2.2.2.1.size
theorem w_nest_on {w : Jvm.Cond} (h : w_nest w = true) : w.onTables = true := by
  cases w <;> first | rfl | exact absurd h (by simp [w_nest])
theorem w_K.warm {E : w_E} {s U : State} (hW : s.WarmedH U.vm) (h : w_K E s) : w_K E U := by
  refine ⟨va_K.moved hW.alike h.1, fun w hw => ?_, va_AO.moved hW.alike h.2.2.1, va_AO.moved hW.alike h.2.2.2.1, h.2.2.2.2.1.moved hW.alike, h.2.2.2.2.2⟩
  have hn : w_nest w = true := (List.mem_filter.mp hw).2
  have h1 := h.2.1 w hw
  cases w <;> first | exact va_Nw.warmF hW h1 | exact va_Nw.warmM hW h1 | exact absurd hn (by simp [w_nest])
theorem w_K.same {E : w_E} {u U : State} (e : u.vm = U.vm) (h : w_K E u) : w_K E U := by
  have ha : u.vm.Alike U.vm := by rw [e]; exact Vm.Alike.refl _
  exact ⟨va_K.moved ha h.1, fun w hw => va_Nw.same (w_nest_on (List.mem_filter.mp hw).2) e (h.2.1 w hw), va_AO.moved ha h.2.2.1, va_AO.moved ha h.2.2.2.1, h.2.2.2.2.1.moved ha, h.2.2.2.2.2⟩
def w_ws (M : w_M) : List Jvm.Cond := Jvm.Cond.code M.1 M.2.1 M.2.2.1 M.2.2.2 :: w_good
def w_rm (d mc ms : Nat) : Room := { frames := d, cells := mc, slots := ms, locals := 40 * d }
def w_Fix (E : w_E) (M : w_M) (p : Program) (s : State) (m : MethodId) (meth : Method) (c : Code) (args : Array Value) : Prop :=
  CallFix p m c M.2.1 M.2.2.1 s args (w_ws M) M.1.cls ∧ meth.sig.returnType = M.2.2.2 ∧ meth.locks = false ∧ w_K E s ∧ meth.name = M.1.name
/-! ===== locals ===== -/
def w_has (lz : Array Slot) (nL : Nat) (ls : List (Option Value)) : Prop := lz.size = nL ∧ lv_wf lz ∧ ∀ (i : Nat) (v : Value), ls[i]? = some (some v) → lz[i]? = some (.val v) ∧ v.category = 1
def w_lst (ls : List (Option Value)) : List (Nat × Value) := (List.range ls.length).filterMap (fun i => ((ls[i]?).getD none).map (fun v => (i, v)))
theorem w_lst_mem {ls : List (Option Value)} {q : Nat × Value} : q ∈ w_lst ls ↔ ls[q.1]? = some (some q.2) := by
  unfold w_lst
  rw [List.mem_filterMap]
  constructor
  · rintro ⟨i, -, h⟩
    cases hi : ls[i]? with
    | none => rw [hi] at h; simp at h
    | some x =>
      cases x with
      | none => rw [hi] at h; simp at h
      | some v =>
        rw [hi] at h
        simp at h
        subst h
        exact hi
  · intro h
    have hl := (List.getElem?_eq_some_iff.mp h).1
    exact ⟨q.1, List.mem_range.mpr hl, by rw [h]; rfl⟩
theorem w_has.lv {lz : Array Slot} {nL : Nat} {ls : List (Option Value)} (h : w_has lz nL ls) : lv_has lz nL (w_lst ls) := ⟨h.1, h.2.1, fun q hq => (h.2.2 q.1 q.2 (w_lst_mem.mp hq)).1⟩
theorem w_has.st {lz lz' : Array Slot} {nL i : Nat} {ls : List (Option Value)} {v : Value} (h : w_has lz nL ls) (h' : lv_has lz' nL ((i, v) :: (w_lst ls).filter (fun q => !(q.1 == i) && !(q.1 + 1 == i && q.2.category == 2)))) (hc : v.category = 1) : w_has lz' nL (ls.set i (some v)) := by
  refine ⟨h'.1, h'.2.1, fun j w hj => ?_⟩
  by_cases e : j = i
  · subst e
    have hl : j < ls.length := by
      have := (List.getElem?_eq_some_iff.mp hj).1
      simpa using this
    rw [List.getElem?_set_self hl] at hj
    cases hj
    exact ⟨h'.2.2 (j, v) List.mem_cons_self, hc⟩
  · rw [List.getElem?_set_ne (Ne.symm e)] at hj
    obtain ⟨h1, h2⟩ := h.2.2 j w hj
    refine ⟨h'.2.2 (j, w) (List.mem_cons_of_mem _ (List.mem_filter.mpr ⟨w_lst_mem.mpr hj, ?_⟩)), h2⟩
    simp [e, h2]
theorem w_args : ∀ (as : List Value) (i : Nat), as.all (fun v => v.category == 1) = true → ∀ (j : Nat) (v : Value), as[j]? = some v → (i + j, v) ∈ lv_args i as
  | [], _, _, j, v, h => by simp at h
  | a :: as, i, hc, j, v, h => by
    simp only [List.all_cons, Bool.and_eq_true, beq_iff_eq] at hc
    have h2 : ¬ a.category = 2 := by omega
    simp only [lv_args, h2, if_false]
    cases j with
    | zero =>
      simp at h
      subst h
      exact List.mem_cons_self
    | succ j =>
      simp at h
      have := w_args as (i + 1) hc.2 j v h
      rw [show i + (j + 1) = i + 1 + j by omega]
      exact List.mem_cons_of_mem _ this
def w_ent (as : List Value) (nL : Nat) : List (Option Value) := as.map some ++ List.replicate (nL - as.length) none
theorem w_has_ent {lz : Array Slot} {nL : Nat} {as : List Value} (hc : as.all (fun v => v.category == 1) = true) (h : lv_has lz nL (lv_args 0 as)) : w_has lz nL (w_ent as nL) := by
  refine ⟨h.1, h.2.1, fun j v hj => ?_⟩
  have hj2 : as[j]? = some v := by
    unfold w_ent at hj
    by_cases hl : j < (as.map some).length
    · rw [List.getElem?_append_left hl, List.getElem?_map] at hj
      cases ha : as[j]? with
      | none => rw [ha] at hj; simp at hj
      | some x => rw [ha] at hj; simp at hj; rw [hj]
    · rw [List.getElem?_append_right (by omega), List.getElem?_replicate] at hj
      split at hj <;> simp at hj
  refine ⟨by simpa using h.2.2 (0 + j, v) (w_args as 0 hc j v hj2), ?_⟩
  have := List.all_eq_true.mp hc v (List.mem_of_getElem? hj2)
  simpa using this
/-! ===== the judgement: from this place of the method's code with this memory, locals and stack the method comes to its end Z ===== -/
def w_V (E : w_E) (M : w_M) (R : Room) (Z : List Frame → Array Value → State → State → Prop) (G : w_Sh) (I : w_Mm) (k n pc : Nat) (ls : List (Option Value)) (st : List Value) : Prop :=
  ∀ (p : Program) (e : Env) (s : State) (m : MethodId) (args : Array Value) (below : List Frame) (meth : Method) (c : Code) (H : Heap) (locs : List Loc) (lz : Array Slot),
    w_Fix E M p s m meth c args → w_Rel E G I H → (∀ q ∈ locs, E.2.2.2.1.size ≤ q.base) → w_has lz M.2.2.1 ls →
    W p E.1 e R s m args below meth c H locs k n (Z below args s) (F0 m pc lz st)
def w_Pc (E : w_E) (as : List Value) (G : w_Sh) (I : w_Mm) : Array Value → State → Prop := fun v U => v = as.toArray ∧ w_Rel E G I U.heap ∧ w_K E U
def w_Qc (E : w_E) (Post : Option Value → w_Sh → w_Mm → Prop) : Array Value → State → Outcome → State → Prop := fun _ _ o t => ∃ (v : Option Value) (G' : w_Sh) (I' : w_Mm), o = .returned v ∧ w_Rel E G' I' t.heap ∧ Post v G' I'
def w_Z (E : w_E) (mc ms : Nat) (Post : Option Value → w_Sh → w_Mm → Prop) : List Frame → Array Value → State → State → Prop := fun below args s => MQ below (w_Qc E Post) args s mc ms (fun q => E.2.2.2.1.size ≤ q)
/-- a method's contract: called with 'as' in the memory G, I it returns, and Post holds of its answer and the memory then; it makes at most mc cells of ms slots -/
def w_Ct (E : w_E) (M : w_M) (d : Nat) (as : List Value) (G : w_Sh) (I : w_Mm) (mc ms : Nat) (Post : Option Value → w_Sh → w_Mm → Prop) : Prop :=
  Met E.1 M.1 (w_ws M) (w_rm d mc ms) (w_Pc E as G I) (w_Qc E Post) mc ms (fun q => E.2.2.2.1.size ≤ q)
theorem w_Ct.of {E : w_E} {M : w_M} {d : Nat} {as : List Value} {G : w_Sh} {I : w_Mm} {mc ms : Nat} {Post : Option Value → w_Sh → w_Mm → Prop} {ls : List (Option Value)} (hy : plainName M.1.cls = true) (hlen : (lg_sl as).length ≤ M.2.2.1) (hc : as.all (fun v => v.category == 1) = true) (hls : w_ent as M.2.2.1 = ls)
    (hV : (∀ a k, inR (I a k)) → w_V E M (w_rm d mc ms) (w_Z E mc ms Post) G I 0 0 0 ls []) : w_Ct E M d as G I mc ms Post := by
  refine Met.ofW (cc := M.2.1) (maxL := M.2.2.1) (ret := M.2.2.2) hy rfl ?_
  intro p e s m args below meth c s₁ B hml hv
  obtain ⟨rfl, hR, hK⟩ := hv
  have hl := lv_entry as (n := M.2.2.1) hlen
  rw [lg_entry_eq]
  subst hls
  exact hV hR.2.2.2.1 p e s m as.toArray below meth c s.heap [] _ ⟨⟨B.exec, B.bytes, hml, findClass_of_methodNamed B.named, atoms_spec (ws := w_ws M) B.pre⟩, B.returns, B.notSynchronized, hK, (name_of_methodNamed B.named B.method).1⟩ hR (fun q h => absurd h List.not_mem_nil) (w_has_ent hc hl)
end
section
/-! ===== rules: one instruction each ===== -/
def Dc (M : w_M) (pc : Nat) (ins : Instr) (len pc' : Nat) : Prop := decode M.2.1 pc = .ok (ins, len) ∧ pc + len = pc'
def Dj (M : w_M) (pc : Nat) (ins : Instr) (len pc' : Nat) (off : Int) (tgt : Nat) : Prop := decode M.2.1 pc = .ok (ins, len) ∧ pc + len = pc' ∧ (pc : Int) + off = (tgt : Int)
section Rules
variable {E : w_E} {M : w_M} {R : Room} {Z : List Frame → Array Value → State → State → Prop} {G : w_Sh} {I : w_Mm} {k n pc pc' tgt : Nat} {off : Int} {ls ls' : List (Option Value)} {st : List Value}
theorem v_iconst {z : Int} (hd : Dc M pc (.iconst z) 1 pc') (kk : w_V E M R Z G I k n pc' ls (iv z :: st)) : w_V E M R Z G I k n pc ls st := by
  obtain ⟨hd, rfl⟩ := hd
  intro p e s m args below meth c H locs lz F hR hL hl
  exact lv_iconst F.1.1 F.1.2.1 hd rfl (kk p e s m args below meth c H locs lz F hR hL hl)
theorem v_bipush {z : Int} (hd : Dc M pc (.bipush z) 2 pc') (hv : (Int8.ofInt z).toInt32 = Int32.ofInt z) (kk : w_V E M R Z G I k n pc' ls (iv z :: st)) : w_V E M R Z G I k n pc ls st := by
  obtain ⟨hd, rfl⟩ := hd
  intro p e s m args below meth c H locs lz F hR hL hl
  exact lv_bipush F.1.1 F.1.2.1 hd hv (kk p e s m args below meth c H locs lz F hR hL hl)
theorem v_sipush {z : Int} (hd : Dc M pc (.sipush z) 3 pc') (hv : (Int16.ofInt z).toInt32 = Int32.ofInt z) (kk : w_V E M R Z G I k n pc' ls (iv z :: st)) : w_V E M R Z G I k n pc ls st := by
  obtain ⟨hd, rfl⟩ := hd
  intro p e s m args below meth c H locs lz F hR hL hl
  exact lv_sipush F.1.1 F.1.2.1 hd hv (kk p e s m args below meth c H locs lz F hR hL hl)
theorem v_ldc {z : Int} {idx : Nat} (hw : Jvm.Cond.constant M.1.cls idx (Int32.ofInt z) ∈ w_good) (hd : Dc M pc (.ldc idx) 2 pc') (kk : w_V E M R Z G I k n pc' ls (iv z :: st)) : w_V E M R Z G I k n pc ls st := by
  obtain ⟨hd, rfl⟩ := hd
  intro p e s m args below meth c H locs lz F hR hL hl
  exact lv_ldc F.1.1 F.1.2.1 F.1.2.2.2.1 (F.1.2.2.2.2 _ (List.mem_cons_of_mem _ hw)) hd (kk p e s m args below meth c H locs lz F hR hL hl)
theorem v_iload_n {q : Fin 4} {z : Int} (hd : Dc M pc (.iload_n q) 1 pc') (hv : ls[(q : Nat)]? = some (some (iv z))) (kk : w_V E M R Z G I k n pc' ls (iv z :: st)) : w_V E M R Z G I k n pc ls st := by
  obtain ⟨hd, rfl⟩ := hd
  intro p e s m args below meth c H locs lz F hR hL hl
  exact lv_iload_n F.1.1 F.1.2.1 hd rfl (hl.2.2 _ _ hv).1 (kk p e s m args below meth c H locs lz F hR hL hl)
theorem v_iload {q : Nat} {z : Int} (hd : Dc M pc (.iload q) 2 pc') (hv : ls[q]? = some (some (iv z))) (kk : w_V E M R Z G I k n pc' ls (iv z :: st)) : w_V E M R Z G I k n pc ls st := by
  obtain ⟨hd, rfl⟩ := hd
  intro p e s m args below meth c H locs lz F hR hL hl
  exact lv_iload F.1.1 F.1.2.1 hd (hl.2.2 _ _ hv).1 (kk p e s m args below meth c H locs lz F hR hL hl)
theorem v_aload_n {q : Fin 4} {a : Nat} (hd : Dc M pc (.aload_n q) 1 pc') (hv : ls[(q : Nat)]? = some (some (.ref a))) (kk : w_V E M R Z G I k n pc' ls (.ref a :: st)) : w_V E M R Z G I k n pc ls st := by
  obtain ⟨hd, rfl⟩ := hd
  intro p e s m args below meth c H locs lz F hR hL hl
  exact lv_aload_n F.1.1 F.1.2.1 hd rfl (hl.2.2 _ _ hv).1 (kk p e s m args below meth c H locs lz F hR hL hl)
theorem v_aload_nN {q : Fin 4} (hd : Dc M pc (.aload_n q) 1 pc') (hv : ls[(q : Nat)]? = some (some .null)) (kk : w_V E M R Z G I k n pc' ls (.null :: st)) : w_V E M R Z G I k n pc ls st := by
  obtain ⟨hd, rfl⟩ := hd
  intro p e s m args below meth c H locs lz F hR hL hl
  exact lv_aload_nN F.1.1 F.1.2.1 hd rfl (hl.2.2 _ _ hv).1 (kk p e s m args below meth c H locs lz F hR hL hl)
theorem v_aload {q : Nat} {a : Nat} (hd : Dc M pc (.aload q) 2 pc') (hv : ls[q]? = some (some (.ref a))) (kk : w_V E M R Z G I k n pc' ls (.ref a :: st)) : w_V E M R Z G I k n pc ls st := by
  obtain ⟨hd, rfl⟩ := hd
  intro p e s m args below meth c H locs lz F hR hL hl
  exact lv_aload F.1.1 F.1.2.1 hd (hl.2.2 _ _ hv).1 (kk p e s m args below meth c H locs lz F hR hL hl)
theorem v_aloadN {q : Nat} (hd : Dc M pc (.aload q) 2 pc') (hv : ls[q]? = some (some .null)) (kk : w_V E M R Z G I k n pc' ls (.null :: st)) : w_V E M R Z G I k n pc ls st := by
  obtain ⟨hd, rfl⟩ := hd
  intro p e s m args below meth c H locs lz F hR hL hl
  exact lv_aloadN F.1.1 F.1.2.1 hd (hl.2.2 _ _ hv).1 (kk p e s m args below meth c H locs lz F hR hL hl)
theorem v_istore_n {q : Fin 4} {z : Int} (hd : Dc M pc (.istore_n q) 1 pc') (hn : (q : Nat) < M.2.2.1) (hs : ls.set (q : Nat) (some (iv z)) = ls') (kk : w_V E M R Z G I k n pc' ls' st) : w_V E M R Z G I k n pc ls (iv z :: st) := by
  obtain ⟨hd, rfl⟩ := hd
  subst hs
  intro p e s m args below meth c H locs lz F hR hL hl
  exact lv_istore_n F.1.1 F.1.2.1 hd rfl hl.lv hn rfl (fun lz' h' => kk p e s m args below meth c H locs lz' F hR hL (hl.st h' rfl))
theorem v_istore {q : Nat} {z : Int} (hd : Dc M pc (.istore q) 2 pc') (hn : q < M.2.2.1) (hs : ls.set q (some (iv z)) = ls') (kk : w_V E M R Z G I k n pc' ls' st) : w_V E M R Z G I k n pc ls (iv z :: st) := by
  obtain ⟨hd, rfl⟩ := hd
  subst hs
  intro p e s m args below meth c H locs lz F hR hL hl
  exact lv_istore F.1.1 F.1.2.1 hd hl.lv hn rfl (fun lz' h' => kk p e s m args below meth c H locs lz' F hR hL (hl.st h' rfl))
theorem v_astore_n {q : Fin 4} {a : Nat} (hd : Dc M pc (.astore_n q) 1 pc') (hn : (q : Nat) < M.2.2.1) (hs : ls.set (q : Nat) (some (.ref a)) = ls') (kk : w_V E M R Z G I k n pc' ls' st) : w_V E M R Z G I k n pc ls (.ref a :: st) := by
  obtain ⟨hd, rfl⟩ := hd
  subst hs
  intro p e s m args below meth c H locs lz F hR hL hl
  exact lv_astore_n F.1.1 F.1.2.1 hd rfl hl.lv hn rfl (fun lz' h' => kk p e s m args below meth c H locs lz' F hR hL (hl.st h' rfl))
theorem v_astore_nN {q : Fin 4} (hd : Dc M pc (.astore_n q) 1 pc') (hn : (q : Nat) < M.2.2.1) (hs : ls.set (q : Nat) (some .null) = ls') (kk : w_V E M R Z G I k n pc' ls' st) : w_V E M R Z G I k n pc ls (.null :: st) := by
  obtain ⟨hd, rfl⟩ := hd
  subst hs
  intro p e s m args below meth c H locs lz F hR hL hl
  exact lv_astore_nN F.1.1 F.1.2.1 hd rfl hl.lv hn rfl (fun lz' h' => kk p e s m args below meth c H locs lz' F hR hL (hl.st h' rfl))
theorem v_astore {q : Nat} {a : Nat} (hd : Dc M pc (.astore q) 2 pc') (hn : q < M.2.2.1) (hs : ls.set q (some (.ref a)) = ls') (kk : w_V E M R Z G I k n pc' ls' st) : w_V E M R Z G I k n pc ls (.ref a :: st) := by
  obtain ⟨hd, rfl⟩ := hd
  subst hs
  intro p e s m args below meth c H locs lz F hR hL hl
  exact lv_astore F.1.1 F.1.2.1 hd hl.lv hn rfl (fun lz' h' => kk p e s m args below meth c H locs lz' F hR hL (hl.st h' rfl))
theorem v_astoreN {q : Nat} (hd : Dc M pc (.astore q) 2 pc') (hn : q < M.2.2.1) (hs : ls.set q (some .null) = ls') (kk : w_V E M R Z G I k n pc' ls' st) : w_V E M R Z G I k n pc ls (.null :: st) := by
  obtain ⟨hd, rfl⟩ := hd
  subst hs
  intro p e s m args below meth c H locs lz F hR hL hl
  exact lv_astoreN F.1.1 F.1.2.1 hd hl.lv hn rfl (fun lz' h' => kk p e s m args below meth c H locs lz' F hR hL (hl.st h' rfl))
theorem v_iinc {q : Nat} {x y z : Int} (hd : Dc M pc (.iinc q x) 3 pc') (hv : ls[q]? = some (some (iv y))) (hn : q < M.2.2.1) (hz : y + x = z) (hs : ls.set q (some (iv z)) = ls') (kk : w_V E M R Z G I k n pc' ls' st) : w_V E M R Z G I k n pc ls st := by
  obtain ⟨hd, rfl⟩ := hd
  subst hs
  subst hz
  intro p e s m args below meth c H locs lz F hR hL hl
  obtain ⟨j, hj⟩ := List.getElem?_of_mem (w_lst_mem (q := (q, iv y)).mpr hv)
  exact lv_iinc F.1.1 F.1.2.1 hd hl.lv hj (iv_add y x) hn rfl (fun lz' h' => kk p e s m args below meth c H locs lz' F hR hL (hl.st h' rfl))
theorem v_iadd {x y : Int} (hd : Dc M pc .iadd 1 pc') (kk : w_V E M R Z G I k n pc' ls (iv (x + y) :: st)) : w_V E M R Z G I k n pc ls (iv y :: iv x :: st) := by
  obtain ⟨hd, rfl⟩ := hd
  intro p e s m args below meth c H locs lz F hR hL hl
  refine lv_iadd F.1.1 F.1.2.1 hd ?_
  rw [iv_add]
  exact kk p e s m args below meth c H locs lz F hR hL hl
theorem v_isub {x y : Int} (hd : Dc M pc .isub 1 pc') (kk : w_V E M R Z G I k n pc' ls (iv (x - y) :: st)) : w_V E M R Z G I k n pc ls (iv y :: iv x :: st) := by
  obtain ⟨hd, rfl⟩ := hd
  intro p e s m args below meth c H locs lz F hR hL hl
  refine lv_isub F.1.1 F.1.2.1 hd ?_
  rw [iv_sub]
  exact kk p e s m args below meth c H locs lz F hR hL hl
theorem v_imul {x y : Int} (hd : Dc M pc .imul 1 pc') (kk : w_V E M R Z G I k n pc' ls (iv (x * y) :: st)) : w_V E M R Z G I k n pc ls (iv y :: iv x :: st) := by
  obtain ⟨hd, rfl⟩ := hd
  intro p e s m args below meth c H locs lz F hR hL hl
  refine lv_imul F.1.1 F.1.2.1 hd ?_
  rw [iv_mul]
  exact kk p e s m args below meth c H locs lz F hR hL hl
theorem v_iand {x y z : Int} (hz : Int32.ofInt x &&& Int32.ofInt y = Int32.ofInt z) (hd : Dc M pc .iand 1 pc') (kk : w_V E M R Z G I k n pc' ls (iv z :: st)) : w_V E M R Z G I k n pc ls (iv y :: iv x :: st) := by
  obtain ⟨hd, rfl⟩ := hd
  intro p e s m args below meth c H locs lz F hR hL hl
  refine lv_iand F.1.1 F.1.2.1 hd ?_
  rw [hz]
  exact kk p e s m args below meth c H locs lz F hR hL hl
theorem v_ior {x y z : Int} (hz : Int32.ofInt x ||| Int32.ofInt y = Int32.ofInt z) (hd : Dc M pc .ior 1 pc') (kk : w_V E M R Z G I k n pc' ls (iv z :: st)) : w_V E M R Z G I k n pc ls (iv y :: iv x :: st) := by
  obtain ⟨hd, rfl⟩ := hd
  intro p e s m args below meth c H locs lz F hR hL hl
  refine lv_ior F.1.1 F.1.2.1 hd ?_
  rw [hz]
  exact kk p e s m args below meth c H locs lz F hR hL hl
theorem v_ishl {x y z : Int} (hz : Int32.ofInt x <<< (Int32.ofInt y &&& 31) = Int32.ofInt z) (hd : Dc M pc .ishl 1 pc') (kk : w_V E M R Z G I k n pc' ls (iv z :: st)) : w_V E M R Z G I k n pc ls (iv y :: iv x :: st) := by
  obtain ⟨hd, rfl⟩ := hd
  intro p e s m args below meth c H locs lz F hR hL hl
  refine lv_ishl F.1.1 F.1.2.1 hd ?_
  rw [hz]
  exact kk p e s m args below meth c H locs lz F hR hL hl
theorem v_ishr {x y z : Int} (hz : Int32.ofInt x >>> (Int32.ofInt y &&& 31) = Int32.ofInt z) (hd : Dc M pc .ishr 1 pc') (kk : w_V E M R Z G I k n pc' ls (iv z :: st)) : w_V E M R Z G I k n pc ls (iv y :: iv x :: st) := by
  obtain ⟨hd, rfl⟩ := hd
  intro p e s m args below meth c H locs lz F hR hL hl
  refine lv_ishr F.1.1 F.1.2.1 hd ?_
  rw [hz]
  exact kk p e s m args below meth c H locs lz F hR hL hl
theorem v_dup {v : Value} (hd : Dc M pc .dup 1 pc') (hc : v.category = 1) (kk : w_V E M R Z G I k n pc' ls (v :: v :: st)) : w_V E M R Z G I k n pc ls (v :: st) := by
  obtain ⟨hd, rfl⟩ := hd
  intro p e s m args below meth c H locs lz F hR hL hl
  exact lv_dup F.1.1 F.1.2.1 hd hc (kk p e s m args below meth c H locs lz F hR hL hl)
theorem v_dup2 {v w : Value} (hd : Dc M pc .dup2 1 pc') (hv : v.category = 1) (hw : w.category = 1) (kk : w_V E M R Z G I k n pc' ls (v :: w :: v :: w :: st)) : w_V E M R Z G I k n pc ls (v :: w :: st) := by
  obtain ⟨hd, rfl⟩ := hd
  intro p e s m args below meth c H locs lz F hR hL hl
  exact lv_dup2_11 F.1.1 F.1.2.1 hd hv hw (kk p e s m args below meth c H locs lz F hR hL hl)
theorem v_null (hd : Dc M pc .aconst_null 1 pc') (kk : w_V E M R Z G I k n pc' ls (.null :: st)) : w_V E M R Z G I k n pc ls st := by
  obtain ⟨hd, rfl⟩ := hd
  intro p e s m args below meth c H locs lz F hR hL hl
  exact lv_null F.1.1 F.1.2.1 hd (kk p e s m args below meth c H locs lz F hR hL hl)
theorem v_goto (hd : Dj M pc (.goto off) 3 pc' off tgt) (kk : w_V E M R Z G I k n tgt ls st) : w_V E M R Z G I k n pc ls st := by
  obtain ⟨hd, rfl, ht⟩ := hd
  intro p e s m args below meth c H locs lz F hR hL hl
  exact lv_goto F.1.1 F.1.2.1 hd ht (kk p e s m args below meth c H locs lz F hR hL hl)
theorem v_ifnull {a : Nat} (hd : Dj M pc (.ifnull off) 3 pc' off tgt) (kk : w_V E M R Z G I k n pc' ls st) : w_V E M R Z G I k n pc ls (.ref a :: st) := by
  obtain ⟨hd, rfl, ht⟩ := hd
  intro p e s m args below meth c H locs lz F hR hL hl
  exact lv_ifnull F.1.1 F.1.2.1 hd (kk p e s m args below meth c H locs lz F hR hL hl)
theorem v_ifnullN (hd : Dj M pc (.ifnull off) 3 pc' off tgt) (kk : w_V E M R Z G I k n tgt ls st) : w_V E M R Z G I k n pc ls (.null :: st) := by
  obtain ⟨hd, rfl, ht⟩ := hd
  intro p e s m args below meth c H locs lz F hR hL hl
  exact lv_ifnullN F.1.1 F.1.2.1 hd ht (kk p e s m args below meth c H locs lz F hR hL hl)
theorem v_ifnonnull {a : Nat} (hd : Dj M pc (.ifnonnull off) 3 pc' off tgt) (kk : w_V E M R Z G I k n tgt ls st) : w_V E M R Z G I k n pc ls (.ref a :: st) := by
  obtain ⟨hd, rfl, ht⟩ := hd
  intro p e s m args below meth c H locs lz F hR hL hl
  exact lv_ifnonnull F.1.1 F.1.2.1 hd ht (kk p e s m args below meth c H locs lz F hR hL hl)
theorem v_ifnonnullN (hd : Dj M pc (.ifnonnull off) 3 pc' off tgt) (kk : w_V E M R Z G I k n pc' ls st) : w_V E M R Z G I k n pc ls (.null :: st) := by
  obtain ⟨hd, rfl, ht⟩ := hd
  intro p e s m args below meth c H locs lz F hR hL hl
  exact lv_ifnonnullN F.1.1 F.1.2.1 hd (kk p e s m args below meth c H locs lz F hR hL hl)
theorem v_if_eq {x : Int} (hx : inR x) (hd : Dj M pc (.ifCond .eq off) 3 pc' off tgt) (kt : x = 0 → w_V E M R Z G I k n tgt ls st) (kf : ¬ x = 0 → w_V E M R Z G I k n pc' ls st) : w_V E M R Z G I k n pc ls (iv x :: st) := by
  obtain ⟨hd, rfl, ht⟩ := hd
  intro p e s m args below meth c H locs lz F hR hL hl
  have h0 : inR 0 := ⟨by omega, by omega⟩
  refine lv_if_eq F.1.1 F.1.2.1 hd ht (fun hc => kt ?_ p e s m args below meth c H locs lz F hR hL hl) (fun hc => kf ?_ p e s m args below meth c H locs lz F hR hL hl)
  · simp only [← iv_0, iv_eq hx h0, iv_lt hx h0, iv_le hx h0, iv_lt h0 hx, iv_le h0 hx, ne_eq, gt_iff_lt, ge_iff_le] at hc
    omega
  · simp only [← iv_0, iv_eq hx h0, iv_lt hx h0, iv_le hx h0, iv_lt h0 hx, iv_le h0 hx, ne_eq, gt_iff_lt, ge_iff_le] at hc
    omega
theorem v_icmp_eq {x y : Int} (hx : inR x) (hy : inR y) (hd : Dj M pc (.if_icmp .eq off) 3 pc' off tgt) (kt : x = y → w_V E M R Z G I k n tgt ls st) (kf : ¬ x = y → w_V E M R Z G I k n pc' ls st) : w_V E M R Z G I k n pc ls (iv y :: iv x :: st) := by
  obtain ⟨hd, rfl, ht⟩ := hd
  intro p e s m args below meth c H locs lz F hR hL hl
  refine lv_icmp_eq F.1.1 F.1.2.1 hd ht (fun hc => kt ?_ p e s m args below meth c H locs lz F hR hL hl) (fun hc => kf ?_ p e s m args below meth c H locs lz F hR hL hl)
  · simp only [iv_eq hx hy, iv_lt hx hy, iv_le hx hy, iv_lt hy hx, iv_le hy hx, ne_eq, gt_iff_lt, ge_iff_le] at hc
    omega
  · simp only [iv_eq hx hy, iv_lt hx hy, iv_le hx hy, iv_lt hy hx, iv_le hy hx, ne_eq, gt_iff_lt, ge_iff_le] at hc
    omega
theorem v_if_ne {x : Int} (hx : inR x) (hd : Dj M pc (.ifCond .ne off) 3 pc' off tgt) (kt : ¬ x = 0 → w_V E M R Z G I k n tgt ls st) (kf : x = 0 → w_V E M R Z G I k n pc' ls st) : w_V E M R Z G I k n pc ls (iv x :: st) := by
  obtain ⟨hd, rfl, ht⟩ := hd
  intro p e s m args below meth c H locs lz F hR hL hl
  have h0 : inR 0 := ⟨by omega, by omega⟩
  refine lv_if_ne F.1.1 F.1.2.1 hd ht (fun hc => kt ?_ p e s m args below meth c H locs lz F hR hL hl) (fun hc => kf ?_ p e s m args below meth c H locs lz F hR hL hl)
  · simp only [← iv_0, iv_eq hx h0, iv_lt hx h0, iv_le hx h0, iv_lt h0 hx, iv_le h0 hx, ne_eq, gt_iff_lt, ge_iff_le] at hc
    omega
  · simp only [← iv_0, iv_eq hx h0, iv_lt hx h0, iv_le hx h0, iv_lt h0 hx, iv_le h0 hx, ne_eq, gt_iff_lt, ge_iff_le] at hc
    omega
theorem v_icmp_ne {x y : Int} (hx : inR x) (hy : inR y) (hd : Dj M pc (.if_icmp .ne off) 3 pc' off tgt) (kt : ¬ x = y → w_V E M R Z G I k n tgt ls st) (kf : x = y → w_V E M R Z G I k n pc' ls st) : w_V E M R Z G I k n pc ls (iv y :: iv x :: st) := by
  obtain ⟨hd, rfl, ht⟩ := hd
  intro p e s m args below meth c H locs lz F hR hL hl
  refine lv_icmp_ne F.1.1 F.1.2.1 hd ht (fun hc => kt ?_ p e s m args below meth c H locs lz F hR hL hl) (fun hc => kf ?_ p e s m args below meth c H locs lz F hR hL hl)
  · simp only [iv_eq hx hy, iv_lt hx hy, iv_le hx hy, iv_lt hy hx, iv_le hy hx, ne_eq, gt_iff_lt, ge_iff_le] at hc
    omega
  · simp only [iv_eq hx hy, iv_lt hx hy, iv_le hx hy, iv_lt hy hx, iv_le hy hx, ne_eq, gt_iff_lt, ge_iff_le] at hc
    omega
theorem v_if_lt {x : Int} (hx : inR x) (hd : Dj M pc (.ifCond .lt off) 3 pc' off tgt) (kt : x < 0 → w_V E M R Z G I k n tgt ls st) (kf : 0 ≤ x → w_V E M R Z G I k n pc' ls st) : w_V E M R Z G I k n pc ls (iv x :: st) := by
  obtain ⟨hd, rfl, ht⟩ := hd
  intro p e s m args below meth c H locs lz F hR hL hl
  have h0 : inR 0 := ⟨by omega, by omega⟩
  refine lv_if_lt F.1.1 F.1.2.1 hd ht (fun hc => kt ?_ p e s m args below meth c H locs lz F hR hL hl) (fun hc => kf ?_ p e s m args below meth c H locs lz F hR hL hl)
  · simp only [← iv_0, iv_eq hx h0, iv_lt hx h0, iv_le hx h0, iv_lt h0 hx, iv_le h0 hx, ne_eq, gt_iff_lt, ge_iff_le] at hc
    omega
  · simp only [← iv_0, iv_eq hx h0, iv_lt hx h0, iv_le hx h0, iv_lt h0 hx, iv_le h0 hx, ne_eq, gt_iff_lt, ge_iff_le] at hc
    omega
theorem v_icmp_lt {x y : Int} (hx : inR x) (hy : inR y) (hd : Dj M pc (.if_icmp .lt off) 3 pc' off tgt) (kt : x < y → w_V E M R Z G I k n tgt ls st) (kf : y ≤ x → w_V E M R Z G I k n pc' ls st) : w_V E M R Z G I k n pc ls (iv y :: iv x :: st) := by
  obtain ⟨hd, rfl, ht⟩ := hd
  intro p e s m args below meth c H locs lz F hR hL hl
  refine lv_icmp_lt F.1.1 F.1.2.1 hd ht (fun hc => kt ?_ p e s m args below meth c H locs lz F hR hL hl) (fun hc => kf ?_ p e s m args below meth c H locs lz F hR hL hl)
  · simp only [iv_eq hx hy, iv_lt hx hy, iv_le hx hy, iv_lt hy hx, iv_le hy hx, ne_eq, gt_iff_lt, ge_iff_le] at hc
    omega
  · simp only [iv_eq hx hy, iv_lt hx hy, iv_le hx hy, iv_lt hy hx, iv_le hy hx, ne_eq, gt_iff_lt, ge_iff_le] at hc
    omega
theorem v_if_ge {x : Int} (hx : inR x) (hd : Dj M pc (.ifCond .ge off) 3 pc' off tgt) (kt : 0 ≤ x → w_V E M R Z G I k n tgt ls st) (kf : x < 0 → w_V E M R Z G I k n pc' ls st) : w_V E M R Z G I k n pc ls (iv x :: st) := by
  obtain ⟨hd, rfl, ht⟩ := hd
  intro p e s m args below meth c H locs lz F hR hL hl
  have h0 : inR 0 := ⟨by omega, by omega⟩
  refine lv_if_ge F.1.1 F.1.2.1 hd ht (fun hc => kt ?_ p e s m args below meth c H locs lz F hR hL hl) (fun hc => kf ?_ p e s m args below meth c H locs lz F hR hL hl)
  · simp only [← iv_0, iv_eq hx h0, iv_lt hx h0, iv_le hx h0, iv_lt h0 hx, iv_le h0 hx, ne_eq, gt_iff_lt, ge_iff_le] at hc
    omega
  · simp only [← iv_0, iv_eq hx h0, iv_lt hx h0, iv_le hx h0, iv_lt h0 hx, iv_le h0 hx, ne_eq, gt_iff_lt, ge_iff_le] at hc
    omega
theorem v_icmp_ge {x y : Int} (hx : inR x) (hy : inR y) (hd : Dj M pc (.if_icmp .ge off) 3 pc' off tgt) (kt : y ≤ x → w_V E M R Z G I k n tgt ls st) (kf : x < y → w_V E M R Z G I k n pc' ls st) : w_V E M R Z G I k n pc ls (iv y :: iv x :: st) := by
  obtain ⟨hd, rfl, ht⟩ := hd
  intro p e s m args below meth c H locs lz F hR hL hl
  refine lv_icmp_ge F.1.1 F.1.2.1 hd ht (fun hc => kt ?_ p e s m args below meth c H locs lz F hR hL hl) (fun hc => kf ?_ p e s m args below meth c H locs lz F hR hL hl)
  · simp only [iv_eq hx hy, iv_lt hx hy, iv_le hx hy, iv_lt hy hx, iv_le hy hx, ne_eq, gt_iff_lt, ge_iff_le] at hc
    omega
  · simp only [iv_eq hx hy, iv_lt hx hy, iv_le hx hy, iv_lt hy hx, iv_le hy hx, ne_eq, gt_iff_lt, ge_iff_le] at hc
    omega
theorem v_if_gt {x : Int} (hx : inR x) (hd : Dj M pc (.ifCond .gt off) 3 pc' off tgt) (kt : 0 < x → w_V E M R Z G I k n tgt ls st) (kf : x ≤ 0 → w_V E M R Z G I k n pc' ls st) : w_V E M R Z G I k n pc ls (iv x :: st) := by
  obtain ⟨hd, rfl, ht⟩ := hd
  intro p e s m args below meth c H locs lz F hR hL hl
  have h0 : inR 0 := ⟨by omega, by omega⟩
  refine lv_if_gt F.1.1 F.1.2.1 hd ht (fun hc => kt ?_ p e s m args below meth c H locs lz F hR hL hl) (fun hc => kf ?_ p e s m args below meth c H locs lz F hR hL hl)
  · simp only [← iv_0, iv_eq hx h0, iv_lt hx h0, iv_le hx h0, iv_lt h0 hx, iv_le h0 hx, ne_eq, gt_iff_lt, ge_iff_le] at hc
    omega
  · simp only [← iv_0, iv_eq hx h0, iv_lt hx h0, iv_le hx h0, iv_lt h0 hx, iv_le h0 hx, ne_eq, gt_iff_lt, ge_iff_le] at hc
    omega
theorem v_icmp_gt {x y : Int} (hx : inR x) (hy : inR y) (hd : Dj M pc (.if_icmp .gt off) 3 pc' off tgt) (kt : y < x → w_V E M R Z G I k n tgt ls st) (kf : x ≤ y → w_V E M R Z G I k n pc' ls st) : w_V E M R Z G I k n pc ls (iv y :: iv x :: st) := by
  obtain ⟨hd, rfl, ht⟩ := hd
  intro p e s m args below meth c H locs lz F hR hL hl
  refine lv_icmp_gt F.1.1 F.1.2.1 hd ht (fun hc => kt ?_ p e s m args below meth c H locs lz F hR hL hl) (fun hc => kf ?_ p e s m args below meth c H locs lz F hR hL hl)
  · simp only [iv_eq hx hy, iv_lt hx hy, iv_le hx hy, iv_lt hy hx, iv_le hy hx, ne_eq, gt_iff_lt, ge_iff_le] at hc
    omega
  · simp only [iv_eq hx hy, iv_lt hx hy, iv_le hx hy, iv_lt hy hx, iv_le hy hx, ne_eq, gt_iff_lt, ge_iff_le] at hc
    omega
theorem v_if_le {x : Int} (hx : inR x) (hd : Dj M pc (.ifCond .le off) 3 pc' off tgt) (kt : x ≤ 0 → w_V E M R Z G I k n tgt ls st) (kf : 0 < x → w_V E M R Z G I k n pc' ls st) : w_V E M R Z G I k n pc ls (iv x :: st) := by
  obtain ⟨hd, rfl, ht⟩ := hd
  intro p e s m args below meth c H locs lz F hR hL hl
  have h0 : inR 0 := ⟨by omega, by omega⟩
  refine lv_if_le F.1.1 F.1.2.1 hd ht (fun hc => kt ?_ p e s m args below meth c H locs lz F hR hL hl) (fun hc => kf ?_ p e s m args below meth c H locs lz F hR hL hl)
  · simp only [← iv_0, iv_eq hx h0, iv_lt hx h0, iv_le hx h0, iv_lt h0 hx, iv_le h0 hx, ne_eq, gt_iff_lt, ge_iff_le] at hc
    omega
  · simp only [← iv_0, iv_eq hx h0, iv_lt hx h0, iv_le hx h0, iv_lt h0 hx, iv_le h0 hx, ne_eq, gt_iff_lt, ge_iff_le] at hc
    omega
theorem v_icmp_le {x y : Int} (hx : inR x) (hy : inR y) (hd : Dj M pc (.if_icmp .le off) 3 pc' off tgt) (kt : x ≤ y → w_V E M R Z G I k n tgt ls st) (kf : y < x → w_V E M R Z G I k n pc' ls st) : w_V E M R Z G I k n pc ls (iv y :: iv x :: st) := by
  obtain ⟨hd, rfl, ht⟩ := hd
  intro p e s m args below meth c H locs lz F hR hL hl
  refine lv_icmp_le F.1.1 F.1.2.1 hd ht (fun hc => kt ?_ p e s m args below meth c H locs lz F hR hL hl) (fun hc => kf ?_ p e s m args below meth c H locs lz F hR hL hl)
  · simp only [iv_eq hx hy, iv_lt hx hy, iv_le hx hy, iv_lt hy hx, iv_le hy hx, ne_eq, gt_iff_lt, ge_iff_le] at hc
    omega
  · simp only [iv_eq hx hy, iv_lt hx hy, iv_le hx hy, iv_lt hy hx, iv_le hy hx, ne_eq, gt_iff_lt, ge_iff_le] at hc
    omega
end Rules
end
section
/-! ===== what the tables say of each kind of object ===== -/
theorem lay_0 : ∀ w ∈ wsX00, w ∈ w_good := by decide +kernel
theorem lay_1 : ∀ w ∈ wsX10, w ∈ w_good := by decide +kernel
theorem lay_2 : ∀ w ∈ wsX20, w ∈ w_good := by decide +kernel
theorem lay_3 : ∀ w ∈ wsX30, w ∈ w_good := by decide +kernel
theorem lay_4 : ∀ w ∈ wsX40, w ∈ w_good := by decide +kernel
theorem lay_5 : ∀ w ∈ wsX50, w ∈ w_good := by decide +kernel
theorem lay_6 : ∀ w ∈ wsX60, w ∈ w_good := by decide +kernel
theorem lay_7 : ∀ w ∈ wsX70, w ∈ w_good := by decide +kernel
theorem lay_8 : ∀ w ∈ wsX80, w ∈ w_good := by decide +kernel
theorem lay_9 : ∀ w ∈ wsX90, w ∈ w_good := by decide +kernel
def w_bornOK (ci N : Nat) (ty : Nat → FieldType) : Bool := (List.range N).all fun j => decide (defaultValue (ty j) = w_fv ci (fun _ => none) (fun _ => 0) j)
theorem w_born_of {ci N : Nat} {ty : Nat → FieldType} (h : w_bornOK ci N ty = true) : ∀ j, j < N → defaultValue (ty j) = w_fv ci (fun _ => none) (fun _ => 0) j := fun j hj => by
  have := List.all_eq_true.mp h j (List.mem_range.mpr hj)
  simpa using this
def w_layP (ci : Nat) (q : vw_C) : Prop := (∀ w ∈ u_ws q.1 q.2.1 q.2.2, w ∈ w_good) ∧ ∃ ty : Nat → FieldType, (∀ k, k < q.2.2 → parseFieldDescriptor (q.2.1 k).2.2.1 = some (ty k)) ∧ (∀ a, a < q.2.2 → ∀ b, b < q.2.2 → a ≠ b → (q.2.1 a).2.1 ≠ (q.2.1 b).2.1) ∧ ∀ j, j < q.2.2 → defaultValue (ty j) = w_fv ci (fun _ => none) (fun _ => 0) j
theorem w_lay {ci : Nat} {q : vw_C} (h : w_cl[ci]? = some q) : w_layP ci q := by
  match ci, h with
  | 0, h => cases h; exact ⟨lay_0, tyX0, tyX0_ok, nmX0, w_born_of (by decide +kernel)⟩
  | 1, h => cases h; exact ⟨lay_1, tyX1, tyX1_ok, nmX1, w_born_of (by decide +kernel)⟩
  | 2, h => cases h; exact ⟨lay_2, tyX2, tyX2_ok, nmX2, w_born_of (by decide +kernel)⟩
  | 3, h => cases h; exact ⟨lay_3, tyX3, tyX3_ok, nmX3, w_born_of (by decide +kernel)⟩
  | 4, h => cases h; exact ⟨lay_4, tyX4, tyX4_ok, nmX4, w_born_of (by decide +kernel)⟩
  | 5, h => cases h; exact ⟨lay_5, tyX5, tyX5_ok, nmX5, w_born_of (by decide +kernel)⟩
  | 6, h => cases h; exact ⟨lay_6, tyX6, tyX6_ok, nmX6, w_born_of (by decide +kernel)⟩
  | 7, h => cases h; exact ⟨lay_7, tyX7, tyX7_ok, nmX7, w_born_of (by decide +kernel)⟩
  | 8, h => cases h; exact ⟨lay_8, tyX8, tyX8_ok, nmX8, w_born_of (by decide +kernel)⟩
  | 9, h => cases h; exact ⟨lay_9, tyX9, tyX9_ok, nmX9, w_born_of (by decide +kernel)⟩
  | n + 10, h => simp [w_cl] at h
theorem w_ci {ci : Nat} {q : vw_C} (h : w_cl[ci]? = some q) : ci < 10 := (List.getElem?_eq_some_iff.mp h).1
theorem w_gd {w : Jvm.Cond} (i : Nat) (h : tables_1[i]? = some w) (g : goodWord w = true) : w ∈ w_good :=
  List.mem_filter.mpr ⟨List.mem_append_right _ (List.mem_of_getElem? h), g⟩
theorem w_gs {w : Jvm.Cond} (i : Nat) (h : (k2_sels lw_privs)[i]? = some w) (g : goodWord w = true) : w ∈ w_good :=
  List.mem_filter.mpr ⟨List.mem_append_left _ (List.mem_of_getElem? h), g⟩
theorem w_gn {w : Jvm.Cond} (i : Nat) (h : tables_1[i]? = some w) (g : w_nest w = true) : w ∈ w_nw :=
  List.mem_filter.mpr ⟨List.mem_append_right _ (List.mem_of_getElem? h), g⟩
/-! ===== fields ===== -/
/-- entry idx of the pool of C is field k of the objects of number ci -/
def w_fl (C : String) (idx ci k : Nat) : Prop := ∃ q, w_cl[ci]? = some q ∧ k < q.2.2 ∧ (Jvm.Cond.fieldLink C idx (q.2.1 k).1 (q.2.1 k).2.1 (q.2.1 k).2.2.1 ∈ w_good ∨ ∃ host, Jvm.Cond.fieldLinkNest C idx (q.2.1 k).1 (q.2.1 k).2.1 (q.2.1 k).2.2.1 host ∈ w_nw)
/-- .. and may be written there: its type; final: in the constructor of its own class alone -/
def w_fw (ci k : Nat) (fin : Bool) (ty : FieldType) : Prop := ∃ q, w_cl[ci]? = some q ∧ k < q.2.2 ∧ (q.2.1 k).2.2.2 = fin ∧ parseFieldDescriptor (q.2.1 k).2.2.1 = some ty ∧ (q.2.1 k).1 = q.1
section Heap
variable {E : w_E} {M : w_M} {R : Room} {Z : List Frame → Array Value → State → State → Prop} {G G' : w_Sh} {I I' : w_Mm} {k n pc pc' tgt : Nat} {off : Int} {ls ls' : List (Option Value)} {st : List Value}
theorem w_obj {ci a : Nat} {q : vw_C} {H : Heap} (hR : w_Rel E G I H) (hc : w_cl[ci]? = some q) (hT : G.1 a = (ci, 0)) : t_OB a (E.2.1.1 ci) q.2.2 (E.2.1.2 ci) H (w_fv ci (G.2.1 a) (I a)) := by
  have hci := w_ci hc
  have hat := hR.2.2.1 a (by rw [hT]; show ci < 14; omega)
  rw [hT] at hat
  unfold w_at at hat
  rw [if_pos (show ((ci, 0) : Nat × Nat).1 < 10 from hci)] at hat
  obtain ⟨q', hc', hob⟩ := hat
  cases hc.symm.trans hc'
  exact hob
theorem v_getV {idx ci f a : Nat} (hf : w_fl M.1.cls idx ci f) (hT : G.1 a = (ci, 0)) (hd : Dc M pc (.getfield idx) 3 pc') (kk : w_V E M R Z G I k n pc' ls (w_fv ci (G.2.1 a) (I a) f :: st)) : w_V E M R Z G I k n pc ls (.ref a :: st) := by
  obtain ⟨hd, rfl⟩ := hd
  intro p e s m args below meth c H locs lz F hR hL hl
  obtain ⟨⟨C, T, N⟩, hc, hk, hlink⟩ := hf
  have hob := w_obj hR hc hT
  obtain ⟨hlay, -⟩ := w_lay hc
  have hP : va_P E.2.1 w_cl [(a, .inr (ci, (List.range N).map (w_fv ci (G.2.1 a) (I a))))] H := by
    intro j x hx
    cases j with
    | zero =>
      cases hx
      exact ⟨(C, T, N), hc, hob.to (fun j hj => by simp [vp_V, List.getD_eq_getElem?_getD, hj])⟩
    | succ j => simp at hx
  have hv : ((List.range N).map (w_fv ci (G.2.1 a) (I a)))[f]? = some (w_fv ci (G.2.1 a) (I a) f) := by
    have hk' : f < N := hk
    simp [hk']
  rcases hlink with h | ⟨host, h⟩
  · exact va_get (D := E.2.1) (cl := w_cl) (tys := w_tys E.2.2.1) (T := T) (C := C) (N := N) F.1.1 F.1.2.1 F.1.2.2.2.2 (fun w hw => List.mem_cons_of_mem _ (hlay w hw)) F.1.2.2.2.1 F.2.2.2.1.1 hP 0 rfl hc f hk (F.1.2.2.2.2 _ (List.mem_cons_of_mem _ h)) (fun _ h9 => h9) hv hd (kk p e s m args below meth c H locs lz F hR hL hl)
  · exact va_getN (D := E.2.1) (cl := w_cl) (tys := w_tys E.2.2.1) (T := T) (C := C) (N := N) (host := host) F.1.1 F.1.2.1 F.1.2.2.2.2 (fun w hw => List.mem_cons_of_mem _ (hlay w hw)) F.1.2.2.2.1 F.2.2.2.1.1 hP 0 rfl hc f hk (va_Nw.use rfl (F.2.2.2.1.2.1 _ h)) (fun _ h9 => h9) hv hd (kk p e s m args below meth c H locs lz F hR hL hl)
theorem v_getI {idx ci f a : Nat} (hf : w_fl M.1.cls idx ci f) (hr : w_ref ci f = false) (hT : G.1 a = (ci, 0)) (hd : Dc M pc (.getfield idx) 3 pc') (kk : w_V E M R Z G I k n pc' ls (iv (I a f) :: st)) : w_V E M R Z G I k n pc ls (.ref a :: st) := by
  refine v_getV hf hT hd ?_
  rw [show w_fv ci (G.2.1 a) (I a) f = iv (I a f) by simp [w_fv, hr]]
  exact kk
theorem v_getR {idx ci f a b : Nat} (hf : w_fl M.1.cls idx ci f) (hr : w_ref ci f = true) (hT : G.1 a = (ci, 0)) (hb : G.2.1 a f = some b) (hd : Dc M pc (.getfield idx) 3 pc') (kk : w_V E M R Z G I k n pc' ls (.ref b :: st)) : w_V E M R Z G I k n pc ls (.ref a :: st) := by
  refine v_getV hf hT hd ?_
  rw [show w_fv ci (G.2.1 a) (I a) f = .ref b by simp [w_fv, hr, hb, va_rf]]
  exact kk
theorem v_putV {idx ci f a : Nat} {fin : Bool} {ty : FieldType} {v : Value} (hf : w_fl M.1.cls idx ci f) (hw : w_fw ci f fin ty) (hfin : fin = true → M.1.name = "<init>" ∧ ∀ q, w_cl[ci]? = some q → q.1 = M.1.cls) (hT : G.1 a = (ci, 0)) (hnw : narrow ty v = v) (hft : fits ty v = true)
    (hG : G'.1 = G.1) (ht : G'.2.2 = G.2.2) (hGo : ∀ b, b ≠ a → G'.2.1 b = G.2.1 b) (hIo : ∀ b, b ≠ a → I' b = I b) (hin : ∀ H, w_Rel E G I H → ∀ j, inR (I' a j)) (hval : ∀ j, updV (w_fv ci (G.2.1 a) (I a)) f v j = w_fv ci (G'.2.1 a) (I' a) j)
    (hd : Dc M pc (.putfield idx) 3 pc') (kk : w_V E M R Z G' I' k n pc' ls st) : w_V E M R Z G I k n pc ls (v :: .ref a :: st) := by
  obtain ⟨hd, rfl⟩ := hd
  intro p e s m args below meth c H locs lz F hR hL hl
  obtain ⟨⟨C, T, N⟩, hc, hk, hlink⟩ := hf
  obtain ⟨q', hc', -, hfi, hpd, hdc⟩ := hw
  cases hc.symm.trans hc'
  obtain ⟨cell, q1, q2, q3, q4⟩ := w_obj hR hc hT
  obtain ⟨hlay, ty0, hty, hnm, -⟩ := w_lay hc
  have hin2 : ∀ w ∈ u_ws C T N, w ∈ w_ws M := fun w hw => List.mem_cons_of_mem _ (hlay w hw)
  have hts := F.1.2.2.2.2
  have hown := F.1.2.2.2.1
  have hK := F.2.2.2.1.1
  have hap := va_apart (own := M.1.cls) hts hin2 ty0 hty hnm hK hc
  obtain ⟨hS, hfc, kC, hkC, hkind⟩ := hK.1 ci _ hc
  obtain ⟨cf, kf, fi, fd, hi, hsl⟩ := hS f hk
  have hlayw := hts _ (hin2 _ (u_in_lay hk))
  have hst := (u_facts hfc hkC (u_lays hts hin2 hk) hi).1
  have hTa : (G.1 a).1 < 14 := by rw [hT]; show ci < 14; have := w_ci hc; omega
  have fin2 : ∀ H' : Heap, H'[a]? = some (cell.setSlot fd.slot v) → H'.size = H.size → (∀ q, q ≠ a → H'[q]? = H[q]?) → W p E.1 e R s m args below meth c H' (locs ++ [⟨a, fd.slot⟩]) k n (Z below args s) (F0 m (pc + 3) lz st) := by
    intro H' e1 e2 e3
    rw [hsl] at e1
    refine kk p e s m args below meth c H' _ lz F (hR.set hTa hG ht hGo hIo (hin H hR) e2 e3 ?_) (fun q hq => ?_) hl
    · rw [hT]
      unfold w_at
      rw [if_pos (show ((ci, 0) : Nat × Nat).1 < 10 from w_ci hc)]
      exact ⟨_, hc, t_OB.to (V := updV (w_fv ci (G.2.1 a) (I a)) f v) ⟨_, e1, q2, q3, t_set q4 hap hk v⟩ (fun j _ => hval j)⟩
    · rcases List.mem_append.mp hq with h | h
      · exact hL q h
      · rw [List.mem_singleton.mp h]; exact hR.2.2.2.2.1 a hTa
  cases fin with
  | false =>
    unfold u_lay at hlayw
    rw [if_neg (by rw [hfi]; decide)] at hlayw
    have h6 := u_store hfc hkC hkind hlayw hi hpd hnw hft
    rcases hlink with h | ⟨host, h⟩
    · exact W.putK F.1.1 F.1.2.1 (f := fd) ⟨hown, hts _ (List.mem_cons_of_mem _ h), ⟨_, _, _, hi⟩, hst⟩ (by rw [q2]; exact h6) q1 q3 (by rw [hsl]; exact k2_hasslot (q4 f hk)) rfl rfl hd fin2
    · exact va_WputK F.1.1 F.1.2.1 (f := fd) hown (va_Nw.use rfl (F.2.2.2.1.2.1 _ h)) hi hst (by rw [q2]; exact h6) q1 q3 (by rw [hsl]; exact k2_hasslot (q4 f hk)) rfl rfl hd fin2
  | true =>
    obtain ⟨hinit, hcl⟩ := hfin rfl
    have hcl := hcl _ hc
    unfold u_lay at hlayw
    rw [if_pos hfi] at hlayw
    have hcf : m.cls = cf := by
      obtain ⟨_, _, c', _, _, _, -, -, hf', -, -, -, hown2, -⟩ := Cond.laysFinal_spec hlayw
      have e1 : c' = cf := by have := hi.symm.trans hf'; simp at this; exact this.1.symm
      rw [hdc, hcl] at hown2
      rw [← e1]; exact Option.some.inj (hown.symm.trans hown2)
    have h6 := u_fits hfc hkC hkind (Or.inr hlayw) hi hpd hnw hft
    have hin3 : meth.name = "<init>" := by rw [F.2.2.2.2]; exact hinit
    rcases hlink with h | ⟨host, h⟩
    · exact W.putFinK F.1.1 F.1.2.1 hown (hts _ (List.mem_cons_of_mem _ h)) hi hst hcf hin3 (by rw [q2]; exact h6) q1 q3 (by rw [hsl]; exact k2_hasslot (q4 f hk)) rfl rfl hd fin2
    · have ha : a < H.size := (Array.getElem?_eq_some_iff.mp q1).1
      refine va_Wputf F.1.1 F.1.2.1 hown (va_Nw.use rfl (F.2.2.2.1.2.1 _ h)) hi hst (Or.inr ⟨hcf, hin3⟩) q1 (by rw [q3]; exact fun h => by cases h) (by rw [hsl]; exact k2_hasslot (q4 f hk)) h6.1 (by rw [q2, q3]; exact h6.2) rfl rfl hd ?_
      refine fin2 _ ?_ ?_ ?_
      · simp [Array.getElem?_setIfInBounds, ha]
      · simp
      · intro q hq
        simp [Array.getElem?_setIfInBounds, Ne.symm hq]
theorem w_fv_upI {ci f a : Nat} {z : Int} (hr : w_ref ci f = false) (j : Nat) : updV (w_fv ci (G.2.1 a) (I a)) f (iv z) j = w_fv ci (G.2.1 a) (w_up I a f z a) j := by
  by_cases e : j = f
  · subst e
    simp [updV, w_fv, hr, w_up]
  · simp [updV, w_fv, w_up, e]
theorem w_fv_upR {ci f a b : Nat} (hr : w_ref ci f = true) (j : Nat) : updV (w_fv ci (G.2.1 a) (I a)) f (.ref b) j = w_fv ci (w_upR G.2.1 a f (some b) a) (I a) j := by
  by_cases e : j = f
  · subst e
    simp [updV, w_fv, hr, w_upR, va_rf]
  · simp [updV, w_fv, w_upR, e]
theorem w_up_in {a f : Nat} {z : Int} {H : Heap} (hz : inR z) (hR : w_Rel E G I H) (j : Nat) : inR (w_up I a f z a j) := by
  by_cases e : j = f
  · simp [w_up, e, hz]
  · simp [w_up, e, hR.2.2.2.1 a j]
theorem v_putI {idx ci f a : Nat} {z : Int} (hf : w_fl M.1.cls idx ci f) (hw : w_fw ci f false .int) (hr : w_ref ci f = false) (hz : inR z) (hT : G.1 a = (ci, 0)) (hd : Dc M pc (.putfield idx) 3 pc') (kk : w_V E M R Z G (w_up I a f z) k n pc' ls st) : w_V E M R Z G I k n pc ls (iv z :: .ref a :: st) :=
  v_putV hf hw (fun h => by cases h) hT rfl rfl rfl rfl (fun _ _ => rfl) (fun _ h => w_up_o h) (fun _ h => w_up_in hz h) (w_fv_upI hr) hd kk
theorem v_putIF {idx ci f a : Nat} {z : Int} (hf : w_fl M.1.cls idx ci f) (hw : w_fw ci f true .int) (hr : w_ref ci f = false) (hi : M.1.name = "<init>") (hc : ∀ q, w_cl[ci]? = some q → q.1 = M.1.cls) (hz : inR z) (hT : G.1 a = (ci, 0)) (hd : Dc M pc (.putfield idx) 3 pc') (kk : w_V E M R Z G (w_up I a f z) k n pc' ls st) : w_V E M R Z G I k n pc ls (iv z :: .ref a :: st) :=
  v_putV hf hw (fun _ => ⟨hi, hc⟩) hT rfl rfl rfl rfl (fun _ _ => rfl) (fun _ h => w_up_o h) (fun _ h => w_up_in hz h) (w_fv_upI hr) hd kk
theorem w_nar {z : Int} (hz : z = 0 ∨ z = 1) : narrow .boolean (iv z) = iv z ∧ fits .boolean (iv z) = true := by
  rcases hz with rfl | rfl
  · exact ⟨by decide, by decide⟩
  · exact ⟨by decide, by decide⟩
theorem v_putZ {idx ci f a : Nat} {z : Int} (hf : w_fl M.1.cls idx ci f) (hw : w_fw ci f false .boolean) (hr : w_ref ci f = false) (hz : z = 0 ∨ z = 1) (hT : G.1 a = (ci, 0)) (hd : Dc M pc (.putfield idx) 3 pc') (kk : w_V E M R Z G (w_up I a f z) k n pc' ls st) : w_V E M R Z G I k n pc ls (iv z :: .ref a :: st) :=
  v_putV hf hw (fun h => by cases h) hT (w_nar hz).1 (w_nar hz).2 rfl rfl (fun _ _ => rfl) (fun _ h => w_up_o h) (fun _ h => w_up_in ⟨by omega, by omega⟩ h) (w_fv_upI hr) hd kk
theorem v_putR {idx ci f a b : Nat} {ty : FieldType} (hf : w_fl M.1.cls idx ci f) (hw : w_fw ci f true ty) (hr : w_ref ci f = true) (hi : M.1.name = "<init>") (hc : ∀ q, w_cl[ci]? = some q → q.1 = M.1.cls) (hty : narrow ty (.ref b) = .ref b ∧ fits ty (.ref b) = true) (hT : G.1 a = (ci, 0)) (hd : Dc M pc (.putfield idx) 3 pc') (kk : w_V E M R Z (G.1, w_upR G.2.1 a f (some b), G.2.2) I k n pc' ls st) : w_V E M R Z G I k n pc ls (.ref b :: .ref a :: st) :=
  v_putV (G' := (G.1, w_upR G.2.1 a f (some b), G.2.2)) (I' := I) hf hw (fun _ => ⟨hi, hc⟩) hT hty.1 hty.2 rfl rfl (fun _ h => w_upR_o h) (fun _ _ => rfl) (fun _ h j => h.2.2.2.1 a j) (w_fv_upR hr) hd kk
/-! ===== rows ===== -/
theorem w_row {a t len : Nat} {H : Heap} (hR : w_Rel E G I H) (ht : 10 ≤ t ∧ t < 12) (hT : G.1 a = (t, len)) : H[a]? = some (arrV (E.2.2.1 (t - 10)) len (fun j => iv (I a j))) := by
  have hat := hR.2.2.1 a (by rw [hT]; show t < 14; omega)
  rw [hT] at hat
  unfold w_at at hat
  rw [if_neg (show ¬ ((t, len) : Nat × Nat).1 < 10 from by show ¬ t < 10; omega), if_pos (show ((t, len) : Nat × Nat).1 < 12 from ht.2)] at hat
  exact hat
theorem w_rowR {a t len : Nat} {H : Heap} (hR : w_Rel E G I H) (ht : 12 ≤ t ∧ t < 14) (hT : G.1 a = (t, len)) : H[a]? = some (arrV (E.2.2.1 (t - 10)) len (fun j => va_rf (G.2.1 a j))) := by
  have hat := hR.2.2.1 a (by rw [hT]; show t < 14; omega)
  rw [hT] at hat
  unfold w_at at hat
  rw [if_neg (show ¬ ((t, len) : Nat × Nat).1 < 10 from by show ¬ t < 10; omega), if_neg (show ¬ ((t, len) : Nat × Nat).1 < 12 from by show ¬ t < 12; omega)] at hat
  exact hat
theorem w_ix {x : Int} {i len : Nat} (hx : x = (i : Int)) (hi : i < len) (hl : len < 2147483648) : ¬ (Int32.ofInt x < 0 ∨ len ≤ (Int32.ofInt x).toNatClampNeg) ∧ (Int32.ofInt x).toNatClampNeg = i := by
  subst hx
  have h1 : (Int32.ofInt (i : Int)).toNatClampNeg = i := iv_clamp (by omega)
  refine ⟨fun h => ?_, h1⟩
  rcases h with h | h
  · exact iv_nneg (inR_nat (by omega)) (by omega) h
  · rw [h1] at h; omega
theorem v_iald {a len i : Nat} {x : Int} (hT : G.1 a = (10, len)) (hx : x = (i : Int)) (hi : i < len) (hlen : len < 2147483648) (hd : Dc M pc .iaload 1 pc') (kk : w_V E M R Z G I k n pc' ls (iv (I a i) :: st)) : w_V E M R Z G I k n pc ls (iv x :: .ref a :: st) := by
  obtain ⟨hd, rfl⟩ := hd
  intro p e s m args below meth c H locs lz F hR hL hl
  obtain ⟨h1, h2⟩ := w_ix hx hi hlen
  exact W.iald (v := iv (I a i)) F.1.1 F.1.2.1 (w_row hR ⟨by omega, by omega⟩ hT) ((F.2.2.2.1.1.2 0 _ rfl).1 len (fun j => iv (I a j))) (fun q => by cases q) (by rw [arrV_size]; exact h1) (by rw [h2, arrV_read _ _ hi]) rfl rfl hd (kk p e s m args below meth c H locs lz F hR hL hl)
theorem v_zald {a len i : Nat} {x : Int} (hT : G.1 a = (11, len)) (hx : x = (i : Int)) (hi : i < len) (hlen : len < 2147483648) (hd : Dc M pc .baload 1 pc') (kk : w_V E M R Z G I k n pc' ls (iv (I a i) :: st)) : w_V E M R Z G I k n pc ls (iv x :: .ref a :: st) := by
  obtain ⟨hd, rfl⟩ := hd
  intro p e s m args below meth c H locs lz F hR hL hl
  obtain ⟨h1, h2⟩ := w_ix hx hi hlen
  exact W.zald (v := iv (I a i)) F.1.1 F.1.2.1 (w_row hR ⟨by omega, by omega⟩ hT) ((F.2.2.2.1.1.2 1 _ rfl).1 len (fun j => iv (I a j))) (fun q => by cases q) (by rw [arrV_size]; exact h1) (by rw [h2, arrV_read _ _ hi]) rfl rfl hd (kk p e s m args below meth c H locs lz F hR hL hl)
theorem w_row_set {a t len i : Nat} {z : Int} {H H' : Heap} (hR : w_Rel E G I H) (ht : 10 ≤ t ∧ t < 12) (hT : G.1 a = (t, len)) (hz : inR z) (e1 : H'[a]? = some ((arrV (E.2.2.1 (t - 10)) len (fun j => iv (I a j))).setSlot i (iv z))) (e2 : H'.size = H.size) (e3 : ∀ q, q ≠ a → H'[q]? = H[q]?) : w_Rel E G (w_up I a i z) H' := by
  refine hR.set (a := a) (by rw [hT]; show t < 14; omega) rfl rfl (fun _ _ => rfl) (fun _ h => w_up_o h) (fun j => w_up_in hz hR j) e2 e3 ?_
  rw [hT]
  unfold w_at
  rw [if_neg (show ¬ ((t, len) : Nat × Nat).1 < 10 from by show ¬ t < 10; omega), if_pos (show ((t, len) : Nat × Nat).1 < 12 from ht.2)]
  rw [e1, arrV_store]
  congr 2
  funext j
  by_cases e : j = i
  · subst e
    simp [updV, w_up]
  · simp [updV, w_up, e]
theorem v_iast {a len i : Nat} {x z : Int} (hT : G.1 a = (10, len)) (hx : x = (i : Int)) (hi : i < len) (hlen : len < 2147483648) (hz : inR z) (hd : Dc M pc .iastore 1 pc') (kk : w_V E M R Z G (w_up I a i z) k n pc' ls st) : w_V E M R Z G I k n pc ls (iv z :: iv x :: .ref a :: st) := by
  obtain ⟨hd, rfl⟩ := hd
  intro p e s m args below meth c H locs lz F hR hL hl
  obtain ⟨h1, h2⟩ := w_ix hx hi hlen
  refine W.iast F.1.1 F.1.2.1 (w_row hR ⟨by omega, by omega⟩ hT) ((F.2.2.2.1.1.2 0 _ rfl).1 len (fun j => iv (I a j))) (fun q => by cases q) (by rw [arrV_size]; exact h1) rfl rfl hd fun H' e1 e2 e3 => ?_
  rw [h2] at e1
  refine kk p e s m args below meth c H' _ lz F (w_row_set hR ⟨by omega, by omega⟩ hT hz e1 e2 e3) (fun q hq => ?_) hl
  rcases List.mem_append.mp hq with h | h
  · exact hL q h
  · rw [List.mem_singleton.mp h]; exact hR.2.2.2.2.1 a (by rw [hT]; simp)
theorem v_zast {a len i : Nat} {x z : Int} (hT : G.1 a = (11, len)) (hx : x = (i : Int)) (hi : i < len) (hlen : len < 2147483648) (hz : z = 0 ∨ z = 1) (hd : Dc M pc .bastore 1 pc') (kk : w_V E M R Z G (w_up I a i z) k n pc' ls st) : w_V E M R Z G I k n pc ls (iv z :: iv x :: .ref a :: st) := by
  obtain ⟨hd, rfl⟩ := hd
  intro p e s m args below meth c H locs lz F hR hL hl
  obtain ⟨h1, h2⟩ := w_ix hx hi hlen
  refine W.zast F.1.1 F.1.2.1 (w_row hR ⟨by omega, by omega⟩ hT) ((F.2.2.2.1.1.2 1 _ rfl).1 len (fun j => iv (I a j))) (fun q => by cases q) (by rw [arrV_size]; exact h1) rfl rfl hd fun H' e1 e2 e3 => ?_
  rw [h2, show narrow .boolean (Value.int (Int32.ofInt z)) = iv z from (w_nar hz).1] at e1
  refine kk p e s m args below meth c H' _ lz F (w_row_set hR ⟨by omega, by omega⟩ hT ⟨by omega, by omega⟩ e1 e2 e3) (fun q hq => ?_) hl
  rcases List.mem_append.mp hq with h | h
  · exact hL q h
  · rw [List.mem_singleton.mp h]; exact hR.2.2.2.2.1 a (by rw [hT]; simp)
theorem v_aaldV {a len i t : Nat} {x : Int} (C : String) (htt : 2 ≤ t ∧ t < 4) (hty : (w_tys E.2.2.1)[t]? = some (E.2.2.1 t, .object C)) (hT : G.1 a = (t + 10, len)) (hx : x = (i : Int)) (hi : i < len) (hlen : len < 2147483648) (hd : Dc M pc .aaload 1 pc') (kk : w_V E M R Z G I k n pc' ls (va_rf (G.2.1 a i) :: st)) : w_V E M R Z G I k n pc ls (iv x :: .ref a :: st) := by
  obtain ⟨hd, rfl⟩ := hd
  intro p e s m args below meth c H locs lz F hR hL hl
  obtain ⟨h1, h2⟩ := w_ix hx hi hlen
  have hc := w_rowR hR (t := t + 10) ⟨by omega, by omega⟩ hT
  rw [Nat.add_sub_cancel] at hc
  exact W.aald (v := va_rf (G.2.1 a i)) (ty := .object C) F.1.1 F.1.2.1 hc ((F.2.2.2.1.1.2 t _ hty).1 len (fun j => va_rf (G.2.1 a j))) rfl (fun q => by cases q) (by rw [arrV_size]; exact h1) (by rw [h2, arrV_read _ _ hi]) rfl rfl hd (kk p e s m args below meth c H locs lz F hR hL hl)
theorem v_aaldF {a len i b : Nat} {x : Int} (hT : G.1 a = (12, len)) (hb : G.2.1 a i = some b) (hx : x = (i : Int)) (hi : i < len) (hlen : len < 2147483648) (hd : Dc M pc .aaload 1 pc') (kk : w_V E M R Z G I k n pc' ls (.ref b :: st)) : w_V E M R Z G I k n pc ls (iv x :: .ref a :: st) := by
  refine v_aaldV (t := 2) RX2 ⟨by omega, by omega⟩ rfl hT hx hi hlen hd ?_
  rw [hb]
  exact kk
theorem v_aaldM {a len i b : Nat} {x : Int} (hT : G.1 a = (13, len)) (hb : G.2.1 a i = some b) (hx : x = (i : Int)) (hi : i < len) (hlen : len < 2147483648) (hd : Dc M pc .aaload 1 pc') (kk : w_V E M R Z G I k n pc' ls (.ref b :: st)) : w_V E M R Z G I k n pc ls (iv x :: .ref a :: st) := by
  refine v_aaldV (t := 3) RX4 ⟨by omega, by omega⟩ rfl hT hx hi hlen hd ?_
  rw [hb]
  exact kk
/-- a reference into a row of references: t is the row's kind (2 of RX2, 3 of RX4), ci the object's -/
theorem v_aast {a b len i t ci : Nat} {x : Int} {r : vw_C} (htt : 2 ≤ t ∧ t < 4) (hc : w_cl[ci]? = some r) (hty : (w_tys E.2.2.1)[t]? = some (E.2.2.1 t, .object r.1)) (hT : G.1 a = (t + 10, len)) (hb : G.1 b = (ci, 0)) (hx : x = (i : Int)) (hi : i < len) (hlen : len < 2147483648) (hd : Dc M pc .aastore 1 pc') (kk : w_V E M R Z (G.1, w_upR G.2.1 a i (some b), G.2.2) I k n pc' ls st) : w_V E M R Z G I k n pc ls (.ref b :: iv x :: .ref a :: st) := by
  obtain ⟨hd, rfl⟩ := hd
  intro p e s m args below meth c H locs lz F hR hL hl
  obtain ⟨h1, h2⟩ := w_ix hx hi hlen
  have hrow := w_rowR hR (t := t + 10) ⟨by omega, by omega⟩ hT
  rw [Nat.add_sub_cancel] at hrow
  obtain ⟨cellV, g1, g2, g3, -⟩ := w_obj hR hc hb
  have hcls := (F.2.2.2.1.1.1 ci r hc).2
  obtain ⟨kA, comp, k1, k2, k3, -⟩ := (F.2.2.2.1.1.2 t _ hty).2
  have hcomp : comp = E.2.1.1 ci := Option.some.inj (k3.symm.trans hcls.1)
  subst hcomp
  obtain ⟨kC, hkC, -⟩ := hcls.2
  have hTa : (G.1 a).1 < 14 := by rw [hT]; show t + 10 < 14; omega
  refine W.aast F.1.1 F.1.2.1 hrow (fun q h => by cases h) (fun h => by cases h) k1 k2 rfl hkC ⟨fun q => h1 (Or.inl q), by rw [arrV_size, h2]; exact hi⟩ g1 (fun q h => by rw [g3] at h; cases h) (by rw [g2]; exact hkC) (by rw [g2]; exact va_assign hcls) rfl rfl hd fun H' e1 e2 e3 => ?_
  rw [h2, arrV_store] at e1
  refine kk p e s m args below meth c H' _ lz F (hR.set (G' := (G.1, w_upR G.2.1 a i (some b), G.2.2)) (a := a) hTa rfl rfl (fun _ h => w_upR_o h) (fun _ _ => rfl) (fun j => hR.2.2.2.1 a j) e2 e3 ?_) (fun q hq => ?_) hl
  · rw [hT]
    unfold w_at
    rw [if_neg (show ¬ ((t + 10, len) : Nat × Nat).1 < 10 from by show ¬ t + 10 < 10; omega), if_neg (show ¬ ((t + 10, len) : Nat × Nat).1 < 12 from by show ¬ t + 10 < 12; omega)]
    rw [e1]
    show some (arrV (E.2.2.1 t) len _) = some (arrV (E.2.2.1 (t + 10 - 10)) len _)
    rw [Nat.add_sub_cancel]
    congr 2
    funext j
    by_cases e : j = i
    · subst e
      simp [updV, w_upR, va_rf]
    · simp [updV, w_upR, e]
  · rcases List.mem_append.mp hq with h | h
    · exact hL q h
    · rw [List.mem_singleton.mp h]; exact hR.2.2.2.2.1 a hTa
/-! ===== what is new ===== -/
def w_zI (I : w_Mm) (a : Nat) : w_Mm := fun b j => if b = a then 0 else I b j
def w_zR (r : Nat → Nat → Option Nat) (a : Nat) : Nat → Nat → Option Nat := fun b j => if b = a then none else r b j
/-- the shape with a cell more of tag t -/
def w_new (G : w_Sh) (t : Nat × Nat) : w_Sh := (w_upT G.1 G.2.2 t, w_zR G.2.1 G.2.2, G.2.2 + 1)
theorem w_zI_o {a b : Nat} (h : b ≠ a) : w_zI I a b = I b := by
  funext j
  simp [w_zI, h]
theorem w_zR_o {r : Nat → Nat → Option Nat} {a b : Nat} (h : b ≠ a) : w_zR r a b = r b := by
  funext j
  simp [w_zR, h]
theorem w_Rel.born {t : Nat × Nat} {H H1 : Heap} (hR : w_Rel E G I H) (hs : H1.size = H.size + 1) (ho : ∀ q, q < H.size → H1[q]? = H[q]?) (hat : w_at E G.2.2 t (fun _ => none) (fun _ => 0) H1) : w_Rel E (w_new G t) (w_zI I G.2.2) H1 := by
  refine hR.new (G' := w_new G t) (I' := w_zI I G.2.2) (t := t) (fun b h => by simp [w_new, w_upT, h]) (by simp [w_new, w_upT]) rfl (fun b h => w_zR_o h) (fun b h => w_zI_o h) (fun j => by simp [w_zI, inR]) hs ho ?_
  have e1 : (w_new G t).2.1 G.2.2 = fun _ => none := by funext j; simp [w_new, w_zR]
  have e2 : w_zI I G.2.2 G.2.2 = fun _ => 0 := by funext j; simp [w_zI]
  rw [e1, e2]
  exact hat
theorem v_new {idx ci : Nat} {q : vw_C} (hc : w_cl[ci]? = some q) (h1 : Jvm.Cond.classLink M.1.cls idx q.1 ∈ w_good) (h2 : Jvm.Cond.instantiable q.1 q.2.2 ∈ w_good) (h3 : Jvm.Cond.initialized q.1 ∈ w_good) (hk : k + 1 ≤ R.cells) (hn : n + q.2.2 ≤ R.slots) (hd : Dc M pc (.new idx) 3 pc')
    (kk : w_V E M R Z (w_new G (ci, 0)) (w_zI I G.2.2) (k + 1) (n + q.2.2) pc' ls (.ref G.2.2 :: st)) : w_V E M R Z G I k n pc ls st := by
  obtain ⟨hd, rfl⟩ := hd
  intro p e s m args below meth c H locs lz F hR hL hl
  obtain ⟨C, T, N⟩ := q
  have hts := F.1.2.2.2.2
  have hKn := F.2.2.2.1.1.1 ci _ hc
  obtain ⟨hlay, ty0, hty, -, hborn⟩ := w_lay hc
  refine W.newcK F.1.1 F.1.2.1 F.1.2.2.2.1 (hts _ (List.mem_cons_of_mem _ h1)) (hts _ (List.mem_cons_of_mem _ h2)) (hts _ (List.mem_cons_of_mem _ h3)) rfl hd hk hn hKn.2.1 hR.1 fun H1 kC hkC e1 z1 o1 => ?_
  refine kk p e s m args below meth c H1 locs lz F (hR.born (by rw [z1, hR.1]) (fun q hq => o1 q (by rw [← hR.1]; exact hq)) ?_) hL hl
  unfold w_at
  rw [if_pos (show ((ci, 0) : Nat × Nat).1 < 10 from w_ci hc)]
  exact ⟨_, hc, (u_born ty0 hts (fun w hw => List.mem_cons_of_mem _ (hlay w hw)) hKn hkC e1 hty).to hborn⟩
theorem v_newI {len : Nat} {x : Int} (hx : x = (len : Int)) (hl8 : len < 100000) (hw : Jvm.Cond.arrayClass .int ∈ w_good) (hk : k + 1 ≤ R.cells) (hn : n + len ≤ R.slots) (hd : Dc M pc (.newarray .int) 2 pc')
    (kk : w_V E M R Z (w_new G (10, len)) (w_zI I G.2.2) (k + 1) (n + len) pc' ls (.ref G.2.2 :: st)) : w_V E M R Z G I k n pc ls (iv x :: st) := by
  obtain ⟨hd, rfl⟩ := hd
  intro p e s m args below meth c H locs lz F hR hL hl
  obtain ⟨h1, h2⟩ := w_ix (len := len + 1) hx (by omega) (by omega)
  refine va_newaK (atype := .int) (N := len) F.1.1 F.1.2.1 (F.1.2.2.2.2 _ (List.mem_cons_of_mem _ hw)) rfl hd rfl (fun q => h1 (Or.inl q)) h2 (by show len * 4 ≤ _; omega) hk hn hR.1 fun H1 cA e1 z1 o1 hAr hNm => ?_
  have hcA : cA = E.2.2.1 0 := Option.some.inj (hNm.symm.trans (F.2.2.2.1.1.2 0 _ rfl).2)
  refine kk p e s m args below meth c H1 locs lz F (hR.born (by rw [z1, hR.1]) (fun q hq => o1 q (by rw [← hR.1]; exact hq)) ?_) hL hl
  unfold w_at
  rw [if_neg (by simp), if_pos (by simp), e1, hcA]
  rfl
theorem v_newZ {len : Nat} {x : Int} (hx : x = (len : Int)) (hl8 : len < 100000) (hw : Jvm.Cond.arrayClass .boolean ∈ w_good) (hk : k + 1 ≤ R.cells) (hn : n + len ≤ R.slots) (hd : Dc M pc (.newarray .boolean) 2 pc')
    (kk : w_V E M R Z (w_new G (11, len)) (w_zI I G.2.2) (k + 1) (n + len) pc' ls (.ref G.2.2 :: st)) : w_V E M R Z G I k n pc ls (iv x :: st) := by
  obtain ⟨hd, rfl⟩ := hd
  intro p e s m args below meth c H locs lz F hR hL hl
  obtain ⟨h1, h2⟩ := w_ix (len := len + 1) hx (by omega) (by omega)
  refine va_newaK (atype := .boolean) (N := len) F.1.1 F.1.2.1 (F.1.2.2.2.2 _ (List.mem_cons_of_mem _ hw)) rfl hd rfl (fun q => h1 (Or.inl q)) h2 (by show len * 1 ≤ _; omega) hk hn hR.1 fun H1 cA e1 z1 o1 hAr hNm => ?_
  have hcA : cA = E.2.2.1 1 := Option.some.inj (hNm.symm.trans (F.2.2.2.1.1.2 1 _ rfl).2)
  refine kk p e s m args below meth c H1 locs lz F (hR.born (by rw [z1, hR.1]) (fun q hq => o1 q (by rw [← hR.1]; exact hq)) ?_) hL hl
  unfold w_at
  rw [if_neg (by simp), if_pos (by simp), e1, hcA]
  rfl
theorem v_newQ {len t idx : Nat} {x : Int} {C : String} (htt : 2 ≤ t ∧ t < 4) (hty : (w_tys E.2.2.1)[t]? = some (E.2.2.1 t, .object C)) (hAO : ∀ U, w_K E U → va_AO C U) (hw : Jvm.Cond.classLink M.1.cls idx C ∈ w_good) (hx : x = (len : Int)) (hl8 : len < 100000) (hk : k + 1 ≤ R.cells) (hn : n + len ≤ R.slots) (hd : Dc M pc (.anewarray idx) 3 pc')
    (kk : w_V E M R Z (w_new G (t + 10, len)) (w_zI I G.2.2) (k + 1) (n + len) pc' ls (.ref G.2.2 :: st)) : w_V E M R Z G I k n pc ls (iv x :: st) := by
  obtain ⟨hd, rfl⟩ := hd
  intro p e s m args below meth c H locs lz F hR hL hl
  obtain ⟨h1, h2⟩ := w_ix (len := len + 1) hx (by omega) (by omega)
  refine W.anew F.1.1 F.1.2.1 F.1.2.2.2.1 (F.1.2.2.2.2 _ (List.mem_cons_of_mem _ hw)) (va_AO.use (hAO _ F.2.2.2.1)) rfl hd rfl (fun q => h1 (Or.inl q)) (by rw [h2]; omega) hk (by rw [h2]; exact hn) fun cA kA comp f1 f2 f3 f4 => ?_
  rw [h2]
  obtain ⟨kA', comp', g1, g2, g3, g4⟩ := (F.2.2.2.1.1.2 t _ hty).2
  have hcA : cA = E.2.2.1 t := Option.some.inj (f1.symm.trans g4)
  show W p E.1 e R s m args below meth c _ locs (k + 1) (n + len) (Z below args s) (F0 m (pc + 3) lz (.ref H.size :: st))
  rw [hR.1]
  refine kk p e s m args below meth c _ locs lz F (hR.born (by rw [Array.size_push]) (fun q hq => by rw [Array.getElem?_push, if_neg (Nat.ne_of_lt hq)]) ?_) hL hl
  unfold w_at
  rw [if_neg (show ¬ ((t + 10, len) : Nat × Nat).1 < 10 from by show ¬ t + 10 < 10; omega), if_neg (show ¬ ((t + 10, len) : Nat × Nat).1 < 12 from by show ¬ t + 10 < 12; omega)]
  rw [← hR.1, Array.getElem?_push_size, arrV_new, hcA]
  show some (arrV (E.2.2.1 t) len _) = some (arrV (E.2.2.1 (t + 10 - 10)) len _)
  rw [Nat.add_sub_cancel]
  rfl
end Heap
end
section
/-! ===== answers ===== -/
def w_Pi (post : Int → w_Sh → w_Mm → Prop) : Option Value → w_Sh → w_Mm → Prop := fun v G I => ∃ z, v = some (iv z) ∧ inR z ∧ post z G I
def w_Pv (post : w_Sh → w_Mm → Prop) : Option Value → w_Sh → w_Mm → Prop := fun v G I => v = none ∧ post G I
def w_Pr (post : Option Nat → w_Sh → w_Mm → Prop) : Option Value → w_Sh → w_Mm → Prop := fun v G I => ∃ o, v = some (va_rf o) ∧ post o G I
section Calls
variable {E : w_E} {M : w_M} {R : Room} {Z : List Frame → Array Value → State → State → Prop} {G G' : w_Sh} {I I' : w_Mm} {k n pc pc' tgt d mc ms : Nat} {off : Int} {ls ls' : List (Option Value)} {st : List Value}
theorem v_iret {z : Int} {post : Int → w_Sh → w_Mm → Prop} (hM : M.2.2.2 = some .int) (hk : k ≤ mc) (hn : n ≤ ms) (hz : inR z) (hd : Dc M pc .ireturn 1 pc') (hp : post z G I) : w_V E M R (w_Z E mc ms (w_Pi post)) G I k n pc ls [iv z] := by
  obtain ⟨hd, rfl⟩ := hd
  intro p e s m args below meth c H locs lz F hR hL hl
  refine W.widen hk hn ?_
  exact W.iret F.1.1 F.1.2.1 (by rw [F.2.1, hM]) (fun t ht _ => ⟨_, G, I, rfl, by rw [ht]; exact hR, z, rfl, hz, hp⟩) hL hd F.2.2.1
theorem v_zret {z : Int} {post : Int → w_Sh → w_Mm → Prop} (hM : M.2.2.2 = some .boolean) (hk : k ≤ mc) (hn : n ≤ ms) (hz : z = 0 ∨ z = 1) (hd : Dc M pc .ireturn 1 pc') (hp : post z G I) : w_V E M R (w_Z E mc ms (w_Pi post)) G I k n pc ls [iv z] := by
  obtain ⟨hd, rfl⟩ := hd
  intro p e s m args below meth c H locs lz F hR hL hl
  refine W.widen hk hn ?_
  exact W.zret F.1.1 F.1.2.1 (by rw [F.2.1, hM]) (w_nar hz).1 (fun t ht _ => ⟨_, G, I, rfl, by rw [ht]; exact hR, z, rfl, ⟨by omega, by omega⟩, hp⟩) hL hd F.2.2.1
theorem v_vret {post : w_Sh → w_Mm → Prop} (hM : M.2.2.2 = none) (hk : k ≤ mc) (hn : n ≤ ms) (hd : Dc M pc .return_ 1 pc') (hp : post G I) : w_V E M R (w_Z E mc ms (w_Pv post)) G I k n pc ls [] := by
  obtain ⟨hd, rfl⟩ := hd
  intro p e s m args below meth c H locs lz F hR hL hl
  refine W.widen hk hn ?_
  exact W.vret F.1.1 F.1.2.1 (by rw [F.2.1, hM]) (fun t ht _ => ⟨_, G, I, rfl, by rw [ht]; exact hR, rfl, hp⟩) hL hd F.2.2.1
theorem v_aret {o : Option Nat} {C : String} {post : Option Nat → w_Sh → w_Mm → Prop} (hM : M.2.2.2 = some (.object C)) (hk : k ≤ mc) (hn : n ≤ ms) (hd : Dc M pc .areturn 1 pc') (hp : post o G I) : w_V E M R (w_Z E mc ms (w_Pr post)) G I k n pc ls [va_rf o] := by
  obtain ⟨hd, rfl⟩ := hd
  intro p e s m args below meth c H locs lz F hR hL hl
  refine W.widen hk hn ?_
  exact W.aret (rt := .object C) F.1.1 F.1.2.1 (by rw [F.2.1, hM]) (Or.inl ⟨_, rfl⟩) (by cases o; exact Or.inl rfl; exact Or.inr ⟨_, rfl⟩) (fun t ht _ => ⟨_, G, I, rfl, by rw [ht]; exact hR, o, rfl, hp⟩) hL hd F.2.2.1
/-! ===== calls ===== -/
theorem w_GI {M M' : w_M} (h : Jvm.Cond.code M'.1 M'.2.1 M'.2.2.1 M'.2.2.2 ∈ w_good) : GoodIn (w_ws M) (w_ws M') := by
  intro w hw
  have hg : w ∈ w_good := by
    rcases List.mem_cons.mp hw with e | e
    · rw [e]; exact h
    · exact e
  exact ⟨List.mem_cons_of_mem _ hg, good_of_word (List.mem_filter.mp hg).2⟩
theorem w_good_of {M : w_M} {w : Jvm.Cond} (h : w ∈ w_good) : w ∈ w_ws M ∧ ((w.onTables && w.keeps) = true ∨ ∃ ty, w = .arrayClass ty) := ⟨List.mem_cons_of_mem _ h, good_of_word (List.mem_filter.mp h).2⟩
theorem w_blind (as : List Value) : FrameBlind (w_Pc E as G I) := fun a U g mk q => ⟨q.1, q.2.1, w_K.same (u := U) (U := U.calling g mk a) rfl q.2.2⟩
/-- what a call needs of the callee: its words -/
def w_mw (M' : w_M) (nA : Nat) : Prop := Jvm.Cond.code M'.1 M'.2.1 M'.2.2.1 M'.2.2.2 ∈ w_good ∧ Jvm.Cond.initialized M'.1.cls ∈ w_good ∧ (M'.1.cls ≠ "java/lang/invoke/MethodHandle" ∧ M'.1.cls ≠ "java/lang/invoke/VarHandle") ∧ (parseMethodDescriptor M'.1.desc).map (fun d => d.parameters.length) = some nA
/-- .. of one that belongs to an object of number ci -/
def w_mv (ci : Nat) (M' : w_M) : Prop := (∃ q, w_cl[ci]? = some q ∧ q.1 = M'.1.cls) ∧ Jvm.Cond.instanceMethod M'.1 ∈ w_good ∧ Jvm.Cond.selects M'.1.cls M'.1 M'.1 ∈ w_good
def w_lk (C : String) (idx : Nat) (M' : w_M) : Prop := Jvm.Cond.methodLink C idx M'.1 ∈ w_good ∨ ∃ host, Jvm.Cond.methodLinkNest C idx M'.1 host ∈ w_nw
theorem w_after {Post : Option Value → w_Sh → w_Mm → Prop} {p : Program} {e : Env} {s : State} {m : MethodId} {args : Array Value} {below : List Frame} {meth : Method} {c : Code} {H : Heap} {locs : List Loc} {lz : Array Slot} {st0 rest : List Value} {a : Array Value}
    (hr : va_Run p E.1 e R s m args below meth c H locs k n mc ms (F0 m pc lz st0) rest (w_Qc E Post a) (fun q => E.2.2.2.1.size ≤ q)) (F : w_Fix E M p s m meth c args) (hL : ∀ q ∈ locs, E.2.2.2.1.size ≤ q.base) (hl : w_has lz M.2.2.1 ls)
    (kk : ∀ (v : Option Value) (G' : w_Sh) (I' : w_Mm), Post v G' I' → (∀ a k, inR (I' a k)) → w_V E M R Z G' I' (k + mc) (n + ms) (pc + 3) ls (v.toList ++ rest)) :
    W p E.1 e R s m args below meth c H locs k n (Z below args s) (F0 m pc lz st0) := by
  intro T hT X
  obtain ⟨v, st₀, t, T', L, h0, X', hLL, e1, e2, ⟨v', G', I', hv, hR', hp⟩, stp⟩ := hr T hT X
  cases hv
  obtain ⟨t2, a1, b1⟩ := kk v G' I' hp hR'.2.2.2.1 p e s m args below meth c T'.heap (locs ++ L) lz F (by rw [e1]; exact hR') (fun q hq => by
    rcases List.mem_append.mp hq with h | h
    · exact hL q h
    · exact hLL q h) hl T' rfl X'
  exact ⟨t2, stp t2 a1, b1⟩
theorem v_callV {Post : Option Value → w_Sh → w_Mm → Prop} {M' : w_M} {idx ci nA b : Nat} {As st0 : List Value} (hC : w_Ct E M' d (.ref b :: As) G I mc ms Post) (hw : w_mw M' nA) (hv : w_mv ci M') (hk : w_lk M.1.cls idx M') (hT : G.1 b = (ci, 0)) (hn : As.length = nA) (hst : st0 = As.reverse ++ .ref b :: st)
    (hf : d + 1 ≤ R.frames) (hlo : 8 + (M'.2.2.1 + 11) + 40 * d ≤ R.locals) (hcs : k + mc ≤ R.cells ∧ n + ms ≤ R.slots) (hrest : (st.map fun v => v.category).sum ≤ 8) (hd : Dc M pc (.invokevirtual idx) 3 pc')
    (kk : ∀ (v : Option Value) (G' : w_Sh) (I' : w_Mm), Post v G' I' → (∀ a k, inR (I' a k)) → w_V E M R Z G' I' (k + mc) (n + ms) pc' ls (v.toList ++ st)) : w_V E M R Z G I k n pc ls st0 := by
  obtain ⟨hd, rfl⟩ := hd
  subst hst
  intro p e s m args below meth c H locs lz F hR hL hl
  obtain ⟨hcode, hini, hnm, hds⟩ := hw
  obtain ⟨⟨q, hc, hqc⟩, hinst, hsel⟩ := hv
  have hts := F.1.2.2.2.2
  have ok : ∀ w ∈ w_good, w.before args s = true := fun w h => hts w (List.mem_cons_of_mem _ h)
  obtain ⟨cell, g1, g2, g3, -⟩ := w_obj hR hc hT
  have hrecv : ∃ cellB : Cell, H[b]? = some cellB ∧ cellB.vm.isStatics = false ∧ s.vm.findClass M'.1.cls = some cellB.cls := ⟨cell, g1, by rw [g3]; rfl, by rw [g2, ← hqc]; exact (F.2.2.2.1.1.1 ci q hc).2.1⟩
  have hpre : PreV s H M'.1.cls b (w_Pc E (.ref b :: As) G I) As := ⟨w_blind _, hrecv, fun U hU hW => ⟨rfl, by rw [hU]; exact hR, F.2.2.2.1.warm hW⟩⟩
  rcases hk with hk | ⟨host, hk⟩
  · refine w_after (va_runV (nL := M.2.2.1) (Ts := w_ws M) F.1 hC (cwV nA hts (fun w h => ?_) rfl rfl rfl ⟨rfl, hnm.1, hnm.2, hds⟩ ⟨hf, hlo⟩) hpre rfl hn hl.1 rfl (lv_room hrest) hd hcs) F hL hl kk
    unfold wsV at h
    rcases List.mem_append.mp h with h | h
    · have hg : w ∈ w_good := by
        simp only [List.mem_cons, List.not_mem_nil, or_false] at h
        rcases h with h | h | h | h <;> rw [h] <;> assumption
      exact w_good_of hg
    · exact w_GI hcode w h
  · refine w_after (va_runVN (nL := M.2.2.1) (Ts := w_ws M) (host := host) F.1 hC ⟨va_cnB nA hts (w_GI hcode) rfl rfl rfl (F.2.2.2.1.2.1 _ hk) (ok _ hini) ⟨hnm.1, hnm.2, hds⟩ ⟨hf, hlo⟩, ok _ hinst, ok _ hsel⟩ hpre rfl hn hl.1 rfl (lv_room hrest) hd hcs) F hL hl kk
theorem v_callS {Post : Option Value → w_Sh → w_Mm → Prop} {M' : w_M} {idx nA : Nat} {As st0 : List Value} (hC : w_Ct E M' d As G I mc ms Post) (hw : w_mw M' nA) (hs : Jvm.Cond.static M'.1 ∈ w_good) (hk : w_lk M.1.cls idx M') (hn : As.length = nA) (hst : st0 = As.reverse ++ st)
    (hf : d + 1 ≤ R.frames) (hlo : 8 + (M'.2.2.1 + 11) + 40 * d ≤ R.locals) (hcs : k + mc ≤ R.cells ∧ n + ms ≤ R.slots) (hrest : (st.map fun v => v.category).sum ≤ 8) (hd : Dc M pc (.invokestatic idx) 3 pc')
    (kk : ∀ (v : Option Value) (G' : w_Sh) (I' : w_Mm), Post v G' I' → (∀ a k, inR (I' a k)) → w_V E M R Z G' I' (k + mc) (n + ms) pc' ls (v.toList ++ st)) : w_V E M R Z G I k n pc ls st0 := by
  obtain ⟨hd, rfl⟩ := hd
  subst hst
  intro p e s m args below meth c H locs lz F hR hL hl
  obtain ⟨hcode, hini, hnm, hds⟩ := hw
  have hts := F.1.2.2.2.2
  have ok : ∀ w ∈ w_good, w.before args s = true := fun w h => hts w (List.mem_cons_of_mem _ h)
  have hpre : PreS s H (w_Pc E As G I) As := ⟨w_blind _, fun U hU hW => ⟨rfl, by rw [hU]; exact hR, F.2.2.2.1.warm hW⟩⟩
  rcases hk with hk | ⟨host, hk⟩
  · exact w_after (va_runS (nL := M.2.2.1) (Ts := w_ws M) F.1 hC ⟨callB_of nA hts (w_GI hcode) rfl rfl rfl (ok _ hini) (ok _ hk) ⟨hnm.1, hnm.2, hds⟩ ⟨hf, hlo⟩, ok _ hs⟩ hpre rfl hn hl.1 rfl (lv_room hrest) hd hcs) F hL hl kk
  · exact w_after (va_runSN (nL := M.2.2.1) (Ts := w_ws M) (host := host) F.1 hC ⟨va_cnB nA hts (w_GI hcode) rfl rfl rfl (F.2.2.2.1.2.1 _ hk) (ok _ hini) ⟨hnm.1, hnm.2, hds⟩ ⟨hf, hlo⟩, ok _ hs, trivial⟩ hpre rfl hn hl.1 rfl (lv_room hrest) hd hcs) F hL hl kk
theorem v_callI {Post : Option Value → w_Sh → w_Mm → Prop} {M' : w_M} {idx nA b : Nat} {As st0 : List Value} (hC : w_Ct E M' d (.ref b :: As) G I mc ms Post) (hw : w_mw M' nA) (hret : M'.2.2.2 = none) (hni : M'.1.name = "<init>") (hi : Jvm.Cond.instanceMethod M'.1 ∈ w_good) (hk : w_lk M.1.cls idx M') (hn : As.length = nA) (hst : st0 = As.reverse ++ .ref b :: st)
    (hf : d + 1 ≤ R.frames) (hlo : 8 + (M'.2.2.1 + 11) + 40 * d ≤ R.locals) (hcs : k + mc ≤ R.cells ∧ n + ms ≤ R.slots) (hrest : (st.map fun v => v.category).sum ≤ 8) (hd : Dc M pc (.invokespecial idx) 3 pc')
    (kk : ∀ (v : Option Value) (G' : w_Sh) (I' : w_Mm), Post v G' I' → (∀ a k, inR (I' a k)) → w_V E M R Z G' I' (k + mc) (n + ms) pc' ls (v.toList ++ st)) : w_V E M R Z G I k n pc ls st0 := by
  obtain ⟨hd, rfl⟩ := hd
  subst hst
  intro p e s m args below meth c H locs lz F hR hL hl
  obtain ⟨hcode, hini, hnm, hds⟩ := hw
  have hts := F.1.2.2.2.2
  have ok : ∀ w ∈ w_good, w.before args s = true := fun w h => hts w (List.mem_cons_of_mem _ h)
  have hpre : PreS s H (w_Pc E (.ref b :: As) G I) (.ref b :: As) := ⟨w_blind _, fun U hU hW => ⟨rfl, by rw [hU]; exact hR, F.2.2.2.1.warm hW⟩⟩
  have hws : w_ws M' = Jvm.Cond.code M'.1 M'.2.1 M'.2.2.1 none :: w_good := by rw [← hret]; rfl
  rcases hk with hk | ⟨host, hk⟩
  · exact w_after (va_runI (nL := M.2.2.1) (Ts := w_ws M) F.1 hC ⟨callB_of nA hts (w_GI hcode) hws rfl rfl (ok _ hini) (ok _ hk) ⟨hnm.1, hnm.2, hds⟩ ⟨hf, hlo⟩, hni, ok _ hi⟩ hpre rfl hn hl.1 rfl (lv_room hrest) hd hcs) F hL hl kk
  · exact w_after (va_runIN (nL := M.2.2.1) (Ts := w_ws M) (host := host) F.1 hC ⟨va_cnB nA hts (w_GI hcode) hws rfl rfl (F.2.2.2.1.2.1 _ hk) (ok _ hini) ⟨hnm.1, hnm.2, hds⟩ ⟨hf, hlo⟩, hni, ok _ hi⟩ hpre rfl hn hl.1 rfl (lv_room hrest) hd hcs) F hL hl kk
end Calls
end
section
section More
variable {E : w_E} {M : w_M} {R : Room} {Z : List Frame → Array Value → State → State → Prop} {G G' : w_Sh} {I I' : w_Mm} {k n pc pc' tgt d mc ms : Nat} {off : Int} {ls ls' : List (Option Value)} {st : List Value}
theorem w_rng {a f : Nat} {z : Int} (h : ∀ a k, inR (I a k)) (hz : inR z) : ∀ b j, inR (w_up I a f z b j) := fun b j => by
  by_cases e : b = a ∧ j = f
  · simp [w_up, e, hz]
  · rw [w_up_n e]; exact h b j
/-! ===== calls by what they answer ===== -/
def w_cV (C : String) (idx ci : Nat) (M' : w_M) (nA : Nat) : Prop := w_mw M' nA ∧ w_mv ci M' ∧ w_lk C idx M'
def w_cS (C : String) (idx : Nat) (M' : w_M) (nA : Nat) : Prop := w_mw M' nA ∧ Jvm.Cond.static M'.1 ∈ w_good ∧ w_lk C idx M'
def w_cI (C : String) (idx : Nat) (M' : w_M) (nA : Nat) : Prop := w_mw M' nA ∧ (M'.2.2.2 = none ∧ M'.1.name = "<init>") ∧ Jvm.Cond.instanceMethod M'.1 ∈ w_good ∧ w_lk C idx M'
def w_ro (R : Room) (d : Nat) (M' : w_M) : Prop := d + 1 ≤ R.frames ∧ 8 + (M'.2.2.1 + 11) + 40 * d ≤ R.locals
theorem v_Vi {post : Int → w_Sh → w_Mm → Prop} {M' : w_M} {idx ci nA b : Nat} {As st0 : List Value} (hC : w_Ct E M' d (.ref b :: As) G I mc ms (w_Pi post)) (hw : w_cV M.1.cls idx ci M' nA) (hT : G.1 b = (ci, 0)) (hn : As.length = nA) (hst : st0 = As.reverse ++ .ref b :: st)
    (hro : w_ro R d M') (hcs : k + mc ≤ R.cells ∧ n + ms ≤ R.slots) (hrest : (st.map fun v => v.category).sum ≤ 8) (hd : Dc M pc (.invokevirtual idx) 3 pc')
    (kk : ∀ (z : Int) (G' : w_Sh) (I' : w_Mm), inR z → post z G' I' → (∀ a k, inR (I' a k)) → w_V E M R Z G' I' (k + mc) (n + ms) pc' ls (iv z :: st)) : w_V E M R Z G I k n pc ls st0 :=
  v_callV hC hw.1 hw.2.1 hw.2.2 hT hn hst hro.1 hro.2 hcs hrest hd (fun v G' I' hp hr => by
    obtain ⟨z, rfl, hz, hp⟩ := hp
    exact kk z G' I' hz hp hr)
theorem v_Vv {post : w_Sh → w_Mm → Prop} {M' : w_M} {idx ci nA b : Nat} {As st0 : List Value} (hC : w_Ct E M' d (.ref b :: As) G I mc ms (w_Pv post)) (hw : w_cV M.1.cls idx ci M' nA) (hT : G.1 b = (ci, 0)) (hn : As.length = nA) (hst : st0 = As.reverse ++ .ref b :: st)
    (hro : w_ro R d M') (hcs : k + mc ≤ R.cells ∧ n + ms ≤ R.slots) (hrest : (st.map fun v => v.category).sum ≤ 8) (hd : Dc M pc (.invokevirtual idx) 3 pc')
    (kk : ∀ (G' : w_Sh) (I' : w_Mm), post G' I' → (∀ a k, inR (I' a k)) → w_V E M R Z G' I' (k + mc) (n + ms) pc' ls st) : w_V E M R Z G I k n pc ls st0 :=
  v_callV hC hw.1 hw.2.1 hw.2.2 hT hn hst hro.1 hro.2 hcs hrest hd (fun v G' I' hp hr => by
    obtain ⟨rfl, hp⟩ := hp
    exact kk G' I' hp hr)
theorem v_Vr {post : Option Nat → w_Sh → w_Mm → Prop} {M' : w_M} {idx ci nA b : Nat} {As st0 : List Value} (hC : w_Ct E M' d (.ref b :: As) G I mc ms (w_Pr post)) (hw : w_cV M.1.cls idx ci M' nA) (hT : G.1 b = (ci, 0)) (hn : As.length = nA) (hst : st0 = As.reverse ++ .ref b :: st)
    (hro : w_ro R d M') (hcs : k + mc ≤ R.cells ∧ n + ms ≤ R.slots) (hrest : (st.map fun v => v.category).sum ≤ 8) (hd : Dc M pc (.invokevirtual idx) 3 pc')
    (kk : ∀ (o : Option Nat) (G' : w_Sh) (I' : w_Mm), post o G' I' → (∀ a k, inR (I' a k)) → w_V E M R Z G' I' (k + mc) (n + ms) pc' ls (va_rf o :: st)) : w_V E M R Z G I k n pc ls st0 :=
  v_callV hC hw.1 hw.2.1 hw.2.2 hT hn hst hro.1 hro.2 hcs hrest hd (fun v G' I' hp hr => by
    obtain ⟨o, rfl, hp⟩ := hp
    exact kk o G' I' hp hr)
theorem v_Si {post : Int → w_Sh → w_Mm → Prop} {M' : w_M} {idx nA : Nat} {As st0 : List Value} (hC : w_Ct E M' d As G I mc ms (w_Pi post)) (hw : w_cS M.1.cls idx M' nA) (hn : As.length = nA) (hst : st0 = As.reverse ++ st)
    (hro : w_ro R d M') (hcs : k + mc ≤ R.cells ∧ n + ms ≤ R.slots) (hrest : (st.map fun v => v.category).sum ≤ 8) (hd : Dc M pc (.invokestatic idx) 3 pc')
    (kk : ∀ (z : Int) (G' : w_Sh) (I' : w_Mm), inR z → post z G' I' → (∀ a k, inR (I' a k)) → w_V E M R Z G' I' (k + mc) (n + ms) pc' ls (iv z :: st)) : w_V E M R Z G I k n pc ls st0 :=
  v_callS hC hw.1 hw.2.1 hw.2.2 hn hst hro.1 hro.2 hcs hrest hd (fun v G' I' hp hr => by
    obtain ⟨z, rfl, hz, hp⟩ := hp
    exact kk z G' I' hz hp hr)
theorem v_Iv {post : w_Sh → w_Mm → Prop} {M' : w_M} {idx nA b : Nat} {As st0 : List Value} (hC : w_Ct E M' d (.ref b :: As) G I mc ms (w_Pv post)) (hw : w_cI M.1.cls idx M' nA) (hn : As.length = nA) (hst : st0 = As.reverse ++ .ref b :: st)
    (hro : w_ro R d M') (hcs : k + mc ≤ R.cells ∧ n + ms ≤ R.slots) (hrest : (st.map fun v => v.category).sum ≤ 8) (hd : Dc M pc (.invokespecial idx) 3 pc')
    (kk : ∀ (G' : w_Sh) (I' : w_Mm), post G' I' → (∀ a k, inR (I' a k)) → w_V E M R Z G' I' (k + mc) (n + ms) pc' ls st) : w_V E M R Z G I k n pc ls st0 :=
  v_callI hC hw.1 hw.2.1.1 hw.2.1.2 hw.2.2.1 hw.2.2.2 hn hst hro.1 hro.2 hcs hrest hd (fun v G' I' hp hr => by
    obtain ⟨rfl, hp⟩ := hp
    exact kk G' I' hp hr)
/-- a method that makes nothing: its answer and the memory behind it are told -/
abbrev w_Cm (E : w_E) (M : w_M) (d : Nat) (as : List Value) (G : w_Sh) (I : w_Mm) (z : Int) (I1 : w_Mm) : Prop := w_Ct E M d as G I 0 0 (w_Pi (fun r G' I' => r = z ∧ G' = G ∧ I' = I1))
abbrev w_Cn (E : w_E) (M : w_M) (d : Nat) (as : List Value) (G : w_Sh) (I : w_Mm) (I1 : w_Mm) : Prop := w_Ct E M d as G I 0 0 (w_Pv (fun G' I' => G' = G ∧ I' = I1))
theorem v_Vm {M' : w_M} {idx ci nA b : Nat} {As st0 : List Value} {z : Int} {I1 : w_Mm} (hC : w_Cm E M' d (.ref b :: As) G I z I1) (hw : w_cV M.1.cls idx ci M' nA) (hT : G.1 b = (ci, 0)) (hn : As.length = nA) (hst : st0 = As.reverse ++ .ref b :: st)
    (hro : w_ro R d M') (hcs : k ≤ R.cells ∧ n ≤ R.slots) (hrest : (st.map fun v => v.category).sum ≤ 8) (hd : Dc M pc (.invokevirtual idx) 3 pc')
    (kk : inR z → (∀ a k, inR (I1 a k)) → w_V E M R Z G I1 k n pc' ls (iv z :: st)) : w_V E M R Z G I k n pc ls st0 :=
  v_Vi hC hw hT hn hst hro hcs hrest hd (fun z G' I' hz hp hr => by
    obtain ⟨rfl, rfl, rfl⟩ := hp
    exact kk hz hr)
theorem v_Vn {M' : w_M} {idx ci nA b : Nat} {As st0 : List Value} {I1 : w_Mm} (hC : w_Cn E M' d (.ref b :: As) G I I1) (hw : w_cV M.1.cls idx ci M' nA) (hT : G.1 b = (ci, 0)) (hn : As.length = nA) (hst : st0 = As.reverse ++ .ref b :: st)
    (hro : w_ro R d M') (hcs : k ≤ R.cells ∧ n ≤ R.slots) (hrest : (st.map fun v => v.category).sum ≤ 8) (hd : Dc M pc (.invokevirtual idx) 3 pc')
    (kk : (∀ a k, inR (I1 a k)) → w_V E M R Z G I1 k n pc' ls st) : w_V E M R Z G I k n pc ls st0 :=
  v_Vv hC hw hT hn hst hro hcs hrest hd (fun G' I' hp hr => by
    obtain ⟨rfl, rfl⟩ := hp
    exact kk hr)
theorem v_Sm {M' : w_M} {idx nA : Nat} {As st0 : List Value} {z : Int} {I1 : w_Mm} (hC : w_Cm E M' d As G I z I1) (hw : w_cS M.1.cls idx M' nA) (hn : As.length = nA) (hst : st0 = As.reverse ++ st)
    (hro : w_ro R d M') (hcs : k ≤ R.cells ∧ n ≤ R.slots) (hrest : (st.map fun v => v.category).sum ≤ 8) (hd : Dc M pc (.invokestatic idx) 3 pc')
    (kk : inR z → (∀ a k, inR (I1 a k)) → w_V E M R Z G I1 k n pc' ls (iv z :: st)) : w_V E M R Z G I k n pc ls st0 :=
  v_Si hC hw hn hst hro hcs hrest hd (fun z G' I' hz hp hr => by
    obtain ⟨rfl, rfl, rfl⟩ := hp
    exact kk hz hr)
/-! ===== the library's own ===== -/
theorem v_obj {idx a : Nat} (h1 : Jvm.Cond.methodLink M.1.cls idx Lib.objectInit ∈ w_good) (h2 : Jvm.Cond.instanceMethod Lib.objectInit ∈ w_good) (h3 : Jvm.Cond.code Lib.objectInit ⟨#[0xb1]⟩ 1 none ∈ w_good) (hf : 1 ≤ R.frames) (hlo : (st.map fun v => v.category).sum + 12 ≤ R.locals) (hd : Dc M pc (.invokespecial idx) 3 pc') (kk : w_V E M R Z G I k n pc' ls st) : w_V E M R Z G I k n pc ls (.ref a :: st) := by
  obtain ⟨hd, rfl⟩ := hd
  intro p e s m args below meth c H locs lz F hR hL hl
  have ok : ∀ w ∈ w_good, w.before args s = true := fun w h => F.1.2.2.2.2 w (List.mem_cons_of_mem _ h)
  exact W.objInit F.1.1 F.1.2.1 F.1.2.2.2.1 (ok _ h1) (ok _ h2) (ok _ h3) rfl (by rw [F.1.2.2.1]; exact hl.1) rfl hd hf (by show 2 * 0 + _ + 12 ≤ _; omega) (kk p e s m args below meth c H locs lz F hR hL hl)
theorem v_max {idx : Nat} {x y : Int} (hx : inR x) (hy : inR y) (h1 : Jvm.Cond.methodLink M.1.cls idx Lib.Math.max.name ∈ w_good) (h2 : Jvm.Cond.static Lib.Math.max.name ∈ w_good) (h3 : Jvm.Cond.initialized "java/lang/Math" ∈ w_good) (h4 : Jvm.Cond.code Lib.Math.max.name Lib.Math.max.code 2 (some .int) ∈ w_good) (hf : 1 ≤ R.frames) (hlo : (st.map fun v => v.category).sum + 13 ≤ R.locals) (hcs : k ≤ R.cells ∧ n ≤ R.slots) (hd : Dc M pc (.invokestatic idx) 3 pc') (kk : w_V E M R Z G I k n pc' ls (iv (if x < y then y else x) :: st)) : w_V E M R Z G I k n pc ls (iv y :: iv x :: st) := by
  obtain ⟨hd, rfl⟩ := hd
  intro p e s m args below meth c H locs lz F hR hL hl
  have ok : ∀ w ∈ w_good, w.before args s = true := fun w h => F.1.2.2.2.2 w (List.mem_cons_of_mem _ h)
  refine va_mmax F.1.1 F.1.2.1 (by rw [F.1.2.2.1]; exact hl.1.symm) F.1.2.2.2.1 (ok _ h1) (ok _ h2) (ok _ h3) (ok _ h4) hf hlo hcs.1 hcs.2 hd ?_
  have e1 : Value.int (if Int32.ofInt x < Int32.ofInt y then Int32.ofInt y else Int32.ofInt x) = iv (if x < y then y else x) := by
    by_cases h : x < y
    · rw [if_pos h, if_pos ((iv_lt hx hy).mpr h)]; rfl
    · rw [if_neg h, if_neg (fun q => h ((iv_lt hx hy).mp q))]; rfl
  rw [e1]
  exact kk p e s m args below meth c H locs lz F hR hL hl
theorem v_min {idx : Nat} {x y : Int} (hx : inR x) (hy : inR y) (h1 : Jvm.Cond.methodLink M.1.cls idx Lib.Math.min.name ∈ w_good) (h2 : Jvm.Cond.static Lib.Math.min.name ∈ w_good) (h3 : Jvm.Cond.initialized "java/lang/Math" ∈ w_good) (h4 : Jvm.Cond.code Lib.Math.min.name Lib.Math.min.code 2 (some .int) ∈ w_good) (hf : 1 ≤ R.frames) (hlo : (st.map fun v => v.category).sum + 13 ≤ R.locals) (hcs : k ≤ R.cells ∧ n ≤ R.slots) (hd : Dc M pc (.invokestatic idx) 3 pc') (kk : w_V E M R Z G I k n pc' ls (iv (if y < x then y else x) :: st)) : w_V E M R Z G I k n pc ls (iv y :: iv x :: st) := by
  obtain ⟨hd, rfl⟩ := hd
  intro p e s m args below meth c H locs lz F hR hL hl
  have ok : ∀ w ∈ w_good, w.before args s = true := fun w h => F.1.2.2.2.2 w (List.mem_cons_of_mem _ h)
  refine va_mmin F.1.1 F.1.2.1 (by rw [F.1.2.2.1]; exact hl.1.symm) F.1.2.2.2.1 (ok _ h1) (ok _ h2) (ok _ h3) (ok _ h4) hf hlo hcs.1 hcs.2 hd ?_
  have e1 : Value.int (if Int32.ofInt y < Int32.ofInt x then Int32.ofInt y else Int32.ofInt x) = iv (if y < x then y else x) := by
    by_cases h : y < x
    · rw [if_pos h, if_pos ((iv_lt hy hx).mpr h)]; rfl
    · rw [if_neg h, if_neg (fun q => h ((iv_lt hy hx).mp q))]; rfl
  rw [e1]
  exact kk p e s m args below meth c H locs lz F hR hL hl
/-- the first len places of row b into row a -/
def w_cpy (I : w_Mm) (b a len : Nat) : w_Mm := fun x j => if x = a ∧ j < len then I b j else I x j
theorem w_rngc {a b len : Nat} (h : ∀ a k, inR (I a k)) : ∀ x j, inR (w_cpy I b a len x j) := fun x j => by
  unfold w_cpy
  split
  · exact h b j
  · exact h x j
theorem v_copy {idx a b len : Nat} {x1 x2 x3 : Int} (hTa : G.1 a = (10, len)) (hTb : G.1 b = (10, len)) (hlen : len < 2147483648) (hx1 : x1 = 0) (hx2 : x2 = 0) (hx3 : x3 = (len : Int))
    (h1 : Jvm.Cond.methodLink M.1.cls idx arraycopyName ∈ w_good) (h2 : Jvm.Cond.native arraycopyName ∈ w_good) (h3 : Jvm.Cond.static arraycopyName ∈ w_good) (h4 : Jvm.Cond.initialized "java/lang/System" ∈ w_good) (hf : 1 ≤ R.frames) (hlo : (st.map fun v => v.category).sum + (nativeFrameWords "java/lang/System" "arraycopy" 5 + 11) ≤ R.locals) (hd : Dc M pc (.invokestatic idx) 3 pc')
    (kk : w_V E M R Z G (w_cpy I b a len) k n pc' ls st) : w_V E M R Z G I k n pc ls (iv x3 :: iv x2 :: .ref a :: iv x1 :: .ref b :: st) := by
  obtain ⟨hd, rfl⟩ := hd
  subst hx1; subst hx2; subst hx3
  intro p e s m args below meth c H locs lz F hR hL hl
  have ok : ∀ w ∈ w_good, w.before args s = true := fun w h => F.1.2.2.2.2 w (List.mem_cons_of_mem _ h)
  have hca := w_row hR ⟨by omega, by omega⟩ hTa
  have hcb := w_row hR ⟨by omega, by omega⟩ hTb
  obtain ⟨-, k0, hk0, cm0, hkk0⟩ := (F.2.2.2.1.1.2 0 _ rfl).1 len (fun j => iv (I b j))
  have c0 : (Int32.ofInt 0).toNatClampNeg = 0 := by decide
  have cl : (Int32.ofInt (len : Int)).toNatClampNeg = len := iv_clamp hlen
  have t0 : (Int32.ofInt 0).toInt = 0 := by decide
  have tl : (Int32.ofInt (len : Int)).toInt = (len : Int) := inR_toInt (inR_nat hlen)
  intro T hT X
  obtain ⟨vm', X', step⟩ := X.arraycopy F.1.1 F.1.2.2.2.1 (ok _ h1) (ok _ h2) (ok _ h3) (ok _ h4) (src := b) (dst := a) (cs := arrV (E.2.2.1 0) len (fun j => iv (I b j))) (cd := arrV (E.2.2.1 0) len (fun j => iv (I a j))) (srcPos := Int32.ofInt 0) (destPos := Int32.ofInt 0) (n := Int32.ofInt (len : Int)) (by rw [hT]; exact hcb) (by rw [hT]; exact hca)
    (fun _ h => by cases h) (fun _ h => by cases h) (fun h => by cases h) (fun h => by cases h) hk0 hk0 hkk0 hkk0 (by simp [refKind]) (by decide) (by decide) (iv_nneg (inR_nat hlen) (by omega))
    (by rw [t0, tl, arrV_size]; omega) (by rw [t0, tl, arrV_size]; omega)
    (fun vm₁ _ i hi => by
      rw [cl] at hi
      have e : (arrV (E.2.2.1 0) len (fun j => iv (I b j))).slots.getD ((Int32.ofInt 0).toNatClampNeg + i) .null = iv (I b i) := by
        rw [c0, Nat.zero_add, Array.getD_eq_getD_getElem?, arrV_read _ _ hi]
        rfl
      refine ⟨?_, ?_⟩
      · rw [e]; rfl
      · rw [e]; exact trivial)
    (g := F0 m pc lz (iv (len : Int) :: iv 0 :: .ref a :: iv 0 :: .ref b :: st)) rfl (by rw [F.1.2.2.1]; exact hl.1) (rest := st) rfl (by rw [F.1.2.1]; exact hd) hf (by show 2 * 0 + _ + _ ≤ _; omega)
  have e1 : copied (arrV (E.2.2.1 0) len (fun j => iv (I b j))) (arrV (E.2.2.1 0) len (fun j => iv (I a j))) (Int32.ofInt 0) (Int32.ofInt 0) (Int32.ofInt (len : Int)) = arrV (E.2.2.1 0) len (fun j => iv (va_cpy (I b) (I a) 0 0 len j)) := by
    have := va_copied iv (E.2.2.1 0) (E.2.2.1 0) (n0 := len) (n1 := len) (sp := 0) (dp := 0) (n := len) (I b) (I a) (by omega)
    unfold copied
    rw [c0, cl]
    exact this
  rw [e1] at X' step
  have hla : a < H.size := (Array.getElem?_eq_some_iff.mp hca).1
  have hTa' : (G.1 a).1 < 14 := by rw [hTa]; simp
  obtain ⟨t, a1, b1⟩ := kk p e s m args below meth c (H.setIfInBounds a (arrV (E.2.2.1 0) len (fun j => iv (va_cpy (I b) (I a) 0 0 len j)))) _ lz F (hR.set (I' := w_cpy I b a len) (a := a) hTa' rfl rfl (fun _ _ => rfl) (fun x hx => by funext j; simp [w_cpy, hx]) (fun j => w_rngc hR.2.2.2.1 a j) (by simp) (fun q hq => by simp [Array.getElem?_setIfInBounds, Ne.symm hq]) (by
      rw [hTa]
      unfold w_at
      rw [if_neg (by simp), if_pos (by simp)]
      show (H.setIfInBounds a _)[a]? = some (arrV (E.2.2.1 0) len _)
      rw [Array.getElem?_setIfInBounds, if_pos rfl, if_pos hla]
      congr 2
      funext j
      simp only [va_cpy, w_cpy, Nat.zero_add, Nat.zero_le, true_and, Nat.sub_zero])) (fun q hq => by
      rcases List.mem_append.mp hq with h | h
      · exact hL q h
      · obtain ⟨z, -, hz⟩ := List.mem_map.mp h
        rw [← hz]
        exact hR.2.2.2.2.1 a hTa') hl _ (by rw [← hT]; rfl) X'
  exact ⟨t, step t a1, b1⟩
/-! ===== switches ===== -/
theorem v_tswIn {x dflt lo hi : Int} {offs : Array Int} {len : Nat} (hd : decode M.2.1 pc = .ok (.tableswitch dflt lo hi offs, len)) (hx : inR x) (h1 : lo ≤ x) (h2 : x ≤ hi) (ho : offs[(x - lo).toNat]? = some off) (ht : (pc : Int) + off = (tgt : Int)) (kk : w_V E M R Z G I k n tgt ls st) : w_V E M R Z G I k n pc ls (iv x :: st) := by
  intro p e s m args below meth c H locs lz F hR hL hl
  exact lv_tableIn F.1.1 F.1.2.1 hd (by rw [inR_toInt hx]; omega) (by rw [inR_toInt hx]; omega) (by rw [inR_toInt hx]; exact ho) ht (kk p e s m args below meth c H locs lz F hR hL hl)
theorem v_tswOut {x dflt lo hi : Int} {offs : Array Int} {len : Nat} (hd : decode M.2.1 pc = .ok (.tableswitch dflt lo hi offs, len)) (hx : inR x) (h1 : x < lo ∨ hi < x) (ht : (pc : Int) + dflt = (tgt : Int)) (kk : w_V E M R Z G I k n tgt ls st) : w_V E M R Z G I k n pc ls (iv x :: st) := by
  intro p e s m args below meth c H locs lz F hR hL hl
  exact lv_tableOut F.1.1 F.1.2.1 hd (by rw [inR_toInt hx]; exact h1) ht (kk p e s m args below meth c H locs lz F hR hL hl)
theorem v_lsw {x dflt : Int} {ps : Array (Int × Int)} {len : Nat} (hd : decode M.2.1 pc = .ok (.lookupswitch dflt ps, len)) (hp : (ps.toList.zip (ps.toList.drop 1)).all (fun (a, next) => a.1 < next.1) = true) (hx : inR x) (ho : Op.lookupswitch.offset ps.toList dflt x = off) (ht : (pc : Int) + off = (tgt : Int)) (kk : w_V E M R Z G I k n tgt ls st) : w_V E M R Z G I k n pc ls (iv x :: st) := by
  intro p e s m args below meth c H locs lz F hR hL hl
  exact lv_lookup F.1.1 F.1.2.1 hd hp (by rw [inR_toInt hx]; exact ho) ht (kk p e s m args below meth c H locs lz F hR hL hl)
/-! ===== the law's script ===== -/
theorem v_sld {i : Nat} {x : Int} (hx : x = (i : Int)) (hi : i < E.2.2.2.2.2.1) (hlen : E.2.2.2.2.2.1 < 2147483648) (hd : Dc M pc .iaload 1 pc') (kk : w_V E M R Z G I k n pc' ls (iv (E.2.2.2.2.2.2 i).toInt :: st)) : w_V E M R Z G I k n pc ls (iv x :: .ref E.2.2.2.2.1 :: st) := by
  obtain ⟨hd, rfl⟩ := hd
  intro p e s m args below meth c H locs lz F hR hL hl
  obtain ⟨h1, h2⟩ := w_ix hx hi hlen
  obtain ⟨⟨scr, g1, g2, g3, g4, g5⟩, hb⟩ := F.2.2.2.1.2.2.2.2
  have hk := kk p e s m args below meth c H locs lz F hR hL hl
  rw [← iv_of] at hk
  exact W.iald (v := .int (E.2.2.2.2.2.2 i)) F.1.1 F.1.2.1 (by rw [hR.2.2.2.2.2 _ hb]; exact g1) g2 g3 (by rw [g4]; exact h1) (by rw [h2]; exact g5 i hi) rfl rfl hd hk
theorem v_slen (hlen : E.2.2.2.2.2.1 < 2147483648) (hd : Dc M pc .arraylength 1 pc') (kk : w_V E M R Z G I k n pc' ls (iv (E.2.2.2.2.2.1 : Int) :: st)) : w_V E M R Z G I k n pc ls (.ref E.2.2.2.2.1 :: st) := by
  obtain ⟨hd, rfl⟩ := hd
  intro p e s m args below meth c H locs lz F hR hL hl
  obtain ⟨⟨scr, g1, g2, g3, g4, g5⟩, hb⟩ := F.2.2.2.1.2.2.2.2
  have hk := kk p e s m args below meth c H locs lz F hR hL hl
  exact W.alen (n := Int32.ofInt (E.2.2.2.2.2.1 : Int)) F.1.1 F.1.2.1 (by rw [hR.2.2.2.2.2 _ hb]; exact g1) g2 (by rw [g4, Int32.ofInt_eq_ofNat]) rfl rfl hd hk
end More
end
section
/-! ===== methods, and what the tables say of them ===== -/
def mX0_init : w_M := (yX0_init, cX0_init, 1, none)
def mX0_has : w_M := (yX0_has, cX0_has, 2, (some .boolean))
def mX0_isFull : w_M := (yX0_isFull, cX0_isFull, 1, (some .boolean))
def mX0_isFace : w_M := (yX0_isFace, cX0_isFace, 2, (some .boolean))
def mX0_add : w_M := (yX0_add, cX0_add, 3, (some .int))
def mX0_suits : w_M := (yX0_suits, cX0_suits, 3, (some .boolean))
def mX0_nearest : w_M := (yX0_nearest, cX0_nearest, 5, (some .int))
def mX1_init : w_M := (yX1_init, cX1_init, 1, none)
def mX1_formAt : w_M := (yX1_formAt, cX1_formAt, 8, (some .int))
def mX1_markTold : w_M := (yX1_markTold, cX1_markTold, 4, none)
def mX1_mark : w_M := (yX1_mark, cX1_mark, 2, none)
def mX1_toldBefore : w_M := (yX1_toldBefore, cX1_toldBefore, 3, (some .int))
def mX1_writeRow : w_M := (yX1_writeRow, cX1_writeRow, 5, (some .int))
def mX1_isAlike : w_M := (yX1_isAlike, cX1_isAlike, 3, (some .boolean))
def mX1_formOf : w_M := (yX1_formOf, cX1_formOf, 2, (some .int))
def mX2_init : w_M := (yX2_init, cX2_init, 1, none)
def mX2_isThere : w_M := (yX2_isThere, cX2_isThere, 1, (some .boolean))
def mX2_copyFrom : w_M := (yX2_copyFrom, cX2_copyFrom, 2, none)
def mX2_startWith : w_M := (yX2_startWith, cX2_startWith, 2, none)
def mX2_becomeRaised : w_M := (yX2_becomeRaised, cX2_becomeRaised, 4, none)
def mX2_slot : w_M := (yX2_slot, cX2_slot, 2, (some .int))
def mX2_top : w_M := (yX2_top, cX2_top, 1, (some .int))
def mX2_hasLongOnTop : w_M := (yX2_hasLongOnTop, cX2_hasLongOnTop, 1, (some .boolean))
def mX2_hasLongAt : w_M := (yX2_hasLongAt, cX2_hasLongAt, 2, (some .boolean))
def mX2_holdsUnmade : w_M := (yX2_holdsUnmade, cX2_holdsUnmade, 2, (some .boolean))
def mX2_replace : w_M := (yX2_replace, cX2_replace, 4, none)
def mX2_breakLong : w_M := (yX2_breakLong, cX2_breakLong, 2, none)
def mX3_init : w_M := (yX3_init, cX3_init, 2, none)
def mX3_isThing : w_M := (yX3_isThing, cX3_isThing, 1, (some .boolean))
def mX3_isThingRow : w_M := (yX3_isThingRow, cX3_isThingRow, 1, (some .boolean))
def mX3_isUnmade : w_M := (yX3_isUnmade, cX3_isUnmade, 1, (some .boolean))
def mX3_isReference : w_M := (yX3_isReference, cX3_isReference, 1, (some .boolean))
def mX3_isOfClass : w_M := (yX3_isOfClass, cX3_isOfClass, 2, (some .boolean))
def mX3_isKnown : w_M := (yX3_isKnown, cX3_isKnown, 2, (some .boolean))
def mX3_isArgument : w_M := (yX3_isArgument, cX3_isArgument, 2, (some .boolean))
def mX3_isResult : w_M := (yX3_isResult, cX3_isResult, 2, (some .boolean))
def mX3_suits : w_M := (yX3_suits, cX3_suits, 3, (some .boolean))
def mX3_merge : w_M := (yX3_merge, cX3_merge, 3, (some .int))
def mX4_init : w_M := (yX4_init, cX4_init, 2, none)
def mX4_addArgument : w_M := (yX4_addArgument, cX4_addArgument, 3, (some .int))
def mX4_addOp : w_M := (yX4_addOp, cX4_addOp, 4, (some .int))
def mX4_addGuard : w_M := (yX4_addGuard, cX4_addGuard, 5, (some .int))
def mX4_hasPlace : w_M := (yX4_hasPlace, cX4_hasPlace, 2, (some .boolean))
def mX4_isGuarded : w_M := (yX4_isGuarded, cX4_isGuarded, 3, (some .boolean))
def mX4_isJump : w_M := (yX4_isJump, cX4_isJump, 2, (some .boolean))
def mX4_classOfUnmade : w_M := (yX4_classOfUnmade, cX4_classOfUnmade, 3, (some .int))
def mX4_wantedLocals : w_M := (yX4_wantedLocals, cX4_wantedLocals, 3, (some .int))
def mX4_localsOfOp : w_M := (yX4_localsOfOp, cX4_localsOfOp, 3, (some .int))
def mX5_init : w_M := (yX5_init, cX5_init, 2, none)
def mX5_perform : w_M := (yX5_perform, cX5_perform, 4, (some .int))
def mX5_useLocal : w_M := (yX5_useLocal, cX5_useLocal, 4, none)
def mX5_useValue : w_M := (yX5_useValue, cX5_useValue, 3, none)
def mX5_useThing : w_M := (yX5_useThing, cX5_useThing, 4, none)
def mX5_layTop : w_M := (yX5_layTop, cX5_layTop, 2, none)
def mX5_make : w_M := (yX5_make, cX5_make, 4, none)
def mX5_loadElement : w_M := (yX5_loadElement, cX5_loadElement, 2, none)
def mX5_storeElement : w_M := (yX5_storeElement, cX5_storeElement, 3, none)
def mX5_isReferenceOrUnmade : w_M := (yX5_isReferenceOrUnmade, cX5_isReferenceOrUnmade, 1, (some .boolean))
def mX5_breakRule : w_M := (yX5_breakRule, cX5_breakRule, 2, none)
def mX5_expect : w_M := (yX5_expect, cX5_expect, 2, none)
def mX5_expectInLocal : w_M := (yX5_expectInLocal, cX5_expectInLocal, 2, none)
def mX5_takeAny : w_M := (yX5_takeAny, cX5_takeAny, 2, (some .int))
def mX5_take : w_M := (yX5_take, cX5_take, 3, none)
def mX5_takeLong : w_M := (yX5_takeLong, cX5_takeLong, 1, none)
def mX5_lay : w_M := (yX5_lay, cX5_lay, 3, none)
def mX5_put : w_M := (yX5_put, cX5_put, 3, none)
def mX5_putLong : w_M := (yX5_putLong, cX5_putLong, 2, none)
def mX6_init : w_M := (yX6_init, cX6_init, 2, none)
def mX6_startWith : w_M := (yX6_startWith, cX6_startWith, 3, none)
def mX6_leastWaiting : w_M := (yX6_leastWaiting, cX6_leastWaiting, 2, (some .int))
def mX6_breakAt : w_M := (yX6_breakAt, cX6_breakAt, 3, none)
def mX6_note : w_M := (yX6_note, cX6_note, 2, none)
def mX7_init : w_M := (yX7_init, cX7_init, 2, none)
def mX7_run : w_M := (yX7_run, cX7_run, 6, none)
def mX7_meetHandlers : w_M := (yX7_meetHandlers, cX7_meetHandlers, 4, (some .int))
def mX7_goOn : w_M := (yX7_goOn, cX7_goOn, 5, (some .int))
def mX7_jumpRule : w_M := (yX7_jumpRule, cX7_jumpRule, 4, (some .int))
def mX7_meet : w_M := (yX7_meet, cX7_meet, 7, (some .boolean))
def mX7_canMeet : w_M := (yX7_canMeet, cX7_canMeet, 4, (some .boolean))
def mX7_mergeRow : w_M := (yX7_mergeRow, cX7_mergeRow, 7, (some .boolean))
def mX8_init : w_M := (yX8_init, cX8_init, 1, none)
def mX8_cls : w_M := (yX8_cls, cX8_cls, 2, (some .int))
def mX8_fits : w_M := (yX8_fits, cX8_fits, 3, (some .int))
def mX8_join : w_M := (yX8_join, cX8_join, 3, (some .int))
def mX8_method : w_M := (yX8_method, cX8_method, 2, (some .int))
def mX8_argument : w_M := (yX8_argument, cX8_argument, 4, (some .int))
def mX8_op : w_M := (yX8_op, cX8_op, 6, (some .int))
def mX8_guard : w_M := (yX8_guard, cX8_guard, 7, (some .int))
def mX8_compute : w_M := (yX8_compute, cX8_compute, 3, (some .int))
def mX8_told : w_M := (yX8_told, cX8_told, 4, (some .int))
def mX8_frame : w_M := (yX8_frame, cX8_frame, 5, (some .int))
def mX8_height : w_M := (yX8_height, cX8_height, 4, (some .int))
def mX8_form : w_M := (yX8_form, cX8_form, 4, (some .int))
def mX8_count : w_M := (yX8_count, cX8_count, 4, (some .int))
def mX8_find : w_M := (yX8_find, cX8_find, 2, (some (.object "ChainFrames$Method")))
def mX8_isOp : w_M := (yX8_isOp, cX8_isOp, 4, (some .boolean))
def mX9_init : w_M := (yX9_init, cX9_init, 1, none)
def mX9_in : w_M := (yX9_in, cX9_in, 3, (some .boolean))
def mX9_isClass : w_M := (yX9_isClass, cX9_isClass, 2, (some .boolean))
def mX9_cls : w_M := (yX9_cls, cX9_cls, 2, (some .int))
def mX9_isBelow : w_M := (yX9_isBelow, cX9_isBelow, 4, (some .boolean))
def mX9_fitsClass : w_M := (yX9_fitsClass, cX9_fitsClass, 3, (some .boolean))
def mX9_joinClass : w_M := (yX9_joinClass, cX9_joinClass, 4, (some .int))
def mX9_fits : w_M := (yX9_fits, cX9_fits, 3, (some .int))
def mX9_isThing : w_M := (yX9_isThing, cX9_isThing, 2, (some .boolean))
def mX9_isThings : w_M := (yX9_isThings, cX9_isThings, 2, (some .boolean))
def mX9_isReference : w_M := (yX9_isReference, cX9_isReference, 1, (some .boolean))
def mX9_fitsKind : w_M := (yX9_fitsKind, cX9_fitsKind, 3, (some .boolean))
def mX9_joined : w_M := (yX9_joined, cX9_joined, 3, (some .int))
def mX9_isKind : w_M := (yX9_isKind, cX9_isKind, 2, (some .boolean))
def mX9_join : w_M := (yX9_join, cX9_join, 3, (some .int))
def mX9_isArgument : w_M := (yX9_isArgument, cX9_isArgument, 2, (some .boolean))
def mX9_isMethod : w_M := (yX9_isMethod, cX9_isMethod, 2, (some .boolean))
def mX9_method : w_M := (yX9_method, cX9_method, 2, (some .int))
def mX9_argument : w_M := (yX9_argument, cX9_argument, 4, (some .int))
def mX9_isOp : w_M := (yX9_isOp, cX9_isOp, 4, (some .boolean))
def mX9_op : w_M := (yX9_op, cX9_op, 6, (some .int))
def mX9_guard : w_M := (yX9_guard, cX9_guard, 7, (some .int))
def mX9_breaks : w_M := (yX9_breaks, cX9_breaks, 2, (some .boolean))
def mX9_wants : w_M := (yX9_wants, cX9_wants, 2, (some .boolean))
def mX9_takes : w_M := (yX9_takes, cX9_takes, 2, (some .boolean))
def mX9_takesTop : w_M := (yX9_takesTop, cX9_takesTop, 2, (some .boolean))
def mX9_top : w_M := (yX9_top, cX9_top, 1, (some .int))
def mX9_lays : w_M := (yX9_lays, cX9_lays, 3, (some .boolean))
def mX9_puts : w_M := (yX9_puts, cX9_puts, 3, none)
def mX9_isHeld : w_M := (yX9_isHeld, cX9_isHeld, 1, (some .boolean))
def mX9_moves : w_M := (yX9_moves, cX9_moves, 4, (some .boolean))
def mX9_makes : w_M := (yX9_makes, cX9_makes, 5, (some .boolean))
def mX9_reads : w_M := (yX9_reads, cX9_reads, 2, (some .boolean))
def mX9_writes : w_M := (yX9_writes, cX9_writes, 3, (some .boolean))
def mX9_does : w_M := (yX9_does, cX9_does, 4, (some .boolean))
def mX9_keepMost : w_M := (yX9_keepMost, cX9_keepMost, 2, none)
def mX9_meetsFirst : w_M := (yX9_meetsFirst, cX9_meetsFirst, 3, (some .boolean))
def mX9_meets : w_M := (yX9_meets, cX9_meets, 5, (some .boolean))
def mX9_load : w_M := (yX9_load, cX9_load, 3, none)
def mX9_hands : w_M := (yX9_hands, cX9_hands, 3, (some .boolean))
def mX9_hasUnmade : w_M := (yX9_hasUnmade, cX9_hasUnmade, 3, (some .boolean))
def mX9_jumps : w_M := (yX9_jumps, cX9_jumps, 2, (some .boolean))
def mX9_goesOn : w_M := (yX9_goesOn, cX9_goesOn, 1, (some .boolean))
def mX9_goes : w_M := (yX9_goes, cX9_goes, 3, (some .boolean))
def mX9_leastLooked : w_M := (yX9_leastLooked, cX9_leastLooked, 2, (some .int))
def mX9_compute : w_M := (yX9_compute, cX9_compute, 3, (some .int))
def mX9_wanted : w_M := (yX9_wanted, cX9_wanted, 6, (some .int))
def mX9_told : w_M := (yX9_told, cX9_told, 3, (some .int))
def mX9_isPlace : w_M := (yX9_isPlace, cX9_isPlace, 3, (some .boolean))
def mX9_frame : w_M := (yX9_frame, cX9_frame, 5, (some .int))
def mX9_height : w_M := (yX9_height, cX9_height, 3, (some .int))
def mX9_isTold : w_M := (yX9_isTold, cX9_isTold, 7, (some .boolean))
def mX9_written : w_M := (yX9_written, cX9_written, 6, (some .int))
def mX9_form : w_M := (yX9_form, cX9_form, 10, (some .int))
def mX9_count : w_M := (yX9_count, cX9_count, 3, (some .int))
def mL_law : w_M := (yL_law, cL_law, 4, (some .boolean))
theorem mwX0_init : w_mw mX0_init 0 := ⟨w_gd 25 (by decide +kernel) (by decide +kernel), w_gd 2 (by decide +kernel) (by decide +kernel), ⟨by decide +kernel, by decide +kernel⟩, by decide +kernel⟩
theorem miX0_init : Jvm.Cond.instanceMethod mX0_init.1 ∈ w_good := w_gd 24 (by decide +kernel) (by decide +kernel)
theorem mwX0_has : w_mw mX0_has 1 := ⟨w_gd 155 (by decide +kernel) (by decide +kernel), w_gd 2 (by decide +kernel) (by decide +kernel), ⟨by decide +kernel, by decide +kernel⟩, by decide +kernel⟩
theorem mvX0_has : w_mv 0 mX0_has := ⟨⟨_, rfl, rfl⟩, w_gd 153 (by decide +kernel) (by decide +kernel), w_gd 154 (by decide +kernel) (by decide +kernel)⟩
theorem mwX0_isFull : w_mw mX0_isFull 0 := ⟨w_gd 164 (by decide +kernel) (by decide +kernel), w_gd 2 (by decide +kernel) (by decide +kernel), ⟨by decide +kernel, by decide +kernel⟩, by decide +kernel⟩
theorem mvX0_isFull : w_mv 0 mX0_isFull := ⟨⟨_, rfl, rfl⟩, w_gd 162 (by decide +kernel) (by decide +kernel), w_gd 163 (by decide +kernel) (by decide +kernel)⟩
theorem mwX0_isFace : w_mw mX0_isFace 1 := ⟨w_gd 159 (by decide +kernel) (by decide +kernel), w_gd 2 (by decide +kernel) (by decide +kernel), ⟨by decide +kernel, by decide +kernel⟩, by decide +kernel⟩
theorem mvX0_isFace : w_mv 0 mX0_isFace := ⟨⟨_, rfl, rfl⟩, w_gd 157 (by decide +kernel) (by decide +kernel), w_gd 158 (by decide +kernel) (by decide +kernel)⟩
theorem mwX0_add : w_mw mX0_add 1 := ⟨w_gd 168 (by decide +kernel) (by decide +kernel), w_gd 2 (by decide +kernel) (by decide +kernel), ⟨by decide +kernel, by decide +kernel⟩, by decide +kernel⟩
theorem mvX0_add : w_mv 0 mX0_add := ⟨⟨_, rfl, rfl⟩, w_gd 166 (by decide +kernel) (by decide +kernel), w_gd 167 (by decide +kernel) (by decide +kernel)⟩
theorem mwX0_suits : w_mw mX0_suits 2 := ⟨w_gd 176 (by decide +kernel) (by decide +kernel), w_gd 2 (by decide +kernel) (by decide +kernel), ⟨by decide +kernel, by decide +kernel⟩, by decide +kernel⟩
theorem mvX0_suits : w_mv 0 mX0_suits := ⟨⟨_, rfl, rfl⟩, w_gd 174 (by decide +kernel) (by decide +kernel), w_gd 175 (by decide +kernel) (by decide +kernel)⟩
theorem mwX0_nearest : w_mw mX0_nearest 2 := ⟨w_gd 206 (by decide +kernel) (by decide +kernel), w_gd 2 (by decide +kernel) (by decide +kernel), ⟨by decide +kernel, by decide +kernel⟩, by decide +kernel⟩
theorem mvX0_nearest : w_mv 0 mX0_nearest := ⟨⟨_, rfl, rfl⟩, w_gd 204 (by decide +kernel) (by decide +kernel), w_gd 205 (by decide +kernel) (by decide +kernel)⟩
theorem mwX1_init : w_mw mX1_init 0 := ⟨w_gd 115 (by decide +kernel) (by decide +kernel), w_gd 7 (by decide +kernel) (by decide +kernel), ⟨by decide +kernel, by decide +kernel⟩, by decide +kernel⟩
theorem miX1_init : Jvm.Cond.instanceMethod mX1_init.1 ∈ w_good := w_gd 114 (by decide +kernel) (by decide +kernel)
theorem mwX1_formAt : w_mw mX1_formAt 2 := ⟨w_gd 595 (by decide +kernel) (by decide +kernel), w_gd 7 (by decide +kernel) (by decide +kernel), ⟨by decide +kernel, by decide +kernel⟩, by decide +kernel⟩
theorem mvX1_formAt : w_mv 1 mX1_formAt := ⟨⟨_, rfl, rfl⟩, w_gd 593 (by decide +kernel) (by decide +kernel), w_gd 594 (by decide +kernel) (by decide +kernel)⟩
theorem mwX1_markTold : w_mw mX1_markTold 1 := ⟨w_gd 599 (by decide +kernel) (by decide +kernel), w_gd 7 (by decide +kernel) (by decide +kernel), ⟨by decide +kernel, by decide +kernel⟩, by decide +kernel⟩
theorem mvX1_markTold : w_mv 1 mX1_markTold := ⟨⟨_, rfl, rfl⟩, w_gd 598 (by decide +kernel) (by decide +kernel), w_gs 26 (by decide +kernel) (by decide +kernel)⟩
theorem mwX1_mark : w_mw mX1_mark 1 := ⟨w_gd 605 (by decide +kernel) (by decide +kernel), w_gd 7 (by decide +kernel) (by decide +kernel), ⟨by decide +kernel, by decide +kernel⟩, by decide +kernel⟩
theorem mvX1_mark : w_mv 1 mX1_mark := ⟨⟨_, rfl, rfl⟩, w_gd 604 (by decide +kernel) (by decide +kernel), w_gs 27 (by decide +kernel) (by decide +kernel)⟩
theorem mwX1_toldBefore : w_mw mX1_toldBefore 1 := ⟨w_gd 610 (by decide +kernel) (by decide +kernel), w_gd 7 (by decide +kernel) (by decide +kernel), ⟨by decide +kernel, by decide +kernel⟩, by decide +kernel⟩
theorem mvX1_toldBefore : w_mv 1 mX1_toldBefore := ⟨⟨_, rfl, rfl⟩, w_gd 609 (by decide +kernel) (by decide +kernel), w_gs 28 (by decide +kernel) (by decide +kernel)⟩
theorem mwX1_writeRow : w_mw mX1_writeRow 2 := ⟨w_gd 613 (by decide +kernel) (by decide +kernel), w_gd 7 (by decide +kernel) (by decide +kernel), ⟨by decide +kernel, by decide +kernel⟩, by decide +kernel⟩
theorem msX1_writeRow : Jvm.Cond.static mX1_writeRow.1 ∈ w_good := w_gd 612 (by decide +kernel) (by decide +kernel)
theorem mwX1_isAlike : w_mw mX1_isAlike 1 := ⟨w_gd 620 (by decide +kernel) (by decide +kernel), w_gd 7 (by decide +kernel) (by decide +kernel), ⟨by decide +kernel, by decide +kernel⟩, by decide +kernel⟩
theorem mvX1_isAlike : w_mv 1 mX1_isAlike := ⟨⟨_, rfl, rfl⟩, w_gd 619 (by decide +kernel) (by decide +kernel), w_gs 29 (by decide +kernel) (by decide +kernel)⟩
theorem mwX1_formOf : w_mw mX1_formOf 2 := ⟨w_gd 623 (by decide +kernel) (by decide +kernel), w_gd 7 (by decide +kernel) (by decide +kernel), ⟨by decide +kernel, by decide +kernel⟩, by decide +kernel⟩
theorem msX1_formOf : Jvm.Cond.static mX1_formOf.1 ∈ w_good := w_gd 622 (by decide +kernel) (by decide +kernel)
theorem mwX2_init : w_mw mX2_init 0 := ⟨w_gd 60 (by decide +kernel) (by decide +kernel), w_gd 5 (by decide +kernel) (by decide +kernel), ⟨by decide +kernel, by decide +kernel⟩, by decide +kernel⟩
theorem miX2_init : Jvm.Cond.instanceMethod mX2_init.1 ∈ w_good := w_gd 59 (by decide +kernel) (by decide +kernel)
theorem mwX2_isThere : w_mw mX2_isThere 0 := ⟨w_gd 412 (by decide +kernel) (by decide +kernel), w_gd 5 (by decide +kernel) (by decide +kernel), ⟨by decide +kernel, by decide +kernel⟩, by decide +kernel⟩
theorem mvX2_isThere : w_mv 2 mX2_isThere := ⟨⟨_, rfl, rfl⟩, w_gd 410 (by decide +kernel) (by decide +kernel), w_gd 411 (by decide +kernel) (by decide +kernel)⟩
theorem mwX2_copyFrom : w_mw mX2_copyFrom 1 := ⟨w_gd 416 (by decide +kernel) (by decide +kernel), w_gd 5 (by decide +kernel) (by decide +kernel), ⟨by decide +kernel, by decide +kernel⟩, by decide +kernel⟩
theorem mvX2_copyFrom : w_mv 2 mX2_copyFrom := ⟨⟨_, rfl, rfl⟩, w_gd 414 (by decide +kernel) (by decide +kernel), w_gd 415 (by decide +kernel) (by decide +kernel)⟩
theorem mwX2_startWith : w_mw mX2_startWith 1 := ⟨w_gd 377 (by decide +kernel) (by decide +kernel), w_gd 5 (by decide +kernel) (by decide +kernel), ⟨by decide +kernel, by decide +kernel⟩, by decide +kernel⟩
theorem mvX2_startWith : w_mv 2 mX2_startWith := ⟨⟨_, rfl, rfl⟩, w_gd 375 (by decide +kernel) (by decide +kernel), w_gd 376 (by decide +kernel) (by decide +kernel)⟩
theorem mwX2_becomeRaised : w_mw mX2_becomeRaised 2 := ⟨w_gd 401 (by decide +kernel) (by decide +kernel), w_gd 5 (by decide +kernel) (by decide +kernel), ⟨by decide +kernel, by decide +kernel⟩, by decide +kernel⟩
theorem mvX2_becomeRaised : w_mv 2 mX2_becomeRaised := ⟨⟨_, rfl, rfl⟩, w_gd 399 (by decide +kernel) (by decide +kernel), w_gd 400 (by decide +kernel) (by decide +kernel)⟩
theorem mwX2_slot : w_mw mX2_slot 1 := ⟨w_gd 582 (by decide +kernel) (by decide +kernel), w_gd 5 (by decide +kernel) (by decide +kernel), ⟨by decide +kernel, by decide +kernel⟩, by decide +kernel⟩
theorem mvX2_slot : w_mv 2 mX2_slot := ⟨⟨_, rfl, rfl⟩, w_gd 580 (by decide +kernel) (by decide +kernel), w_gd 581 (by decide +kernel) (by decide +kernel)⟩
theorem mwX2_top : w_mw mX2_top 0 := ⟨w_gd 473 (by decide +kernel) (by decide +kernel), w_gd 5 (by decide +kernel) (by decide +kernel), ⟨by decide +kernel, by decide +kernel⟩, by decide +kernel⟩
theorem mvX2_top : w_mv 2 mX2_top := ⟨⟨_, rfl, rfl⟩, w_gd 471 (by decide +kernel) (by decide +kernel), w_gd 472 (by decide +kernel) (by decide +kernel)⟩
theorem mwX2_hasLongOnTop : w_mw mX2_hasLongOnTop 0 := ⟨w_gd 465 (by decide +kernel) (by decide +kernel), w_gd 5 (by decide +kernel) (by decide +kernel), ⟨by decide +kernel, by decide +kernel⟩, by decide +kernel⟩
theorem mvX2_hasLongOnTop : w_mv 2 mX2_hasLongOnTop := ⟨⟨_, rfl, rfl⟩, w_gd 463 (by decide +kernel) (by decide +kernel), w_gd 464 (by decide +kernel) (by decide +kernel)⟩
theorem mwX2_hasLongAt : w_mw mX2_hasLongAt 1 := ⟨w_gd 494 (by decide +kernel) (by decide +kernel), w_gd 5 (by decide +kernel) (by decide +kernel), ⟨by decide +kernel, by decide +kernel⟩, by decide +kernel⟩
theorem mvX2_hasLongAt : w_mv 2 mX2_hasLongAt := ⟨⟨_, rfl, rfl⟩, w_gd 492 (by decide +kernel) (by decide +kernel), w_gd 493 (by decide +kernel) (by decide +kernel)⟩
theorem mwX2_holdsUnmade : w_mw mX2_holdsUnmade 0 := ⟨w_gd 555 (by decide +kernel) (by decide +kernel), w_gd 5 (by decide +kernel) (by decide +kernel), ⟨by decide +kernel, by decide +kernel⟩, by decide +kernel⟩
theorem mvX2_holdsUnmade : w_mv 2 mX2_holdsUnmade := ⟨⟨_, rfl, rfl⟩, w_gd 553 (by decide +kernel) (by decide +kernel), w_gd 554 (by decide +kernel) (by decide +kernel)⟩
theorem mwX2_replace : w_mw mX2_replace 2 := ⟨w_gd 522 (by decide +kernel) (by decide +kernel), w_gd 5 (by decide +kernel) (by decide +kernel), ⟨by decide +kernel, by decide +kernel⟩, by decide +kernel⟩
theorem mvX2_replace : w_mv 2 mX2_replace := ⟨⟨_, rfl, rfl⟩, w_gd 520 (by decide +kernel) (by decide +kernel), w_gd 521 (by decide +kernel) (by decide +kernel)⟩
theorem mwX2_breakLong : w_mw mX2_breakLong 1 := ⟨w_gd 490 (by decide +kernel) (by decide +kernel), w_gd 5 (by decide +kernel) (by decide +kernel), ⟨by decide +kernel, by decide +kernel⟩, by decide +kernel⟩
theorem mvX2_breakLong : w_mv 2 mX2_breakLong := ⟨⟨_, rfl, rfl⟩, w_gd 488 (by decide +kernel) (by decide +kernel), w_gd 489 (by decide +kernel) (by decide +kernel)⟩
theorem mwX3_init : w_mw mX3_init 1 := ⟨w_gd 44 (by decide +kernel) (by decide +kernel), w_gd 3 (by decide +kernel) (by decide +kernel), ⟨by decide +kernel, by decide +kernel⟩, by decide +kernel⟩
theorem miX3_init : Jvm.Cond.instanceMethod mX3_init.1 ∈ w_good := w_gd 43 (by decide +kernel) (by decide +kernel)
theorem mwX3_isThing : w_mw mX3_isThing 1 := ⟨w_gd 191 (by decide +kernel) (by decide +kernel), w_gd 3 (by decide +kernel) (by decide +kernel), ⟨by decide +kernel, by decide +kernel⟩, by decide +kernel⟩
theorem msX3_isThing : Jvm.Cond.static mX3_isThing.1 ∈ w_good := w_gd 190 (by decide +kernel) (by decide +kernel)
theorem mwX3_isThingRow : w_mw mX3_isThingRow 1 := ⟨w_gd 195 (by decide +kernel) (by decide +kernel), w_gd 3 (by decide +kernel) (by decide +kernel), ⟨by decide +kernel, by decide +kernel⟩, by decide +kernel⟩
theorem msX3_isThingRow : Jvm.Cond.static mX3_isThingRow.1 ∈ w_good := w_gd 194 (by decide +kernel) (by decide +kernel)
theorem mwX3_isUnmade : w_mw mX3_isUnmade 1 := ⟨w_gd 404 (by decide +kernel) (by decide +kernel), w_gd 3 (by decide +kernel) (by decide +kernel), ⟨by decide +kernel, by decide +kernel⟩, by decide +kernel⟩
theorem msX3_isUnmade : Jvm.Cond.static mX3_isUnmade.1 ∈ w_good := w_gd 403 (by decide +kernel) (by decide +kernel)
theorem mwX3_isReference : w_mw mX3_isReference 1 := ⟨w_gd 202 (by decide +kernel) (by decide +kernel), w_gd 3 (by decide +kernel) (by decide +kernel), ⟨by decide +kernel, by decide +kernel⟩, by decide +kernel⟩
theorem msX3_isReference : Jvm.Cond.static mX3_isReference.1 ∈ w_good := w_gd 201 (by decide +kernel) (by decide +kernel)
theorem mwX3_isOfClass : w_mw mX3_isOfClass 1 := ⟨w_gd 188 (by decide +kernel) (by decide +kernel), w_gd 3 (by decide +kernel) (by decide +kernel), ⟨by decide +kernel, by decide +kernel⟩, by decide +kernel⟩
theorem mvX3_isOfClass : w_mv 3 mX3_isOfClass := ⟨⟨_, rfl, rfl⟩, w_gd 187 (by decide +kernel) (by decide +kernel), w_gs 0 (by decide +kernel) (by decide +kernel)⟩
theorem mwX3_isKnown : w_mw mX3_isKnown 1 := ⟨w_gd 184 (by decide +kernel) (by decide +kernel), w_gd 3 (by decide +kernel) (by decide +kernel), ⟨by decide +kernel, by decide +kernel⟩, by decide +kernel⟩
theorem mvX3_isKnown : w_mv 3 mX3_isKnown := ⟨⟨_, rfl, rfl⟩, w_gd 182 (by decide +kernel) (by decide +kernel), w_gd 183 (by decide +kernel) (by decide +kernel)⟩
theorem mwX3_isArgument : w_mw mX3_isArgument 1 := ⟨w_gd 218 (by decide +kernel) (by decide +kernel), w_gd 3 (by decide +kernel) (by decide +kernel), ⟨by decide +kernel, by decide +kernel⟩, by decide +kernel⟩
theorem mvX3_isArgument : w_mv 3 mX3_isArgument := ⟨⟨_, rfl, rfl⟩, w_gd 216 (by decide +kernel) (by decide +kernel), w_gd 217 (by decide +kernel) (by decide +kernel)⟩
theorem mwX3_isResult : w_mw mX3_isResult 1 := ⟨w_gd 214 (by decide +kernel) (by decide +kernel), w_gd 3 (by decide +kernel) (by decide +kernel), ⟨by decide +kernel, by decide +kernel⟩, by decide +kernel⟩
theorem mvX3_isResult : w_mv 3 mX3_isResult := ⟨⟨_, rfl, rfl⟩, w_gd 212 (by decide +kernel) (by decide +kernel), w_gd 213 (by decide +kernel) (by decide +kernel)⟩
theorem mwX3_suits : w_mw mX3_suits 2 := ⟨w_gd 477 (by decide +kernel) (by decide +kernel), w_gd 3 (by decide +kernel) (by decide +kernel), ⟨by decide +kernel, by decide +kernel⟩, by decide +kernel⟩
theorem mvX3_suits : w_mv 3 mX3_suits := ⟨⟨_, rfl, rfl⟩, w_gd 475 (by decide +kernel) (by decide +kernel), w_gd 476 (by decide +kernel) (by decide +kernel)⟩
theorem mwX3_merge : w_mw mX3_merge 2 := ⟨w_gd 199 (by decide +kernel) (by decide +kernel), w_gd 3 (by decide +kernel) (by decide +kernel), ⟨by decide +kernel, by decide +kernel⟩, by decide +kernel⟩
theorem mvX3_merge : w_mv 3 mX3_merge := ⟨⟨_, rfl, rfl⟩, w_gd 197 (by decide +kernel) (by decide +kernel), w_gd 198 (by decide +kernel) (by decide +kernel)⟩
theorem mwX4_init : w_mw mX4_init 1 := ⟨w_gd 222 (by decide +kernel) (by decide +kernel), w_gd 9 (by decide +kernel) (by decide +kernel), ⟨by decide +kernel, by decide +kernel⟩, by decide +kernel⟩
theorem miX4_init : Jvm.Cond.instanceMethod mX4_init.1 ∈ w_good := w_gd 221 (by decide +kernel) (by decide +kernel)
theorem mwX4_addArgument : w_mw mX4_addArgument 1 := ⟨w_gd 341 (by decide +kernel) (by decide +kernel), w_gd 9 (by decide +kernel) (by decide +kernel), ⟨by decide +kernel, by decide +kernel⟩, by decide +kernel⟩
theorem mvX4_addArgument : w_mv 4 mX4_addArgument := ⟨⟨_, rfl, rfl⟩, w_gd 339 (by decide +kernel) (by decide +kernel), w_gd 340 (by decide +kernel) (by decide +kernel)⟩
theorem mwX4_addOp : w_mw mX4_addOp 3 := ⟨w_gd 353 (by decide +kernel) (by decide +kernel), w_gd 9 (by decide +kernel) (by decide +kernel), ⟨by decide +kernel, by decide +kernel⟩, by decide +kernel⟩
theorem mvX4_addOp : w_mv 4 mX4_addOp := ⟨⟨_, rfl, rfl⟩, w_gd 351 (by decide +kernel) (by decide +kernel), w_gd 352 (by decide +kernel) (by decide +kernel)⟩
theorem mwX4_addGuard : w_mw mX4_addGuard 4 := ⟨w_gd 361 (by decide +kernel) (by decide +kernel), w_gd 9 (by decide +kernel) (by decide +kernel), ⟨by decide +kernel, by decide +kernel⟩, by decide +kernel⟩
theorem mvX4_addGuard : w_mv 4 mX4_addGuard := ⟨⟨_, rfl, rfl⟩, w_gd 359 (by decide +kernel) (by decide +kernel), w_gd 360 (by decide +kernel) (by decide +kernel)⟩
theorem mwX4_hasPlace : w_mw mX4_hasPlace 1 := ⟨w_gd 397 (by decide +kernel) (by decide +kernel), w_gd 9 (by decide +kernel) (by decide +kernel), ⟨by decide +kernel, by decide +kernel⟩, by decide +kernel⟩
theorem mvX4_hasPlace : w_mv 4 mX4_hasPlace := ⟨⟨_, rfl, rfl⟩, w_gd 395 (by decide +kernel) (by decide +kernel), w_gd 396 (by decide +kernel) (by decide +kernel)⟩
theorem mwX4_isGuarded : w_mw mX4_isGuarded 2 := ⟨w_gd 393 (by decide +kernel) (by decide +kernel), w_gd 9 (by decide +kernel) (by decide +kernel), ⟨by decide +kernel, by decide +kernel⟩, by decide +kernel⟩
theorem mvX4_isGuarded : w_mv 4 mX4_isGuarded := ⟨⟨_, rfl, rfl⟩, w_gd 391 (by decide +kernel) (by decide +kernel), w_gd 392 (by decide +kernel) (by decide +kernel)⟩
theorem mwX4_isJump : w_mw mX4_isJump 1 := ⟨w_gd 547 (by decide +kernel) (by decide +kernel), w_gd 9 (by decide +kernel) (by decide +kernel), ⟨by decide +kernel, by decide +kernel⟩, by decide +kernel⟩
theorem mvX4_isJump : w_mv 4 mX4_isJump := ⟨⟨_, rfl, rfl⟩, w_gd 545 (by decide +kernel) (by decide +kernel), w_gd 546 (by decide +kernel) (by decide +kernel)⟩
theorem mwX4_classOfUnmade : w_mw mX4_classOfUnmade 1 := ⟨w_gd 516 (by decide +kernel) (by decide +kernel), w_gd 9 (by decide +kernel) (by decide +kernel), ⟨by decide +kernel, by decide +kernel⟩, by decide +kernel⟩
theorem mvX4_classOfUnmade : w_mv 4 mX4_classOfUnmade := ⟨⟨_, rfl, rfl⟩, w_gd 514 (by decide +kernel) (by decide +kernel), w_gd 515 (by decide +kernel) (by decide +kernel)⟩
theorem mwX4_wantedLocals : w_mw mX4_wantedLocals 0 := ⟨w_gd 567 (by decide +kernel) (by decide +kernel), w_gd 9 (by decide +kernel) (by decide +kernel), ⟨by decide +kernel, by decide +kernel⟩, by decide +kernel⟩
theorem mvX4_wantedLocals : w_mv 4 mX4_wantedLocals := ⟨⟨_, rfl, rfl⟩, w_gd 565 (by decide +kernel) (by decide +kernel), w_gd 566 (by decide +kernel) (by decide +kernel)⟩
theorem mwX4_localsOfOp : w_mw mX4_localsOfOp 1 := ⟨w_gd 572 (by decide +kernel) (by decide +kernel), w_gd 9 (by decide +kernel) (by decide +kernel), ⟨by decide +kernel, by decide +kernel⟩, by decide +kernel⟩
theorem mvX4_localsOfOp : w_mv 4 mX4_localsOfOp := ⟨⟨_, rfl, rfl⟩, w_gd 571 (by decide +kernel) (by decide +kernel), w_gs 25 (by decide +kernel) (by decide +kernel)⟩
theorem mwX5_init : w_mw mX5_init 1 := ⟨w_gd 86 (by decide +kernel) (by decide +kernel), w_gd 6 (by decide +kernel) (by decide +kernel), ⟨by decide +kernel, by decide +kernel⟩, by decide +kernel⟩
theorem miX5_init : Jvm.Cond.instanceMethod mX5_init.1 ∈ w_good := w_gd 85 (by decide +kernel) (by decide +kernel)
theorem mwX5_perform : w_mw mX5_perform 2 := ⟨w_gd 436 (by decide +kernel) (by decide +kernel), w_gd 6 (by decide +kernel) (by decide +kernel), ⟨by decide +kernel, by decide +kernel⟩, by decide +kernel⟩
theorem mvX5_perform : w_mv 5 mX5_perform := ⟨⟨_, rfl, rfl⟩, w_gd 434 (by decide +kernel) (by decide +kernel), w_gd 435 (by decide +kernel) (by decide +kernel)⟩
theorem mwX5_useLocal : w_mw mX5_useLocal 2 := ⟨w_gd 441 (by decide +kernel) (by decide +kernel), w_gd 6 (by decide +kernel) (by decide +kernel), ⟨by decide +kernel, by decide +kernel⟩, by decide +kernel⟩
theorem mvX5_useLocal : w_mv 5 mX5_useLocal := ⟨⟨_, rfl, rfl⟩, w_gd 440 (by decide +kernel) (by decide +kernel), w_gs 7 (by decide +kernel) (by decide +kernel)⟩
theorem mwX5_useValue : w_mw mX5_useValue 2 := ⟨w_gd 535 (by decide +kernel) (by decide +kernel), w_gd 6 (by decide +kernel) (by decide +kernel), ⟨by decide +kernel, by decide +kernel⟩, by decide +kernel⟩
theorem mvX5_useValue : w_mv 5 mX5_useValue := ⟨⟨_, rfl, rfl⟩, w_gd 534 (by decide +kernel) (by decide +kernel), w_gs 21 (by decide +kernel) (by decide +kernel)⟩
theorem mwX5_useThing : w_mw mX5_useThing 2 := ⟨w_gd 508 (by decide +kernel) (by decide +kernel), w_gd 6 (by decide +kernel) (by decide +kernel), ⟨by decide +kernel, by decide +kernel⟩, by decide +kernel⟩
theorem mvX5_useThing : w_mv 5 mX5_useThing := ⟨⟨_, rfl, rfl⟩, w_gd 507 (by decide +kernel) (by decide +kernel), w_gs 17 (by decide +kernel) (by decide +kernel)⟩
theorem mwX5_layTop : w_mw mX5_layTop 0 := ⟨w_gd 539 (by decide +kernel) (by decide +kernel), w_gd 6 (by decide +kernel) (by decide +kernel), ⟨by decide +kernel, by decide +kernel⟩, by decide +kernel⟩
theorem mvX5_layTop : w_mv 5 mX5_layTop := ⟨⟨_, rfl, rfl⟩, w_gd 538 (by decide +kernel) (by decide +kernel), w_gs 22 (by decide +kernel) (by decide +kernel)⟩
theorem mwX5_make : w_mw mX5_make 2 := ⟨w_gd 512 (by decide +kernel) (by decide +kernel), w_gd 6 (by decide +kernel) (by decide +kernel), ⟨by decide +kernel, by decide +kernel⟩, by decide +kernel⟩
theorem mvX5_make : w_mv 5 mX5_make := ⟨⟨_, rfl, rfl⟩, w_gd 511 (by decide +kernel) (by decide +kernel), w_gs 18 (by decide +kernel) (by decide +kernel)⟩
theorem mwX5_loadElement : w_mw mX5_loadElement 0 := ⟨w_gd 526 (by decide +kernel) (by decide +kernel), w_gd 6 (by decide +kernel) (by decide +kernel), ⟨by decide +kernel, by decide +kernel⟩, by decide +kernel⟩
theorem mvX5_loadElement : w_mv 5 mX5_loadElement := ⟨⟨_, rfl, rfl⟩, w_gd 525 (by decide +kernel) (by decide +kernel), w_gs 19 (by decide +kernel) (by decide +kernel)⟩
theorem mwX5_storeElement : w_mw mX5_storeElement 0 := ⟨w_gd 531 (by decide +kernel) (by decide +kernel), w_gd 6 (by decide +kernel) (by decide +kernel), ⟨by decide +kernel, by decide +kernel⟩, by decide +kernel⟩
theorem mvX5_storeElement : w_mv 5 mX5_storeElement := ⟨⟨_, rfl, rfl⟩, w_gd 530 (by decide +kernel) (by decide +kernel), w_gs 20 (by decide +kernel) (by decide +kernel)⟩
theorem mwX5_isReferenceOrUnmade : w_mw mX5_isReferenceOrUnmade 1 := ⟨w_gd 502 (by decide +kernel) (by decide +kernel), w_gd 6 (by decide +kernel) (by decide +kernel), ⟨by decide +kernel, by decide +kernel⟩, by decide +kernel⟩
theorem msX5_isReferenceOrUnmade : Jvm.Cond.static mX5_isReferenceOrUnmade.1 ∈ w_good := w_gd 501 (by decide +kernel) (by decide +kernel)
theorem mwX5_breakRule : w_mw mX5_breakRule 1 := ⟨w_gd 449 (by decide +kernel) (by decide +kernel), w_gd 6 (by decide +kernel) (by decide +kernel), ⟨by decide +kernel, by decide +kernel⟩, by decide +kernel⟩
theorem mvX5_breakRule : w_mv 5 mX5_breakRule := ⟨⟨_, rfl, rfl⟩, w_gd 448 (by decide +kernel) (by decide +kernel), w_gs 9 (by decide +kernel) (by decide +kernel)⟩
theorem mwX5_expect : w_mw mX5_expect 1 := ⟨w_gd 482 (by decide +kernel) (by decide +kernel), w_gd 6 (by decide +kernel) (by decide +kernel), ⟨by decide +kernel, by decide +kernel⟩, by decide +kernel⟩
theorem mvX5_expect : w_mv 5 mX5_expect := ⟨⟨_, rfl, rfl⟩, w_gd 481 (by decide +kernel) (by decide +kernel), w_gs 14 (by decide +kernel) (by decide +kernel)⟩
theorem mwX5_expectInLocal : w_mw mX5_expectInLocal 1 := ⟨w_gd 445 (by decide +kernel) (by decide +kernel), w_gd 6 (by decide +kernel) (by decide +kernel), ⟨by decide +kernel, by decide +kernel⟩, by decide +kernel⟩
theorem mvX5_expectInLocal : w_mv 5 mX5_expectInLocal := ⟨⟨_, rfl, rfl⟩, w_gd 444 (by decide +kernel) (by decide +kernel), w_gs 8 (by decide +kernel) (by decide +kernel)⟩
theorem mwX5_takeAny : w_mw mX5_takeAny 0 := ⟨w_gd 469 (by decide +kernel) (by decide +kernel), w_gd 6 (by decide +kernel) (by decide +kernel), ⟨by decide +kernel, by decide +kernel⟩, by decide +kernel⟩
theorem mvX5_takeAny : w_mv 5 mX5_takeAny := ⟨⟨_, rfl, rfl⟩, w_gd 468 (by decide +kernel) (by decide +kernel), w_gs 13 (by decide +kernel) (by decide +kernel)⟩
theorem mwX5_take : w_mw mX5_take 1 := ⟨w_gd 457 (by decide +kernel) (by decide +kernel), w_gd 6 (by decide +kernel) (by decide +kernel), ⟨by decide +kernel, by decide +kernel⟩, by decide +kernel⟩
theorem mvX5_take : w_mv 5 mX5_take := ⟨⟨_, rfl, rfl⟩, w_gd 456 (by decide +kernel) (by decide +kernel), w_gs 11 (by decide +kernel) (by decide +kernel)⟩
theorem mwX5_takeLong : w_mw mX5_takeLong 0 := ⟨w_gd 461 (by decide +kernel) (by decide +kernel), w_gd 6 (by decide +kernel) (by decide +kernel), ⟨by decide +kernel, by decide +kernel⟩, by decide +kernel⟩
theorem mvX5_takeLong : w_mv 5 mX5_takeLong := ⟨⟨_, rfl, rfl⟩, w_gd 460 (by decide +kernel) (by decide +kernel), w_gs 12 (by decide +kernel) (by decide +kernel)⟩
theorem mwX5_lay : w_mw mX5_lay 1 := ⟨w_gd 453 (by decide +kernel) (by decide +kernel), w_gd 6 (by decide +kernel) (by decide +kernel), ⟨by decide +kernel, by decide +kernel⟩, by decide +kernel⟩
theorem mvX5_lay : w_mv 5 mX5_lay := ⟨⟨_, rfl, rfl⟩, w_gd 452 (by decide +kernel) (by decide +kernel), w_gs 10 (by decide +kernel) (by decide +kernel)⟩
theorem mwX5_put : w_mw mX5_put 2 := ⟨w_gd 486 (by decide +kernel) (by decide +kernel), w_gd 6 (by decide +kernel) (by decide +kernel), ⟨by decide +kernel, by decide +kernel⟩, by decide +kernel⟩
theorem mvX5_put : w_mv 5 mX5_put := ⟨⟨_, rfl, rfl⟩, w_gd 485 (by decide +kernel) (by decide +kernel), w_gs 15 (by decide +kernel) (by decide +kernel)⟩
theorem mwX5_putLong : w_mw mX5_putLong 1 := ⟨w_gd 499 (by decide +kernel) (by decide +kernel), w_gd 6 (by decide +kernel) (by decide +kernel), ⟨by decide +kernel, by decide +kernel⟩, by decide +kernel⟩
theorem mvX5_putLong : w_mv 5 mX5_putLong := ⟨⟨_, rfl, rfl⟩, w_gd 498 (by decide +kernel) (by decide +kernel), w_gs 16 (by decide +kernel) (by decide +kernel)⟩
theorem mwX6_init : w_mw mX6_init 0 := ⟨w_gd 228 (by decide +kernel) (by decide +kernel), w_gd 10 (by decide +kernel) (by decide +kernel), ⟨by decide +kernel, by decide +kernel⟩, by decide +kernel⟩
theorem miX6_init : Jvm.Cond.instanceMethod mX6_init.1 ∈ w_good := w_gd 227 (by decide +kernel) (by decide +kernel)
theorem mwX6_startWith : w_mw mX6_startWith 1 := ⟨w_gd 373 (by decide +kernel) (by decide +kernel), w_gd 10 (by decide +kernel) (by decide +kernel), ⟨by decide +kernel, by decide +kernel⟩, by decide +kernel⟩
theorem mvX6_startWith : w_mv 6 mX6_startWith := ⟨⟨_, rfl, rfl⟩, w_gd 371 (by decide +kernel) (by decide +kernel), w_gd 372 (by decide +kernel) (by decide +kernel)⟩
theorem mwX6_leastWaiting : w_mw mX6_leastWaiting 0 := ⟨w_gd 385 (by decide +kernel) (by decide +kernel), w_gd 10 (by decide +kernel) (by decide +kernel), ⟨by decide +kernel, by decide +kernel⟩, by decide +kernel⟩
theorem mvX6_leastWaiting : w_mv 6 mX6_leastWaiting := ⟨⟨_, rfl, rfl⟩, w_gd 383 (by decide +kernel) (by decide +kernel), w_gd 384 (by decide +kernel) (by decide +kernel)⟩
theorem mwX6_breakAt : w_mw mX6_breakAt 2 := ⟨w_gd 559 (by decide +kernel) (by decide +kernel), w_gd 10 (by decide +kernel) (by decide +kernel), ⟨by decide +kernel, by decide +kernel⟩, by decide +kernel⟩
theorem mvX6_breakAt : w_mv 6 mX6_breakAt := ⟨⟨_, rfl, rfl⟩, w_gd 557 (by decide +kernel) (by decide +kernel), w_gd 558 (by decide +kernel) (by decide +kernel)⟩
theorem mwX6_note : w_mw mX6_note 1 := ⟨w_gd 420 (by decide +kernel) (by decide +kernel), w_gd 10 (by decide +kernel) (by decide +kernel), ⟨by decide +kernel, by decide +kernel⟩, by decide +kernel⟩
theorem mvX6_note : w_mv 6 mX6_note := ⟨⟨_, rfl, rfl⟩, w_gd 418 (by decide +kernel) (by decide +kernel), w_gd 419 (by decide +kernel) (by decide +kernel)⟩
theorem mwX7_init : w_mw mX7_init 1 := ⟨w_gd 54 (by decide +kernel) (by decide +kernel), w_gd 4 (by decide +kernel) (by decide +kernel), ⟨by decide +kernel, by decide +kernel⟩, by decide +kernel⟩
theorem miX7_init : Jvm.Cond.instanceMethod mX7_init.1 ∈ w_good := w_gd 53 (by decide +kernel) (by decide +kernel)
theorem mwX7_run : w_mw mX7_run 1 := ⟨w_gd 369 (by decide +kernel) (by decide +kernel), w_gd 4 (by decide +kernel) (by decide +kernel), ⟨by decide +kernel, by decide +kernel⟩, by decide +kernel⟩
theorem mvX7_run : w_mv 7 mX7_run := ⟨⟨_, rfl, rfl⟩, w_gd 367 (by decide +kernel) (by decide +kernel), w_gd 368 (by decide +kernel) (by decide +kernel)⟩
theorem mwX7_meetHandlers : w_mw mX7_meetHandlers 2 := ⟨w_gd 389 (by decide +kernel) (by decide +kernel), w_gd 4 (by decide +kernel) (by decide +kernel), ⟨by decide +kernel, by decide +kernel⟩, by decide +kernel⟩
theorem mvX7_meetHandlers : w_mv 7 mX7_meetHandlers := ⟨⟨_, rfl, rfl⟩, w_gd 388 (by decide +kernel) (by decide +kernel), w_gs 3 (by decide +kernel) (by decide +kernel)⟩
theorem mwX7_goOn : w_mw mX7_goOn 2 := ⟨w_gd 543 (by decide +kernel) (by decide +kernel), w_gd 4 (by decide +kernel) (by decide +kernel), ⟨by decide +kernel, by decide +kernel⟩, by decide +kernel⟩
theorem mvX7_goOn : w_mv 7 mX7_goOn := ⟨⟨_, rfl, rfl⟩, w_gd 542 (by decide +kernel) (by decide +kernel), w_gs 23 (by decide +kernel) (by decide +kernel)⟩
theorem mwX7_jumpRule : w_mw mX7_jumpRule 2 := ⟨w_gd 551 (by decide +kernel) (by decide +kernel), w_gd 4 (by decide +kernel) (by decide +kernel), ⟨by decide +kernel, by decide +kernel⟩, by decide +kernel⟩
theorem mvX7_jumpRule : w_mv 7 mX7_jumpRule := ⟨⟨_, rfl, rfl⟩, w_gd 550 (by decide +kernel) (by decide +kernel), w_gs 24 (by decide +kernel) (by decide +kernel)⟩
theorem mwX7_meet : w_mw mX7_meet 3 := ⟨w_gd 408 (by decide +kernel) (by decide +kernel), w_gd 4 (by decide +kernel) (by decide +kernel), ⟨by decide +kernel, by decide +kernel⟩, by decide +kernel⟩
theorem mvX7_meet : w_mv 7 mX7_meet := ⟨⟨_, rfl, rfl⟩, w_gd 407 (by decide +kernel) (by decide +kernel), w_gs 4 (by decide +kernel) (by decide +kernel)⟩
theorem mwX7_canMeet : w_mw mX7_canMeet 2 := ⟨w_gd 427 (by decide +kernel) (by decide +kernel), w_gd 4 (by decide +kernel) (by decide +kernel), ⟨by decide +kernel, by decide +kernel⟩, by decide +kernel⟩
theorem mvX7_canMeet : w_mv 7 mX7_canMeet := ⟨⟨_, rfl, rfl⟩, w_gd 426 (by decide +kernel) (by decide +kernel), w_gs 5 (by decide +kernel) (by decide +kernel)⟩
theorem mwX7_mergeRow : w_mw mX7_mergeRow 3 := ⟨w_gd 432 (by decide +kernel) (by decide +kernel), w_gd 4 (by decide +kernel) (by decide +kernel), ⟨by decide +kernel, by decide +kernel⟩, by decide +kernel⟩
theorem mvX7_mergeRow : w_mv 7 mX7_mergeRow := ⟨⟨_, rfl, rfl⟩, w_gd 431 (by decide +kernel) (by decide +kernel), w_gs 6 (by decide +kernel) (by decide +kernel)⟩
theorem mwX8_init : w_mw mX8_init 0 := ⟨w_gd 17 (by decide +kernel) (by decide +kernel), w_gd 1 (by decide +kernel) (by decide +kernel), ⟨by decide +kernel, by decide +kernel⟩, by decide +kernel⟩
theorem miX8_init : Jvm.Cond.instanceMethod mX8_init.1 ∈ w_good := w_gd 16 (by decide +kernel) (by decide +kernel)
theorem mwX8_cls : w_mw mX8_cls 1 := ⟨w_gd 151 (by decide +kernel) (by decide +kernel), w_gd 1 (by decide +kernel) (by decide +kernel), ⟨by decide +kernel, by decide +kernel⟩, by decide +kernel⟩
theorem mvX8_cls : w_mv 8 mX8_cls := ⟨⟨_, rfl, rfl⟩, w_gd 149 (by decide +kernel) (by decide +kernel), w_gd 150 (by decide +kernel) (by decide +kernel)⟩
theorem mwX8_fits : w_mw mX8_fits 2 := ⟨w_gd 172 (by decide +kernel) (by decide +kernel), w_gd 1 (by decide +kernel) (by decide +kernel), ⟨by decide +kernel, by decide +kernel⟩, by decide +kernel⟩
theorem mvX8_fits : w_mv 8 mX8_fits := ⟨⟨_, rfl, rfl⟩, w_gd 170 (by decide +kernel) (by decide +kernel), w_gd 171 (by decide +kernel) (by decide +kernel)⟩
theorem mwX8_join : w_mw mX8_join 2 := ⟨w_gd 180 (by decide +kernel) (by decide +kernel), w_gd 1 (by decide +kernel) (by decide +kernel), ⟨by decide +kernel, by decide +kernel⟩, by decide +kernel⟩
theorem mvX8_join : w_mv 8 mX8_join := ⟨⟨_, rfl, rfl⟩, w_gd 178 (by decide +kernel) (by decide +kernel), w_gd 179 (by decide +kernel) (by decide +kernel)⟩
theorem mwX8_method : w_mw mX8_method 1 := ⟨w_gd 210 (by decide +kernel) (by decide +kernel), w_gd 1 (by decide +kernel) (by decide +kernel), ⟨by decide +kernel, by decide +kernel⟩, by decide +kernel⟩
theorem mvX8_method : w_mv 8 mX8_method := ⟨⟨_, rfl, rfl⟩, w_gd 208 (by decide +kernel) (by decide +kernel), w_gd 209 (by decide +kernel) (by decide +kernel)⟩
theorem mwX8_argument : w_mw mX8_argument 2 := ⟨w_gd 332 (by decide +kernel) (by decide +kernel), w_gd 1 (by decide +kernel) (by decide +kernel), ⟨by decide +kernel, by decide +kernel⟩, by decide +kernel⟩
theorem mvX8_argument : w_mv 8 mX8_argument := ⟨⟨_, rfl, rfl⟩, w_gd 330 (by decide +kernel) (by decide +kernel), w_gd 331 (by decide +kernel) (by decide +kernel)⟩
theorem mwX8_op : w_mw mX8_op 4 := ⟨w_gd 345 (by decide +kernel) (by decide +kernel), w_gd 1 (by decide +kernel) (by decide +kernel), ⟨by decide +kernel, by decide +kernel⟩, by decide +kernel⟩
theorem mvX8_op : w_mv 8 mX8_op := ⟨⟨_, rfl, rfl⟩, w_gd 343 (by decide +kernel) (by decide +kernel), w_gd 344 (by decide +kernel) (by decide +kernel)⟩
theorem mwX8_guard : w_mw mX8_guard 5 := ⟨w_gd 357 (by decide +kernel) (by decide +kernel), w_gd 1 (by decide +kernel) (by decide +kernel), ⟨by decide +kernel, by decide +kernel⟩, by decide +kernel⟩
theorem mvX8_guard : w_mv 8 mX8_guard := ⟨⟨_, rfl, rfl⟩, w_gd 355 (by decide +kernel) (by decide +kernel), w_gd 356 (by decide +kernel) (by decide +kernel)⟩
theorem mwX8_compute : w_mw mX8_compute 1 := ⟨w_gd 365 (by decide +kernel) (by decide +kernel), w_gd 1 (by decide +kernel) (by decide +kernel), ⟨by decide +kernel, by decide +kernel⟩, by decide +kernel⟩
theorem mvX8_compute : w_mv 8 mX8_compute := ⟨⟨_, rfl, rfl⟩, w_gd 363 (by decide +kernel) (by decide +kernel), w_gd 364 (by decide +kernel) (by decide +kernel)⟩
theorem mwX8_told : w_mw mX8_told 2 := ⟨w_gd 563 (by decide +kernel) (by decide +kernel), w_gd 1 (by decide +kernel) (by decide +kernel), ⟨by decide +kernel, by decide +kernel⟩, by decide +kernel⟩
theorem mvX8_told : w_mv 8 mX8_told := ⟨⟨_, rfl, rfl⟩, w_gd 561 (by decide +kernel) (by decide +kernel), w_gd 562 (by decide +kernel) (by decide +kernel)⟩
theorem mwX8_frame : w_mw mX8_frame 3 := ⟨w_gd 577 (by decide +kernel) (by decide +kernel), w_gd 1 (by decide +kernel) (by decide +kernel), ⟨by decide +kernel, by decide +kernel⟩, by decide +kernel⟩
theorem mvX8_frame : w_mv 8 mX8_frame := ⟨⟨_, rfl, rfl⟩, w_gd 575 (by decide +kernel) (by decide +kernel), w_gd 576 (by decide +kernel) (by decide +kernel)⟩
theorem mwX8_height : w_mw mX8_height 2 := ⟨w_gd 587 (by decide +kernel) (by decide +kernel), w_gd 1 (by decide +kernel) (by decide +kernel), ⟨by decide +kernel, by decide +kernel⟩, by decide +kernel⟩
theorem mvX8_height : w_mv 8 mX8_height := ⟨⟨_, rfl, rfl⟩, w_gd 585 (by decide +kernel) (by decide +kernel), w_gd 586 (by decide +kernel) (by decide +kernel)⟩
theorem mwX8_form : w_mw mX8_form 2 := ⟨w_gd 591 (by decide +kernel) (by decide +kernel), w_gd 1 (by decide +kernel) (by decide +kernel), ⟨by decide +kernel, by decide +kernel⟩, by decide +kernel⟩
theorem mvX8_form : w_mv 8 mX8_form := ⟨⟨_, rfl, rfl⟩, w_gd 589 (by decide +kernel) (by decide +kernel), w_gd 590 (by decide +kernel) (by decide +kernel)⟩
theorem mwX8_count : w_mw mX8_count 2 := ⟨w_gd 628 (by decide +kernel) (by decide +kernel), w_gd 1 (by decide +kernel) (by decide +kernel), ⟨by decide +kernel, by decide +kernel⟩, by decide +kernel⟩
theorem mvX8_count : w_mv 8 mX8_count := ⟨⟨_, rfl, rfl⟩, w_gd 626 (by decide +kernel) (by decide +kernel), w_gd 627 (by decide +kernel) (by decide +kernel)⟩
theorem mwX8_find : w_mw mX8_find 1 := ⟨w_gd 336 (by decide +kernel) (by decide +kernel), w_gd 1 (by decide +kernel) (by decide +kernel), ⟨by decide +kernel, by decide +kernel⟩, by decide +kernel⟩
theorem mvX8_find : w_mv 8 mX8_find := ⟨⟨_, rfl, rfl⟩, w_gd 335 (by decide +kernel) (by decide +kernel), w_gs 1 (by decide +kernel) (by decide +kernel)⟩
theorem mwX8_isOp : w_mw mX8_isOp 3 := ⟨w_gd 349 (by decide +kernel) (by decide +kernel), w_gd 1 (by decide +kernel) (by decide +kernel), ⟨by decide +kernel, by decide +kernel⟩, by decide +kernel⟩
theorem mvX8_isOp : w_mv 8 mX8_isOp := ⟨⟨_, rfl, rfl⟩, w_gd 348 (by decide +kernel) (by decide +kernel), w_gs 2 (by decide +kernel) (by decide +kernel)⟩
theorem mwX9_init : w_mw mX9_init 0 := ⟨w_gd 633 (by decide +kernel) (by decide +kernel), w_gd 8 (by decide +kernel) (by decide +kernel), ⟨by decide +kernel, by decide +kernel⟩, by decide +kernel⟩
theorem miX9_init : Jvm.Cond.instanceMethod mX9_init.1 ∈ w_good := w_gd 632 (by decide +kernel) (by decide +kernel)
theorem mwX9_in : w_mw mX9_in 3 := ⟨w_gd 748 (by decide +kernel) (by decide +kernel), w_gd 8 (by decide +kernel) (by decide +kernel), ⟨by decide +kernel, by decide +kernel⟩, by decide +kernel⟩
theorem msX9_in : Jvm.Cond.static mX9_in.1 ∈ w_good := w_gd 747 (by decide +kernel) (by decide +kernel)
theorem mwX9_isClass : w_mw mX9_isClass 1 := ⟨w_gd 745 (by decide +kernel) (by decide +kernel), w_gd 8 (by decide +kernel) (by decide +kernel), ⟨by decide +kernel, by decide +kernel⟩, by decide +kernel⟩
theorem mvX9_isClass : w_mv 9 mX9_isClass := ⟨⟨_, rfl, rfl⟩, w_gd 744 (by decide +kernel) (by decide +kernel), w_gs 30 (by decide +kernel) (by decide +kernel)⟩
theorem mwX9_cls : w_mw mX9_cls 1 := ⟨w_gd 741 (by decide +kernel) (by decide +kernel), w_gd 8 (by decide +kernel) (by decide +kernel), ⟨by decide +kernel, by decide +kernel⟩, by decide +kernel⟩
theorem mvX9_cls : w_mv 9 mX9_cls := ⟨⟨_, rfl, rfl⟩, w_gd 739 (by decide +kernel) (by decide +kernel), w_gd 740 (by decide +kernel) (by decide +kernel)⟩
theorem mwX9_isBelow : w_mw mX9_isBelow 2 := ⟨w_gd 760 (by decide +kernel) (by decide +kernel), w_gd 8 (by decide +kernel) (by decide +kernel), ⟨by decide +kernel, by decide +kernel⟩, by decide +kernel⟩
theorem mvX9_isBelow : w_mv 9 mX9_isBelow := ⟨⟨_, rfl, rfl⟩, w_gd 759 (by decide +kernel) (by decide +kernel), w_gs 32 (by decide +kernel) (by decide +kernel)⟩
theorem mwX9_fitsClass : w_mw mX9_fitsClass 2 := ⟨w_gd 756 (by decide +kernel) (by decide +kernel), w_gd 8 (by decide +kernel) (by decide +kernel), ⟨by decide +kernel, by decide +kernel⟩, by decide +kernel⟩
theorem mvX9_fitsClass : w_mv 9 mX9_fitsClass := ⟨⟨_, rfl, rfl⟩, w_gd 755 (by decide +kernel) (by decide +kernel), w_gs 31 (by decide +kernel) (by decide +kernel)⟩
theorem mwX9_joinClass : w_mw mX9_joinClass 2 := ⟨w_gd 787 (by decide +kernel) (by decide +kernel), w_gd 8 (by decide +kernel) (by decide +kernel), ⟨by decide +kernel, by decide +kernel⟩, by decide +kernel⟩
theorem mvX9_joinClass : w_mv 9 mX9_joinClass := ⟨⟨_, rfl, rfl⟩, w_gd 786 (by decide +kernel) (by decide +kernel), w_gs 37 (by decide +kernel) (by decide +kernel)⟩
theorem mwX9_fits : w_mw mX9_fits 2 := ⟨w_gd 752 (by decide +kernel) (by decide +kernel), w_gd 8 (by decide +kernel) (by decide +kernel), ⟨by decide +kernel, by decide +kernel⟩, by decide +kernel⟩
theorem mvX9_fits : w_mv 9 mX9_fits := ⟨⟨_, rfl, rfl⟩, w_gd 750 (by decide +kernel) (by decide +kernel), w_gd 751 (by decide +kernel) (by decide +kernel)⟩
theorem mwX9_isThing : w_mw mX9_isThing 1 := ⟨w_gd 772 (by decide +kernel) (by decide +kernel), w_gd 8 (by decide +kernel) (by decide +kernel), ⟨by decide +kernel, by decide +kernel⟩, by decide +kernel⟩
theorem mvX9_isThing : w_mv 9 mX9_isThing := ⟨⟨_, rfl, rfl⟩, w_gd 771 (by decide +kernel) (by decide +kernel), w_gs 34 (by decide +kernel) (by decide +kernel)⟩
theorem mwX9_isThings : w_mw mX9_isThings 1 := ⟨w_gd 776 (by decide +kernel) (by decide +kernel), w_gd 8 (by decide +kernel) (by decide +kernel), ⟨by decide +kernel, by decide +kernel⟩, by decide +kernel⟩
theorem mvX9_isThings : w_mv 9 mX9_isThings := ⟨⟨_, rfl, rfl⟩, w_gd 775 (by decide +kernel) (by decide +kernel), w_gs 35 (by decide +kernel) (by decide +kernel)⟩
theorem mwX9_isReference : w_mw mX9_isReference 1 := ⟨w_gd 783 (by decide +kernel) (by decide +kernel), w_gd 8 (by decide +kernel) (by decide +kernel), ⟨by decide +kernel, by decide +kernel⟩, by decide +kernel⟩
theorem msX9_isReference : Jvm.Cond.static mX9_isReference.1 ∈ w_good := w_gd 782 (by decide +kernel) (by decide +kernel)
theorem mwX9_fitsKind : w_mw mX9_fitsKind 2 := ⟨w_gd 867 (by decide +kernel) (by decide +kernel), w_gd 8 (by decide +kernel) (by decide +kernel), ⟨by decide +kernel, by decide +kernel⟩, by decide +kernel⟩
theorem mvX9_fitsKind : w_mv 9 mX9_fitsKind := ⟨⟨_, rfl, rfl⟩, w_gd 866 (by decide +kernel) (by decide +kernel), w_gs 52 (by decide +kernel) (by decide +kernel)⟩
theorem mwX9_joined : w_mw mX9_joined 2 := ⟨w_gd 780 (by decide +kernel) (by decide +kernel), w_gd 8 (by decide +kernel) (by decide +kernel), ⟨by decide +kernel, by decide +kernel⟩, by decide +kernel⟩
theorem mvX9_joined : w_mv 9 mX9_joined := ⟨⟨_, rfl, rfl⟩, w_gd 779 (by decide +kernel) (by decide +kernel), w_gs 36 (by decide +kernel) (by decide +kernel)⟩
theorem mwX9_isKind : w_mw mX9_isKind 1 := ⟨w_gd 768 (by decide +kernel) (by decide +kernel), w_gd 8 (by decide +kernel) (by decide +kernel), ⟨by decide +kernel, by decide +kernel⟩, by decide +kernel⟩
theorem mvX9_isKind : w_mv 9 mX9_isKind := ⟨⟨_, rfl, rfl⟩, w_gd 767 (by decide +kernel) (by decide +kernel), w_gs 33 (by decide +kernel) (by decide +kernel)⟩
theorem mwX9_join : w_mw mX9_join 2 := ⟨w_gd 764 (by decide +kernel) (by decide +kernel), w_gd 8 (by decide +kernel) (by decide +kernel), ⟨by decide +kernel, by decide +kernel⟩, by decide +kernel⟩
theorem mvX9_join : w_mv 9 mX9_join := ⟨⟨_, rfl, rfl⟩, w_gd 762 (by decide +kernel) (by decide +kernel), w_gd 763 (by decide +kernel) (by decide +kernel)⟩
theorem mwX9_isArgument : w_mw mX9_isArgument 1 := ⟨w_gd 795 (by decide +kernel) (by decide +kernel), w_gd 8 (by decide +kernel) (by decide +kernel), ⟨by decide +kernel, by decide +kernel⟩, by decide +kernel⟩
theorem mvX9_isArgument : w_mv 9 mX9_isArgument := ⟨⟨_, rfl, rfl⟩, w_gd 794 (by decide +kernel) (by decide +kernel), w_gs 38 (by decide +kernel) (by decide +kernel)⟩
theorem mwX9_isMethod : w_mw mX9_isMethod 1 := ⟨w_gd 803 (by decide +kernel) (by decide +kernel), w_gd 8 (by decide +kernel) (by decide +kernel), ⟨by decide +kernel, by decide +kernel⟩, by decide +kernel⟩
theorem mvX9_isMethod : w_mv 9 mX9_isMethod := ⟨⟨_, rfl, rfl⟩, w_gd 802 (by decide +kernel) (by decide +kernel), w_gs 39 (by decide +kernel) (by decide +kernel)⟩
theorem mwX9_method : w_mw mX9_method 1 := ⟨w_gd 791 (by decide +kernel) (by decide +kernel), w_gd 8 (by decide +kernel) (by decide +kernel), ⟨by decide +kernel, by decide +kernel⟩, by decide +kernel⟩
theorem mvX9_method : w_mv 9 mX9_method := ⟨⟨_, rfl, rfl⟩, w_gd 789 (by decide +kernel) (by decide +kernel), w_gd 790 (by decide +kernel) (by decide +kernel)⟩
theorem mwX9_argument : w_mw mX9_argument 2 := ⟨w_gd 799 (by decide +kernel) (by decide +kernel), w_gd 8 (by decide +kernel) (by decide +kernel), ⟨by decide +kernel, by decide +kernel⟩, by decide +kernel⟩
theorem mvX9_argument : w_mv 9 mX9_argument := ⟨⟨_, rfl, rfl⟩, w_gd 797 (by decide +kernel) (by decide +kernel), w_gd 798 (by decide +kernel) (by decide +kernel)⟩
theorem mwX9_isOp : w_mw mX9_isOp 3 := ⟨w_gd 811 (by decide +kernel) (by decide +kernel), w_gd 8 (by decide +kernel) (by decide +kernel), ⟨by decide +kernel, by decide +kernel⟩, by decide +kernel⟩
theorem mvX9_isOp : w_mv 9 mX9_isOp := ⟨⟨_, rfl, rfl⟩, w_gd 810 (by decide +kernel) (by decide +kernel), w_gs 40 (by decide +kernel) (by decide +kernel)⟩
theorem mwX9_op : w_mw mX9_op 4 := ⟨w_gd 807 (by decide +kernel) (by decide +kernel), w_gd 8 (by decide +kernel) (by decide +kernel), ⟨by decide +kernel, by decide +kernel⟩, by decide +kernel⟩
theorem mvX9_op : w_mv 9 mX9_op := ⟨⟨_, rfl, rfl⟩, w_gd 805 (by decide +kernel) (by decide +kernel), w_gd 806 (by decide +kernel) (by decide +kernel)⟩
theorem mwX9_guard : w_mw mX9_guard 5 := ⟨w_gd 815 (by decide +kernel) (by decide +kernel), w_gd 8 (by decide +kernel) (by decide +kernel), ⟨by decide +kernel, by decide +kernel⟩, by decide +kernel⟩
theorem mvX9_guard : w_mv 9 mX9_guard := ⟨⟨_, rfl, rfl⟩, w_gd 813 (by decide +kernel) (by decide +kernel), w_gd 814 (by decide +kernel) (by decide +kernel)⟩
theorem mwX9_breaks : w_mw mX9_breaks 1 := ⟨w_gd 835 (by decide +kernel) (by decide +kernel), w_gd 8 (by decide +kernel) (by decide +kernel), ⟨by decide +kernel, by decide +kernel⟩, by decide +kernel⟩
theorem mvX9_breaks : w_mv 9 mX9_breaks := ⟨⟨_, rfl, rfl⟩, w_gd 834 (by decide +kernel) (by decide +kernel), w_gs 44 (by decide +kernel) (by decide +kernel)⟩
theorem mwX9_wants : w_mw mX9_wants 1 := ⟨w_gd 863 (by decide +kernel) (by decide +kernel), w_gd 8 (by decide +kernel) (by decide +kernel), ⟨by decide +kernel, by decide +kernel⟩, by decide +kernel⟩
theorem mvX9_wants : w_mv 9 mX9_wants := ⟨⟨_, rfl, rfl⟩, w_gd 862 (by decide +kernel) (by decide +kernel), w_gs 51 (by decide +kernel) (by decide +kernel)⟩
theorem mwX9_takes : w_mw mX9_takes 1 := ⟨w_gd 859 (by decide +kernel) (by decide +kernel), w_gd 8 (by decide +kernel) (by decide +kernel), ⟨by decide +kernel, by decide +kernel⟩, by decide +kernel⟩
theorem mvX9_takes : w_mv 9 mX9_takes := ⟨⟨_, rfl, rfl⟩, w_gd 858 (by decide +kernel) (by decide +kernel), w_gs 50 (by decide +kernel) (by decide +kernel)⟩
theorem mwX9_takesTop : w_mw mX9_takesTop 1 := ⟨w_gd 883 (by decide +kernel) (by decide +kernel), w_gd 8 (by decide +kernel) (by decide +kernel), ⟨by decide +kernel, by decide +kernel⟩, by decide +kernel⟩
theorem mvX9_takesTop : w_mv 9 mX9_takesTop := ⟨⟨_, rfl, rfl⟩, w_gd 882 (by decide +kernel) (by decide +kernel), w_gs 56 (by decide +kernel) (by decide +kernel)⟩
theorem mwX9_top : w_mw mX9_top 0 := ⟨w_gd 875 (by decide +kernel) (by decide +kernel), w_gd 8 (by decide +kernel) (by decide +kernel), ⟨by decide +kernel, by decide +kernel⟩, by decide +kernel⟩
theorem mvX9_top : w_mv 9 mX9_top := ⟨⟨_, rfl, rfl⟩, w_gd 874 (by decide +kernel) (by decide +kernel), w_gs 54 (by decide +kernel) (by decide +kernel)⟩
theorem mwX9_lays : w_mw mX9_lays 1 := ⟨w_gd 871 (by decide +kernel) (by decide +kernel), w_gd 8 (by decide +kernel) (by decide +kernel), ⟨by decide +kernel, by decide +kernel⟩, by decide +kernel⟩
theorem mvX9_lays : w_mv 9 mX9_lays := ⟨⟨_, rfl, rfl⟩, w_gd 870 (by decide +kernel) (by decide +kernel), w_gs 53 (by decide +kernel) (by decide +kernel)⟩
theorem mwX9_puts : w_mw mX9_puts 2 := ⟨w_gd 899 (by decide +kernel) (by decide +kernel), w_gd 8 (by decide +kernel) (by decide +kernel), ⟨by decide +kernel, by decide +kernel⟩, by decide +kernel⟩
theorem mvX9_puts : w_mv 9 mX9_puts := ⟨⟨_, rfl, rfl⟩, w_gd 898 (by decide +kernel) (by decide +kernel), w_gs 60 (by decide +kernel) (by decide +kernel)⟩
theorem mwX9_isHeld : w_mw mX9_isHeld 1 := ⟨w_gd 902 (by decide +kernel) (by decide +kernel), w_gd 8 (by decide +kernel) (by decide +kernel), ⟨by decide +kernel, by decide +kernel⟩, by decide +kernel⟩
theorem msX9_isHeld : Jvm.Cond.static mX9_isHeld.1 ∈ w_good := w_gd 901 (by decide +kernel) (by decide +kernel)
theorem mwX9_moves : w_mw mX9_moves 2 := ⟨w_gd 895 (by decide +kernel) (by decide +kernel), w_gd 8 (by decide +kernel) (by decide +kernel), ⟨by decide +kernel, by decide +kernel⟩, by decide +kernel⟩
theorem mvX9_moves : w_mv 9 mX9_moves := ⟨⟨_, rfl, rfl⟩, w_gd 894 (by decide +kernel) (by decide +kernel), w_gs 59 (by decide +kernel) (by decide +kernel)⟩
theorem mwX9_makes : w_mw mX9_makes 1 := ⟨w_gd 879 (by decide +kernel) (by decide +kernel), w_gd 8 (by decide +kernel) (by decide +kernel), ⟨by decide +kernel, by decide +kernel⟩, by decide +kernel⟩
theorem mvX9_makes : w_mv 9 mX9_makes := ⟨⟨_, rfl, rfl⟩, w_gd 878 (by decide +kernel) (by decide +kernel), w_gs 55 (by decide +kernel) (by decide +kernel)⟩
theorem mwX9_reads : w_mw mX9_reads 0 := ⟨w_gd 887 (by decide +kernel) (by decide +kernel), w_gd 8 (by decide +kernel) (by decide +kernel), ⟨by decide +kernel, by decide +kernel⟩, by decide +kernel⟩
theorem mvX9_reads : w_mv 9 mX9_reads := ⟨⟨_, rfl, rfl⟩, w_gd 886 (by decide +kernel) (by decide +kernel), w_gs 57 (by decide +kernel) (by decide +kernel)⟩
theorem mwX9_writes : w_mw mX9_writes 0 := ⟨w_gd 891 (by decide +kernel) (by decide +kernel), w_gd 8 (by decide +kernel) (by decide +kernel), ⟨by decide +kernel, by decide +kernel⟩, by decide +kernel⟩
theorem mvX9_writes : w_mv 9 mX9_writes := ⟨⟨_, rfl, rfl⟩, w_gd 890 (by decide +kernel) (by decide +kernel), w_gs 58 (by decide +kernel) (by decide +kernel)⟩
theorem mwX9_does : w_mw mX9_does 3 := ⟨w_gd 855 (by decide +kernel) (by decide +kernel), w_gd 8 (by decide +kernel) (by decide +kernel), ⟨by decide +kernel, by decide +kernel⟩, by decide +kernel⟩
theorem mvX9_does : w_mv 9 mX9_does := ⟨⟨_, rfl, rfl⟩, w_gd 854 (by decide +kernel) (by decide +kernel), w_gs 49 (by decide +kernel) (by decide +kernel)⟩
theorem mwX9_keepMost : w_mw mX9_keepMost 1 := ⟨w_gd 831 (by decide +kernel) (by decide +kernel), w_gd 8 (by decide +kernel) (by decide +kernel), ⟨by decide +kernel, by decide +kernel⟩, by decide +kernel⟩
theorem mvX9_keepMost : w_mv 9 mX9_keepMost := ⟨⟨_, rfl, rfl⟩, w_gd 830 (by decide +kernel) (by decide +kernel), w_gs 43 (by decide +kernel) (by decide +kernel)⟩
theorem mwX9_meetsFirst : w_mw mX9_meetsFirst 1 := ⟨w_gd 827 (by decide +kernel) (by decide +kernel), w_gd 8 (by decide +kernel) (by decide +kernel), ⟨by decide +kernel, by decide +kernel⟩, by decide +kernel⟩
theorem mvX9_meetsFirst : w_mv 9 mX9_meetsFirst := ⟨⟨_, rfl, rfl⟩, w_gd 826 (by decide +kernel) (by decide +kernel), w_gs 42 (by decide +kernel) (by decide +kernel)⟩
theorem mwX9_meets : w_mw mX9_meets 1 := ⟨w_gd 823 (by decide +kernel) (by decide +kernel), w_gd 8 (by decide +kernel) (by decide +kernel), ⟨by decide +kernel, by decide +kernel⟩, by decide +kernel⟩
theorem mvX9_meets : w_mv 9 mX9_meets := ⟨⟨_, rfl, rfl⟩, w_gd 822 (by decide +kernel) (by decide +kernel), w_gs 41 (by decide +kernel) (by decide +kernel)⟩
theorem mwX9_load : w_mw mX9_load 1 := ⟨w_gd 851 (by decide +kernel) (by decide +kernel), w_gd 8 (by decide +kernel) (by decide +kernel), ⟨by decide +kernel, by decide +kernel⟩, by decide +kernel⟩
theorem mvX9_load : w_mv 9 mX9_load := ⟨⟨_, rfl, rfl⟩, w_gd 850 (by decide +kernel) (by decide +kernel), w_gs 48 (by decide +kernel) (by decide +kernel)⟩
theorem mwX9_hands : w_mw mX9_hands 1 := ⟨w_gd 847 (by decide +kernel) (by decide +kernel), w_gd 8 (by decide +kernel) (by decide +kernel), ⟨by decide +kernel, by decide +kernel⟩, by decide +kernel⟩
theorem mvX9_hands : w_mv 9 mX9_hands := ⟨⟨_, rfl, rfl⟩, w_gd 846 (by decide +kernel) (by decide +kernel), w_gs 47 (by decide +kernel) (by decide +kernel)⟩
theorem mwX9_hasUnmade : w_mw mX9_hasUnmade 0 := ⟨w_gd 910 (by decide +kernel) (by decide +kernel), w_gd 8 (by decide +kernel) (by decide +kernel), ⟨by decide +kernel, by decide +kernel⟩, by decide +kernel⟩
theorem mvX9_hasUnmade : w_mv 9 mX9_hasUnmade := ⟨⟨_, rfl, rfl⟩, w_gd 909 (by decide +kernel) (by decide +kernel), w_gs 62 (by decide +kernel) (by decide +kernel)⟩
theorem mwX9_jumps : w_mw mX9_jumps 1 := ⟨w_gd 906 (by decide +kernel) (by decide +kernel), w_gd 8 (by decide +kernel) (by decide +kernel), ⟨by decide +kernel, by decide +kernel⟩, by decide +kernel⟩
theorem mvX9_jumps : w_mv 9 mX9_jumps := ⟨⟨_, rfl, rfl⟩, w_gd 905 (by decide +kernel) (by decide +kernel), w_gs 61 (by decide +kernel) (by decide +kernel)⟩
theorem mwX9_goesOn : w_mw mX9_goesOn 0 := ⟨w_gd 914 (by decide +kernel) (by decide +kernel), w_gd 8 (by decide +kernel) (by decide +kernel), ⟨by decide +kernel, by decide +kernel⟩, by decide +kernel⟩
theorem mvX9_goesOn : w_mv 9 mX9_goesOn := ⟨⟨_, rfl, rfl⟩, w_gd 913 (by decide +kernel) (by decide +kernel), w_gs 63 (by decide +kernel) (by decide +kernel)⟩
theorem mwX9_goes : w_mw mX9_goes 0 := ⟨w_gd 843 (by decide +kernel) (by decide +kernel), w_gd 8 (by decide +kernel) (by decide +kernel), ⟨by decide +kernel, by decide +kernel⟩, by decide +kernel⟩
theorem mvX9_goes : w_mv 9 mX9_goes := ⟨⟨_, rfl, rfl⟩, w_gd 842 (by decide +kernel) (by decide +kernel), w_gs 46 (by decide +kernel) (by decide +kernel)⟩
theorem mwX9_leastLooked : w_mw mX9_leastLooked 0 := ⟨w_gd 839 (by decide +kernel) (by decide +kernel), w_gd 8 (by decide +kernel) (by decide +kernel), ⟨by decide +kernel, by decide +kernel⟩, by decide +kernel⟩
theorem mvX9_leastLooked : w_mv 9 mX9_leastLooked := ⟨⟨_, rfl, rfl⟩, w_gd 838 (by decide +kernel) (by decide +kernel), w_gs 45 (by decide +kernel) (by decide +kernel)⟩
theorem mwX9_compute : w_mw mX9_compute 1 := ⟨w_gd 819 (by decide +kernel) (by decide +kernel), w_gd 8 (by decide +kernel) (by decide +kernel), ⟨by decide +kernel, by decide +kernel⟩, by decide +kernel⟩
theorem mvX9_compute : w_mv 9 mX9_compute := ⟨⟨_, rfl, rfl⟩, w_gd 817 (by decide +kernel) (by decide +kernel), w_gd 818 (by decide +kernel) (by decide +kernel)⟩
theorem mwX9_wanted : w_mw mX9_wanted 1 := ⟨w_gd 922 (by decide +kernel) (by decide +kernel), w_gd 8 (by decide +kernel) (by decide +kernel), ⟨by decide +kernel, by decide +kernel⟩, by decide +kernel⟩
theorem mvX9_wanted : w_mv 9 mX9_wanted := ⟨⟨_, rfl, rfl⟩, w_gd 921 (by decide +kernel) (by decide +kernel), w_gs 64 (by decide +kernel) (by decide +kernel)⟩
theorem mwX9_told : w_mw mX9_told 2 := ⟨w_gd 918 (by decide +kernel) (by decide +kernel), w_gd 8 (by decide +kernel) (by decide +kernel), ⟨by decide +kernel, by decide +kernel⟩, by decide +kernel⟩
theorem mvX9_told : w_mv 9 mX9_told := ⟨⟨_, rfl, rfl⟩, w_gd 916 (by decide +kernel) (by decide +kernel), w_gd 917 (by decide +kernel) (by decide +kernel)⟩
theorem mwX9_isPlace : w_mw mX9_isPlace 2 := ⟨w_gd 930 (by decide +kernel) (by decide +kernel), w_gd 8 (by decide +kernel) (by decide +kernel), ⟨by decide +kernel, by decide +kernel⟩, by decide +kernel⟩
theorem mvX9_isPlace : w_mv 9 mX9_isPlace := ⟨⟨_, rfl, rfl⟩, w_gd 929 (by decide +kernel) (by decide +kernel), w_gs 65 (by decide +kernel) (by decide +kernel)⟩
theorem mwX9_frame : w_mw mX9_frame 3 := ⟨w_gd 926 (by decide +kernel) (by decide +kernel), w_gd 8 (by decide +kernel) (by decide +kernel), ⟨by decide +kernel, by decide +kernel⟩, by decide +kernel⟩
theorem mvX9_frame : w_mv 9 mX9_frame := ⟨⟨_, rfl, rfl⟩, w_gd 924 (by decide +kernel) (by decide +kernel), w_gd 925 (by decide +kernel) (by decide +kernel)⟩
theorem mwX9_height : w_mw mX9_height 2 := ⟨w_gd 934 (by decide +kernel) (by decide +kernel), w_gd 8 (by decide +kernel) (by decide +kernel), ⟨by decide +kernel, by decide +kernel⟩, by decide +kernel⟩
theorem mvX9_height : w_mv 9 mX9_height := ⟨⟨_, rfl, rfl⟩, w_gd 932 (by decide +kernel) (by decide +kernel), w_gd 933 (by decide +kernel) (by decide +kernel)⟩
theorem mwX9_isTold : w_mw mX9_isTold 2 := ⟨w_gd 942 (by decide +kernel) (by decide +kernel), w_gd 8 (by decide +kernel) (by decide +kernel), ⟨by decide +kernel, by decide +kernel⟩, by decide +kernel⟩
theorem mvX9_isTold : w_mv 9 mX9_isTold := ⟨⟨_, rfl, rfl⟩, w_gd 941 (by decide +kernel) (by decide +kernel), w_gs 66 (by decide +kernel) (by decide +kernel)⟩
theorem mwX9_written : w_mw mX9_written 3 := ⟨w_gd 945 (by decide +kernel) (by decide +kernel), w_gd 8 (by decide +kernel) (by decide +kernel), ⟨by decide +kernel, by decide +kernel⟩, by decide +kernel⟩
theorem msX9_written : Jvm.Cond.static mX9_written.1 ∈ w_good := w_gd 944 (by decide +kernel) (by decide +kernel)
theorem mwX9_form : w_mw mX9_form 2 := ⟨w_gd 938 (by decide +kernel) (by decide +kernel), w_gd 8 (by decide +kernel) (by decide +kernel), ⟨by decide +kernel, by decide +kernel⟩, by decide +kernel⟩
theorem mvX9_form : w_mv 9 mX9_form := ⟨⟨_, rfl, rfl⟩, w_gd 936 (by decide +kernel) (by decide +kernel), w_gd 937 (by decide +kernel) (by decide +kernel)⟩
theorem mwX9_count : w_mw mX9_count 2 := ⟨w_gd 949 (by decide +kernel) (by decide +kernel), w_gd 8 (by decide +kernel) (by decide +kernel), ⟨by decide +kernel, by decide +kernel⟩, by decide +kernel⟩
theorem mvX9_count : w_mv 9 mX9_count := ⟨⟨_, rfl, rfl⟩, w_gd 947 (by decide +kernel) (by decide +kernel), w_gd 948 (by decide +kernel) (by decide +kernel)⟩
theorem fX0_9 : w_fl RX0 9 0 0 := ⟨_, rfl, by decide, Or.inl (w_gd 27 (by decide +kernel) (by decide +kernel))⟩
theorem fX0_15 : w_fl RX0 15 0 1 := ⟨_, rfl, by decide, Or.inl (w_gd 28 (by decide +kernel) (by decide +kernel))⟩
theorem fX0_19 : w_fl RX0 19 0 2 := ⟨_, rfl, by decide, Or.inl (w_gd 29 (by decide +kernel) (by decide +kernel))⟩
theorem fX1_9 : w_fl RX1 9 1 0 := ⟨_, rfl, by decide, Or.inl (w_gd 117 (by decide +kernel) (by decide +kernel))⟩
theorem fX1_15 : w_fl RX1 15 1 1 := ⟨_, rfl, by decide, Or.inl (w_gd 118 (by decide +kernel) (by decide +kernel))⟩
theorem fX1_19 : w_fl RX1 19 1 2 := ⟨_, rfl, by decide, Or.inl (w_gd 119 (by decide +kernel) (by decide +kernel))⟩
theorem fX1_26 : w_fl RX1 26 4 12 := ⟨_, rfl, by decide, Or.inr ⟨"ChainFrames", w_gn 300 (by decide +kernel) (by decide +kernel)⟩⟩
theorem fX1_32 : w_fl RX1 32 6 0 := ⟨_, rfl, by decide, Or.inr ⟨"ChainFrames", w_gn 235 (by decide +kernel) (by decide +kernel)⟩⟩
theorem fX1_42 : w_fl RX1 42 4 1 := ⟨_, rfl, by decide, Or.inr ⟨"ChainFrames", w_gn 272 (by decide +kernel) (by decide +kernel)⟩⟩
theorem fX1_45 : w_fl RX1 45 2 0 := ⟨_, rfl, by decide, Or.inr ⟨"ChainFrames", w_gn 63 (by decide +kernel) (by decide +kernel)⟩⟩
theorem fX1_68 : w_fl RX1 68 4 6 := ⟨_, rfl, by decide, Or.inr ⟨"ChainFrames", w_gn 284 (by decide +kernel) (by decide +kernel)⟩⟩
theorem fX1_79 : w_fl RX1 79 4 4 := ⟨_, rfl, by decide, Or.inr ⟨"ChainFrames", w_gn 279 (by decide +kernel) (by decide +kernel)⟩⟩
theorem fX1_86 : w_fl RX1 86 4 11 := ⟨_, rfl, by decide, Or.inr ⟨"ChainFrames", w_gn 294 (by decide +kernel) (by decide +kernel)⟩⟩
theorem fX1_93 : w_fl RX1 93 4 9 := ⟨_, rfl, by decide, Or.inr ⟨"ChainFrames", w_gn 290 (by decide +kernel) (by decide +kernel)⟩⟩
theorem fX1_96 : w_fl RX1 96 2 2 := ⟨_, rfl, by decide, Or.inr ⟨"ChainFrames", w_gn 72 (by decide +kernel) (by decide +kernel)⟩⟩
theorem fX2_9 : w_fl RX2 9 2 0 := ⟨_, rfl, by decide, Or.inl (w_gd 62 (by decide +kernel) (by decide +kernel))⟩
theorem fX2_15 : w_fl RX2 15 2 1 := ⟨_, rfl, by decide, Or.inl (w_gd 66 (by decide +kernel) (by decide +kernel))⟩
theorem fX2_18 : w_fl RX2 18 2 2 := ⟨_, rfl, by decide, Or.inl (w_gd 69 (by decide +kernel) (by decide +kernel))⟩
theorem fX3_9 : w_fl RX3 9 3 0 := ⟨_, rfl, by decide, Or.inl (w_gd 46 (by decide +kernel) (by decide +kernel))⟩
theorem fX4_9 : w_fl RX4 9 4 1 := ⟨_, rfl, by decide, Or.inl (w_gd 270 (by decide +kernel) (by decide +kernel))⟩
theorem fX4_15 : w_fl RX4 15 4 3 := ⟨_, rfl, by decide, Or.inl (w_gd 274 (by decide +kernel) (by decide +kernel))⟩
theorem fX4_18 : w_fl RX4 18 4 4 := ⟨_, rfl, by decide, Or.inl (w_gd 277 (by decide +kernel) (by decide +kernel))⟩
theorem fX4_21 : w_fl RX4 21 4 5 := ⟨_, rfl, by decide, Or.inl (w_gd 281 (by decide +kernel) (by decide +kernel))⟩
theorem fX4_24 : w_fl RX4 24 4 7 := ⟨_, rfl, by decide, Or.inl (w_gd 286 (by decide +kernel) (by decide +kernel))⟩
theorem fX4_27 : w_fl RX4 27 4 8 := ⟨_, rfl, by decide, Or.inl (w_gd 287 (by decide +kernel) (by decide +kernel))⟩
theorem fX4_30 : w_fl RX4 30 4 9 := ⟨_, rfl, by decide, Or.inl (w_gd 288 (by decide +kernel) (by decide +kernel))⟩
theorem fX4_33 : w_fl RX4 33 4 10 := ⟨_, rfl, by decide, Or.inl (w_gd 291 (by decide +kernel) (by decide +kernel))⟩
theorem fX4_39 : w_fl RX4 39 4 12 := ⟨_, rfl, by decide, Or.inl (w_gd 297 (by decide +kernel) (by decide +kernel))⟩
theorem fX4_43 : w_fl RX4 43 4 0 := ⟨_, rfl, by decide, Or.inl (w_gd 268 (by decide +kernel) (by decide +kernel))⟩
theorem fX4_47 : w_fl RX4 47 4 2 := ⟨_, rfl, by decide, Or.inl (w_gd 273 (by decide +kernel) (by decide +kernel))⟩
theorem fX4_50 : w_fl RX4 50 6 2 := ⟨_, rfl, by decide, Or.inr ⟨"ChainFrames", w_gn 242 (by decide +kernel) (by decide +kernel)⟩⟩
theorem fX4_54 : w_fl RX4 54 4 6 := ⟨_, rfl, by decide, Or.inl (w_gd 283 (by decide +kernel) (by decide +kernel))⟩
theorem fX4_57 : w_fl RX4 57 4 11 := ⟨_, rfl, by decide, Or.inl (w_gd 295 (by decide +kernel) (by decide +kernel))⟩
theorem fX4_69 : w_fl RX4 69 6 0 := ⟨_, rfl, by decide, Or.inr ⟨"ChainFrames", w_gn 237 (by decide +kernel) (by decide +kernel)⟩⟩
theorem fX5_12 : w_fl RX5 12 5 1 := ⟨_, rfl, by decide, Or.inl (w_gd 91 (by decide +kernel) (by decide +kernel))⟩
theorem fX5_18 : w_fl RX5 18 5 0 := ⟨_, rfl, by decide, Or.inl (w_gd 90 (by decide +kernel) (by decide +kernel))⟩
theorem fX5_22 : w_fl RX5 22 4 12 := ⟨_, rfl, by decide, Or.inr ⟨"ChainFrames", w_gn 299 (by decide +kernel) (by decide +kernel)⟩⟩
theorem fX5_28 : w_fl RX5 28 6 0 := ⟨_, rfl, by decide, Or.inr ⟨"ChainFrames", w_gn 234 (by decide +kernel) (by decide +kernel)⟩⟩
theorem fX5_38 : w_fl RX5 38 5 2 := ⟨_, rfl, by decide, Or.inl (w_gd 93 (by decide +kernel) (by decide +kernel))⟩
theorem fX5_42 : w_fl RX5 42 4 3 := ⟨_, rfl, by decide, Or.inr ⟨"ChainFrames", w_gn 275 (by decide +kernel) (by decide +kernel)⟩⟩
theorem fX5_46 : w_fl RX5 46 4 4 := ⟨_, rfl, by decide, Or.inr ⟨"ChainFrames", w_gn 278 (by decide +kernel) (by decide +kernel)⟩⟩
theorem fX5_57 : w_fl RX5 57 4 0 := ⟨_, rfl, by decide, Or.inr ⟨"ChainFrames", w_gn 269 (by decide +kernel) (by decide +kernel)⟩⟩
theorem fX5_63 : w_fl RX5 63 2 0 := ⟨_, rfl, by decide, Or.inr ⟨"ChainFrames", w_gn 64 (by decide +kernel) (by decide +kernel)⟩⟩
theorem fX5_103 : w_fl RX5 103 4 5 := ⟨_, rfl, by decide, Or.inr ⟨"ChainFrames", w_gn 282 (by decide +kernel) (by decide +kernel)⟩⟩
theorem fX5_133 : w_fl RX5 133 2 2 := ⟨_, rfl, by decide, Or.inr ⟨"ChainFrames", w_gn 74 (by decide +kernel) (by decide +kernel)⟩⟩
theorem fX5_150 : w_fl RX5 150 2 1 := ⟨_, rfl, by decide, Or.inr ⟨"ChainFrames", w_gn 68 (by decide +kernel) (by decide +kernel)⟩⟩
theorem fX6_11 : w_fl RX6 11 6 0 := ⟨_, rfl, by decide, Or.inl (w_gd 233 (by decide +kernel) (by decide +kernel))⟩
theorem fX6_17 : w_fl RX6 17 6 1 := ⟨_, rfl, by decide, Or.inl (w_gd 239 (by decide +kernel) (by decide +kernel))⟩
theorem fX6_22 : w_fl RX6 22 2 2 := ⟨_, rfl, by decide, Or.inr ⟨"ChainFrames", w_gn 70 (by decide +kernel) (by decide +kernel)⟩⟩
theorem fX6_30 : w_fl RX6 30 6 2 := ⟨_, rfl, by decide, Or.inl (w_gd 241 (by decide +kernel) (by decide +kernel))⟩
theorem fX6_34 : w_fl RX6 34 6 3 := ⟨_, rfl, by decide, Or.inl (w_gd 244 (by decide +kernel) (by decide +kernel))⟩
theorem fX6_37 : w_fl RX6 37 6 4 := ⟨_, rfl, by decide, Or.inl (w_gd 246 (by decide +kernel) (by decide +kernel))⟩
theorem fX6_40 : w_fl RX6 40 6 5 := ⟨_, rfl, by decide, Or.inl (w_gd 249 (by decide +kernel) (by decide +kernel))⟩
theorem fX6_43 : w_fl RX6 43 6 6 := ⟨_, rfl, by decide, Or.inl (w_gd 251 (by decide +kernel) (by decide +kernel))⟩
theorem fX7_12 : w_fl RX7 12 7 2 := ⟨_, rfl, by decide, Or.inl (w_gd 103 (by decide +kernel) (by decide +kernel))⟩
theorem fX7_18 : w_fl RX7 18 7 0 := ⟨_, rfl, by decide, Or.inl (w_gd 101 (by decide +kernel) (by decide +kernel))⟩
theorem fX7_27 : w_fl RX7 27 7 1 := ⟨_, rfl, by decide, Or.inl (w_gd 102 (by decide +kernel) (by decide +kernel))⟩
theorem fX7_31 : w_fl RX7 31 4 12 := ⟨_, rfl, by decide, Or.inr ⟨"ChainFrames", w_gn 298 (by decide +kernel) (by decide +kernel)⟩⟩
theorem fX7_37 : w_fl RX7 37 4 1 := ⟨_, rfl, by decide, Or.inr ⟨"ChainFrames", w_gn 271 (by decide +kernel) (by decide +kernel)⟩⟩
theorem fX7_52 : w_fl RX7 52 6 1 := ⟨_, rfl, by decide, Or.inr ⟨"ChainFrames", w_gn 240 (by decide +kernel) (by decide +kernel)⟩⟩
theorem fX7_56 : w_fl RX7 56 6 5 := ⟨_, rfl, by decide, Or.inr ⟨"ChainFrames", w_gn 248 (by decide +kernel) (by decide +kernel)⟩⟩
theorem fX7_67 : w_fl RX7 67 5 1 := ⟨_, rfl, by decide, Or.inr ⟨"ChainFrames", w_gn 92 (by decide +kernel) (by decide +kernel)⟩⟩
theorem fX7_70 : w_fl RX7 70 2 2 := ⟨_, rfl, by decide, Or.inr ⟨"ChainFrames", w_gn 71 (by decide +kernel) (by decide +kernel)⟩⟩
theorem fX7_84 : w_fl RX7 84 4 11 := ⟨_, rfl, by decide, Or.inr ⟨"ChainFrames", w_gn 293 (by decide +kernel) (by decide +kernel)⟩⟩
theorem fX7_91 : w_fl RX7 91 4 9 := ⟨_, rfl, by decide, Or.inr ⟨"ChainFrames", w_gn 289 (by decide +kernel) (by decide +kernel)⟩⟩
theorem fX7_98 : w_fl RX7 98 6 0 := ⟨_, rfl, by decide, Or.inr ⟨"ChainFrames", w_gn 236 (by decide +kernel) (by decide +kernel)⟩⟩
theorem fX7_102 : w_fl RX7 102 4 10 := ⟨_, rfl, by decide, Or.inr ⟨"ChainFrames", w_gn 292 (by decide +kernel) (by decide +kernel)⟩⟩
theorem fX7_113 : w_fl RX7 113 4 3 := ⟨_, rfl, by decide, Or.inr ⟨"ChainFrames", w_gn 276 (by decide +kernel) (by decide +kernel)⟩⟩
theorem fX7_122 : w_fl RX7 122 4 4 := ⟨_, rfl, by decide, Or.inr ⟨"ChainFrames", w_gn 280 (by decide +kernel) (by decide +kernel)⟩⟩
theorem fX7_140 : w_fl RX7 140 2 1 := ⟨_, rfl, by decide, Or.inr ⟨"ChainFrames", w_gn 67 (by decide +kernel) (by decide +kernel)⟩⟩
theorem fX7_147 : w_fl RX7 147 2 0 := ⟨_, rfl, by decide, Or.inr ⟨"ChainFrames", w_gn 65 (by decide +kernel) (by decide +kernel)⟩⟩
theorem fX8_10 : w_fl RX8 10 8 0 := ⟨_, rfl, by decide, Or.inl (w_gd 129 (by decide +kernel) (by decide +kernel))⟩
theorem fX8_21 : w_fl RX8 21 8 1 := ⟨_, rfl, by decide, Or.inl (w_gd 130 (by decide +kernel) (by decide +kernel))⟩
theorem fX8_30 : w_fl RX8 30 8 2 := ⟨_, rfl, by decide, Or.inl (w_gd 131 (by decide +kernel) (by decide +kernel))⟩
theorem fX8_37 : w_fl RX8 37 8 3 := ⟨_, rfl, by decide, Or.inl (w_gd 132 (by decide +kernel) (by decide +kernel))⟩
theorem fX8_43 : w_fl RX8 43 8 4 := ⟨_, rfl, by decide, Or.inl (w_gd 133 (by decide +kernel) (by decide +kernel))⟩
theorem fX8_47 : w_fl RX8 47 8 5 := ⟨_, rfl, by decide, Or.inl (w_gd 134 (by decide +kernel) (by decide +kernel))⟩
theorem fX8_105 : w_fl RX8 105 4 6 := ⟨_, rfl, by decide, Or.inr ⟨"ChainFrames", w_gn 285 (by decide +kernel) (by decide +kernel)⟩⟩
theorem fX8_112 : w_fl RX8 112 4 12 := ⟨_, rfl, by decide, Or.inr ⟨"ChainFrames", w_gn 301 (by decide +kernel) (by decide +kernel)⟩⟩
theorem fX8_116 : w_fl RX8 116 6 3 := ⟨_, rfl, by decide, Or.inr ⟨"ChainFrames", w_gn 245 (by decide +kernel) (by decide +kernel)⟩⟩
theorem fX8_121 : w_fl RX8 121 6 2 := ⟨_, rfl, by decide, Or.inr ⟨"ChainFrames", w_gn 243 (by decide +kernel) (by decide +kernel)⟩⟩
theorem fX8_125 : w_fl RX8 125 6 4 := ⟨_, rfl, by decide, Or.inr ⟨"ChainFrames", w_gn 247 (by decide +kernel) (by decide +kernel)⟩⟩
theorem fX8_128 : w_fl RX8 128 6 5 := ⟨_, rfl, by decide, Or.inr ⟨"ChainFrames", w_gn 250 (by decide +kernel) (by decide +kernel)⟩⟩
theorem fX8_131 : w_fl RX8 131 6 6 := ⟨_, rfl, by decide, Or.inr ⟨"ChainFrames", w_gn 252 (by decide +kernel) (by decide +kernel)⟩⟩
theorem fX8_141 : w_fl RX8 141 6 0 := ⟨_, rfl, by decide, Or.inr ⟨"ChainFrames", w_gn 238 (by decide +kernel) (by decide +kernel)⟩⟩
theorem fX8_150 : w_fl RX8 150 2 2 := ⟨_, rfl, by decide, Or.inr ⟨"ChainFrames", w_gn 73 (by decide +kernel) (by decide +kernel)⟩⟩
theorem fX8_157 : w_fl RX8 157 0 2 := ⟨_, rfl, by decide, Or.inr ⟨"ChainFrames", w_gn 30 (by decide +kernel) (by decide +kernel)⟩⟩
theorem fX8_160 : w_fl RX8 160 4 11 := ⟨_, rfl, by decide, Or.inr ⟨"ChainFrames", w_gn 296 (by decide +kernel) (by decide +kernel)⟩⟩
theorem fX9_7 : w_fl RX9 7 9 0 := ⟨_, rfl, by decide, Or.inl (w_gd 635 (by decide +kernel) (by decide +kernel))⟩
theorem fX9_13 : w_fl RX9 13 9 1 := ⟨_, rfl, by decide, Or.inl (w_gd 636 (by decide +kernel) (by decide +kernel))⟩
theorem fX9_17 : w_fl RX9 17 9 2 := ⟨_, rfl, by decide, Or.inl (w_gd 637 (by decide +kernel) (by decide +kernel))⟩
theorem fX9_21 : w_fl RX9 21 9 4 := ⟨_, rfl, by decide, Or.inl (w_gd 639 (by decide +kernel) (by decide +kernel))⟩
theorem fX9_24 : w_fl RX9 24 9 5 := ⟨_, rfl, by decide, Or.inl (w_gd 640 (by decide +kernel) (by decide +kernel))⟩
theorem fX9_27 : w_fl RX9 27 9 6 := ⟨_, rfl, by decide, Or.inl (w_gd 641 (by decide +kernel) (by decide +kernel))⟩
theorem fX9_30 : w_fl RX9 30 9 7 := ⟨_, rfl, by decide, Or.inl (w_gd 642 (by decide +kernel) (by decide +kernel))⟩
theorem fX9_33 : w_fl RX9 33 9 8 := ⟨_, rfl, by decide, Or.inl (w_gd 643 (by decide +kernel) (by decide +kernel))⟩
theorem fX9_36 : w_fl RX9 36 9 9 := ⟨_, rfl, by decide, Or.inl (w_gd 644 (by decide +kernel) (by decide +kernel))⟩
theorem fX9_39 : w_fl RX9 39 9 10 := ⟨_, rfl, by decide, Or.inl (w_gd 645 (by decide +kernel) (by decide +kernel))⟩
theorem fX9_42 : w_fl RX9 42 9 11 := ⟨_, rfl, by decide, Or.inl (w_gd 646 (by decide +kernel) (by decide +kernel))⟩
theorem fX9_45 : w_fl RX9 45 9 12 := ⟨_, rfl, by decide, Or.inl (w_gd 647 (by decide +kernel) (by decide +kernel))⟩
theorem fX9_48 : w_fl RX9 48 9 13 := ⟨_, rfl, by decide, Or.inl (w_gd 648 (by decide +kernel) (by decide +kernel))⟩
theorem fX9_51 : w_fl RX9 51 9 14 := ⟨_, rfl, by decide, Or.inl (w_gd 649 (by decide +kernel) (by decide +kernel))⟩
theorem fX9_54 : w_fl RX9 54 9 15 := ⟨_, rfl, by decide, Or.inl (w_gd 650 (by decide +kernel) (by decide +kernel))⟩
theorem fX9_57 : w_fl RX9 57 9 16 := ⟨_, rfl, by decide, Or.inl (w_gd 651 (by decide +kernel) (by decide +kernel))⟩
theorem fX9_60 : w_fl RX9 60 9 17 := ⟨_, rfl, by decide, Or.inl (w_gd 652 (by decide +kernel) (by decide +kernel))⟩
theorem fX9_63 : w_fl RX9 63 9 18 := ⟨_, rfl, by decide, Or.inl (w_gd 653 (by decide +kernel) (by decide +kernel))⟩
theorem fX9_66 : w_fl RX9 66 9 19 := ⟨_, rfl, by decide, Or.inl (w_gd 654 (by decide +kernel) (by decide +kernel))⟩
theorem fX9_69 : w_fl RX9 69 9 20 := ⟨_, rfl, by decide, Or.inl (w_gd 655 (by decide +kernel) (by decide +kernel))⟩
theorem fX9_72 : w_fl RX9 72 9 21 := ⟨_, rfl, by decide, Or.inl (w_gd 656 (by decide +kernel) (by decide +kernel))⟩
theorem fX9_75 : w_fl RX9 75 9 22 := ⟨_, rfl, by decide, Or.inl (w_gd 657 (by decide +kernel) (by decide +kernel))⟩
theorem fX9_78 : w_fl RX9 78 9 23 := ⟨_, rfl, by decide, Or.inl (w_gd 658 (by decide +kernel) (by decide +kernel))⟩
theorem fX9_81 : w_fl RX9 81 9 24 := ⟨_, rfl, by decide, Or.inl (w_gd 659 (by decide +kernel) (by decide +kernel))⟩
theorem fX9_84 : w_fl RX9 84 9 25 := ⟨_, rfl, by decide, Or.inl (w_gd 660 (by decide +kernel) (by decide +kernel))⟩
theorem fX9_87 : w_fl RX9 87 9 26 := ⟨_, rfl, by decide, Or.inl (w_gd 661 (by decide +kernel) (by decide +kernel))⟩
theorem fX9_90 : w_fl RX9 90 9 31 := ⟨_, rfl, by decide, Or.inl (w_gd 666 (by decide +kernel) (by decide +kernel))⟩
theorem fX9_93 : w_fl RX9 93 9 32 := ⟨_, rfl, by decide, Or.inl (w_gd 667 (by decide +kernel) (by decide +kernel))⟩
theorem fX9_96 : w_fl RX9 96 9 33 := ⟨_, rfl, by decide, Or.inl (w_gd 668 (by decide +kernel) (by decide +kernel))⟩
theorem fX9_133 : w_fl RX9 133 9 3 := ⟨_, rfl, by decide, Or.inl (w_gd 638 (by decide +kernel) (by decide +kernel))⟩
theorem fX9_145 : w_fl RX9 145 9 28 := ⟨_, rfl, by decide, Or.inl (w_gd 663 (by decide +kernel) (by decide +kernel))⟩
theorem fX9_148 : w_fl RX9 148 9 27 := ⟨_, rfl, by decide, Or.inl (w_gd 662 (by decide +kernel) (by decide +kernel))⟩
theorem fX9_181 : w_fl RX9 181 9 29 := ⟨_, rfl, by decide, Or.inl (w_gd 664 (by decide +kernel) (by decide +kernel))⟩
theorem fX9_184 : w_fl RX9 184 9 30 := ⟨_, rfl, by decide, Or.inl (w_gd 665 (by decide +kernel) (by decide +kernel))⟩
theorem p0_0 : w_fw 0 0 true (.array .int) := ⟨_, rfl, by decide, rfl, by decide +kernel, rfl⟩
theorem p0_1 : w_fw 0 1 true (.array .boolean) := ⟨_, rfl, by decide, rfl, by decide +kernel, rfl⟩
theorem p0_2 : w_fw 0 2 false .int := ⟨_, rfl, by decide, rfl, by decide +kernel, rfl⟩
theorem p1_0 : w_fw 1 0 true (.array .boolean) := ⟨_, rfl, by decide, rfl, by decide +kernel, rfl⟩
theorem p1_1 : w_fw 1 1 true (.array .int) := ⟨_, rfl, by decide, rfl, by decide +kernel, rfl⟩
theorem p1_2 : w_fw 1 2 true (.array .int) := ⟨_, rfl, by decide, rfl, by decide +kernel, rfl⟩
theorem p2_0 : w_fw 2 0 true (.array .int) := ⟨_, rfl, by decide, rfl, by decide +kernel, rfl⟩
theorem p2_1 : w_fw 2 1 true (.array .int) := ⟨_, rfl, by decide, rfl, by decide +kernel, rfl⟩
theorem p2_2 : w_fw 2 2 false .int := ⟨_, rfl, by decide, rfl, by decide +kernel, rfl⟩
theorem p3_0 : w_fw 3 0 true (.object "ChainFrames$Classes") := ⟨_, rfl, by decide, rfl, by decide +kernel, rfl⟩
theorem p4_1 : w_fw 4 1 true (.array .int) := ⟨_, rfl, by decide, rfl, by decide +kernel, rfl⟩
theorem p4_3 : w_fw 4 3 true (.array .int) := ⟨_, rfl, by decide, rfl, by decide +kernel, rfl⟩
theorem p4_4 : w_fw 4 4 true (.array .int) := ⟨_, rfl, by decide, rfl, by decide +kernel, rfl⟩
theorem p4_5 : w_fw 4 5 true (.array .int) := ⟨_, rfl, by decide, rfl, by decide +kernel, rfl⟩
theorem p4_7 : w_fw 4 7 true (.array .int) := ⟨_, rfl, by decide, rfl, by decide +kernel, rfl⟩
theorem p4_8 : w_fw 4 8 true (.array .int) := ⟨_, rfl, by decide, rfl, by decide +kernel, rfl⟩
theorem p4_9 : w_fw 4 9 true (.array .int) := ⟨_, rfl, by decide, rfl, by decide +kernel, rfl⟩
theorem p4_10 : w_fw 4 10 true (.array .int) := ⟨_, rfl, by decide, rfl, by decide +kernel, rfl⟩
theorem p4_12 : w_fw 4 12 true (.object "ChainFrames$Work") := ⟨_, rfl, by decide, rfl, by decide +kernel, rfl⟩
theorem p4_0 : w_fw 4 0 true .int := ⟨_, rfl, by decide, rfl, by decide +kernel, rfl⟩
theorem p4_2 : w_fw 4 2 false .int := ⟨_, rfl, by decide, rfl, by decide +kernel, rfl⟩
theorem p6_2 : w_fw 6 2 false .boolean := ⟨_, rfl, by decide, rfl, by decide +kernel, rfl⟩
theorem p4_6 : w_fw 4 6 false .int := ⟨_, rfl, by decide, rfl, by decide +kernel, rfl⟩
theorem p4_11 : w_fw 4 11 false .int := ⟨_, rfl, by decide, rfl, by decide +kernel, rfl⟩
theorem p5_1 : w_fw 5 1 true (.object "ChainFrames$Frame") := ⟨_, rfl, by decide, rfl, by decide +kernel, rfl⟩
theorem p5_0 : w_fw 5 0 true (.object "ChainFrames$Kinds") := ⟨_, rfl, by decide, rfl, by decide +kernel, rfl⟩
theorem p5_2 : w_fw 5 2 false .int := ⟨_, rfl, by decide, rfl, by decide +kernel, rfl⟩
theorem p6_0 : w_fw 6 0 true (.array (.object "ChainFrames$Frame")) := ⟨_, rfl, by decide, rfl, by decide +kernel, rfl⟩
theorem p6_1 : w_fw 6 1 true (.array .boolean) := ⟨_, rfl, by decide, rfl, by decide +kernel, rfl⟩
theorem p6_3 : w_fw 6 3 false .int := ⟨_, rfl, by decide, rfl, by decide +kernel, rfl⟩
theorem p6_4 : w_fw 6 4 false .int := ⟨_, rfl, by decide, rfl, by decide +kernel, rfl⟩
theorem p6_5 : w_fw 6 5 false .int := ⟨_, rfl, by decide, rfl, by decide +kernel, rfl⟩
theorem p6_6 : w_fw 6 6 false .int := ⟨_, rfl, by decide, rfl, by decide +kernel, rfl⟩
theorem p7_2 : w_fw 7 2 true (.object "ChainFrames$Frame") := ⟨_, rfl, by decide, rfl, by decide +kernel, rfl⟩
theorem p7_0 : w_fw 7 0 true (.object "ChainFrames$Kinds") := ⟨_, rfl, by decide, rfl, by decide +kernel, rfl⟩
theorem p7_1 : w_fw 7 1 true (.object "ChainFrames$Step") := ⟨_, rfl, by decide, rfl, by decide +kernel, rfl⟩
theorem p8_0 : w_fw 8 0 true (.object "ChainFrames$Classes") := ⟨_, rfl, by decide, rfl, by decide +kernel, rfl⟩
theorem p8_1 : w_fw 8 1 true (.object "ChainFrames$Kinds") := ⟨_, rfl, by decide, rfl, by decide +kernel, rfl⟩
theorem p8_2 : w_fw 8 2 true (.object "ChainFrames$Worker") := ⟨_, rfl, by decide, rfl, by decide +kernel, rfl⟩
theorem p8_3 : w_fw 8 3 true (.object "ChainFrames$Forms") := ⟨_, rfl, by decide, rfl, by decide +kernel, rfl⟩
theorem p8_4 : w_fw 8 4 true (.array (.object "ChainFrames$Method")) := ⟨_, rfl, by decide, rfl, by decide +kernel, rfl⟩
theorem p8_5 : w_fw 8 5 false .int := ⟨_, rfl, by decide, rfl, by decide +kernel, rfl⟩
theorem p9_0 : w_fw 9 0 false .int := ⟨_, rfl, by decide, rfl, by decide +kernel, rfl⟩
theorem p9_1 : w_fw 9 1 true (.array .int) := ⟨_, rfl, by decide, rfl, by decide +kernel, rfl⟩
theorem p9_2 : w_fw 9 2 true (.array .boolean) := ⟨_, rfl, by decide, rfl, by decide +kernel, rfl⟩
theorem p9_4 : w_fw 9 4 true (.array .int) := ⟨_, rfl, by decide, rfl, by decide +kernel, rfl⟩
theorem p9_5 : w_fw 9 5 true (.array .int) := ⟨_, rfl, by decide, rfl, by decide +kernel, rfl⟩
theorem p9_6 : w_fw 9 6 true (.array .int) := ⟨_, rfl, by decide, rfl, by decide +kernel, rfl⟩
theorem p9_7 : w_fw 9 7 true (.array .int) := ⟨_, rfl, by decide, rfl, by decide +kernel, rfl⟩
theorem p9_8 : w_fw 9 8 true (.array .int) := ⟨_, rfl, by decide, rfl, by decide +kernel, rfl⟩
theorem p9_9 : w_fw 9 9 true (.array .int) := ⟨_, rfl, by decide, rfl, by decide +kernel, rfl⟩
theorem p9_10 : w_fw 9 10 true (.array .int) := ⟨_, rfl, by decide, rfl, by decide +kernel, rfl⟩
theorem p9_11 : w_fw 9 11 true (.array .int) := ⟨_, rfl, by decide, rfl, by decide +kernel, rfl⟩
theorem p9_12 : w_fw 9 12 true (.array .int) := ⟨_, rfl, by decide, rfl, by decide +kernel, rfl⟩
theorem p9_13 : w_fw 9 13 true (.array .int) := ⟨_, rfl, by decide, rfl, by decide +kernel, rfl⟩
theorem p9_14 : w_fw 9 14 true (.array .int) := ⟨_, rfl, by decide, rfl, by decide +kernel, rfl⟩
theorem p9_15 : w_fw 9 15 true (.array .int) := ⟨_, rfl, by decide, rfl, by decide +kernel, rfl⟩
theorem p9_16 : w_fw 9 16 true (.array .boolean) := ⟨_, rfl, by decide, rfl, by decide +kernel, rfl⟩
theorem p9_17 : w_fw 9 17 true (.array .int) := ⟨_, rfl, by decide, rfl, by decide +kernel, rfl⟩
theorem p9_18 : w_fw 9 18 true (.array .int) := ⟨_, rfl, by decide, rfl, by decide +kernel, rfl⟩
theorem p9_19 : w_fw 9 19 true (.array .int) := ⟨_, rfl, by decide, rfl, by decide +kernel, rfl⟩
theorem p9_20 : w_fw 9 20 true (.array .int) := ⟨_, rfl, by decide, rfl, by decide +kernel, rfl⟩
theorem p9_21 : w_fw 9 21 true (.array .boolean) := ⟨_, rfl, by decide, rfl, by decide +kernel, rfl⟩
theorem p9_22 : w_fw 9 22 true (.array .boolean) := ⟨_, rfl, by decide, rfl, by decide +kernel, rfl⟩
theorem p9_23 : w_fw 9 23 true (.array .int) := ⟨_, rfl, by decide, rfl, by decide +kernel, rfl⟩
theorem p9_24 : w_fw 9 24 true (.array .int) := ⟨_, rfl, by decide, rfl, by decide +kernel, rfl⟩
theorem p9_25 : w_fw 9 25 true (.array .int) := ⟨_, rfl, by decide, rfl, by decide +kernel, rfl⟩
theorem p9_26 : w_fw 9 26 true (.array .int) := ⟨_, rfl, by decide, rfl, by decide +kernel, rfl⟩
theorem p9_31 : w_fw 9 31 true (.array .int) := ⟨_, rfl, by decide, rfl, by decide +kernel, rfl⟩
theorem p9_32 : w_fw 9 32 true (.array .int) := ⟨_, rfl, by decide, rfl, by decide +kernel, rfl⟩
theorem p9_33 : w_fw 9 33 true (.array .int) := ⟨_, rfl, by decide, rfl, by decide +kernel, rfl⟩
theorem p9_3 : w_fw 9 3 false .int := ⟨_, rfl, by decide, rfl, by decide +kernel, rfl⟩
theorem p9_28 : w_fw 9 28 false .int := ⟨_, rfl, by decide, rfl, by decide +kernel, rfl⟩
theorem p9_27 : w_fw 9 27 false .int := ⟨_, rfl, by decide, rfl, by decide +kernel, rfl⟩
theorem p9_29 : w_fw 9 29 false .int := ⟨_, rfl, by decide, rfl, by decide +kernel, rfl⟩
theorem p9_30 : w_fw 9 30 false .int := ⟨_, rfl, by decide, rfl, by decide +kernel, rfl⟩
theorem kL_9 : w_cI RL 9 mX8_init 0 := ⟨mwX8_init, ⟨rfl, rfl⟩, miX8_init, Or.inl (w_gd 15 (by decide +kernel) (by decide +kernel))⟩
theorem kL_12 : w_cI RL 12 mX9_init 0 := ⟨mwX9_init, ⟨rfl, rfl⟩, miX9_init, Or.inl (w_gd 631 (by decide +kernel) (by decide +kernel))⟩
theorem kL_13 : w_cV RL 13 8 mX8_cls 1 := ⟨mwX8_cls, mvX8_cls, Or.inl (w_gd 148 (by decide +kernel) (by decide +kernel))⟩
theorem kL_17 : w_cV RL 17 9 mX9_cls 1 := ⟨mwX9_cls, mvX9_cls, Or.inl (w_gd 738 (by decide +kernel) (by decide +kernel))⟩
theorem kL_18 : w_cV RL 18 8 mX8_fits 2 := ⟨mwX8_fits, mvX8_fits, Or.inl (w_gd 169 (by decide +kernel) (by decide +kernel))⟩
theorem kL_22 : w_cV RL 22 9 mX9_fits 2 := ⟨mwX9_fits, mvX9_fits, Or.inl (w_gd 749 (by decide +kernel) (by decide +kernel))⟩
theorem kL_23 : w_cV RL 23 8 mX8_join 2 := ⟨mwX8_join, mvX8_join, Or.inl (w_gd 177 (by decide +kernel) (by decide +kernel))⟩
theorem kL_26 : w_cV RL 26 9 mX9_join 2 := ⟨mwX9_join, mvX9_join, Or.inl (w_gd 761 (by decide +kernel) (by decide +kernel))⟩
theorem kL_27 : w_cV RL 27 8 mX8_method 1 := ⟨mwX8_method, mvX8_method, Or.inl (w_gd 207 (by decide +kernel) (by decide +kernel))⟩
theorem kL_30 : w_cV RL 30 9 mX9_method 1 := ⟨mwX9_method, mvX9_method, Or.inl (w_gd 788 (by decide +kernel) (by decide +kernel))⟩
theorem kL_31 : w_cV RL 31 8 mX8_argument 2 := ⟨mwX8_argument, mvX8_argument, Or.inl (w_gd 329 (by decide +kernel) (by decide +kernel))⟩
theorem kL_34 : w_cV RL 34 9 mX9_argument 2 := ⟨mwX9_argument, mvX9_argument, Or.inl (w_gd 796 (by decide +kernel) (by decide +kernel))⟩
theorem kL_35 : w_cV RL 35 8 mX8_op 4 := ⟨mwX8_op, mvX8_op, Or.inl (w_gd 342 (by decide +kernel) (by decide +kernel))⟩
theorem kL_39 : w_cV RL 39 9 mX9_op 4 := ⟨mwX9_op, mvX9_op, Or.inl (w_gd 804 (by decide +kernel) (by decide +kernel))⟩
theorem kL_40 : w_cV RL 40 8 mX8_guard 5 := ⟨mwX8_guard, mvX8_guard, Or.inl (w_gd 354 (by decide +kernel) (by decide +kernel))⟩
theorem kL_44 : w_cV RL 44 9 mX9_guard 5 := ⟨mwX9_guard, mvX9_guard, Or.inl (w_gd 812 (by decide +kernel) (by decide +kernel))⟩
theorem kL_45 : w_cV RL 45 8 mX8_compute 1 := ⟨mwX8_compute, mvX8_compute, Or.inl (w_gd 362 (by decide +kernel) (by decide +kernel))⟩
theorem kL_48 : w_cV RL 48 9 mX9_compute 1 := ⟨mwX9_compute, mvX9_compute, Or.inl (w_gd 816 (by decide +kernel) (by decide +kernel))⟩
theorem kL_49 : w_cV RL 49 8 mX8_told 2 := ⟨mwX8_told, mvX8_told, Or.inl (w_gd 560 (by decide +kernel) (by decide +kernel))⟩
theorem kL_52 : w_cV RL 52 9 mX9_told 2 := ⟨mwX9_told, mvX9_told, Or.inl (w_gd 915 (by decide +kernel) (by decide +kernel))⟩
theorem kL_53 : w_cV RL 53 8 mX8_frame 3 := ⟨mwX8_frame, mvX8_frame, Or.inl (w_gd 574 (by decide +kernel) (by decide +kernel))⟩
theorem kL_57 : w_cV RL 57 9 mX9_frame 3 := ⟨mwX9_frame, mvX9_frame, Or.inl (w_gd 923 (by decide +kernel) (by decide +kernel))⟩
theorem kL_58 : w_cV RL 58 8 mX8_height 2 := ⟨mwX8_height, mvX8_height, Or.inl (w_gd 584 (by decide +kernel) (by decide +kernel))⟩
theorem kL_61 : w_cV RL 61 9 mX9_height 2 := ⟨mwX9_height, mvX9_height, Or.inl (w_gd 931 (by decide +kernel) (by decide +kernel))⟩
theorem kL_62 : w_cV RL 62 8 mX8_form 2 := ⟨mwX8_form, mvX8_form, Or.inl (w_gd 588 (by decide +kernel) (by decide +kernel))⟩
theorem kL_65 : w_cV RL 65 9 mX9_form 2 := ⟨mwX9_form, mvX9_form, Or.inl (w_gd 935 (by decide +kernel) (by decide +kernel))⟩
theorem kL_66 : w_cV RL 66 8 mX8_count 2 := ⟨mwX8_count, mvX8_count, Or.inl (w_gd 625 (by decide +kernel) (by decide +kernel))⟩
theorem kL_69 : w_cV RL 69 9 mX9_count 2 := ⟨mwX9_count, mvX9_count, Or.inl (w_gd 946 (by decide +kernel) (by decide +kernel))⟩
theorem kX0_3 : Jvm.Cond.methodLink RX0 3 ⟨"java/lang/Object", "<init>", "()V"⟩ ∈ w_good := w_gd 26 (by decide +kernel) (by decide +kernel)
theorem kX0_23 : w_cV RX0 23 0 mX0_has 1 := ⟨mwX0_has, mvX0_has, Or.inl (w_gd 160 (by decide +kernel) (by decide +kernel))⟩
theorem kX1_3 : Jvm.Cond.methodLink RX1 3 ⟨"java/lang/Object", "<init>", "()V"⟩ ∈ w_good := w_gd 116 (by decide +kernel) (by decide +kernel)
theorem kX1_22 : w_cV RX1 22 1 mX1_markTold 1 := ⟨mwX1_markTold, mvX1_markTold, Or.inl (w_gd 596 (by decide +kernel) (by decide +kernel))⟩
theorem kX1_38 : w_cV RX1 38 1 mX1_toldBefore 1 := ⟨mwX1_toldBefore, mvX1_toldBefore, Or.inl (w_gd 607 (by decide +kernel) (by decide +kernel))⟩
theorem kX1_50 : w_cS RX1 50 mX1_writeRow 2 := ⟨mwX1_writeRow, msX1_writeRow, Or.inl (w_gd 611 (by decide +kernel) (by decide +kernel))⟩
theorem kX1_54 : Jvm.Cond.methodLink RX1 54 ⟨"java/lang/Math", "min", "(II)I"⟩ ∈ w_good := w_gd 614 (by decide +kernel) (by decide +kernel)
theorem kX1_60 : w_cV RX1 60 1 mX1_isAlike 1 := ⟨mwX1_isAlike, mvX1_isAlike, Or.inl (w_gd 617 (by decide +kernel) (by decide +kernel))⟩
theorem kX1_64 : w_cS RX1 64 mX1_formOf 2 := ⟨mwX1_formOf, msX1_formOf, Or.inl (w_gd 621 (by decide +kernel) (by decide +kernel))⟩
theorem kX1_72 : w_cV RX1 72 2 mX2_isThere 0 := ⟨mwX2_isThere, mvX2_isThere, Or.inl (w_gd 600 (by decide +kernel) (by decide +kernel))⟩
theorem kX1_76 : w_cV RX1 76 4 mX4_isJump 1 := ⟨mwX4_isJump, mvX4_isJump, Or.inl (w_gd 601 (by decide +kernel) (by decide +kernel))⟩
theorem kX1_82 : w_cV RX1 82 1 mX1_mark 1 := ⟨mwX1_mark, mvX1_mark, Or.inl (w_gd 602 (by decide +kernel) (by decide +kernel))⟩
theorem kX1_89 : w_cV RX1 89 4 mX4_isGuarded 2 := ⟨mwX4_isGuarded, mvX4_isGuarded, Or.inl (w_gd 606 (by decide +kernel) (by decide +kernel))⟩
theorem kX1_99 : w_cV RX1 99 2 mX2_hasLongOnTop 0 := ⟨mwX2_hasLongOnTop, mvX2_hasLongOnTop, Or.inl (w_gd 624 (by decide +kernel) (by decide +kernel))⟩
theorem kX2_3 : Jvm.Cond.methodLink RX2 3 ⟨"java/lang/Object", "<init>", "()V"⟩ ∈ w_good := w_gd 61 (by decide +kernel) (by decide +kernel)
theorem kX2_22 : Jvm.Cond.methodLink RX2 22 ⟨"java/lang/System", "arraycopy", "(Ljava/lang/Object;ILjava/lang/Object;II)V"⟩ ∈ w_good := w_gd 378 (by decide +kernel) (by decide +kernel)
theorem kX2_28 : w_cS RX2 28 mX3_isUnmade 1 := ⟨mwX3_isUnmade, msX3_isUnmade, Or.inl (w_gd 402 (by decide +kernel) (by decide +kernel))⟩
theorem kX2_34 : w_cV RX2 34 2 mX2_isThere 0 := ⟨mwX2_isThere, mvX2_isThere, Or.inl (w_gd 583 (by decide +kernel) (by decide +kernel))⟩
theorem kX2_38 : w_cV RX2 38 2 mX2_hasLongAt 1 := ⟨mwX2_hasLongAt, mvX2_hasLongAt, Or.inl (w_gd 491 (by decide +kernel) (by decide +kernel))⟩
theorem kX3_3 : Jvm.Cond.methodLink RX3 3 ⟨"java/lang/Object", "<init>", "()V"⟩ ∈ w_good := w_gd 45 (by decide +kernel) (by decide +kernel)
theorem kX3_15 : w_cS RX3 15 mX3_isThing 1 := ⟨mwX3_isThing, msX3_isThing, Or.inl (w_gd 189 (by decide +kernel) (by decide +kernel))⟩
theorem kX3_19 : w_cV RX3 19 0 mX0_has 1 := ⟨mwX0_has, mvX0_has, Or.inl (w_gd 192 (by decide +kernel) (by decide +kernel))⟩
theorem kX3_24 : w_cS RX3 24 mX3_isThingRow 1 := ⟨mwX3_isThingRow, msX3_isThingRow, Or.inl (w_gd 193 (by decide +kernel) (by decide +kernel))⟩
theorem kX3_27 : w_cV RX3 27 3 mX3_isOfClass 1 := ⟨mwX3_isOfClass, mvX3_isOfClass, Or.inl (w_gd 185 (by decide +kernel) (by decide +kernel))⟩
theorem kX3_30 : w_cV RX3 30 3 mX3_isArgument 1 := ⟨mwX3_isArgument, mvX3_isArgument, Or.inl (w_gd 215 (by decide +kernel) (by decide +kernel))⟩
theorem kX3_33 : w_cS RX3 33 mX3_isReference 1 := ⟨mwX3_isReference, msX3_isReference, Or.inl (w_gd 200 (by decide +kernel) (by decide +kernel))⟩
theorem kX3_36 : w_cV RX3 36 0 mX0_suits 2 := ⟨mwX0_suits, mvX0_suits, Or.inl (w_gd 478 (by decide +kernel) (by decide +kernel))⟩
theorem kX3_40 : w_cV RX3 40 0 mX0_nearest 2 := ⟨mwX0_nearest, mvX0_nearest, Or.inl (w_gd 203 (by decide +kernel) (by decide +kernel))⟩
theorem kX4_3 : Jvm.Cond.methodLink RX4 3 ⟨"java/lang/Object", "<init>", "()V"⟩ ∈ w_good := w_gd 223 (by decide +kernel) (by decide +kernel)
theorem kX4_38 : w_cI RX4 38 mX6_init 0 := ⟨mwX6_init, ⟨rfl, rfl⟩, miX6_init, Or.inl (w_gd 226 (by decide +kernel) (by decide +kernel))⟩
theorem kX4_60 : w_cS RX4 60 mX3_isUnmade 1 := ⟨mwX3_isUnmade, msX3_isUnmade, Or.inl (w_gd 517 (by decide +kernel) (by decide +kernel))⟩
theorem kX4_66 : w_cV RX4 66 4 mX4_hasPlace 1 := ⟨mwX4_hasPlace, mvX4_hasPlace, Or.inl (w_gd 518 (by decide +kernel) (by decide +kernel))⟩
theorem kX4_73 : w_cV RX4 73 2 mX2_isThere 0 := ⟨mwX2_isThere, mvX2_isThere, Or.inl (w_gd 568 (by decide +kernel) (by decide +kernel))⟩
theorem kX4_79 : w_cV RX4 79 4 mX4_localsOfOp 1 := ⟨mwX4_localsOfOp, mvX4_localsOfOp, Or.inl (w_gd 569 (by decide +kernel) (by decide +kernel))⟩
theorem kX4_83 : Jvm.Cond.methodLink RX4 83 ⟨"java/lang/Math", "max", "(II)I"⟩ ∈ w_good := w_gd 573 (by decide +kernel) (by decide +kernel)
theorem kX5_3 : Jvm.Cond.methodLink RX5 3 ⟨"java/lang/Object", "<init>", "()V"⟩ ∈ w_good := w_gd 87 (by decide +kernel) (by decide +kernel)
theorem kX5_11 : w_cI RX5 11 mX2_init 0 := ⟨mwX2_init, ⟨rfl, rfl⟩, miX2_init, Or.inr ⟨"ChainFrames", w_gn 89 (by decide +kernel) (by decide +kernel)⟩⟩
theorem kX5_34 : w_cV RX5 34 2 mX2_copyFrom 1 := ⟨mwX2_copyFrom, mvX2_copyFrom, Or.inl (w_gd 437 (by decide +kernel) (by decide +kernel))⟩
theorem kX5_49 : w_cV RX5 49 5 mX5_useLocal 2 := ⟨mwX5_useLocal, mvX5_useLocal, Or.inl (w_gd 438 (by decide +kernel) (by decide +kernel))⟩
theorem kX5_53 : w_cV RX5 53 5 mX5_useThing 2 := ⟨mwX5_useThing, mvX5_useThing, Or.inl (w_gd 505 (by decide +kernel) (by decide +kernel))⟩
theorem kX5_60 : w_cV RX5 60 5 mX5_useValue 2 := ⟨mwX5_useValue, mvX5_useValue, Or.inl (w_gd 532 (by decide +kernel) (by decide +kernel))⟩
theorem kX5_66 : w_cV RX5 66 5 mX5_expectInLocal 1 := ⟨mwX5_expectInLocal, mvX5_expectInLocal, Or.inl (w_gd 442 (by decide +kernel) (by decide +kernel))⟩
theorem kX5_70 : w_cV RX5 70 5 mX5_lay 1 := ⟨mwX5_lay, mvX5_lay, Or.inl (w_gd 450 (by decide +kernel) (by decide +kernel))⟩
theorem kX5_74 : w_cV RX5 74 5 mX5_take 1 := ⟨mwX5_take, mvX5_take, Or.inl (w_gd 454 (by decide +kernel) (by decide +kernel))⟩
theorem kX5_77 : w_cV RX5 77 5 mX5_put 2 := ⟨mwX5_put, mvX5_put, Or.inl (w_gd 483 (by decide +kernel) (by decide +kernel))⟩
theorem kX5_80 : w_cV RX5 80 2 mX2_hasLongAt 1 := ⟨mwX2_hasLongAt, mvX2_hasLongAt, Or.inl (w_gd 495 (by decide +kernel) (by decide +kernel))⟩
theorem kX5_84 : w_cV RX5 84 5 mX5_putLong 1 := ⟨mwX5_putLong, mvX5_putLong, Or.inl (w_gd 496 (by decide +kernel) (by decide +kernel))⟩
theorem kX5_87 : w_cS RX5 87 mX5_isReferenceOrUnmade 1 := ⟨mwX5_isReferenceOrUnmade, msX5_isReferenceOrUnmade, Or.inl (w_gd 500 (by decide +kernel) (by decide +kernel))⟩
theorem kX5_90 : w_cV RX5 90 5 mX5_takeAny 0 := ⟨mwX5_takeAny, mvX5_takeAny, Or.inl (w_gd 466 (by decide +kernel) (by decide +kernel))⟩
theorem kX5_94 : w_cV RX5 94 5 mX5_expect 1 := ⟨mwX5_expect, mvX5_expect, Or.inl (w_gd 479 (by decide +kernel) (by decide +kernel))⟩
theorem kX5_97 : w_cV RX5 97 5 mX5_layTop 0 := ⟨mwX5_layTop, mvX5_layTop, Or.inl (w_gd 536 (by decide +kernel) (by decide +kernel))⟩
theorem kX5_100 : w_cV RX5 100 5 mX5_make 2 := ⟨mwX5_make, mvX5_make, Or.inl (w_gd 509 (by decide +kernel) (by decide +kernel))⟩
theorem kX5_106 : w_cS RX5 106 mX3_isReference 1 := ⟨mwX3_isReference, msX3_isReference, Or.inl (w_gd 503 (by decide +kernel) (by decide +kernel))⟩
theorem kX5_111 : w_cV RX5 111 5 mX5_loadElement 0 := ⟨mwX5_loadElement, mvX5_loadElement, Or.inl (w_gd 523 (by decide +kernel) (by decide +kernel))⟩
theorem kX5_114 : w_cV RX5 114 5 mX5_storeElement 0 := ⟨mwX5_storeElement, mvX5_storeElement, Or.inl (w_gd 528 (by decide +kernel) (by decide +kernel))⟩
theorem kX5_117 : w_cV RX5 117 4 mX4_classOfUnmade 1 := ⟨mwX4_classOfUnmade, mvX4_classOfUnmade, Or.inl (w_gd 513 (by decide +kernel) (by decide +kernel))⟩
theorem kX5_121 : w_cV RX5 121 2 mX2_replace 2 := ⟨mwX2_replace, mvX2_replace, Or.inl (w_gd 519 (by decide +kernel) (by decide +kernel))⟩
theorem kX5_124 : w_cS RX5 124 mX3_isThingRow 1 := ⟨mwX3_isThingRow, msX3_isThingRow, Or.inl (w_gd 527 (by decide +kernel) (by decide +kernel))⟩
theorem kX5_127 : w_cS RX5 127 mX3_isUnmade 1 := ⟨mwX3_isUnmade, msX3_isUnmade, Or.inl (w_gd 504 (by decide +kernel) (by decide +kernel))⟩
theorem kX5_130 : w_cV RX5 130 5 mX5_breakRule 1 := ⟨mwX5_breakRule, mvX5_breakRule, Or.inl (w_gd 446 (by decide +kernel) (by decide +kernel))⟩
theorem kX5_136 : w_cV RX5 136 2 mX2_top 0 := ⟨mwX2_top, mvX2_top, Or.inl (w_gd 470 (by decide +kernel) (by decide +kernel))⟩
theorem kX5_139 : w_cV RX5 139 5 mX5_takeLong 0 := ⟨mwX5_takeLong, mvX5_takeLong, Or.inl (w_gd 458 (by decide +kernel) (by decide +kernel))⟩
theorem kX5_142 : w_cV RX5 142 3 mX3_suits 2 := ⟨mwX3_suits, mvX3_suits, Or.inl (w_gd 474 (by decide +kernel) (by decide +kernel))⟩
theorem kX5_146 : w_cV RX5 146 2 mX2_hasLongOnTop 0 := ⟨mwX2_hasLongOnTop, mvX2_hasLongOnTop, Or.inl (w_gd 462 (by decide +kernel) (by decide +kernel))⟩
theorem kX5_153 : w_cV RX5 153 2 mX2_breakLong 1 := ⟨mwX2_breakLong, mvX2_breakLong, Or.inl (w_gd 487 (by decide +kernel) (by decide +kernel))⟩
theorem kX6_3 : Jvm.Cond.methodLink RX6 3 ⟨"java/lang/Object", "<init>", "()V"⟩ ∈ w_good := w_gd 229 (by decide +kernel) (by decide +kernel)
theorem kX6_21 : w_cI RX6 21 mX2_init 0 := ⟨mwX2_init, ⟨rfl, rfl⟩, miX2_init, Or.inr ⟨"ChainFrames", w_gn 232 (by decide +kernel) (by decide +kernel)⟩⟩
theorem kX6_26 : w_cV RX6 26 2 mX2_startWith 1 := ⟨mwX2_startWith, mvX2_startWith, Or.inl (w_gd 374 (by decide +kernel) (by decide +kernel))⟩
theorem kX6_46 : Jvm.Cond.methodLink RX6 46 ⟨"java/lang/Math", "max", "(II)I"⟩ ∈ w_good := w_gd 421 (by decide +kernel) (by decide +kernel)
theorem kX7_3 : Jvm.Cond.methodLink RX7 3 ⟨"java/lang/Object", "<init>", "()V"⟩ ∈ w_good := w_gd 55 (by decide +kernel) (by decide +kernel)
theorem kX7_11 : w_cI RX7 11 mX2_init 0 := ⟨mwX2_init, ⟨rfl, rfl⟩, miX2_init, Or.inr ⟨"ChainFrames", w_gn 58 (by decide +kernel) (by decide +kernel)⟩⟩
theorem kX7_24 : w_cI RX7 24 mX5_init 1 := ⟨mwX5_init, ⟨rfl, rfl⟩, miX5_init, Or.inl (w_gd 84 (by decide +kernel) (by decide +kernel))⟩
theorem kX7_41 : w_cV RX7 41 6 mX6_startWith 1 := ⟨mwX6_startWith, mvX6_startWith, Or.inl (w_gd 370 (by decide +kernel) (by decide +kernel))⟩
theorem kX7_48 : w_cV RX7 48 6 mX6_leastWaiting 0 := ⟨mwX6_leastWaiting, mvX6_leastWaiting, Or.inl (w_gd 382 (by decide +kernel) (by decide +kernel))⟩
theorem kX7_60 : w_cV RX7 60 7 mX7_meetHandlers 2 := ⟨mwX7_meetHandlers, mvX7_meetHandlers, Or.inl (w_gd 386 (by decide +kernel) (by decide +kernel))⟩
theorem kX7_64 : w_cV RX7 64 5 mX5_perform 2 := ⟨mwX5_perform, mvX5_perform, Or.inl (w_gd 433 (by decide +kernel) (by decide +kernel))⟩
theorem kX7_73 : w_cV RX7 73 6 mX6_note 1 := ⟨mwX6_note, mvX6_note, Or.inl (w_gd 417 (by decide +kernel) (by decide +kernel))⟩
theorem kX7_77 : w_cV RX7 77 7 mX7_goOn 2 := ⟨mwX7_goOn, mvX7_goOn, Or.inl (w_gd 540 (by decide +kernel) (by decide +kernel))⟩
theorem kX7_80 : w_cV RX7 80 6 mX6_breakAt 2 := ⟨mwX6_breakAt, mvX6_breakAt, Or.inl (w_gd 556 (by decide +kernel) (by decide +kernel))⟩
theorem kX7_87 : w_cV RX7 87 4 mX4_isGuarded 2 := ⟨mwX4_isGuarded, mvX4_isGuarded, Or.inl (w_gd 390 (by decide +kernel) (by decide +kernel))⟩
theorem kX7_94 : w_cV RX7 94 4 mX4_hasPlace 1 := ⟨mwX4_hasPlace, mvX4_hasPlace, Or.inl (w_gd 394 (by decide +kernel) (by decide +kernel))⟩
theorem kX7_105 : w_cV RX7 105 2 mX2_becomeRaised 2 := ⟨mwX2_becomeRaised, mvX2_becomeRaised, Or.inl (w_gd 398 (by decide +kernel) (by decide +kernel))⟩
theorem kX7_109 : w_cV RX7 109 7 mX7_meet 3 := ⟨mwX7_meet, mvX7_meet, Or.inl (w_gd 405 (by decide +kernel) (by decide +kernel))⟩
theorem kX7_116 : w_cV RX7 116 4 mX4_isJump 1 := ⟨mwX4_isJump, mvX4_isJump, Or.inl (w_gd 544 (by decide +kernel) (by decide +kernel))⟩
theorem kX7_119 : w_cV RX7 119 7 mX7_jumpRule 2 := ⟨mwX7_jumpRule, mvX7_jumpRule, Or.inl (w_gd 548 (by decide +kernel) (by decide +kernel))⟩
theorem kX7_125 : w_cV RX7 125 2 mX2_holdsUnmade 0 := ⟨mwX2_holdsUnmade, mvX2_holdsUnmade, Or.inl (w_gd 552 (by decide +kernel) (by decide +kernel))⟩
theorem kX7_129 : w_cV RX7 129 2 mX2_isThere 0 := ⟨mwX2_isThere, mvX2_isThere, Or.inl (w_gd 409 (by decide +kernel) (by decide +kernel))⟩
theorem kX7_132 : w_cV RX7 132 2 mX2_copyFrom 1 := ⟨mwX2_copyFrom, mvX2_copyFrom, Or.inl (w_gd 413 (by decide +kernel) (by decide +kernel))⟩
theorem kX7_136 : w_cV RX7 136 7 mX7_canMeet 2 := ⟨mwX7_canMeet, mvX7_canMeet, Or.inl (w_gd 424 (by decide +kernel) (by decide +kernel))⟩
theorem kX7_143 : w_cV RX7 143 7 mX7_mergeRow 3 := ⟨mwX7_mergeRow, mvX7_mergeRow, Or.inl (w_gd 429 (by decide +kernel) (by decide +kernel))⟩
theorem kX7_150 : w_cV RX7 150 3 mX3_merge 2 := ⟨mwX3_merge, mvX3_merge, Or.inl (w_gd 428 (by decide +kernel) (by decide +kernel))⟩
theorem kX8_1 : Jvm.Cond.methodLink RX8 1 ⟨"java/lang/Object", "<init>", "()V"⟩ ∈ w_good := w_gd 18 (by decide +kernel) (by decide +kernel)
theorem kX8_9 : w_cI RX8 9 mX0_init 0 := ⟨mwX0_init, ⟨rfl, rfl⟩, miX0_init, Or.inl (w_gd 23 (by decide +kernel) (by decide +kernel))⟩
theorem kX8_18 : w_cI RX8 18 mX3_init 1 := ⟨mwX3_init, ⟨rfl, rfl⟩, miX3_init, Or.inl (w_gd 42 (by decide +kernel) (by decide +kernel))⟩
theorem kX8_27 : w_cI RX8 27 mX7_init 1 := ⟨mwX7_init, ⟨rfl, rfl⟩, miX7_init, Or.inl (w_gd 52 (by decide +kernel) (by decide +kernel))⟩
theorem kX8_36 : w_cI RX8 36 mX1_init 0 := ⟨mwX1_init, ⟨rfl, rfl⟩, miX1_init, Or.inr ⟨"ChainFrames", w_gn 113 (by decide +kernel) (by decide +kernel)⟩⟩
theorem kX8_51 : w_cV RX8 51 0 mX0_has 1 := ⟨mwX0_has, mvX0_has, Or.inl (w_gd 152 (by decide +kernel) (by decide +kernel))⟩
theorem kX8_55 : w_cV RX8 55 0 mX0_isFace 1 := ⟨mwX0_isFace, mvX0_isFace, Or.inl (w_gd 156 (by decide +kernel) (by decide +kernel))⟩
theorem kX8_58 : w_cV RX8 58 0 mX0_isFull 0 := ⟨mwX0_isFull, mvX0_isFull, Or.inl (w_gd 161 (by decide +kernel) (by decide +kernel))⟩
theorem kX8_62 : w_cV RX8 62 0 mX0_add 1 := ⟨mwX0_add, mvX0_add, Or.inl (w_gd 165 (by decide +kernel) (by decide +kernel))⟩
theorem kX8_66 : w_cV RX8 66 0 mX0_suits 2 := ⟨mwX0_suits, mvX0_suits, Or.inl (w_gd 173 (by decide +kernel) (by decide +kernel))⟩
theorem kX8_70 : w_cV RX8 70 3 mX3_isKnown 1 := ⟨mwX3_isKnown, mvX3_isKnown, Or.inl (w_gd 181 (by decide +kernel) (by decide +kernel))⟩
theorem kX8_73 : w_cV RX8 73 3 mX3_merge 2 := ⟨mwX3_merge, mvX3_merge, Or.inl (w_gd 196 (by decide +kernel) (by decide +kernel))⟩
theorem kX8_77 : w_cV RX8 77 3 mX3_isResult 1 := ⟨mwX3_isResult, mvX3_isResult, Or.inl (w_gd 211 (by decide +kernel) (by decide +kernel))⟩
theorem kX8_80 : w_cI RX8 80 mX4_init 1 := ⟨mwX4_init, ⟨rfl, rfl⟩, miX4_init, Or.inl (w_gd 220 (by decide +kernel) (by decide +kernel))⟩
theorem kX8_83 : w_cV RX8 83 8 mX8_find 1 := ⟨mwX8_find, mvX8_find, Or.inl (w_gd 333 (by decide +kernel) (by decide +kernel))⟩
theorem kX8_87 : w_cV RX8 87 3 mX3_isArgument 1 := ⟨mwX3_isArgument, mvX3_isArgument, Or.inl (w_gd 337 (by decide +kernel) (by decide +kernel))⟩
theorem kX8_90 : w_cV RX8 90 4 mX4_addArgument 1 := ⟨mwX4_addArgument, mvX4_addArgument, Or.inl (w_gd 338 (by decide +kernel) (by decide +kernel))⟩
theorem kX8_93 : w_cV RX8 93 8 mX8_isOp 3 := ⟨mwX8_isOp, mvX8_isOp, Or.inl (w_gd 346 (by decide +kernel) (by decide +kernel))⟩
theorem kX8_97 : w_cV RX8 97 4 mX4_addOp 3 := ⟨mwX4_addOp, mvX4_addOp, Or.inl (w_gd 350 (by decide +kernel) (by decide +kernel))⟩
theorem kX8_101 : w_cV RX8 101 4 mX4_addGuard 4 := ⟨mwX4_addGuard, mvX4_addGuard, Or.inl (w_gd 358 (by decide +kernel) (by decide +kernel))⟩
theorem kX8_108 : w_cV RX8 108 7 mX7_run 1 := ⟨mwX7_run, mvX7_run, Or.inl (w_gd 366 (by decide +kernel) (by decide +kernel))⟩
theorem kX8_134 : w_cV RX8 134 4 mX4_wantedLocals 0 := ⟨mwX4_wantedLocals, mvX4_wantedLocals, Or.inl (w_gd 564 (by decide +kernel) (by decide +kernel))⟩
theorem kX8_138 : w_cV RX8 138 4 mX4_hasPlace 1 := ⟨mwX4_hasPlace, mvX4_hasPlace, Or.inl (w_gd 578 (by decide +kernel) (by decide +kernel))⟩
theorem kX8_145 : w_cV RX8 145 2 mX2_slot 1 := ⟨mwX2_slot, mvX2_slot, Or.inl (w_gd 579 (by decide +kernel) (by decide +kernel))⟩
theorem kX8_153 : w_cV RX8 153 1 mX1_formAt 2 := ⟨mwX1_formAt, mvX1_formAt, Or.inl (w_gd 592 (by decide +kernel) (by decide +kernel))⟩
theorem kX9_1 : Jvm.Cond.methodLink RX9 1 ⟨"java/lang/Object", "<init>", "()V"⟩ ∈ w_good := w_gd 634 (by decide +kernel) (by decide +kernel)
theorem kX9_99 : w_cS RX9 99 mX9_in 3 := ⟨mwX9_in, msX9_in, Or.inl (w_gd 746 (by decide +kernel) (by decide +kernel))⟩
theorem kX9_103 : w_cV RX9 103 9 mX9_isClass 1 := ⟨mwX9_isClass, mvX9_isClass, Or.inl (w_gd 742 (by decide +kernel) (by decide +kernel))⟩
theorem kX9_107 : w_cV RX9 107 9 mX9_isBelow 2 := ⟨mwX9_isBelow, mvX9_isBelow, Or.inl (w_gd 757 (by decide +kernel) (by decide +kernel))⟩
theorem kX9_111 : w_cV RX9 111 9 mX9_fitsClass 2 := ⟨mwX9_fitsClass, mvX9_fitsClass, Or.inl (w_gd 753 (by decide +kernel) (by decide +kernel))⟩
theorem kX9_114 : w_cS RX9 114 mX9_isReference 1 := ⟨mwX9_isReference, msX9_isReference, Or.inl (w_gd 781 (by decide +kernel) (by decide +kernel))⟩
theorem kX9_117 : w_cV RX9 117 9 mX9_isThing 1 := ⟨mwX9_isThing, mvX9_isThing, Or.inl (w_gd 769 (by decide +kernel) (by decide +kernel))⟩
theorem kX9_120 : w_cV RX9 120 9 mX9_isThings 1 := ⟨mwX9_isThings, mvX9_isThings, Or.inl (w_gd 773 (by decide +kernel) (by decide +kernel))⟩
theorem kX9_123 : w_cV RX9 123 9 mX9_joinClass 2 := ⟨mwX9_joinClass, mvX9_joinClass, Or.inl (w_gd 784 (by decide +kernel) (by decide +kernel))⟩
theorem kX9_127 : w_cV RX9 127 9 mX9_isKind 1 := ⟨mwX9_isKind, mvX9_isKind, Or.inl (w_gd 765 (by decide +kernel) (by decide +kernel))⟩
theorem kX9_130 : w_cV RX9 130 9 mX9_joined 2 := ⟨mwX9_joined, mvX9_joined, Or.inl (w_gd 777 (by decide +kernel) (by decide +kernel))⟩
theorem kX9_136 : w_cV RX9 136 9 mX9_isArgument 1 := ⟨mwX9_isArgument, mvX9_isArgument, Or.inl (w_gd 792 (by decide +kernel) (by decide +kernel))⟩
theorem kX9_139 : w_cV RX9 139 9 mX9_isMethod 1 := ⟨mwX9_isMethod, mvX9_isMethod, Or.inl (w_gd 800 (by decide +kernel) (by decide +kernel))⟩
theorem kX9_142 : w_cV RX9 142 9 mX9_isOp 3 := ⟨mwX9_isOp, mvX9_isOp, Or.inl (w_gd 808 (by decide +kernel) (by decide +kernel))⟩
theorem kX9_151 : w_cV RX9 151 9 mX9_breaks 1 := ⟨mwX9_breaks, mvX9_breaks, Or.inl (w_gd 832 (by decide +kernel) (by decide +kernel))⟩
theorem kX9_154 : w_cV RX9 154 9 mX9_wants 1 := ⟨mwX9_wants, mvX9_wants, Or.inl (w_gd 860 (by decide +kernel) (by decide +kernel))⟩
theorem kX9_157 : w_cV RX9 157 9 mX9_fitsKind 2 := ⟨mwX9_fitsKind, mvX9_fitsKind, Or.inl (w_gd 864 (by decide +kernel) (by decide +kernel))⟩
theorem kX9_160 : w_cV RX9 160 9 mX9_lays 1 := ⟨mwX9_lays, mvX9_lays, Or.inl (w_gd 868 (by decide +kernel) (by decide +kernel))⟩
theorem kX9_163 : w_cV RX9 163 9 mX9_takes 1 := ⟨mwX9_takes, mvX9_takes, Or.inl (w_gd 856 (by decide +kernel) (by decide +kernel))⟩
theorem kX9_166 : w_cV RX9 166 9 mX9_puts 2 := ⟨mwX9_puts, mvX9_puts, Or.inl (w_gd 896 (by decide +kernel) (by decide +kernel))⟩
theorem kX9_170 : w_cS RX9 170 mX9_isHeld 1 := ⟨mwX9_isHeld, msX9_isHeld, Or.inl (w_gd 900 (by decide +kernel) (by decide +kernel))⟩
theorem kX9_173 : w_cV RX9 173 9 mX9_top 0 := ⟨mwX9_top, mvX9_top, Or.inl (w_gd 872 (by decide +kernel) (by decide +kernel))⟩
theorem kX9_177 : w_cV RX9 177 9 mX9_takesTop 1 := ⟨mwX9_takesTop, mvX9_takesTop, Or.inl (w_gd 880 (by decide +kernel) (by decide +kernel))⟩
theorem kX9_187 : w_cV RX9 187 9 mX9_makes 1 := ⟨mwX9_makes, mvX9_makes, Or.inl (w_gd 876 (by decide +kernel) (by decide +kernel))⟩
theorem kX9_190 : w_cV RX9 190 9 mX9_reads 0 := ⟨mwX9_reads, mvX9_reads, Or.inl (w_gd 884 (by decide +kernel) (by decide +kernel))⟩
theorem kX9_194 : w_cV RX9 194 9 mX9_writes 0 := ⟨mwX9_writes, mvX9_writes, Or.inl (w_gd 888 (by decide +kernel) (by decide +kernel))⟩
theorem kX9_197 : w_cV RX9 197 9 mX9_moves 2 := ⟨mwX9_moves, mvX9_moves, Or.inl (w_gd 892 (by decide +kernel) (by decide +kernel))⟩
theorem kX9_200 : w_cV RX9 200 9 mX9_keepMost 1 := ⟨mwX9_keepMost, mvX9_keepMost, Or.inl (w_gd 828 (by decide +kernel) (by decide +kernel))⟩
theorem kX9_204 : w_cV RX9 204 9 mX9_meetsFirst 1 := ⟨mwX9_meetsFirst, mvX9_meetsFirst, Or.inl (w_gd 824 (by decide +kernel) (by decide +kernel))⟩
theorem kX9_207 : w_cV RX9 207 9 mX9_load 1 := ⟨mwX9_load, mvX9_load, Or.inl (w_gd 848 (by decide +kernel) (by decide +kernel))⟩
theorem kX9_210 : w_cV RX9 210 9 mX9_meets 1 := ⟨mwX9_meets, mvX9_meets, Or.inl (w_gd 820 (by decide +kernel) (by decide +kernel))⟩
theorem kX9_213 : w_cV RX9 213 9 mX9_hasUnmade 0 := ⟨mwX9_hasUnmade, mvX9_hasUnmade, Or.inl (w_gd 907 (by decide +kernel) (by decide +kernel))⟩
theorem kX9_216 : w_cV RX9 216 9 mX9_hands 1 := ⟨mwX9_hands, mvX9_hands, Or.inl (w_gd 844 (by decide +kernel) (by decide +kernel))⟩
theorem kX9_219 : w_cV RX9 219 9 mX9_does 3 := ⟨mwX9_does, mvX9_does, Or.inl (w_gd 852 (by decide +kernel) (by decide +kernel))⟩
theorem kX9_222 : w_cV RX9 222 9 mX9_jumps 1 := ⟨mwX9_jumps, mvX9_jumps, Or.inl (w_gd 903 (by decide +kernel) (by decide +kernel))⟩
theorem kX9_225 : w_cV RX9 225 9 mX9_goesOn 0 := ⟨mwX9_goesOn, mvX9_goesOn, Or.inl (w_gd 911 (by decide +kernel) (by decide +kernel))⟩
theorem kX9_228 : w_cV RX9 228 9 mX9_leastLooked 0 := ⟨mwX9_leastLooked, mvX9_leastLooked, Or.inl (w_gd 836 (by decide +kernel) (by decide +kernel))⟩
theorem kX9_231 : w_cV RX9 231 9 mX9_goes 0 := ⟨mwX9_goes, mvX9_goes, Or.inl (w_gd 840 (by decide +kernel) (by decide +kernel))⟩
theorem kX9_234 : w_cV RX9 234 9 mX9_wanted 1 := ⟨mwX9_wanted, mvX9_wanted, Or.inl (w_gd 919 (by decide +kernel) (by decide +kernel))⟩
theorem kX9_238 : w_cV RX9 238 9 mX9_isPlace 2 := ⟨mwX9_isPlace, mvX9_isPlace, Or.inl (w_gd 927 (by decide +kernel) (by decide +kernel))⟩
theorem kX9_241 : w_cV RX9 241 9 mX9_isTold 2 := ⟨mwX9_isTold, mvX9_isTold, Or.inl (w_gd 939 (by decide +kernel) (by decide +kernel))⟩
theorem kX9_244 : w_cS RX9 244 mX9_written 3 := ⟨mwX9_written, msX9_written, Or.inl (w_gd 943 (by decide +kernel) (by decide +kernel))⟩
theorem nL_7 : Jvm.Cond.classLink RL 7 RX8 ∈ w_good := w_gd 13 (by decide +kernel) (by decide +kernel)
theorem nL_10 : Jvm.Cond.classLink RL 10 RX9 ∈ w_good := w_gd 629 (by decide +kernel) (by decide +kernel)
theorem nX4_36 : Jvm.Cond.classLink RX4 36 RX6 ∈ w_good := w_gd 224 (by decide +kernel) (by decide +kernel)
theorem nX5_9 : Jvm.Cond.classLink RX5 9 RX2 ∈ w_good := w_gd 88 (by decide +kernel) (by decide +kernel)
theorem nX6_9 : Jvm.Cond.classLink RX6 9 RX2 ∈ w_good := w_gd 230 (by decide +kernel) (by decide +kernel)
theorem nX7_9 : Jvm.Cond.classLink RX7 9 RX2 ∈ w_good := w_gd 56 (by decide +kernel) (by decide +kernel)
theorem nX7_22 : Jvm.Cond.classLink RX7 22 RX5 ∈ w_good := w_gd 82 (by decide +kernel) (by decide +kernel)
theorem nX8_7 : Jvm.Cond.classLink RX8 7 RX0 ∈ w_good := w_gd 21 (by decide +kernel) (by decide +kernel)
theorem nX8_16 : Jvm.Cond.classLink RX8 16 RX3 ∈ w_good := w_gd 40 (by decide +kernel) (by decide +kernel)
theorem nX8_25 : Jvm.Cond.classLink RX8 25 RX7 ∈ w_good := w_gd 50 (by decide +kernel) (by decide +kernel)
theorem nX8_34 : Jvm.Cond.classLink RX8 34 RX1 ∈ w_good := w_gd 111 (by decide +kernel) (by decide +kernel)
theorem nX8_41 : Jvm.Cond.classLink RX8 41 RX4 ∈ w_good := w_gd 127 (by decide +kernel) (by decide +kernel)
theorem niX0 : Jvm.Cond.instantiable RX0 3 ∈ w_good := w_gd 22 (by decide +kernel) (by decide +kernel)
theorem nnX0 : Jvm.Cond.initialized RX0 ∈ w_good := w_gd 2 (by decide +kernel) (by decide +kernel)
theorem niX1 : Jvm.Cond.instantiable RX1 3 ∈ w_good := w_gd 112 (by decide +kernel) (by decide +kernel)
theorem nnX1 : Jvm.Cond.initialized RX1 ∈ w_good := w_gd 7 (by decide +kernel) (by decide +kernel)
theorem niX2 : Jvm.Cond.instantiable RX2 3 ∈ w_good := w_gd 57 (by decide +kernel) (by decide +kernel)
theorem nnX2 : Jvm.Cond.initialized RX2 ∈ w_good := w_gd 5 (by decide +kernel) (by decide +kernel)
theorem niX3 : Jvm.Cond.instantiable RX3 1 ∈ w_good := w_gd 41 (by decide +kernel) (by decide +kernel)
theorem nnX3 : Jvm.Cond.initialized RX3 ∈ w_good := w_gd 3 (by decide +kernel) (by decide +kernel)
theorem niX4 : Jvm.Cond.instantiable RX4 13 ∈ w_good := w_gd 219 (by decide +kernel) (by decide +kernel)
theorem nnX4 : Jvm.Cond.initialized RX4 ∈ w_good := w_gd 9 (by decide +kernel) (by decide +kernel)
theorem niX5 : Jvm.Cond.instantiable RX5 3 ∈ w_good := w_gd 83 (by decide +kernel) (by decide +kernel)
theorem nnX5 : Jvm.Cond.initialized RX5 ∈ w_good := w_gd 6 (by decide +kernel) (by decide +kernel)
theorem niX6 : Jvm.Cond.instantiable RX6 7 ∈ w_good := w_gd 225 (by decide +kernel) (by decide +kernel)
theorem nnX6 : Jvm.Cond.initialized RX6 ∈ w_good := w_gd 10 (by decide +kernel) (by decide +kernel)
theorem niX7 : Jvm.Cond.instantiable RX7 3 ∈ w_good := w_gd 51 (by decide +kernel) (by decide +kernel)
theorem nnX7 : Jvm.Cond.initialized RX7 ∈ w_good := w_gd 4 (by decide +kernel) (by decide +kernel)
theorem niX8 : Jvm.Cond.instantiable RX8 6 ∈ w_good := w_gd 14 (by decide +kernel) (by decide +kernel)
theorem nnX8 : Jvm.Cond.initialized RX8 ∈ w_good := w_gd 1 (by decide +kernel) (by decide +kernel)
theorem niX9 : Jvm.Cond.instantiable RX9 34 ∈ w_good := w_gd 630 (by decide +kernel) (by decide +kernel)
theorem nnX9 : Jvm.Cond.initialized RX9 ∈ w_good := w_gd 8 (by decide +kernel) (by decide +kernel)
theorem wobj2 : Jvm.Cond.instanceMethod Lib.objectInit ∈ w_good := w_gd 19 (by decide +kernel) (by decide +kernel)
theorem wobj3 : Jvm.Cond.code Lib.objectInit ⟨#[0xb1]⟩ 1 none ∈ w_good := w_gd 20 (by decide +kernel) (by decide +kernel)
theorem wmax2 : Jvm.Cond.static Lib.Math.max.name ∈ w_good := w_gd 422 (by decide +kernel) (by decide +kernel)
theorem wmax4 : Jvm.Cond.code Lib.Math.max.name Lib.Math.max.code 2 (some .int) ∈ w_good := w_gd 423 (by decide +kernel) (by decide +kernel)
theorem wmin2 : Jvm.Cond.static Lib.Math.min.name ∈ w_good := w_gd 615 (by decide +kernel) (by decide +kernel)
theorem wmin4 : Jvm.Cond.code Lib.Math.min.name Lib.Math.min.code 2 (some .int) ∈ w_good := w_gd 616 (by decide +kernel) (by decide +kernel)
theorem wmath3 : Jvm.Cond.initialized "java/lang/Math" ∈ w_good := w_gd 12 (by decide +kernel) (by decide +kernel)
theorem wcopy2 : Jvm.Cond.native arraycopyName ∈ w_good := w_gd 380 (by decide +kernel) (by decide +kernel)
theorem wcopy3 : Jvm.Cond.static arraycopyName ∈ w_good := w_gd 379 (by decide +kernel) (by decide +kernel)
theorem wcopy4 : Jvm.Cond.initialized "java/lang/System" ∈ w_good := w_gd 11 (by decide +kernel) (by decide +kernel)
theorem warrI : Jvm.Cond.arrayClass .int ∈ w_good := w_gd 38 (by decide +kernel) (by decide +kernel)
theorem warrZ : Jvm.Cond.arrayClass .boolean ∈ w_good := w_gd 39 (by decide +kernel) (by decide +kernel)
theorem kcX7_47 : Jvm.Cond.constant RX7 47 (Int32.ofInt 1000000) ∈ w_good := w_gd 381 (by decide +kernel) (by decide +kernel)
end
section
theorem dX0_init_0 : Dc mX0_init 0 (.aload_n 0) 1 1 := ⟨by decide +kernel, rfl⟩
theorem dX0_init_1 : Dc mX0_init 1 (.invokespecial 3) 3 4 := ⟨by decide +kernel, rfl⟩
theorem dX0_init_4 : Dc mX0_init 4 (.aload_n 0) 1 5 := ⟨by decide +kernel, rfl⟩
theorem dX0_init_5 : Dc mX0_init 5 (.bipush 16) 2 7 := ⟨by decide +kernel, rfl⟩
theorem dX0_init_7 : Dc mX0_init 7 (.newarray .int) 2 9 := ⟨by decide +kernel, rfl⟩
theorem dX0_init_9 : Dc mX0_init 9 (.putfield 9) 3 12 := ⟨by decide +kernel, rfl⟩
theorem dX0_init_12 : Dc mX0_init 12 (.aload_n 0) 1 13 := ⟨by decide +kernel, rfl⟩
theorem dX0_init_13 : Dc mX0_init 13 (.bipush 16) 2 15 := ⟨by decide +kernel, rfl⟩
theorem dX0_init_15 : Dc mX0_init 15 (.newarray .boolean) 2 17 := ⟨by decide +kernel, rfl⟩
theorem dX0_init_17 : Dc mX0_init 17 (.putfield 15) 3 20 := ⟨by decide +kernel, rfl⟩
theorem dX0_init_20 : Dc mX0_init 20 (.aload_n 0) 1 21 := ⟨by decide +kernel, rfl⟩
theorem dX0_init_21 : Dc mX0_init 21 (.getfield 9) 3 24 := ⟨by decide +kernel, rfl⟩
theorem dX0_init_24 : Dc mX0_init 24 (.iconst 0) 1 25 := ⟨by decide +kernel, rfl⟩
theorem dX0_init_25 : Dc mX0_init 25 (.iconst 1) 1 26 := ⟨by decide +kernel, rfl⟩
theorem dX0_init_26 : Dc mX0_init 26 (.iastore) 1 27 := ⟨by decide +kernel, rfl⟩
theorem dX0_init_27 : Dc mX0_init 27 (.aload_n 0) 1 28 := ⟨by decide +kernel, rfl⟩
theorem dX0_init_28 : Dc mX0_init 28 (.getfield 9) 3 31 := ⟨by decide +kernel, rfl⟩
theorem dX0_init_31 : Dc mX0_init 31 (.iconst 1) 1 32 := ⟨by decide +kernel, rfl⟩
theorem dX0_init_32 : Dc mX0_init 32 (.iconst 3) 1 33 := ⟨by decide +kernel, rfl⟩
theorem dX0_init_33 : Dc mX0_init 33 (.iastore) 1 34 := ⟨by decide +kernel, rfl⟩
theorem dX0_init_34 : Dc mX0_init 34 (.aload_n 0) 1 35 := ⟨by decide +kernel, rfl⟩
theorem dX0_init_35 : Dc mX0_init 35 (.iconst 2) 1 36 := ⟨by decide +kernel, rfl⟩
theorem dX0_init_36 : Dc mX0_init 36 (.putfield 19) 3 39 := ⟨by decide +kernel, rfl⟩
theorem dX0_init_39 : Dc mX0_init 39 (.return_) 1 40 := ⟨by decide +kernel, rfl⟩
theorem dX0_has_0 : Dc mX0_has 0 (.iload_n 1) 1 1 := ⟨by decide +kernel, rfl⟩
theorem dX0_has_1 : Dj mX0_has 1 (.ifCond .lt 15) 3 4 (15) 16 := ⟨by decide +kernel, rfl, by decide⟩
theorem dX0_has_4 : Dc mX0_has 4 (.iload_n 1) 1 5 := ⟨by decide +kernel, rfl⟩
theorem dX0_has_5 : Dc mX0_has 5 (.aload_n 0) 1 6 := ⟨by decide +kernel, rfl⟩
theorem dX0_has_6 : Dc mX0_has 6 (.getfield 19) 3 9 := ⟨by decide +kernel, rfl⟩
theorem dX0_has_9 : Dj mX0_has 9 (.if_icmp .ge 7) 3 12 (7) 16 := ⟨by decide +kernel, rfl, by decide⟩
theorem dX0_has_12 : Dc mX0_has 12 (.iconst 1) 1 13 := ⟨by decide +kernel, rfl⟩
theorem dX0_has_13 : Dj mX0_has 13 (.goto 4) 3 16 (4) 17 := ⟨by decide +kernel, rfl, by decide⟩
theorem dX0_has_16 : Dc mX0_has 16 (.iconst 0) 1 17 := ⟨by decide +kernel, rfl⟩
theorem dX0_has_17 : Dc mX0_has 17 (.ireturn) 1 18 := ⟨by decide +kernel, rfl⟩
theorem dX0_isFull_0 : Dc mX0_isFull 0 (.aload_n 0) 1 1 := ⟨by decide +kernel, rfl⟩
theorem dX0_isFull_1 : Dc mX0_isFull 1 (.getfield 19) 3 4 := ⟨by decide +kernel, rfl⟩
theorem dX0_isFull_4 : Dc mX0_isFull 4 (.bipush 16) 2 6 := ⟨by decide +kernel, rfl⟩
theorem dX0_isFull_6 : Dj mX0_isFull 6 (.if_icmp .lt 7) 3 9 (7) 13 := ⟨by decide +kernel, rfl, by decide⟩
theorem dX0_isFull_9 : Dc mX0_isFull 9 (.iconst 1) 1 10 := ⟨by decide +kernel, rfl⟩
theorem dX0_isFull_10 : Dj mX0_isFull 10 (.goto 4) 3 13 (4) 14 := ⟨by decide +kernel, rfl, by decide⟩
theorem dX0_isFull_13 : Dc mX0_isFull 13 (.iconst 0) 1 14 := ⟨by decide +kernel, rfl⟩
theorem dX0_isFull_14 : Dc mX0_isFull 14 (.ireturn) 1 15 := ⟨by decide +kernel, rfl⟩
theorem dX0_isFace_0 : Dc mX0_isFace 0 (.aload_n 0) 1 1 := ⟨by decide +kernel, rfl⟩
theorem dX0_isFace_1 : Dc mX0_isFace 1 (.iload_n 1) 1 2 := ⟨by decide +kernel, rfl⟩
theorem dX0_isFace_2 : Dc mX0_isFace 2 (.invokevirtual 23) 3 5 := ⟨by decide +kernel, rfl⟩
theorem dX0_isFace_5 : Dj mX0_isFace 5 (.ifCond .eq 16) 3 8 (16) 21 := ⟨by decide +kernel, rfl, by decide⟩
theorem dX0_isFace_8 : Dc mX0_isFace 8 (.aload_n 0) 1 9 := ⟨by decide +kernel, rfl⟩
theorem dX0_isFace_9 : Dc mX0_isFace 9 (.getfield 15) 3 12 := ⟨by decide +kernel, rfl⟩
theorem dX0_isFace_12 : Dc mX0_isFace 12 (.iload_n 1) 1 13 := ⟨by decide +kernel, rfl⟩
theorem dX0_isFace_13 : Dc mX0_isFace 13 (.baload) 1 14 := ⟨by decide +kernel, rfl⟩
theorem dX0_isFace_14 : Dj mX0_isFace 14 (.ifCond .eq 7) 3 17 (7) 21 := ⟨by decide +kernel, rfl, by decide⟩
theorem dX0_isFace_17 : Dc mX0_isFace 17 (.iconst 1) 1 18 := ⟨by decide +kernel, rfl⟩
theorem dX0_isFace_18 : Dj mX0_isFace 18 (.goto 4) 3 21 (4) 22 := ⟨by decide +kernel, rfl, by decide⟩
theorem dX0_isFace_21 : Dc mX0_isFace 21 (.iconst 0) 1 22 := ⟨by decide +kernel, rfl⟩
theorem dX0_isFace_22 : Dc mX0_isFace 22 (.ireturn) 1 23 := ⟨by decide +kernel, rfl⟩
theorem dX0_add_0 : Dc mX0_add 0 (.aload_n 0) 1 1 := ⟨by decide +kernel, rfl⟩
theorem dX0_add_1 : Dc mX0_add 1 (.iload_n 1) 1 2 := ⟨by decide +kernel, rfl⟩
theorem dX0_add_2 : Dc mX0_add 2 (.invokevirtual 23) 3 5 := ⟨by decide +kernel, rfl⟩
theorem dX0_add_5 : Dj mX0_add 5 (.ifCond .eq 12) 3 8 (12) 17 := ⟨by decide +kernel, rfl, by decide⟩
theorem dX0_add_8 : Dc mX0_add 8 (.aload_n 0) 1 9 := ⟨by decide +kernel, rfl⟩
theorem dX0_add_9 : Dc mX0_add 9 (.getfield 9) 3 12 := ⟨by decide +kernel, rfl⟩
theorem dX0_add_12 : Dc mX0_add 12 (.iload_n 1) 1 13 := ⟨by decide +kernel, rfl⟩
theorem dX0_add_13 : Dc mX0_add 13 (.iaload) 1 14 := ⟨by decide +kernel, rfl⟩
theorem dX0_add_14 : Dj mX0_add 14 (.goto 4) 3 17 (4) 18 := ⟨by decide +kernel, rfl, by decide⟩
theorem dX0_add_17 : Dc mX0_add 17 (.iconst 1) 1 18 := ⟨by decide +kernel, rfl⟩
theorem dX0_add_18 : Dc mX0_add 18 (.istore_n 2) 1 19 := ⟨by decide +kernel, rfl⟩
theorem dX0_add_19 : Dc mX0_add 19 (.aload_n 0) 1 20 := ⟨by decide +kernel, rfl⟩
theorem dX0_add_20 : Dc mX0_add 20 (.getfield 9) 3 23 := ⟨by decide +kernel, rfl⟩
theorem dX0_add_23 : Dc mX0_add 23 (.aload_n 0) 1 24 := ⟨by decide +kernel, rfl⟩
theorem dX0_add_24 : Dc mX0_add 24 (.getfield 19) 3 27 := ⟨by decide +kernel, rfl⟩
theorem dX0_add_27 : Dc mX0_add 27 (.iconst 1) 1 28 := ⟨by decide +kernel, rfl⟩
theorem dX0_add_28 : Dc mX0_add 28 (.aload_n 0) 1 29 := ⟨by decide +kernel, rfl⟩
theorem dX0_add_29 : Dc mX0_add 29 (.getfield 19) 3 32 := ⟨by decide +kernel, rfl⟩
theorem dX0_add_32 : Dc mX0_add 32 (.ishl) 1 33 := ⟨by decide +kernel, rfl⟩
theorem dX0_add_33 : Dc mX0_add 33 (.iload_n 2) 1 34 := ⟨by decide +kernel, rfl⟩
theorem dX0_add_34 : Dc mX0_add 34 (.ior) 1 35 := ⟨by decide +kernel, rfl⟩
theorem dX0_add_35 : Dc mX0_add 35 (.iastore) 1 36 := ⟨by decide +kernel, rfl⟩
theorem dX0_add_36 : Dc mX0_add 36 (.aload_n 0) 1 37 := ⟨by decide +kernel, rfl⟩
theorem dX0_add_37 : Dc mX0_add 37 (.getfield 15) 3 40 := ⟨by decide +kernel, rfl⟩
theorem dX0_add_40 : Dc mX0_add 40 (.aload_n 0) 1 41 := ⟨by decide +kernel, rfl⟩
theorem dX0_add_41 : Dc mX0_add 41 (.getfield 19) 3 44 := ⟨by decide +kernel, rfl⟩
theorem dX0_add_44 : Dc mX0_add 44 (.iload_n 1) 1 45 := ⟨by decide +kernel, rfl⟩
theorem dX0_add_45 : Dc mX0_add 45 (.iconst (-1)) 1 46 := ⟨by decide +kernel, rfl⟩
theorem dX0_add_46 : Dj mX0_add 46 (.if_icmp .ne 7) 3 49 (7) 53 := ⟨by decide +kernel, rfl, by decide⟩
theorem dX0_add_49 : Dc mX0_add 49 (.iconst 1) 1 50 := ⟨by decide +kernel, rfl⟩
theorem dX0_add_50 : Dj mX0_add 50 (.goto 4) 3 53 (4) 54 := ⟨by decide +kernel, rfl, by decide⟩
theorem dX0_add_53 : Dc mX0_add 53 (.iconst 0) 1 54 := ⟨by decide +kernel, rfl⟩
theorem dX0_add_54 : Dc mX0_add 54 (.bastore) 1 55 := ⟨by decide +kernel, rfl⟩
theorem dX0_add_55 : Dc mX0_add 55 (.aload_n 0) 1 56 := ⟨by decide +kernel, rfl⟩
theorem dX0_add_56 : Dc mX0_add 56 (.dup) 1 57 := ⟨by decide +kernel, rfl⟩
theorem dX0_add_57 : Dc mX0_add 57 (.getfield 19) 3 60 := ⟨by decide +kernel, rfl⟩
theorem dX0_add_60 : Dc mX0_add 60 (.iconst 1) 1 61 := ⟨by decide +kernel, rfl⟩
theorem dX0_add_61 : Dc mX0_add 61 (.iadd) 1 62 := ⟨by decide +kernel, rfl⟩
theorem dX0_add_62 : Dc mX0_add 62 (.putfield 19) 3 65 := ⟨by decide +kernel, rfl⟩
theorem dX0_add_65 : Dc mX0_add 65 (.aload_n 0) 1 66 := ⟨by decide +kernel, rfl⟩
theorem dX0_add_66 : Dc mX0_add 66 (.getfield 19) 3 69 := ⟨by decide +kernel, rfl⟩
theorem dX0_add_69 : Dc mX0_add 69 (.iconst 1) 1 70 := ⟨by decide +kernel, rfl⟩
theorem dX0_add_70 : Dc mX0_add 70 (.isub) 1 71 := ⟨by decide +kernel, rfl⟩
theorem dX0_add_71 : Dc mX0_add 71 (.ireturn) 1 72 := ⟨by decide +kernel, rfl⟩
theorem dX0_suits_0 : Dc mX0_suits 0 (.iload_n 1) 1 1 := ⟨by decide +kernel, rfl⟩
theorem dX0_suits_1 : Dj mX0_suits 1 (.ifCond .lt 23) 3 4 (23) 24 := ⟨by decide +kernel, rfl, by decide⟩
theorem dX0_suits_4 : Dc mX0_suits 4 (.iload_n 1) 1 5 := ⟨by decide +kernel, rfl⟩
theorem dX0_suits_5 : Dc mX0_suits 5 (.aload_n 0) 1 6 := ⟨by decide +kernel, rfl⟩
theorem dX0_suits_6 : Dc mX0_suits 6 (.getfield 19) 3 9 := ⟨by decide +kernel, rfl⟩
theorem dX0_suits_9 : Dj mX0_suits 9 (.if_icmp .ge 15) 3 12 (15) 24 := ⟨by decide +kernel, rfl, by decide⟩
theorem dX0_suits_12 : Dc mX0_suits 12 (.iload_n 2) 1 13 := ⟨by decide +kernel, rfl⟩
theorem dX0_suits_13 : Dj mX0_suits 13 (.ifCond .lt 11) 3 16 (11) 24 := ⟨by decide +kernel, rfl, by decide⟩
theorem dX0_suits_16 : Dc mX0_suits 16 (.iload_n 2) 1 17 := ⟨by decide +kernel, rfl⟩
theorem dX0_suits_17 : Dc mX0_suits 17 (.aload_n 0) 1 18 := ⟨by decide +kernel, rfl⟩
theorem dX0_suits_18 : Dc mX0_suits 18 (.getfield 19) 3 21 := ⟨by decide +kernel, rfl⟩
theorem dX0_suits_21 : Dj mX0_suits 21 (.if_icmp .lt 5) 3 24 (5) 26 := ⟨by decide +kernel, rfl, by decide⟩
theorem dX0_suits_24 : Dc mX0_suits 24 (.iconst 0) 1 25 := ⟨by decide +kernel, rfl⟩
theorem dX0_suits_25 : Dc mX0_suits 25 (.ireturn) 1 26 := ⟨by decide +kernel, rfl⟩
theorem dX0_suits_26 : Dc mX0_suits 26 (.aload_n 0) 1 27 := ⟨by decide +kernel, rfl⟩
theorem dX0_suits_27 : Dc mX0_suits 27 (.getfield 15) 3 30 := ⟨by decide +kernel, rfl⟩
theorem dX0_suits_30 : Dc mX0_suits 30 (.iload_n 2) 1 31 := ⟨by decide +kernel, rfl⟩
theorem dX0_suits_31 : Dc mX0_suits 31 (.baload) 1 32 := ⟨by decide +kernel, rfl⟩
theorem dX0_suits_32 : Dj mX0_suits 32 (.ifCond .ne 17) 3 35 (17) 49 := ⟨by decide +kernel, rfl, by decide⟩
theorem dX0_suits_35 : Dc mX0_suits 35 (.aload_n 0) 1 36 := ⟨by decide +kernel, rfl⟩
theorem dX0_suits_36 : Dc mX0_suits 36 (.getfield 9) 3 39 := ⟨by decide +kernel, rfl⟩
theorem dX0_suits_39 : Dc mX0_suits 39 (.iload_n 1) 1 40 := ⟨by decide +kernel, rfl⟩
theorem dX0_suits_40 : Dc mX0_suits 40 (.iaload) 1 41 := ⟨by decide +kernel, rfl⟩
theorem dX0_suits_41 : Dc mX0_suits 41 (.iload_n 2) 1 42 := ⟨by decide +kernel, rfl⟩
theorem dX0_suits_42 : Dc mX0_suits 42 (.ishr) 1 43 := ⟨by decide +kernel, rfl⟩
theorem dX0_suits_43 : Dc mX0_suits 43 (.iconst 1) 1 44 := ⟨by decide +kernel, rfl⟩
theorem dX0_suits_44 : Dc mX0_suits 44 (.iand) 1 45 := ⟨by decide +kernel, rfl⟩
theorem dX0_suits_45 : Dc mX0_suits 45 (.iconst 1) 1 46 := ⟨by decide +kernel, rfl⟩
theorem dX0_suits_46 : Dj mX0_suits 46 (.if_icmp .ne 7) 3 49 (7) 53 := ⟨by decide +kernel, rfl, by decide⟩
theorem dX0_suits_49 : Dc mX0_suits 49 (.iconst 1) 1 50 := ⟨by decide +kernel, rfl⟩
theorem dX0_suits_50 : Dj mX0_suits 50 (.goto 4) 3 53 (4) 54 := ⟨by decide +kernel, rfl, by decide⟩
theorem dX0_suits_53 : Dc mX0_suits 53 (.iconst 0) 1 54 := ⟨by decide +kernel, rfl⟩
theorem dX0_suits_54 : Dc mX0_suits 54 (.ireturn) 1 55 := ⟨by decide +kernel, rfl⟩
theorem dX0_nearest_0 : Dc mX0_nearest 0 (.iload_n 1) 1 1 := ⟨by decide +kernel, rfl⟩
theorem dX0_nearest_1 : Dj mX0_nearest 1 (.ifCond .lt 23) 3 4 (23) 24 := ⟨by decide +kernel, rfl, by decide⟩
theorem dX0_nearest_4 : Dc mX0_nearest 4 (.iload_n 1) 1 5 := ⟨by decide +kernel, rfl⟩
theorem dX0_nearest_5 : Dc mX0_nearest 5 (.aload_n 0) 1 6 := ⟨by decide +kernel, rfl⟩
theorem dX0_nearest_6 : Dc mX0_nearest 6 (.getfield 19) 3 9 := ⟨by decide +kernel, rfl⟩
theorem dX0_nearest_9 : Dj mX0_nearest 9 (.if_icmp .ge 15) 3 12 (15) 24 := ⟨by decide +kernel, rfl, by decide⟩
theorem dX0_nearest_12 : Dc mX0_nearest 12 (.iload_n 2) 1 13 := ⟨by decide +kernel, rfl⟩
theorem dX0_nearest_13 : Dj mX0_nearest 13 (.ifCond .lt 11) 3 16 (11) 24 := ⟨by decide +kernel, rfl, by decide⟩
theorem dX0_nearest_16 : Dc mX0_nearest 16 (.iload_n 2) 1 17 := ⟨by decide +kernel, rfl⟩
theorem dX0_nearest_17 : Dc mX0_nearest 17 (.aload_n 0) 1 18 := ⟨by decide +kernel, rfl⟩
theorem dX0_nearest_18 : Dc mX0_nearest 18 (.getfield 19) 3 21 := ⟨by decide +kernel, rfl⟩
theorem dX0_nearest_21 : Dj mX0_nearest 21 (.if_icmp .lt 5) 3 24 (5) 26 := ⟨by decide +kernel, rfl, by decide⟩
theorem dX0_nearest_24 : Dc mX0_nearest 24 (.iconst 0) 1 25 := ⟨by decide +kernel, rfl⟩
theorem dX0_nearest_25 : Dc mX0_nearest 25 (.ireturn) 1 26 := ⟨by decide +kernel, rfl⟩
theorem dX0_nearest_26 : Dc mX0_nearest 26 (.aload_n 0) 1 27 := ⟨by decide +kernel, rfl⟩
theorem dX0_nearest_27 : Dc mX0_nearest 27 (.getfield 9) 3 30 := ⟨by decide +kernel, rfl⟩
theorem dX0_nearest_30 : Dc mX0_nearest 30 (.iload_n 1) 1 31 := ⟨by decide +kernel, rfl⟩
theorem dX0_nearest_31 : Dc mX0_nearest 31 (.iaload) 1 32 := ⟨by decide +kernel, rfl⟩
theorem dX0_nearest_32 : Dc mX0_nearest 32 (.aload_n 0) 1 33 := ⟨by decide +kernel, rfl⟩
theorem dX0_nearest_33 : Dc mX0_nearest 33 (.getfield 9) 3 36 := ⟨by decide +kernel, rfl⟩
theorem dX0_nearest_36 : Dc mX0_nearest 36 (.iload_n 2) 1 37 := ⟨by decide +kernel, rfl⟩
theorem dX0_nearest_37 : Dc mX0_nearest 37 (.iaload) 1 38 := ⟨by decide +kernel, rfl⟩
theorem dX0_nearest_38 : Dc mX0_nearest 38 (.iand) 1 39 := ⟨by decide +kernel, rfl⟩
theorem dX0_nearest_39 : Dc mX0_nearest 39 (.istore_n 3) 1 40 := ⟨by decide +kernel, rfl⟩
theorem dX0_nearest_40 : Dc mX0_nearest 40 (.aload_n 0) 1 41 := ⟨by decide +kernel, rfl⟩
theorem dX0_nearest_41 : Dc mX0_nearest 41 (.getfield 19) 3 44 := ⟨by decide +kernel, rfl⟩
theorem dX0_nearest_44 : Dc mX0_nearest 44 (.iconst 1) 1 45 := ⟨by decide +kernel, rfl⟩
theorem dX0_nearest_45 : Dc mX0_nearest 45 (.isub) 1 46 := ⟨by decide +kernel, rfl⟩
theorem dX0_nearest_46 : Dc mX0_nearest 46 (.istore 4) 2 48 := ⟨by decide +kernel, rfl⟩
theorem dX0_nearest_48 : Dc mX0_nearest 48 (.iload 4) 2 50 := ⟨by decide +kernel, rfl⟩
theorem dX0_nearest_50 : Dj mX0_nearest 50 (.ifCond .le 22) 3 53 (22) 72 := ⟨by decide +kernel, rfl, by decide⟩
theorem dX0_nearest_53 : Dc mX0_nearest 53 (.iload_n 3) 1 54 := ⟨by decide +kernel, rfl⟩
theorem dX0_nearest_54 : Dc mX0_nearest 54 (.iload 4) 2 56 := ⟨by decide +kernel, rfl⟩
theorem dX0_nearest_56 : Dc mX0_nearest 56 (.ishr) 1 57 := ⟨by decide +kernel, rfl⟩
theorem dX0_nearest_57 : Dc mX0_nearest 57 (.iconst 1) 1 58 := ⟨by decide +kernel, rfl⟩
theorem dX0_nearest_58 : Dc mX0_nearest 58 (.iand) 1 59 := ⟨by decide +kernel, rfl⟩
theorem dX0_nearest_59 : Dc mX0_nearest 59 (.iconst 1) 1 60 := ⟨by decide +kernel, rfl⟩
theorem dX0_nearest_60 : Dj mX0_nearest 60 (.if_icmp .ne 6) 3 63 (6) 66 := ⟨by decide +kernel, rfl, by decide⟩
theorem dX0_nearest_63 : Dc mX0_nearest 63 (.iload 4) 2 65 := ⟨by decide +kernel, rfl⟩
theorem dX0_nearest_65 : Dc mX0_nearest 65 (.ireturn) 1 66 := ⟨by decide +kernel, rfl⟩
theorem dX0_nearest_66 : Dc mX0_nearest 66 (.iinc 4 (-1)) 3 69 := ⟨by decide +kernel, rfl⟩
theorem dX0_nearest_69 : Dj mX0_nearest 69 (.goto (-21)) 3 72 (-21) 48 := ⟨by decide +kernel, rfl, by decide⟩
theorem dX0_nearest_72 : Dc mX0_nearest 72 (.iconst 0) 1 73 := ⟨by decide +kernel, rfl⟩
theorem dX0_nearest_73 : Dc mX0_nearest 73 (.ireturn) 1 74 := ⟨by decide +kernel, rfl⟩
theorem dX1_init_0 : Dc mX1_init 0 (.aload_n 0) 1 1 := ⟨by decide +kernel, rfl⟩
theorem dX1_init_1 : Dc mX1_init 1 (.invokespecial 3) 3 4 := ⟨by decide +kernel, rfl⟩
theorem dX1_init_4 : Dc mX1_init 4 (.aload_n 0) 1 5 := ⟨by decide +kernel, rfl⟩
theorem dX1_init_5 : Dc mX1_init 5 (.bipush 40) 2 7 := ⟨by decide +kernel, rfl⟩
theorem dX1_init_7 : Dc mX1_init 7 (.newarray .boolean) 2 9 := ⟨by decide +kernel, rfl⟩
theorem dX1_init_9 : Dc mX1_init 9 (.putfield 9) 3 12 := ⟨by decide +kernel, rfl⟩
theorem dX1_init_12 : Dc mX1_init 12 (.aload_n 0) 1 13 := ⟨by decide +kernel, rfl⟩
theorem dX1_init_13 : Dc mX1_init 13 (.bipush 8) 2 15 := ⟨by decide +kernel, rfl⟩
theorem dX1_init_15 : Dc mX1_init 15 (.newarray .int) 2 17 := ⟨by decide +kernel, rfl⟩
theorem dX1_init_17 : Dc mX1_init 17 (.putfield 15) 3 20 := ⟨by decide +kernel, rfl⟩
theorem dX1_init_20 : Dc mX1_init 20 (.aload_n 0) 1 21 := ⟨by decide +kernel, rfl⟩
theorem dX1_init_21 : Dc mX1_init 21 (.bipush 8) 2 23 := ⟨by decide +kernel, rfl⟩
theorem dX1_init_23 : Dc mX1_init 23 (.newarray .int) 2 25 := ⟨by decide +kernel, rfl⟩
theorem dX1_init_25 : Dc mX1_init 25 (.putfield 19) 3 28 := ⟨by decide +kernel, rfl⟩
theorem dX1_init_28 : Dc mX1_init 28 (.return_) 1 29 := ⟨by decide +kernel, rfl⟩
theorem dX1_formAt_0 : Dc mX1_formAt 0 (.aload_n 0) 1 1 := ⟨by decide +kernel, rfl⟩
theorem dX1_formAt_1 : Dc mX1_formAt 1 (.aload_n 1) 1 2 := ⟨by decide +kernel, rfl⟩
theorem dX1_formAt_2 : Dc mX1_formAt 2 (.invokevirtual 22) 3 5 := ⟨by decide +kernel, rfl⟩
theorem dX1_formAt_5 : Dc mX1_formAt 5 (.aload_n 0) 1 6 := ⟨by decide +kernel, rfl⟩
theorem dX1_formAt_6 : Dc mX1_formAt 6 (.getfield 9) 3 9 := ⟨by decide +kernel, rfl⟩
theorem dX1_formAt_9 : Dc mX1_formAt 9 (.iload_n 2) 1 10 := ⟨by decide +kernel, rfl⟩
theorem dX1_formAt_10 : Dc mX1_formAt 10 (.baload) 1 11 := ⟨by decide +kernel, rfl⟩
theorem dX1_formAt_11 : Dj mX1_formAt 11 (.ifCond .ne 5) 3 14 (5) 16 := ⟨by decide +kernel, rfl, by decide⟩
theorem dX1_formAt_14 : Dc mX1_formAt 14 (.iconst (-1)) 1 15 := ⟨by decide +kernel, rfl⟩
theorem dX1_formAt_15 : Dc mX1_formAt 15 (.ireturn) 1 16 := ⟨by decide +kernel, rfl⟩
theorem dX1_formAt_16 : Dc mX1_formAt 16 (.aload_n 1) 1 17 := ⟨by decide +kernel, rfl⟩
theorem dX1_formAt_17 : Dc mX1_formAt 17 (.getfield 26) 3 20 := ⟨by decide +kernel, rfl⟩
theorem dX1_formAt_20 : Dc mX1_formAt 20 (.getfield 32) 3 23 := ⟨by decide +kernel, rfl⟩
theorem dX1_formAt_23 : Dc mX1_formAt 23 (.iload_n 2) 1 24 := ⟨by decide +kernel, rfl⟩
theorem dX1_formAt_24 : Dc mX1_formAt 24 (.aaload) 1 25 := ⟨by decide +kernel, rfl⟩
theorem dX1_formAt_25 : Dc mX1_formAt 25 (.astore_n 3) 1 26 := ⟨by decide +kernel, rfl⟩
theorem dX1_formAt_26 : Dc mX1_formAt 26 (.aload_n 0) 1 27 := ⟨by decide +kernel, rfl⟩
theorem dX1_formAt_27 : Dc mX1_formAt 27 (.iload_n 2) 1 28 := ⟨by decide +kernel, rfl⟩
theorem dX1_formAt_28 : Dc mX1_formAt 28 (.invokevirtual 38) 3 31 := ⟨by decide +kernel, rfl⟩
theorem dX1_formAt_31 : Dc mX1_formAt 31 (.istore 4) 2 33 := ⟨by decide +kernel, rfl⟩
theorem dX1_formAt_33 : Dc mX1_formAt 33 (.iload 4) 2 35 := ⟨by decide +kernel, rfl⟩
theorem dX1_formAt_35 : Dc mX1_formAt 35 (.iconst (-1)) 1 36 := ⟨by decide +kernel, rfl⟩
theorem dX1_formAt_36 : Dj mX1_formAt 36 (.if_icmp .ne 10) 3 39 (10) 46 := ⟨by decide +kernel, rfl, by decide⟩
theorem dX1_formAt_39 : Dc mX1_formAt 39 (.aload_n 1) 1 40 := ⟨by decide +kernel, rfl⟩
theorem dX1_formAt_40 : Dc mX1_formAt 40 (.getfield 42) 3 43 := ⟨by decide +kernel, rfl⟩
theorem dX1_formAt_43 : Dj mX1_formAt 43 (.goto 16) 3 46 (16) 59 := ⟨by decide +kernel, rfl, by decide⟩
theorem dX1_formAt_46 : Dc mX1_formAt 46 (.aload_n 1) 1 47 := ⟨by decide +kernel, rfl⟩
theorem dX1_formAt_47 : Dc mX1_formAt 47 (.getfield 26) 3 50 := ⟨by decide +kernel, rfl⟩
theorem dX1_formAt_50 : Dc mX1_formAt 50 (.getfield 32) 3 53 := ⟨by decide +kernel, rfl⟩
theorem dX1_formAt_53 : Dc mX1_formAt 53 (.iload 4) 2 55 := ⟨by decide +kernel, rfl⟩
theorem dX1_formAt_55 : Dc mX1_formAt 55 (.aaload) 1 56 := ⟨by decide +kernel, rfl⟩
theorem dX1_formAt_56 : Dc mX1_formAt 56 (.getfield 45) 3 59 := ⟨by decide +kernel, rfl⟩
theorem dX1_formAt_59 : Dc mX1_formAt 59 (.astore 5) 2 61 := ⟨by decide +kernel, rfl⟩
theorem dX1_formAt_61 : Dc mX1_formAt 61 (.aload 5) 2 63 := ⟨by decide +kernel, rfl⟩
theorem dX1_formAt_63 : Dc mX1_formAt 63 (.aload_n 0) 1 64 := ⟨by decide +kernel, rfl⟩
theorem dX1_formAt_64 : Dc mX1_formAt 64 (.getfield 15) 3 67 := ⟨by decide +kernel, rfl⟩
theorem dX1_formAt_67 : Dc mX1_formAt 67 (.invokestatic 50) 3 70 := ⟨by decide +kernel, rfl⟩
theorem dX1_formAt_70 : Dc mX1_formAt 70 (.istore 6) 2 72 := ⟨by decide +kernel, rfl⟩
theorem dX1_formAt_72 : Dc mX1_formAt 72 (.aload_n 3) 1 73 := ⟨by decide +kernel, rfl⟩
theorem dX1_formAt_73 : Dc mX1_formAt 73 (.getfield 45) 3 76 := ⟨by decide +kernel, rfl⟩
theorem dX1_formAt_76 : Dc mX1_formAt 76 (.aload_n 0) 1 77 := ⟨by decide +kernel, rfl⟩
theorem dX1_formAt_77 : Dc mX1_formAt 77 (.getfield 19) 3 80 := ⟨by decide +kernel, rfl⟩
theorem dX1_formAt_80 : Dc mX1_formAt 80 (.invokestatic 50) 3 83 := ⟨by decide +kernel, rfl⟩
theorem dX1_formAt_83 : Dc mX1_formAt 83 (.istore 7) 2 85 := ⟨by decide +kernel, rfl⟩
theorem dX1_formAt_85 : Dc mX1_formAt 85 (.aload_n 0) 1 86 := ⟨by decide +kernel, rfl⟩
theorem dX1_formAt_86 : Dc mX1_formAt 86 (.iload 6) 2 88 := ⟨by decide +kernel, rfl⟩
theorem dX1_formAt_88 : Dc mX1_formAt 88 (.iload 7) 2 90 := ⟨by decide +kernel, rfl⟩
theorem dX1_formAt_90 : Dc mX1_formAt 90 (.invokestatic 54) 3 93 := ⟨by decide +kernel, rfl⟩
theorem dX1_formAt_93 : Dc mX1_formAt 93 (.invokevirtual 60) 3 96 := ⟨by decide +kernel, rfl⟩
theorem dX1_formAt_96 : Dj mX1_formAt 96 (.ifCond .ne 6) 3 99 (6) 102 := ⟨by decide +kernel, rfl, by decide⟩
theorem dX1_formAt_99 : Dc mX1_formAt 99 (.bipush 8) 2 101 := ⟨by decide +kernel, rfl⟩
theorem dX1_formAt_101 : Dc mX1_formAt 101 (.ireturn) 1 102 := ⟨by decide +kernel, rfl⟩
theorem dX1_formAt_102 : Dc mX1_formAt 102 (.aload_n 3) 1 103 := ⟨by decide +kernel, rfl⟩
theorem dX1_formAt_103 : Dc mX1_formAt 103 (.iload 7) 2 105 := ⟨by decide +kernel, rfl⟩
theorem dX1_formAt_105 : Dc mX1_formAt 105 (.iload 6) 2 107 := ⟨by decide +kernel, rfl⟩
theorem dX1_formAt_107 : Dc mX1_formAt 107 (.isub) 1 108 := ⟨by decide +kernel, rfl⟩
theorem dX1_formAt_108 : Dc mX1_formAt 108 (.invokestatic 64) 3 111 := ⟨by decide +kernel, rfl⟩
theorem dX1_formAt_111 : Dc mX1_formAt 111 (.ireturn) 1 112 := ⟨by decide +kernel, rfl⟩
theorem dX1_markTold_0 : Dc mX1_markTold 0 (.iconst 0) 1 1 := ⟨by decide +kernel, rfl⟩
theorem dX1_markTold_1 : Dc mX1_markTold 1 (.istore_n 2) 1 2 := ⟨by decide +kernel, rfl⟩
theorem dX1_markTold_2 : Dc mX1_markTold 2 (.iload_n 2) 1 3 := ⟨by decide +kernel, rfl⟩
theorem dX1_markTold_3 : Dc mX1_markTold 3 (.bipush 40) 2 5 := ⟨by decide +kernel, rfl⟩
theorem dX1_markTold_5 : Dj mX1_markTold 5 (.if_icmp .ge 16) 3 8 (16) 21 := ⟨by decide +kernel, rfl, by decide⟩
theorem dX1_markTold_8 : Dc mX1_markTold 8 (.aload_n 0) 1 9 := ⟨by decide +kernel, rfl⟩
theorem dX1_markTold_9 : Dc mX1_markTold 9 (.getfield 9) 3 12 := ⟨by decide +kernel, rfl⟩
theorem dX1_markTold_12 : Dc mX1_markTold 12 (.iload_n 2) 1 13 := ⟨by decide +kernel, rfl⟩
theorem dX1_markTold_13 : Dc mX1_markTold 13 (.iconst 0) 1 14 := ⟨by decide +kernel, rfl⟩
theorem dX1_markTold_14 : Dc mX1_markTold 14 (.bastore) 1 15 := ⟨by decide +kernel, rfl⟩
theorem dX1_markTold_15 : Dc mX1_markTold 15 (.iinc 2 1) 3 18 := ⟨by decide +kernel, rfl⟩
theorem dX1_markTold_18 : Dj mX1_markTold 18 (.goto (-16)) 3 21 (-16) 2 := ⟨by decide +kernel, rfl, by decide⟩
theorem dX1_markTold_21 : Dc mX1_markTold 21 (.iconst 0) 1 22 := ⟨by decide +kernel, rfl⟩
theorem dX1_markTold_22 : Dc mX1_markTold 22 (.istore_n 2) 1 23 := ⟨by decide +kernel, rfl⟩
theorem dX1_markTold_23 : Dc mX1_markTold 23 (.iload_n 2) 1 24 := ⟨by decide +kernel, rfl⟩
theorem dX1_markTold_24 : Dc mX1_markTold 24 (.aload_n 1) 1 25 := ⟨by decide +kernel, rfl⟩
theorem dX1_markTold_25 : Dc mX1_markTold 25 (.getfield 68) 3 28 := ⟨by decide +kernel, rfl⟩
theorem dX1_markTold_28 : Dj mX1_markTold 28 (.if_icmp .ge 80) 3 31 (80) 108 := ⟨by decide +kernel, rfl, by decide⟩
theorem dX1_markTold_31 : Dc mX1_markTold 31 (.aload_n 1) 1 32 := ⟨by decide +kernel, rfl⟩
theorem dX1_markTold_32 : Dc mX1_markTold 32 (.getfield 26) 3 35 := ⟨by decide +kernel, rfl⟩
theorem dX1_markTold_35 : Dc mX1_markTold 35 (.getfield 32) 3 38 := ⟨by decide +kernel, rfl⟩
theorem dX1_markTold_38 : Dc mX1_markTold 38 (.iload_n 2) 1 39 := ⟨by decide +kernel, rfl⟩
theorem dX1_markTold_39 : Dc mX1_markTold 39 (.aaload) 1 40 := ⟨by decide +kernel, rfl⟩
theorem dX1_markTold_40 : Dc mX1_markTold 40 (.invokevirtual 72) 3 43 := ⟨by decide +kernel, rfl⟩
theorem dX1_markTold_43 : Dj mX1_markTold 43 (.ifCond .ne 6) 3 46 (6) 49 := ⟨by decide +kernel, rfl, by decide⟩
theorem dX1_markTold_46 : Dj mX1_markTold 46 (.goto 56) 3 49 (56) 102 := ⟨by decide +kernel, rfl, by decide⟩
theorem dX1_markTold_49 : Dc mX1_markTold 49 (.aload_n 1) 1 50 := ⟨by decide +kernel, rfl⟩
theorem dX1_markTold_50 : Dc mX1_markTold 50 (.iload_n 2) 1 51 := ⟨by decide +kernel, rfl⟩
theorem dX1_markTold_51 : Dc mX1_markTold 51 (.invokevirtual 76) 3 54 := ⟨by decide +kernel, rfl⟩
theorem dX1_markTold_54 : Dj mX1_markTold 54 (.ifCond .eq 13) 3 57 (13) 67 := ⟨by decide +kernel, rfl, by decide⟩
theorem dX1_markTold_57 : Dc mX1_markTold 57 (.aload_n 0) 1 58 := ⟨by decide +kernel, rfl⟩
theorem dX1_markTold_58 : Dc mX1_markTold 58 (.aload_n 1) 1 59 := ⟨by decide +kernel, rfl⟩
theorem dX1_markTold_59 : Dc mX1_markTold 59 (.getfield 79) 3 62 := ⟨by decide +kernel, rfl⟩
theorem dX1_markTold_62 : Dc mX1_markTold 62 (.iload_n 2) 1 63 := ⟨by decide +kernel, rfl⟩
theorem dX1_markTold_63 : Dc mX1_markTold 63 (.iaload) 1 64 := ⟨by decide +kernel, rfl⟩
theorem dX1_markTold_64 : Dc mX1_markTold 64 (.invokevirtual 82) 3 67 := ⟨by decide +kernel, rfl⟩
theorem dX1_markTold_67 : Dc mX1_markTold 67 (.iconst 0) 1 68 := ⟨by decide +kernel, rfl⟩
theorem dX1_markTold_68 : Dc mX1_markTold 68 (.istore_n 3) 1 69 := ⟨by decide +kernel, rfl⟩
theorem dX1_markTold_69 : Dc mX1_markTold 69 (.iload_n 3) 1 70 := ⟨by decide +kernel, rfl⟩
theorem dX1_markTold_70 : Dc mX1_markTold 70 (.aload_n 1) 1 71 := ⟨by decide +kernel, rfl⟩
theorem dX1_markTold_71 : Dc mX1_markTold 71 (.getfield 86) 3 74 := ⟨by decide +kernel, rfl⟩
theorem dX1_markTold_74 : Dj mX1_markTold 74 (.if_icmp .ge 28) 3 77 (28) 102 := ⟨by decide +kernel, rfl, by decide⟩
theorem dX1_markTold_77 : Dc mX1_markTold 77 (.aload_n 1) 1 78 := ⟨by decide +kernel, rfl⟩
theorem dX1_markTold_78 : Dc mX1_markTold 78 (.iload_n 2) 1 79 := ⟨by decide +kernel, rfl⟩
theorem dX1_markTold_79 : Dc mX1_markTold 79 (.iload_n 3) 1 80 := ⟨by decide +kernel, rfl⟩
theorem dX1_markTold_80 : Dc mX1_markTold 80 (.invokevirtual 89) 3 83 := ⟨by decide +kernel, rfl⟩
theorem dX1_markTold_83 : Dj mX1_markTold 83 (.ifCond .eq 13) 3 86 (13) 96 := ⟨by decide +kernel, rfl, by decide⟩
theorem dX1_markTold_86 : Dc mX1_markTold 86 (.aload_n 0) 1 87 := ⟨by decide +kernel, rfl⟩
theorem dX1_markTold_87 : Dc mX1_markTold 87 (.aload_n 1) 1 88 := ⟨by decide +kernel, rfl⟩
theorem dX1_markTold_88 : Dc mX1_markTold 88 (.getfield 93) 3 91 := ⟨by decide +kernel, rfl⟩
theorem dX1_markTold_91 : Dc mX1_markTold 91 (.iload_n 3) 1 92 := ⟨by decide +kernel, rfl⟩
theorem dX1_markTold_92 : Dc mX1_markTold 92 (.iaload) 1 93 := ⟨by decide +kernel, rfl⟩
theorem dX1_markTold_93 : Dc mX1_markTold 93 (.invokevirtual 82) 3 96 := ⟨by decide +kernel, rfl⟩
theorem dX1_markTold_96 : Dc mX1_markTold 96 (.iinc 3 1) 3 99 := ⟨by decide +kernel, rfl⟩
theorem dX1_markTold_99 : Dj mX1_markTold 99 (.goto (-30)) 3 102 (-30) 69 := ⟨by decide +kernel, rfl, by decide⟩
theorem dX1_markTold_102 : Dc mX1_markTold 102 (.iinc 2 1) 3 105 := ⟨by decide +kernel, rfl⟩
theorem dX1_markTold_105 : Dj mX1_markTold 105 (.goto (-82)) 3 108 (-82) 23 := ⟨by decide +kernel, rfl, by decide⟩
theorem dX1_markTold_108 : Dc mX1_markTold 108 (.return_) 1 109 := ⟨by decide +kernel, rfl⟩
theorem dX1_mark_0 : Dc mX1_mark 0 (.iload_n 1) 1 1 := ⟨by decide +kernel, rfl⟩
theorem dX1_mark_1 : Dj mX1_mark 1 (.ifCond .lt 16) 3 4 (16) 17 := ⟨by decide +kernel, rfl, by decide⟩
theorem dX1_mark_4 : Dc mX1_mark 4 (.iload_n 1) 1 5 := ⟨by decide +kernel, rfl⟩
theorem dX1_mark_5 : Dc mX1_mark 5 (.bipush 40) 2 7 := ⟨by decide +kernel, rfl⟩
theorem dX1_mark_7 : Dj mX1_mark 7 (.if_icmp .ge 10) 3 10 (10) 17 := ⟨by decide +kernel, rfl, by decide⟩
theorem dX1_mark_10 : Dc mX1_mark 10 (.aload_n 0) 1 11 := ⟨by decide +kernel, rfl⟩
theorem dX1_mark_11 : Dc mX1_mark 11 (.getfield 9) 3 14 := ⟨by decide +kernel, rfl⟩
theorem dX1_mark_14 : Dc mX1_mark 14 (.iload_n 1) 1 15 := ⟨by decide +kernel, rfl⟩
theorem dX1_mark_15 : Dc mX1_mark 15 (.iconst 1) 1 16 := ⟨by decide +kernel, rfl⟩
theorem dX1_mark_16 : Dc mX1_mark 16 (.bastore) 1 17 := ⟨by decide +kernel, rfl⟩
theorem dX1_mark_17 : Dc mX1_mark 17 (.return_) 1 18 := ⟨by decide +kernel, rfl⟩
theorem dX1_toldBefore_0 : Dc mX1_toldBefore 0 (.iload_n 1) 1 1 := ⟨by decide +kernel, rfl⟩
theorem dX1_toldBefore_1 : Dc mX1_toldBefore 1 (.iconst 1) 1 2 := ⟨by decide +kernel, rfl⟩
theorem dX1_toldBefore_2 : Dc mX1_toldBefore 2 (.isub) 1 3 := ⟨by decide +kernel, rfl⟩
theorem dX1_toldBefore_3 : Dc mX1_toldBefore 3 (.istore_n 2) 1 4 := ⟨by decide +kernel, rfl⟩
theorem dX1_toldBefore_4 : Dc mX1_toldBefore 4 (.iload_n 2) 1 5 := ⟨by decide +kernel, rfl⟩
theorem dX1_toldBefore_5 : Dj mX1_toldBefore 5 (.ifCond .lt 20) 3 8 (20) 25 := ⟨by decide +kernel, rfl, by decide⟩
theorem dX1_toldBefore_8 : Dc mX1_toldBefore 8 (.aload_n 0) 1 9 := ⟨by decide +kernel, rfl⟩
theorem dX1_toldBefore_9 : Dc mX1_toldBefore 9 (.getfield 9) 3 12 := ⟨by decide +kernel, rfl⟩
theorem dX1_toldBefore_12 : Dc mX1_toldBefore 12 (.iload_n 2) 1 13 := ⟨by decide +kernel, rfl⟩
theorem dX1_toldBefore_13 : Dc mX1_toldBefore 13 (.baload) 1 14 := ⟨by decide +kernel, rfl⟩
theorem dX1_toldBefore_14 : Dj mX1_toldBefore 14 (.ifCond .eq 5) 3 17 (5) 19 := ⟨by decide +kernel, rfl, by decide⟩
theorem dX1_toldBefore_17 : Dc mX1_toldBefore 17 (.iload_n 2) 1 18 := ⟨by decide +kernel, rfl⟩
theorem dX1_toldBefore_18 : Dc mX1_toldBefore 18 (.ireturn) 1 19 := ⟨by decide +kernel, rfl⟩
theorem dX1_toldBefore_19 : Dc mX1_toldBefore 19 (.iinc 2 (-1)) 3 22 := ⟨by decide +kernel, rfl⟩
theorem dX1_toldBefore_22 : Dj mX1_toldBefore 22 (.goto (-18)) 3 25 (-18) 4 := ⟨by decide +kernel, rfl, by decide⟩
theorem dX1_toldBefore_25 : Dc mX1_toldBefore 25 (.iconst (-1)) 1 26 := ⟨by decide +kernel, rfl⟩
theorem dX1_toldBefore_26 : Dc mX1_toldBefore 26 (.ireturn) 1 27 := ⟨by decide +kernel, rfl⟩
theorem dX1_writeRow_0 : Dc mX1_writeRow 0 (.iconst 0) 1 1 := ⟨by decide +kernel, rfl⟩
theorem dX1_writeRow_1 : Dc mX1_writeRow 1 (.istore_n 2) 1 2 := ⟨by decide +kernel, rfl⟩
theorem dX1_writeRow_2 : Dc mX1_writeRow 2 (.iconst 0) 1 3 := ⟨by decide +kernel, rfl⟩
theorem dX1_writeRow_3 : Dc mX1_writeRow 3 (.istore_n 3) 1 4 := ⟨by decide +kernel, rfl⟩
theorem dX1_writeRow_4 : Dc mX1_writeRow 4 (.iconst 0) 1 5 := ⟨by decide +kernel, rfl⟩
theorem dX1_writeRow_5 : Dc mX1_writeRow 5 (.istore 4) 2 7 := ⟨by decide +kernel, rfl⟩
theorem dX1_writeRow_7 : Dc mX1_writeRow 7 (.iload 4) 2 9 := ⟨by decide +kernel, rfl⟩
theorem dX1_writeRow_9 : Dc mX1_writeRow 9 (.bipush 8) 2 11 := ⟨by decide +kernel, rfl⟩
theorem dX1_writeRow_11 : Dj mX1_writeRow 11 (.if_icmp .ge 39) 3 14 (39) 50 := ⟨by decide +kernel, rfl, by decide⟩
theorem dX1_writeRow_14 : Dc mX1_writeRow 14 (.aload_n 0) 1 15 := ⟨by decide +kernel, rfl⟩
theorem dX1_writeRow_15 : Dc mX1_writeRow 15 (.iload 4) 2 17 := ⟨by decide +kernel, rfl⟩
theorem dX1_writeRow_17 : Dc mX1_writeRow 17 (.iaload) 1 18 := ⟨by decide +kernel, rfl⟩
theorem dX1_writeRow_18 : Dc mX1_writeRow 18 (.iconst 3) 1 19 := ⟨by decide +kernel, rfl⟩
theorem dX1_writeRow_19 : Dj mX1_writeRow 19 (.if_icmp .ne 6) 3 22 (6) 25 := ⟨by decide +kernel, rfl, by decide⟩
theorem dX1_writeRow_22 : Dj mX1_writeRow 22 (.goto 22) 3 25 (22) 44 := ⟨by decide +kernel, rfl, by decide⟩
theorem dX1_writeRow_25 : Dc mX1_writeRow 25 (.aload_n 1) 1 26 := ⟨by decide +kernel, rfl⟩
theorem dX1_writeRow_26 : Dc mX1_writeRow 26 (.iload_n 2) 1 27 := ⟨by decide +kernel, rfl⟩
theorem dX1_writeRow_27 : Dc mX1_writeRow 27 (.aload_n 0) 1 28 := ⟨by decide +kernel, rfl⟩
theorem dX1_writeRow_28 : Dc mX1_writeRow 28 (.iload 4) 2 30 := ⟨by decide +kernel, rfl⟩
theorem dX1_writeRow_30 : Dc mX1_writeRow 30 (.iaload) 1 31 := ⟨by decide +kernel, rfl⟩
theorem dX1_writeRow_31 : Dc mX1_writeRow 31 (.iastore) 1 32 := ⟨by decide +kernel, rfl⟩
theorem dX1_writeRow_32 : Dc mX1_writeRow 32 (.iinc 2 1) 3 35 := ⟨by decide +kernel, rfl⟩
theorem dX1_writeRow_35 : Dc mX1_writeRow 35 (.aload_n 0) 1 36 := ⟨by decide +kernel, rfl⟩
theorem dX1_writeRow_36 : Dc mX1_writeRow 36 (.iload 4) 2 38 := ⟨by decide +kernel, rfl⟩
theorem dX1_writeRow_38 : Dc mX1_writeRow 38 (.iaload) 1 39 := ⟨by decide +kernel, rfl⟩
theorem dX1_writeRow_39 : Dj mX1_writeRow 39 (.ifCond .eq 5) 3 42 (5) 44 := ⟨by decide +kernel, rfl, by decide⟩
theorem dX1_writeRow_42 : Dc mX1_writeRow 42 (.iload_n 2) 1 43 := ⟨by decide +kernel, rfl⟩
theorem dX1_writeRow_43 : Dc mX1_writeRow 43 (.istore_n 3) 1 44 := ⟨by decide +kernel, rfl⟩
theorem dX1_writeRow_44 : Dc mX1_writeRow 44 (.iinc 4 1) 3 47 := ⟨by decide +kernel, rfl⟩
theorem dX1_writeRow_47 : Dj mX1_writeRow 47 (.goto (-40)) 3 50 (-40) 7 := ⟨by decide +kernel, rfl, by decide⟩
theorem dX1_writeRow_50 : Dc mX1_writeRow 50 (.iload_n 3) 1 51 := ⟨by decide +kernel, rfl⟩
theorem dX1_writeRow_51 : Dc mX1_writeRow 51 (.ireturn) 1 52 := ⟨by decide +kernel, rfl⟩
theorem dX1_isAlike_0 : Dc mX1_isAlike 0 (.iconst 0) 1 1 := ⟨by decide +kernel, rfl⟩
theorem dX1_isAlike_1 : Dc mX1_isAlike 1 (.istore_n 2) 1 2 := ⟨by decide +kernel, rfl⟩
theorem dX1_isAlike_2 : Dc mX1_isAlike 2 (.iload_n 2) 1 3 := ⟨by decide +kernel, rfl⟩
theorem dX1_isAlike_3 : Dc mX1_isAlike 3 (.iload_n 1) 1 4 := ⟨by decide +kernel, rfl⟩
theorem dX1_isAlike_4 : Dj mX1_isAlike 4 (.if_icmp .ge 26) 3 7 (26) 30 := ⟨by decide +kernel, rfl, by decide⟩
theorem dX1_isAlike_7 : Dc mX1_isAlike 7 (.aload_n 0) 1 8 := ⟨by decide +kernel, rfl⟩
theorem dX1_isAlike_8 : Dc mX1_isAlike 8 (.getfield 15) 3 11 := ⟨by decide +kernel, rfl⟩
theorem dX1_isAlike_11 : Dc mX1_isAlike 11 (.iload_n 2) 1 12 := ⟨by decide +kernel, rfl⟩
theorem dX1_isAlike_12 : Dc mX1_isAlike 12 (.iaload) 1 13 := ⟨by decide +kernel, rfl⟩
theorem dX1_isAlike_13 : Dc mX1_isAlike 13 (.aload_n 0) 1 14 := ⟨by decide +kernel, rfl⟩
theorem dX1_isAlike_14 : Dc mX1_isAlike 14 (.getfield 19) 3 17 := ⟨by decide +kernel, rfl⟩
theorem dX1_isAlike_17 : Dc mX1_isAlike 17 (.iload_n 2) 1 18 := ⟨by decide +kernel, rfl⟩
theorem dX1_isAlike_18 : Dc mX1_isAlike 18 (.iaload) 1 19 := ⟨by decide +kernel, rfl⟩
theorem dX1_isAlike_19 : Dj mX1_isAlike 19 (.if_icmp .eq 5) 3 22 (5) 24 := ⟨by decide +kernel, rfl, by decide⟩
theorem dX1_isAlike_22 : Dc mX1_isAlike 22 (.iconst 0) 1 23 := ⟨by decide +kernel, rfl⟩
theorem dX1_isAlike_23 : Dc mX1_isAlike 23 (.ireturn) 1 24 := ⟨by decide +kernel, rfl⟩
theorem dX1_isAlike_24 : Dc mX1_isAlike 24 (.iinc 2 1) 3 27 := ⟨by decide +kernel, rfl⟩
theorem dX1_isAlike_27 : Dj mX1_isAlike 27 (.goto (-25)) 3 30 (-25) 2 := ⟨by decide +kernel, rfl, by decide⟩
theorem dX1_isAlike_30 : Dc mX1_isAlike 30 (.iconst 1) 1 31 := ⟨by decide +kernel, rfl⟩
theorem dX1_isAlike_31 : Dc mX1_isAlike 31 (.ireturn) 1 32 := ⟨by decide +kernel, rfl⟩
theorem dX1_formOf_0 : Dc mX1_formOf 0 (.iload_n 1) 1 1 := ⟨by decide +kernel, rfl⟩
theorem dX1_formOf_1 : Dj mX1_formOf 1 (.ifCond .ne 28) 3 4 (28) 29 := ⟨by decide +kernel, rfl, by decide⟩
theorem dX1_formOf_4 : Dc mX1_formOf 4 (.aload_n 0) 1 5 := ⟨by decide +kernel, rfl⟩
theorem dX1_formOf_5 : Dc mX1_formOf 5 (.getfield 96) 3 8 := ⟨by decide +kernel, rfl⟩
theorem dX1_formOf_8 : Dc mX1_formOf 8 (.iconst 1) 1 9 := ⟨by decide +kernel, rfl⟩
theorem dX1_formOf_9 : Dj mX1_formOf 9 (.if_icmp .eq 18) 3 12 (18) 27 := ⟨by decide +kernel, rfl, by decide⟩
theorem dX1_formOf_12 : Dc mX1_formOf 12 (.aload_n 0) 1 13 := ⟨by decide +kernel, rfl⟩
theorem dX1_formOf_13 : Dc mX1_formOf 13 (.getfield 96) 3 16 := ⟨by decide +kernel, rfl⟩
theorem dX1_formOf_16 : Dc mX1_formOf 16 (.iconst 2) 1 17 := ⟨by decide +kernel, rfl⟩
theorem dX1_formOf_17 : Dj mX1_formOf 17 (.if_icmp .ne 12) 3 20 (12) 29 := ⟨by decide +kernel, rfl, by decide⟩
theorem dX1_formOf_20 : Dc mX1_formOf 20 (.aload_n 0) 1 21 := ⟨by decide +kernel, rfl⟩
theorem dX1_formOf_21 : Dc mX1_formOf 21 (.invokevirtual 99) 3 24 := ⟨by decide +kernel, rfl⟩
theorem dX1_formOf_24 : Dj mX1_formOf 24 (.ifCond .eq 5) 3 27 (5) 29 := ⟨by decide +kernel, rfl, by decide⟩
theorem dX1_formOf_27 : Dc mX1_formOf 27 (.iconst 1) 1 28 := ⟨by decide +kernel, rfl⟩
theorem dX1_formOf_28 : Dc mX1_formOf 28 (.ireturn) 1 29 := ⟨by decide +kernel, rfl⟩
theorem dX1_formOf_29 : Dc mX1_formOf 29 (.aload_n 0) 1 30 := ⟨by decide +kernel, rfl⟩
theorem dX1_formOf_30 : Dc mX1_formOf 30 (.getfield 96) 3 33 := ⟨by decide +kernel, rfl⟩
theorem dX1_formOf_33 : Dj mX1_formOf 33 (.ifCond .ne 14) 3 36 (14) 47 := ⟨by decide +kernel, rfl, by decide⟩
theorem dX1_formOf_36 : Dc mX1_formOf 36 (.iload_n 1) 1 37 := ⟨by decide +kernel, rfl⟩
theorem dX1_formOf_37 : Dc mX1_formOf 37 (.iconst 3) 1 38 := ⟨by decide +kernel, rfl⟩
theorem dX1_formOf_38 : Dj mX1_formOf 38 (.if_icmp .gt 9) 3 41 (9) 47 := ⟨by decide +kernel, rfl, by decide⟩
theorem dX1_formOf_41 : Dc mX1_formOf 41 (.iload_n 1) 1 42 := ⟨by decide +kernel, rfl⟩
theorem dX1_formOf_42 : Dc mX1_formOf 42 (.bipush (-3)) 2 44 := ⟨by decide +kernel, rfl⟩
theorem dX1_formOf_44 : Dj mX1_formOf 44 (.if_icmp .ge 6) 3 47 (6) 50 := ⟨by decide +kernel, rfl, by decide⟩
theorem dX1_formOf_47 : Dc mX1_formOf 47 (.bipush 8) 2 49 := ⟨by decide +kernel, rfl⟩
theorem dX1_formOf_49 : Dc mX1_formOf 49 (.ireturn) 1 50 := ⟨by decide +kernel, rfl⟩
theorem dX1_formOf_50 : Dc mX1_formOf 50 (.iload_n 1) 1 51 := ⟨by decide +kernel, rfl⟩
theorem dX1_formOf_51 : Dj mX1_formOf 51 (.ifCond .ne 5) 3 54 (5) 56 := ⟨by decide +kernel, rfl, by decide⟩
theorem dX1_formOf_54 : Dc mX1_formOf 54 (.iconst 0) 1 55 := ⟨by decide +kernel, rfl⟩
theorem dX1_formOf_55 : Dc mX1_formOf 55 (.ireturn) 1 56 := ⟨by decide +kernel, rfl⟩
theorem dX1_formOf_56 : Dc mX1_formOf 56 (.iload_n 1) 1 57 := ⟨by decide +kernel, rfl⟩
theorem dX1_formOf_57 : Dj mX1_formOf 57 (.ifCond .le 9) 3 60 (9) 66 := ⟨by decide +kernel, rfl, by decide⟩
theorem dX1_formOf_60 : Dc mX1_formOf 60 (.iconst 4) 1 61 := ⟨by decide +kernel, rfl⟩
theorem dX1_formOf_61 : Dc mX1_formOf 61 (.iload_n 1) 1 62 := ⟨by decide +kernel, rfl⟩
theorem dX1_formOf_62 : Dc mX1_formOf 62 (.iadd) 1 63 := ⟨by decide +kernel, rfl⟩
theorem dX1_formOf_63 : Dj mX1_formOf 63 (.goto 6) 3 66 (6) 69 := ⟨by decide +kernel, rfl, by decide⟩
theorem dX1_formOf_66 : Dc mX1_formOf 66 (.iconst 1) 1 67 := ⟨by decide +kernel, rfl⟩
theorem dX1_formOf_67 : Dc mX1_formOf 67 (.iload_n 1) 1 68 := ⟨by decide +kernel, rfl⟩
theorem dX1_formOf_68 : Dc mX1_formOf 68 (.isub) 1 69 := ⟨by decide +kernel, rfl⟩
theorem dX1_formOf_69 : Dc mX1_formOf 69 (.ireturn) 1 70 := ⟨by decide +kernel, rfl⟩
theorem dX2_init_0 : Dc mX2_init 0 (.aload_n 0) 1 1 := ⟨by decide +kernel, rfl⟩
theorem dX2_init_1 : Dc mX2_init 1 (.invokespecial 3) 3 4 := ⟨by decide +kernel, rfl⟩
theorem dX2_init_4 : Dc mX2_init 4 (.aload_n 0) 1 5 := ⟨by decide +kernel, rfl⟩
theorem dX2_init_5 : Dc mX2_init 5 (.bipush 8) 2 7 := ⟨by decide +kernel, rfl⟩
theorem dX2_init_7 : Dc mX2_init 7 (.newarray .int) 2 9 := ⟨by decide +kernel, rfl⟩
theorem dX2_init_9 : Dc mX2_init 9 (.putfield 9) 3 12 := ⟨by decide +kernel, rfl⟩
theorem dX2_init_12 : Dc mX2_init 12 (.aload_n 0) 1 13 := ⟨by decide +kernel, rfl⟩
theorem dX2_init_13 : Dc mX2_init 13 (.bipush 8) 2 15 := ⟨by decide +kernel, rfl⟩
theorem dX2_init_15 : Dc mX2_init 15 (.newarray .int) 2 17 := ⟨by decide +kernel, rfl⟩
theorem dX2_init_17 : Dc mX2_init 17 (.putfield 15) 3 20 := ⟨by decide +kernel, rfl⟩
theorem dX2_init_20 : Dc mX2_init 20 (.aload_n 0) 1 21 := ⟨by decide +kernel, rfl⟩
theorem dX2_init_21 : Dc mX2_init 21 (.iconst (-1)) 1 22 := ⟨by decide +kernel, rfl⟩
theorem dX2_init_22 : Dc mX2_init 22 (.putfield 18) 3 25 := ⟨by decide +kernel, rfl⟩
theorem dX2_init_25 : Dc mX2_init 25 (.return_) 1 26 := ⟨by decide +kernel, rfl⟩
theorem dX2_isThere_0 : Dc mX2_isThere 0 (.aload_n 0) 1 1 := ⟨by decide +kernel, rfl⟩
theorem dX2_isThere_1 : Dc mX2_isThere 1 (.getfield 18) 3 4 := ⟨by decide +kernel, rfl⟩
theorem dX2_isThere_4 : Dj mX2_isThere 4 (.ifCond .lt 7) 3 7 (7) 11 := ⟨by decide +kernel, rfl, by decide⟩
theorem dX2_isThere_7 : Dc mX2_isThere 7 (.iconst 1) 1 8 := ⟨by decide +kernel, rfl⟩
theorem dX2_isThere_8 : Dj mX2_isThere 8 (.goto 4) 3 11 (4) 12 := ⟨by decide +kernel, rfl, by decide⟩
theorem dX2_isThere_11 : Dc mX2_isThere 11 (.iconst 0) 1 12 := ⟨by decide +kernel, rfl⟩
theorem dX2_isThere_12 : Dc mX2_isThere 12 (.ireturn) 1 13 := ⟨by decide +kernel, rfl⟩
theorem dX2_copyFrom_0 : Dc mX2_copyFrom 0 (.aload_n 1) 1 1 := ⟨by decide +kernel, rfl⟩
theorem dX2_copyFrom_1 : Dc mX2_copyFrom 1 (.getfield 9) 3 4 := ⟨by decide +kernel, rfl⟩
theorem dX2_copyFrom_4 : Dc mX2_copyFrom 4 (.iconst 0) 1 5 := ⟨by decide +kernel, rfl⟩
theorem dX2_copyFrom_5 : Dc mX2_copyFrom 5 (.aload_n 0) 1 6 := ⟨by decide +kernel, rfl⟩
theorem dX2_copyFrom_6 : Dc mX2_copyFrom 6 (.getfield 9) 3 9 := ⟨by decide +kernel, rfl⟩
theorem dX2_copyFrom_9 : Dc mX2_copyFrom 9 (.iconst 0) 1 10 := ⟨by decide +kernel, rfl⟩
theorem dX2_copyFrom_10 : Dc mX2_copyFrom 10 (.bipush 8) 2 12 := ⟨by decide +kernel, rfl⟩
theorem dX2_copyFrom_12 : Dc mX2_copyFrom 12 (.invokestatic 22) 3 15 := ⟨by decide +kernel, rfl⟩
theorem dX2_copyFrom_15 : Dc mX2_copyFrom 15 (.aload_n 1) 1 16 := ⟨by decide +kernel, rfl⟩
theorem dX2_copyFrom_16 : Dc mX2_copyFrom 16 (.getfield 15) 3 19 := ⟨by decide +kernel, rfl⟩
theorem dX2_copyFrom_19 : Dc mX2_copyFrom 19 (.iconst 0) 1 20 := ⟨by decide +kernel, rfl⟩
theorem dX2_copyFrom_20 : Dc mX2_copyFrom 20 (.aload_n 0) 1 21 := ⟨by decide +kernel, rfl⟩
theorem dX2_copyFrom_21 : Dc mX2_copyFrom 21 (.getfield 15) 3 24 := ⟨by decide +kernel, rfl⟩
theorem dX2_copyFrom_24 : Dc mX2_copyFrom 24 (.iconst 0) 1 25 := ⟨by decide +kernel, rfl⟩
theorem dX2_copyFrom_25 : Dc mX2_copyFrom 25 (.bipush 8) 2 27 := ⟨by decide +kernel, rfl⟩
theorem dX2_copyFrom_27 : Dc mX2_copyFrom 27 (.invokestatic 22) 3 30 := ⟨by decide +kernel, rfl⟩
theorem dX2_copyFrom_30 : Dc mX2_copyFrom 30 (.aload_n 0) 1 31 := ⟨by decide +kernel, rfl⟩
theorem dX2_copyFrom_31 : Dc mX2_copyFrom 31 (.aload_n 1) 1 32 := ⟨by decide +kernel, rfl⟩
theorem dX2_copyFrom_32 : Dc mX2_copyFrom 32 (.getfield 18) 3 35 := ⟨by decide +kernel, rfl⟩
theorem dX2_copyFrom_35 : Dc mX2_copyFrom 35 (.putfield 18) 3 38 := ⟨by decide +kernel, rfl⟩
theorem dX2_copyFrom_38 : Dc mX2_copyFrom 38 (.return_) 1 39 := ⟨by decide +kernel, rfl⟩
theorem dX2_startWith_0 : Dc mX2_startWith 0 (.aload_n 1) 1 1 := ⟨by decide +kernel, rfl⟩
theorem dX2_startWith_1 : Dc mX2_startWith 1 (.iconst 0) 1 2 := ⟨by decide +kernel, rfl⟩
theorem dX2_startWith_2 : Dc mX2_startWith 2 (.aload_n 0) 1 3 := ⟨by decide +kernel, rfl⟩
theorem dX2_startWith_3 : Dc mX2_startWith 3 (.getfield 9) 3 6 := ⟨by decide +kernel, rfl⟩
theorem dX2_startWith_6 : Dc mX2_startWith 6 (.iconst 0) 1 7 := ⟨by decide +kernel, rfl⟩
theorem dX2_startWith_7 : Dc mX2_startWith 7 (.bipush 8) 2 9 := ⟨by decide +kernel, rfl⟩
theorem dX2_startWith_9 : Dc mX2_startWith 9 (.invokestatic 22) 3 12 := ⟨by decide +kernel, rfl⟩
theorem dX2_startWith_12 : Dc mX2_startWith 12 (.aload_n 0) 1 13 := ⟨by decide +kernel, rfl⟩
theorem dX2_startWith_13 : Dc mX2_startWith 13 (.iconst 0) 1 14 := ⟨by decide +kernel, rfl⟩
theorem dX2_startWith_14 : Dc mX2_startWith 14 (.putfield 18) 3 17 := ⟨by decide +kernel, rfl⟩
theorem dX2_startWith_17 : Dc mX2_startWith 17 (.return_) 1 18 := ⟨by decide +kernel, rfl⟩
theorem dX2_becomeRaised_0 : Dc mX2_becomeRaised 0 (.iconst 0) 1 1 := ⟨by decide +kernel, rfl⟩
theorem dX2_becomeRaised_1 : Dc mX2_becomeRaised 1 (.istore_n 3) 1 2 := ⟨by decide +kernel, rfl⟩
theorem dX2_becomeRaised_2 : Dc mX2_becomeRaised 2 (.iload_n 3) 1 3 := ⟨by decide +kernel, rfl⟩
theorem dX2_becomeRaised_3 : Dc mX2_becomeRaised 3 (.bipush 8) 2 5 := ⟨by decide +kernel, rfl⟩
theorem dX2_becomeRaised_5 : Dj mX2_becomeRaised 5 (.if_icmp .ge 37) 3 8 (37) 42 := ⟨by decide +kernel, rfl, by decide⟩
theorem dX2_becomeRaised_8 : Dc mX2_becomeRaised 8 (.aload_n 0) 1 9 := ⟨by decide +kernel, rfl⟩
theorem dX2_becomeRaised_9 : Dc mX2_becomeRaised 9 (.getfield 9) 3 12 := ⟨by decide +kernel, rfl⟩
theorem dX2_becomeRaised_12 : Dc mX2_becomeRaised 12 (.iload_n 3) 1 13 := ⟨by decide +kernel, rfl⟩
theorem dX2_becomeRaised_13 : Dc mX2_becomeRaised 13 (.aload_n 1) 1 14 := ⟨by decide +kernel, rfl⟩
theorem dX2_becomeRaised_14 : Dc mX2_becomeRaised 14 (.getfield 9) 3 17 := ⟨by decide +kernel, rfl⟩
theorem dX2_becomeRaised_17 : Dc mX2_becomeRaised 17 (.iload_n 3) 1 18 := ⟨by decide +kernel, rfl⟩
theorem dX2_becomeRaised_18 : Dc mX2_becomeRaised 18 (.iaload) 1 19 := ⟨by decide +kernel, rfl⟩
theorem dX2_becomeRaised_19 : Dc mX2_becomeRaised 19 (.invokestatic 28) 3 22 := ⟨by decide +kernel, rfl⟩
theorem dX2_becomeRaised_22 : Dj mX2_becomeRaised 22 (.ifCond .eq 7) 3 25 (7) 29 := ⟨by decide +kernel, rfl, by decide⟩
theorem dX2_becomeRaised_25 : Dc mX2_becomeRaised 25 (.iconst 0) 1 26 := ⟨by decide +kernel, rfl⟩
theorem dX2_becomeRaised_26 : Dj mX2_becomeRaised 26 (.goto 9) 3 29 (9) 35 := ⟨by decide +kernel, rfl, by decide⟩
theorem dX2_becomeRaised_29 : Dc mX2_becomeRaised 29 (.aload_n 1) 1 30 := ⟨by decide +kernel, rfl⟩
theorem dX2_becomeRaised_30 : Dc mX2_becomeRaised 30 (.getfield 9) 3 33 := ⟨by decide +kernel, rfl⟩
theorem dX2_becomeRaised_33 : Dc mX2_becomeRaised 33 (.iload_n 3) 1 34 := ⟨by decide +kernel, rfl⟩
theorem dX2_becomeRaised_34 : Dc mX2_becomeRaised 34 (.iaload) 1 35 := ⟨by decide +kernel, rfl⟩
theorem dX2_becomeRaised_35 : Dc mX2_becomeRaised 35 (.iastore) 1 36 := ⟨by decide +kernel, rfl⟩
theorem dX2_becomeRaised_36 : Dc mX2_becomeRaised 36 (.iinc 3 1) 3 39 := ⟨by decide +kernel, rfl⟩
theorem dX2_becomeRaised_39 : Dj mX2_becomeRaised 39 (.goto (-37)) 3 42 (-37) 2 := ⟨by decide +kernel, rfl, by decide⟩
theorem dX2_becomeRaised_42 : Dc mX2_becomeRaised 42 (.aload_n 0) 1 43 := ⟨by decide +kernel, rfl⟩
theorem dX2_becomeRaised_43 : Dc mX2_becomeRaised 43 (.getfield 15) 3 46 := ⟨by decide +kernel, rfl⟩
theorem dX2_becomeRaised_46 : Dc mX2_becomeRaised 46 (.iconst 0) 1 47 := ⟨by decide +kernel, rfl⟩
theorem dX2_becomeRaised_47 : Dc mX2_becomeRaised 47 (.iload_n 2) 1 48 := ⟨by decide +kernel, rfl⟩
theorem dX2_becomeRaised_48 : Dc mX2_becomeRaised 48 (.iastore) 1 49 := ⟨by decide +kernel, rfl⟩
theorem dX2_becomeRaised_49 : Dc mX2_becomeRaised 49 (.aload_n 0) 1 50 := ⟨by decide +kernel, rfl⟩
theorem dX2_becomeRaised_50 : Dc mX2_becomeRaised 50 (.iconst 1) 1 51 := ⟨by decide +kernel, rfl⟩
theorem dX2_becomeRaised_51 : Dc mX2_becomeRaised 51 (.putfield 18) 3 54 := ⟨by decide +kernel, rfl⟩
theorem dX2_becomeRaised_54 : Dc mX2_becomeRaised 54 (.return_) 1 55 := ⟨by decide +kernel, rfl⟩
theorem dX2_slot_0 : Dc mX2_slot 0 (.aload_n 0) 1 1 := ⟨by decide +kernel, rfl⟩
theorem dX2_slot_1 : Dc mX2_slot 1 (.invokevirtual 34) 3 4 := ⟨by decide +kernel, rfl⟩
theorem dX2_slot_4 : Dj mX2_slot 4 (.ifCond .eq 18) 3 7 (18) 22 := ⟨by decide +kernel, rfl, by decide⟩
theorem dX2_slot_7 : Dc mX2_slot 7 (.iload_n 1) 1 8 := ⟨by decide +kernel, rfl⟩
theorem dX2_slot_8 : Dj mX2_slot 8 (.ifCond .lt 14) 3 11 (14) 22 := ⟨by decide +kernel, rfl, by decide⟩
theorem dX2_slot_11 : Dc mX2_slot 11 (.iload_n 1) 1 12 := ⟨by decide +kernel, rfl⟩
theorem dX2_slot_12 : Dc mX2_slot 12 (.bipush 8) 2 14 := ⟨by decide +kernel, rfl⟩
theorem dX2_slot_14 : Dc mX2_slot 14 (.aload_n 0) 1 15 := ⟨by decide +kernel, rfl⟩
theorem dX2_slot_15 : Dc mX2_slot 15 (.getfield 18) 3 18 := ⟨by decide +kernel, rfl⟩
theorem dX2_slot_18 : Dc mX2_slot 18 (.iadd) 1 19 := ⟨by decide +kernel, rfl⟩
theorem dX2_slot_19 : Dj mX2_slot 19 (.if_icmp .lt 5) 3 22 (5) 24 := ⟨by decide +kernel, rfl, by decide⟩
theorem dX2_slot_22 : Dc mX2_slot 22 (.iconst (-1)) 1 23 := ⟨by decide +kernel, rfl⟩
theorem dX2_slot_23 : Dc mX2_slot 23 (.ireturn) 1 24 := ⟨by decide +kernel, rfl⟩
theorem dX2_slot_24 : Dc mX2_slot 24 (.iload_n 1) 1 25 := ⟨by decide +kernel, rfl⟩
theorem dX2_slot_25 : Dc mX2_slot 25 (.bipush 8) 2 27 := ⟨by decide +kernel, rfl⟩
theorem dX2_slot_27 : Dj mX2_slot 27 (.if_icmp .ge 12) 3 30 (12) 39 := ⟨by decide +kernel, rfl, by decide⟩
theorem dX2_slot_30 : Dc mX2_slot 30 (.aload_n 0) 1 31 := ⟨by decide +kernel, rfl⟩
theorem dX2_slot_31 : Dc mX2_slot 31 (.getfield 9) 3 34 := ⟨by decide +kernel, rfl⟩
theorem dX2_slot_34 : Dc mX2_slot 34 (.iload_n 1) 1 35 := ⟨by decide +kernel, rfl⟩
theorem dX2_slot_35 : Dc mX2_slot 35 (.iaload) 1 36 := ⟨by decide +kernel, rfl⟩
theorem dX2_slot_36 : Dj mX2_slot 36 (.goto 12) 3 39 (12) 48 := ⟨by decide +kernel, rfl, by decide⟩
theorem dX2_slot_39 : Dc mX2_slot 39 (.aload_n 0) 1 40 := ⟨by decide +kernel, rfl⟩
theorem dX2_slot_40 : Dc mX2_slot 40 (.getfield 15) 3 43 := ⟨by decide +kernel, rfl⟩
theorem dX2_slot_43 : Dc mX2_slot 43 (.iload_n 1) 1 44 := ⟨by decide +kernel, rfl⟩
theorem dX2_slot_44 : Dc mX2_slot 44 (.bipush 8) 2 46 := ⟨by decide +kernel, rfl⟩
theorem dX2_slot_46 : Dc mX2_slot 46 (.isub) 1 47 := ⟨by decide +kernel, rfl⟩
theorem dX2_slot_47 : Dc mX2_slot 47 (.iaload) 1 48 := ⟨by decide +kernel, rfl⟩
theorem dX2_slot_48 : Dc mX2_slot 48 (.ireturn) 1 49 := ⟨by decide +kernel, rfl⟩
theorem dX2_top_0 : Dc mX2_top 0 (.aload_n 0) 1 1 := ⟨by decide +kernel, rfl⟩
theorem dX2_top_1 : Dc mX2_top 1 (.getfield 18) 3 4 := ⟨by decide +kernel, rfl⟩
theorem dX2_top_4 : Dj mX2_top 4 (.ifCond .le 17) 3 7 (17) 21 := ⟨by decide +kernel, rfl, by decide⟩
theorem dX2_top_7 : Dc mX2_top 7 (.aload_n 0) 1 8 := ⟨by decide +kernel, rfl⟩
theorem dX2_top_8 : Dc mX2_top 8 (.getfield 15) 3 11 := ⟨by decide +kernel, rfl⟩
theorem dX2_top_11 : Dc mX2_top 11 (.aload_n 0) 1 12 := ⟨by decide +kernel, rfl⟩
theorem dX2_top_12 : Dc mX2_top 12 (.getfield 18) 3 15 := ⟨by decide +kernel, rfl⟩
theorem dX2_top_15 : Dc mX2_top 15 (.iconst 1) 1 16 := ⟨by decide +kernel, rfl⟩
theorem dX2_top_16 : Dc mX2_top 16 (.isub) 1 17 := ⟨by decide +kernel, rfl⟩
theorem dX2_top_17 : Dc mX2_top 17 (.iaload) 1 18 := ⟨by decide +kernel, rfl⟩
theorem dX2_top_18 : Dj mX2_top 18 (.goto 4) 3 21 (4) 22 := ⟨by decide +kernel, rfl, by decide⟩
theorem dX2_top_21 : Dc mX2_top 21 (.iconst 0) 1 22 := ⟨by decide +kernel, rfl⟩
theorem dX2_top_22 : Dc mX2_top 22 (.ireturn) 1 23 := ⟨by decide +kernel, rfl⟩
theorem dX2_hasLongOnTop_0 : Dc mX2_hasLongOnTop 0 (.aload_n 0) 1 1 := ⟨by decide +kernel, rfl⟩
theorem dX2_hasLongOnTop_1 : Dc mX2_hasLongOnTop 1 (.getfield 18) 3 4 := ⟨by decide +kernel, rfl⟩
theorem dX2_hasLongOnTop_4 : Dc mX2_hasLongOnTop 4 (.iconst 1) 1 5 := ⟨by decide +kernel, rfl⟩
theorem dX2_hasLongOnTop_5 : Dj mX2_hasLongOnTop 5 (.if_icmp .le 37) 3 8 (37) 42 := ⟨by decide +kernel, rfl, by decide⟩
theorem dX2_hasLongOnTop_8 : Dc mX2_hasLongOnTop 8 (.aload_n 0) 1 9 := ⟨by decide +kernel, rfl⟩
theorem dX2_hasLongOnTop_9 : Dc mX2_hasLongOnTop 9 (.getfield 15) 3 12 := ⟨by decide +kernel, rfl⟩
theorem dX2_hasLongOnTop_12 : Dc mX2_hasLongOnTop 12 (.aload_n 0) 1 13 := ⟨by decide +kernel, rfl⟩
theorem dX2_hasLongOnTop_13 : Dc mX2_hasLongOnTop 13 (.getfield 18) 3 16 := ⟨by decide +kernel, rfl⟩
theorem dX2_hasLongOnTop_16 : Dc mX2_hasLongOnTop 16 (.iconst 1) 1 17 := ⟨by decide +kernel, rfl⟩
theorem dX2_hasLongOnTop_17 : Dc mX2_hasLongOnTop 17 (.isub) 1 18 := ⟨by decide +kernel, rfl⟩
theorem dX2_hasLongOnTop_18 : Dc mX2_hasLongOnTop 18 (.iaload) 1 19 := ⟨by decide +kernel, rfl⟩
theorem dX2_hasLongOnTop_19 : Dc mX2_hasLongOnTop 19 (.iconst 3) 1 20 := ⟨by decide +kernel, rfl⟩
theorem dX2_hasLongOnTop_20 : Dj mX2_hasLongOnTop 20 (.if_icmp .ne 22) 3 23 (22) 42 := ⟨by decide +kernel, rfl, by decide⟩
theorem dX2_hasLongOnTop_23 : Dc mX2_hasLongOnTop 23 (.aload_n 0) 1 24 := ⟨by decide +kernel, rfl⟩
theorem dX2_hasLongOnTop_24 : Dc mX2_hasLongOnTop 24 (.getfield 15) 3 27 := ⟨by decide +kernel, rfl⟩
theorem dX2_hasLongOnTop_27 : Dc mX2_hasLongOnTop 27 (.aload_n 0) 1 28 := ⟨by decide +kernel, rfl⟩
theorem dX2_hasLongOnTop_28 : Dc mX2_hasLongOnTop 28 (.getfield 18) 3 31 := ⟨by decide +kernel, rfl⟩
theorem dX2_hasLongOnTop_31 : Dc mX2_hasLongOnTop 31 (.iconst 2) 1 32 := ⟨by decide +kernel, rfl⟩
theorem dX2_hasLongOnTop_32 : Dc mX2_hasLongOnTop 32 (.isub) 1 33 := ⟨by decide +kernel, rfl⟩
theorem dX2_hasLongOnTop_33 : Dc mX2_hasLongOnTop 33 (.iaload) 1 34 := ⟨by decide +kernel, rfl⟩
theorem dX2_hasLongOnTop_34 : Dc mX2_hasLongOnTop 34 (.iconst 2) 1 35 := ⟨by decide +kernel, rfl⟩
theorem dX2_hasLongOnTop_35 : Dj mX2_hasLongOnTop 35 (.if_icmp .ne 7) 3 38 (7) 42 := ⟨by decide +kernel, rfl, by decide⟩
theorem dX2_hasLongOnTop_38 : Dc mX2_hasLongOnTop 38 (.iconst 1) 1 39 := ⟨by decide +kernel, rfl⟩
theorem dX2_hasLongOnTop_39 : Dj mX2_hasLongOnTop 39 (.goto 4) 3 42 (4) 43 := ⟨by decide +kernel, rfl, by decide⟩
theorem dX2_hasLongOnTop_42 : Dc mX2_hasLongOnTop 42 (.iconst 0) 1 43 := ⟨by decide +kernel, rfl⟩
theorem dX2_hasLongOnTop_43 : Dc mX2_hasLongOnTop 43 (.ireturn) 1 44 := ⟨by decide +kernel, rfl⟩
theorem dX2_hasLongAt_0 : Dc mX2_hasLongAt 0 (.iload_n 1) 1 1 := ⟨by decide +kernel, rfl⟩
theorem dX2_hasLongAt_1 : Dj mX2_hasLongAt 1 (.ifCond .lt 37) 3 4 (37) 38 := ⟨by decide +kernel, rfl, by decide⟩
theorem dX2_hasLongAt_4 : Dc mX2_hasLongAt 4 (.iload_n 1) 1 5 := ⟨by decide +kernel, rfl⟩
theorem dX2_hasLongAt_5 : Dc mX2_hasLongAt 5 (.iconst 1) 1 6 := ⟨by decide +kernel, rfl⟩
theorem dX2_hasLongAt_6 : Dc mX2_hasLongAt 6 (.iadd) 1 7 := ⟨by decide +kernel, rfl⟩
theorem dX2_hasLongAt_7 : Dc mX2_hasLongAt 7 (.bipush 8) 2 9 := ⟨by decide +kernel, rfl⟩
theorem dX2_hasLongAt_9 : Dj mX2_hasLongAt 9 (.if_icmp .ge 29) 3 12 (29) 38 := ⟨by decide +kernel, rfl, by decide⟩
theorem dX2_hasLongAt_12 : Dc mX2_hasLongAt 12 (.aload_n 0) 1 13 := ⟨by decide +kernel, rfl⟩
theorem dX2_hasLongAt_13 : Dc mX2_hasLongAt 13 (.getfield 9) 3 16 := ⟨by decide +kernel, rfl⟩
theorem dX2_hasLongAt_16 : Dc mX2_hasLongAt 16 (.iload_n 1) 1 17 := ⟨by decide +kernel, rfl⟩
theorem dX2_hasLongAt_17 : Dc mX2_hasLongAt 17 (.iaload) 1 18 := ⟨by decide +kernel, rfl⟩
theorem dX2_hasLongAt_18 : Dc mX2_hasLongAt 18 (.iconst 2) 1 19 := ⟨by decide +kernel, rfl⟩
theorem dX2_hasLongAt_19 : Dj mX2_hasLongAt 19 (.if_icmp .ne 19) 3 22 (19) 38 := ⟨by decide +kernel, rfl, by decide⟩
theorem dX2_hasLongAt_22 : Dc mX2_hasLongAt 22 (.aload_n 0) 1 23 := ⟨by decide +kernel, rfl⟩
theorem dX2_hasLongAt_23 : Dc mX2_hasLongAt 23 (.getfield 9) 3 26 := ⟨by decide +kernel, rfl⟩
theorem dX2_hasLongAt_26 : Dc mX2_hasLongAt 26 (.iload_n 1) 1 27 := ⟨by decide +kernel, rfl⟩
theorem dX2_hasLongAt_27 : Dc mX2_hasLongAt 27 (.iconst 1) 1 28 := ⟨by decide +kernel, rfl⟩
theorem dX2_hasLongAt_28 : Dc mX2_hasLongAt 28 (.iadd) 1 29 := ⟨by decide +kernel, rfl⟩
theorem dX2_hasLongAt_29 : Dc mX2_hasLongAt 29 (.iaload) 1 30 := ⟨by decide +kernel, rfl⟩
theorem dX2_hasLongAt_30 : Dc mX2_hasLongAt 30 (.iconst 3) 1 31 := ⟨by decide +kernel, rfl⟩
theorem dX2_hasLongAt_31 : Dj mX2_hasLongAt 31 (.if_icmp .ne 7) 3 34 (7) 38 := ⟨by decide +kernel, rfl, by decide⟩
theorem dX2_hasLongAt_34 : Dc mX2_hasLongAt 34 (.iconst 1) 1 35 := ⟨by decide +kernel, rfl⟩
theorem dX2_hasLongAt_35 : Dj mX2_hasLongAt 35 (.goto 4) 3 38 (4) 39 := ⟨by decide +kernel, rfl, by decide⟩
theorem dX2_hasLongAt_38 : Dc mX2_hasLongAt 38 (.iconst 0) 1 39 := ⟨by decide +kernel, rfl⟩
theorem dX2_hasLongAt_39 : Dc mX2_hasLongAt 39 (.ireturn) 1 40 := ⟨by decide +kernel, rfl⟩
theorem dX2_holdsUnmade_0 : Dc mX2_holdsUnmade 0 (.iconst 0) 1 1 := ⟨by decide +kernel, rfl⟩
theorem dX2_holdsUnmade_1 : Dc mX2_holdsUnmade 1 (.istore_n 1) 1 2 := ⟨by decide +kernel, rfl⟩
theorem dX2_holdsUnmade_2 : Dc mX2_holdsUnmade 2 (.iload_n 1) 1 3 := ⟨by decide +kernel, rfl⟩
theorem dX2_holdsUnmade_3 : Dc mX2_holdsUnmade 3 (.bipush 8) 2 5 := ⟨by decide +kernel, rfl⟩
theorem dX2_holdsUnmade_5 : Dj mX2_holdsUnmade 5 (.if_icmp .ge 23) 3 8 (23) 28 := ⟨by decide +kernel, rfl, by decide⟩
theorem dX2_holdsUnmade_8 : Dc mX2_holdsUnmade 8 (.aload_n 0) 1 9 := ⟨by decide +kernel, rfl⟩
theorem dX2_holdsUnmade_9 : Dc mX2_holdsUnmade 9 (.getfield 9) 3 12 := ⟨by decide +kernel, rfl⟩
theorem dX2_holdsUnmade_12 : Dc mX2_holdsUnmade 12 (.iload_n 1) 1 13 := ⟨by decide +kernel, rfl⟩
theorem dX2_holdsUnmade_13 : Dc mX2_holdsUnmade 13 (.iaload) 1 14 := ⟨by decide +kernel, rfl⟩
theorem dX2_holdsUnmade_14 : Dc mX2_holdsUnmade 14 (.invokestatic 28) 3 17 := ⟨by decide +kernel, rfl⟩
theorem dX2_holdsUnmade_17 : Dj mX2_holdsUnmade 17 (.ifCond .eq 5) 3 20 (5) 22 := ⟨by decide +kernel, rfl, by decide⟩
theorem dX2_holdsUnmade_20 : Dc mX2_holdsUnmade 20 (.iconst 1) 1 21 := ⟨by decide +kernel, rfl⟩
theorem dX2_holdsUnmade_21 : Dc mX2_holdsUnmade 21 (.ireturn) 1 22 := ⟨by decide +kernel, rfl⟩
theorem dX2_holdsUnmade_22 : Dc mX2_holdsUnmade 22 (.iinc 1 1) 3 25 := ⟨by decide +kernel, rfl⟩
theorem dX2_holdsUnmade_25 : Dj mX2_holdsUnmade 25 (.goto (-23)) 3 28 (-23) 2 := ⟨by decide +kernel, rfl, by decide⟩
theorem dX2_holdsUnmade_28 : Dc mX2_holdsUnmade 28 (.iconst 0) 1 29 := ⟨by decide +kernel, rfl⟩
theorem dX2_holdsUnmade_29 : Dc mX2_holdsUnmade 29 (.istore_n 1) 1 30 := ⟨by decide +kernel, rfl⟩
theorem dX2_holdsUnmade_30 : Dc mX2_holdsUnmade 30 (.iload_n 1) 1 31 := ⟨by decide +kernel, rfl⟩
theorem dX2_holdsUnmade_31 : Dc mX2_holdsUnmade 31 (.aload_n 0) 1 32 := ⟨by decide +kernel, rfl⟩
theorem dX2_holdsUnmade_32 : Dc mX2_holdsUnmade 32 (.getfield 18) 3 35 := ⟨by decide +kernel, rfl⟩
theorem dX2_holdsUnmade_35 : Dj mX2_holdsUnmade 35 (.if_icmp .ge 23) 3 38 (23) 58 := ⟨by decide +kernel, rfl, by decide⟩
theorem dX2_holdsUnmade_38 : Dc mX2_holdsUnmade 38 (.aload_n 0) 1 39 := ⟨by decide +kernel, rfl⟩
theorem dX2_holdsUnmade_39 : Dc mX2_holdsUnmade 39 (.getfield 15) 3 42 := ⟨by decide +kernel, rfl⟩
theorem dX2_holdsUnmade_42 : Dc mX2_holdsUnmade 42 (.iload_n 1) 1 43 := ⟨by decide +kernel, rfl⟩
theorem dX2_holdsUnmade_43 : Dc mX2_holdsUnmade 43 (.iaload) 1 44 := ⟨by decide +kernel, rfl⟩
theorem dX2_holdsUnmade_44 : Dc mX2_holdsUnmade 44 (.invokestatic 28) 3 47 := ⟨by decide +kernel, rfl⟩
theorem dX2_holdsUnmade_47 : Dj mX2_holdsUnmade 47 (.ifCond .eq 5) 3 50 (5) 52 := ⟨by decide +kernel, rfl, by decide⟩
theorem dX2_holdsUnmade_50 : Dc mX2_holdsUnmade 50 (.iconst 1) 1 51 := ⟨by decide +kernel, rfl⟩
theorem dX2_holdsUnmade_51 : Dc mX2_holdsUnmade 51 (.ireturn) 1 52 := ⟨by decide +kernel, rfl⟩
theorem dX2_holdsUnmade_52 : Dc mX2_holdsUnmade 52 (.iinc 1 1) 3 55 := ⟨by decide +kernel, rfl⟩
theorem dX2_holdsUnmade_55 : Dj mX2_holdsUnmade 55 (.goto (-25)) 3 58 (-25) 30 := ⟨by decide +kernel, rfl, by decide⟩
theorem dX2_holdsUnmade_58 : Dc mX2_holdsUnmade 58 (.iconst 0) 1 59 := ⟨by decide +kernel, rfl⟩
theorem dX2_holdsUnmade_59 : Dc mX2_holdsUnmade 59 (.ireturn) 1 60 := ⟨by decide +kernel, rfl⟩
theorem dX2_replace_0 : Dc mX2_replace 0 (.iconst 0) 1 1 := ⟨by decide +kernel, rfl⟩
theorem dX2_replace_1 : Dc mX2_replace 1 (.istore_n 3) 1 2 := ⟨by decide +kernel, rfl⟩
theorem dX2_replace_2 : Dc mX2_replace 2 (.iload_n 3) 1 3 := ⟨by decide +kernel, rfl⟩
theorem dX2_replace_3 : Dc mX2_replace 3 (.bipush 8) 2 5 := ⟨by decide +kernel, rfl⟩
theorem dX2_replace_5 : Dj mX2_replace 5 (.if_icmp .ge 35) 3 8 (35) 40 := ⟨by decide +kernel, rfl, by decide⟩
theorem dX2_replace_8 : Dc mX2_replace 8 (.aload_n 0) 1 9 := ⟨by decide +kernel, rfl⟩
theorem dX2_replace_9 : Dc mX2_replace 9 (.getfield 9) 3 12 := ⟨by decide +kernel, rfl⟩
theorem dX2_replace_12 : Dc mX2_replace 12 (.iload_n 3) 1 13 := ⟨by decide +kernel, rfl⟩
theorem dX2_replace_13 : Dc mX2_replace 13 (.aload_n 0) 1 14 := ⟨by decide +kernel, rfl⟩
theorem dX2_replace_14 : Dc mX2_replace 14 (.getfield 9) 3 17 := ⟨by decide +kernel, rfl⟩
theorem dX2_replace_17 : Dc mX2_replace 17 (.iload_n 3) 1 18 := ⟨by decide +kernel, rfl⟩
theorem dX2_replace_18 : Dc mX2_replace 18 (.iaload) 1 19 := ⟨by decide +kernel, rfl⟩
theorem dX2_replace_19 : Dc mX2_replace 19 (.iload_n 1) 1 20 := ⟨by decide +kernel, rfl⟩
theorem dX2_replace_20 : Dj mX2_replace 20 (.if_icmp .ne 7) 3 23 (7) 27 := ⟨by decide +kernel, rfl, by decide⟩
theorem dX2_replace_23 : Dc mX2_replace 23 (.iload_n 2) 1 24 := ⟨by decide +kernel, rfl⟩
theorem dX2_replace_24 : Dj mX2_replace 24 (.goto 9) 3 27 (9) 33 := ⟨by decide +kernel, rfl, by decide⟩
theorem dX2_replace_27 : Dc mX2_replace 27 (.aload_n 0) 1 28 := ⟨by decide +kernel, rfl⟩
theorem dX2_replace_28 : Dc mX2_replace 28 (.getfield 9) 3 31 := ⟨by decide +kernel, rfl⟩
theorem dX2_replace_31 : Dc mX2_replace 31 (.iload_n 3) 1 32 := ⟨by decide +kernel, rfl⟩
theorem dX2_replace_32 : Dc mX2_replace 32 (.iaload) 1 33 := ⟨by decide +kernel, rfl⟩
theorem dX2_replace_33 : Dc mX2_replace 33 (.iastore) 1 34 := ⟨by decide +kernel, rfl⟩
theorem dX2_replace_34 : Dc mX2_replace 34 (.iinc 3 1) 3 37 := ⟨by decide +kernel, rfl⟩
theorem dX2_replace_37 : Dj mX2_replace 37 (.goto (-35)) 3 40 (-35) 2 := ⟨by decide +kernel, rfl, by decide⟩
theorem dX2_replace_40 : Dc mX2_replace 40 (.iconst 0) 1 41 := ⟨by decide +kernel, rfl⟩
theorem dX2_replace_41 : Dc mX2_replace 41 (.istore_n 3) 1 42 := ⟨by decide +kernel, rfl⟩
theorem dX2_replace_42 : Dc mX2_replace 42 (.iload_n 3) 1 43 := ⟨by decide +kernel, rfl⟩
theorem dX2_replace_43 : Dc mX2_replace 43 (.aload_n 0) 1 44 := ⟨by decide +kernel, rfl⟩
theorem dX2_replace_44 : Dc mX2_replace 44 (.getfield 18) 3 47 := ⟨by decide +kernel, rfl⟩
theorem dX2_replace_47 : Dj mX2_replace 47 (.if_icmp .ge 35) 3 50 (35) 82 := ⟨by decide +kernel, rfl, by decide⟩
theorem dX2_replace_50 : Dc mX2_replace 50 (.aload_n 0) 1 51 := ⟨by decide +kernel, rfl⟩
theorem dX2_replace_51 : Dc mX2_replace 51 (.getfield 15) 3 54 := ⟨by decide +kernel, rfl⟩
theorem dX2_replace_54 : Dc mX2_replace 54 (.iload_n 3) 1 55 := ⟨by decide +kernel, rfl⟩
theorem dX2_replace_55 : Dc mX2_replace 55 (.aload_n 0) 1 56 := ⟨by decide +kernel, rfl⟩
theorem dX2_replace_56 : Dc mX2_replace 56 (.getfield 15) 3 59 := ⟨by decide +kernel, rfl⟩
theorem dX2_replace_59 : Dc mX2_replace 59 (.iload_n 3) 1 60 := ⟨by decide +kernel, rfl⟩
theorem dX2_replace_60 : Dc mX2_replace 60 (.iaload) 1 61 := ⟨by decide +kernel, rfl⟩
theorem dX2_replace_61 : Dc mX2_replace 61 (.iload_n 1) 1 62 := ⟨by decide +kernel, rfl⟩
theorem dX2_replace_62 : Dj mX2_replace 62 (.if_icmp .ne 7) 3 65 (7) 69 := ⟨by decide +kernel, rfl, by decide⟩
theorem dX2_replace_65 : Dc mX2_replace 65 (.iload_n 2) 1 66 := ⟨by decide +kernel, rfl⟩
theorem dX2_replace_66 : Dj mX2_replace 66 (.goto 9) 3 69 (9) 75 := ⟨by decide +kernel, rfl, by decide⟩
theorem dX2_replace_69 : Dc mX2_replace 69 (.aload_n 0) 1 70 := ⟨by decide +kernel, rfl⟩
theorem dX2_replace_70 : Dc mX2_replace 70 (.getfield 15) 3 73 := ⟨by decide +kernel, rfl⟩
theorem dX2_replace_73 : Dc mX2_replace 73 (.iload_n 3) 1 74 := ⟨by decide +kernel, rfl⟩
theorem dX2_replace_74 : Dc mX2_replace 74 (.iaload) 1 75 := ⟨by decide +kernel, rfl⟩
theorem dX2_replace_75 : Dc mX2_replace 75 (.iastore) 1 76 := ⟨by decide +kernel, rfl⟩
theorem dX2_replace_76 : Dc mX2_replace 76 (.iinc 3 1) 3 79 := ⟨by decide +kernel, rfl⟩
theorem dX2_replace_79 : Dj mX2_replace 79 (.goto (-37)) 3 82 (-37) 42 := ⟨by decide +kernel, rfl, by decide⟩
theorem dX2_replace_82 : Dc mX2_replace 82 (.return_) 1 83 := ⟨by decide +kernel, rfl⟩
theorem dX2_breakLong_0 : Dc mX2_breakLong 0 (.aload_n 0) 1 1 := ⟨by decide +kernel, rfl⟩
theorem dX2_breakLong_1 : Dc mX2_breakLong 1 (.iload_n 1) 1 2 := ⟨by decide +kernel, rfl⟩
theorem dX2_breakLong_2 : Dc mX2_breakLong 2 (.invokevirtual 38) 3 5 := ⟨by decide +kernel, rfl⟩
theorem dX2_breakLong_5 : Dj mX2_breakLong 5 (.ifCond .eq 15) 3 8 (15) 20 := ⟨by decide +kernel, rfl, by decide⟩
theorem dX2_breakLong_8 : Dc mX2_breakLong 8 (.aload_n 0) 1 9 := ⟨by decide +kernel, rfl⟩
theorem dX2_breakLong_9 : Dc mX2_breakLong 9 (.getfield 9) 3 12 := ⟨by decide +kernel, rfl⟩
theorem dX2_breakLong_12 : Dc mX2_breakLong 12 (.iload_n 1) 1 13 := ⟨by decide +kernel, rfl⟩
theorem dX2_breakLong_13 : Dc mX2_breakLong 13 (.iconst 1) 1 14 := ⟨by decide +kernel, rfl⟩
theorem dX2_breakLong_14 : Dc mX2_breakLong 14 (.iadd) 1 15 := ⟨by decide +kernel, rfl⟩
theorem dX2_breakLong_15 : Dc mX2_breakLong 15 (.iconst 0) 1 16 := ⟨by decide +kernel, rfl⟩
theorem dX2_breakLong_16 : Dc mX2_breakLong 16 (.iastore) 1 17 := ⟨by decide +kernel, rfl⟩
theorem dX2_breakLong_17 : Dj mX2_breakLong 17 (.goto 22) 3 20 (22) 39 := ⟨by decide +kernel, rfl, by decide⟩
theorem dX2_breakLong_20 : Dc mX2_breakLong 20 (.aload_n 0) 1 21 := ⟨by decide +kernel, rfl⟩
theorem dX2_breakLong_21 : Dc mX2_breakLong 21 (.iload_n 1) 1 22 := ⟨by decide +kernel, rfl⟩
theorem dX2_breakLong_22 : Dc mX2_breakLong 22 (.iconst 1) 1 23 := ⟨by decide +kernel, rfl⟩
end
section
theorem dX2_breakLong_23 : Dc mX2_breakLong 23 (.isub) 1 24 := ⟨by decide +kernel, rfl⟩
theorem dX2_breakLong_24 : Dc mX2_breakLong 24 (.invokevirtual 38) 3 27 := ⟨by decide +kernel, rfl⟩
theorem dX2_breakLong_27 : Dj mX2_breakLong 27 (.ifCond .eq 12) 3 30 (12) 39 := ⟨by decide +kernel, rfl, by decide⟩
theorem dX2_breakLong_30 : Dc mX2_breakLong 30 (.aload_n 0) 1 31 := ⟨by decide +kernel, rfl⟩
theorem dX2_breakLong_31 : Dc mX2_breakLong 31 (.getfield 9) 3 34 := ⟨by decide +kernel, rfl⟩
theorem dX2_breakLong_34 : Dc mX2_breakLong 34 (.iload_n 1) 1 35 := ⟨by decide +kernel, rfl⟩
theorem dX2_breakLong_35 : Dc mX2_breakLong 35 (.iconst 1) 1 36 := ⟨by decide +kernel, rfl⟩
theorem dX2_breakLong_36 : Dc mX2_breakLong 36 (.isub) 1 37 := ⟨by decide +kernel, rfl⟩
theorem dX2_breakLong_37 : Dc mX2_breakLong 37 (.iconst 0) 1 38 := ⟨by decide +kernel, rfl⟩
theorem dX2_breakLong_38 : Dc mX2_breakLong 38 (.iastore) 1 39 := ⟨by decide +kernel, rfl⟩
theorem dX2_breakLong_39 : Dc mX2_breakLong 39 (.return_) 1 40 := ⟨by decide +kernel, rfl⟩
theorem dX3_init_0 : Dc mX3_init 0 (.aload_n 0) 1 1 := ⟨by decide +kernel, rfl⟩
theorem dX3_init_1 : Dc mX3_init 1 (.invokespecial 3) 3 4 := ⟨by decide +kernel, rfl⟩
theorem dX3_init_4 : Dc mX3_init 4 (.aload_n 0) 1 5 := ⟨by decide +kernel, rfl⟩
theorem dX3_init_5 : Dc mX3_init 5 (.aload_n 1) 1 6 := ⟨by decide +kernel, rfl⟩
theorem dX3_init_6 : Dc mX3_init 6 (.putfield 9) 3 9 := ⟨by decide +kernel, rfl⟩
theorem dX3_init_9 : Dc mX3_init 9 (.return_) 1 10 := ⟨by decide +kernel, rfl⟩
theorem dX3_isThing_0 : Dc mX3_isThing 0 (.iload_n 0) 1 1 := ⟨by decide +kernel, rfl⟩
theorem dX3_isThing_1 : Dc mX3_isThing 1 (.bipush 10) 2 3 := ⟨by decide +kernel, rfl⟩
theorem dX3_isThing_3 : Dj mX3_isThing 3 (.if_icmp .lt 13) 3 6 (13) 16 := ⟨by decide +kernel, rfl, by decide⟩
theorem dX3_isThing_6 : Dc mX3_isThing 6 (.iload_n 0) 1 7 := ⟨by decide +kernel, rfl⟩
theorem dX3_isThing_7 : Dc mX3_isThing 7 (.bipush 40) 2 9 := ⟨by decide +kernel, rfl⟩
theorem dX3_isThing_9 : Dj mX3_isThing 9 (.if_icmp .ge 7) 3 12 (7) 16 := ⟨by decide +kernel, rfl, by decide⟩
theorem dX3_isThing_12 : Dc mX3_isThing 12 (.iconst 1) 1 13 := ⟨by decide +kernel, rfl⟩
theorem dX3_isThing_13 : Dj mX3_isThing 13 (.goto 4) 3 16 (4) 17 := ⟨by decide +kernel, rfl, by decide⟩
theorem dX3_isThing_16 : Dc mX3_isThing 16 (.iconst 0) 1 17 := ⟨by decide +kernel, rfl⟩
theorem dX3_isThing_17 : Dc mX3_isThing 17 (.ireturn) 1 18 := ⟨by decide +kernel, rfl⟩
theorem dX3_isThingRow_0 : Dc mX3_isThingRow 0 (.iload_n 0) 1 1 := ⟨by decide +kernel, rfl⟩
theorem dX3_isThingRow_1 : Dc mX3_isThingRow 1 (.bipush 40) 2 3 := ⟨by decide +kernel, rfl⟩
theorem dX3_isThingRow_3 : Dj mX3_isThingRow 3 (.if_icmp .lt 13) 3 6 (13) 16 := ⟨by decide +kernel, rfl, by decide⟩
theorem dX3_isThingRow_6 : Dc mX3_isThingRow 6 (.iload_n 0) 1 7 := ⟨by decide +kernel, rfl⟩
theorem dX3_isThingRow_7 : Dc mX3_isThingRow 7 (.bipush 100) 2 9 := ⟨by decide +kernel, rfl⟩
theorem dX3_isThingRow_9 : Dj mX3_isThingRow 9 (.if_icmp .ge 7) 3 12 (7) 16 := ⟨by decide +kernel, rfl, by decide⟩
theorem dX3_isThingRow_12 : Dc mX3_isThingRow 12 (.iconst 1) 1 13 := ⟨by decide +kernel, rfl⟩
theorem dX3_isThingRow_13 : Dj mX3_isThingRow 13 (.goto 4) 3 16 (4) 17 := ⟨by decide +kernel, rfl, by decide⟩
theorem dX3_isThingRow_16 : Dc mX3_isThingRow 16 (.iconst 0) 1 17 := ⟨by decide +kernel, rfl⟩
theorem dX3_isThingRow_17 : Dc mX3_isThingRow 17 (.ireturn) 1 18 := ⟨by decide +kernel, rfl⟩
theorem dX3_isUnmade_0 : Dc mX3_isUnmade 0 (.iload_n 0) 1 1 := ⟨by decide +kernel, rfl⟩
theorem dX3_isUnmade_1 : Dc mX3_isUnmade 1 (.bipush 100) 2 3 := ⟨by decide +kernel, rfl⟩
theorem dX3_isUnmade_3 : Dj mX3_isUnmade 3 (.if_icmp .lt 7) 3 6 (7) 10 := ⟨by decide +kernel, rfl, by decide⟩
theorem dX3_isUnmade_6 : Dc mX3_isUnmade 6 (.iconst 1) 1 7 := ⟨by decide +kernel, rfl⟩
theorem dX3_isUnmade_7 : Dj mX3_isUnmade 7 (.goto 4) 3 10 (4) 11 := ⟨by decide +kernel, rfl, by decide⟩
theorem dX3_isUnmade_10 : Dc mX3_isUnmade 10 (.iconst 0) 1 11 := ⟨by decide +kernel, rfl⟩
theorem dX3_isUnmade_11 : Dc mX3_isUnmade 11 (.ireturn) 1 12 := ⟨by decide +kernel, rfl⟩
theorem dX3_isReference_0 : Dc mX3_isReference 0 (.iload_n 0) 1 1 := ⟨by decide +kernel, rfl⟩
theorem dX3_isReference_1 : Dc mX3_isReference 1 (.iconst 4) 1 2 := ⟨by decide +kernel, rfl⟩
theorem dX3_isReference_2 : Dj mX3_isReference 2 (.if_icmp .eq 20) 3 5 (20) 22 := ⟨by decide +kernel, rfl, by decide⟩
theorem dX3_isReference_5 : Dc mX3_isReference 5 (.iload_n 0) 1 6 := ⟨by decide +kernel, rfl⟩
theorem dX3_isReference_6 : Dc mX3_isReference 6 (.iconst 5) 1 7 := ⟨by decide +kernel, rfl⟩
theorem dX3_isReference_7 : Dj mX3_isReference 7 (.if_icmp .eq 15) 3 10 (15) 22 := ⟨by decide +kernel, rfl, by decide⟩
theorem dX3_isReference_10 : Dc mX3_isReference 10 (.iload_n 0) 1 11 := ⟨by decide +kernel, rfl⟩
theorem dX3_isReference_11 : Dc mX3_isReference 11 (.bipush 10) 2 13 := ⟨by decide +kernel, rfl⟩
theorem dX3_isReference_13 : Dj mX3_isReference 13 (.if_icmp .lt 13) 3 16 (13) 26 := ⟨by decide +kernel, rfl, by decide⟩
theorem dX3_isReference_16 : Dc mX3_isReference 16 (.iload_n 0) 1 17 := ⟨by decide +kernel, rfl⟩
theorem dX3_isReference_17 : Dc mX3_isReference 17 (.bipush 100) 2 19 := ⟨by decide +kernel, rfl⟩
theorem dX3_isReference_19 : Dj mX3_isReference 19 (.if_icmp .ge 7) 3 22 (7) 26 := ⟨by decide +kernel, rfl, by decide⟩
theorem dX3_isReference_22 : Dc mX3_isReference 22 (.iconst 1) 1 23 := ⟨by decide +kernel, rfl⟩
theorem dX3_isReference_23 : Dj mX3_isReference 23 (.goto 4) 3 26 (4) 27 := ⟨by decide +kernel, rfl, by decide⟩
theorem dX3_isReference_26 : Dc mX3_isReference 26 (.iconst 0) 1 27 := ⟨by decide +kernel, rfl⟩
theorem dX3_isReference_27 : Dc mX3_isReference 27 (.ireturn) 1 28 := ⟨by decide +kernel, rfl⟩
theorem dX3_isOfClass_0 : Dc mX3_isOfClass 0 (.iload_n 1) 1 1 := ⟨by decide +kernel, rfl⟩
theorem dX3_isOfClass_1 : Dc mX3_isOfClass 1 (.invokestatic 15) 3 4 := ⟨by decide +kernel, rfl⟩
theorem dX3_isOfClass_4 : Dj mX3_isOfClass 4 (.ifCond .eq 17) 3 7 (17) 21 := ⟨by decide +kernel, rfl, by decide⟩
theorem dX3_isOfClass_7 : Dc mX3_isOfClass 7 (.aload_n 0) 1 8 := ⟨by decide +kernel, rfl⟩
theorem dX3_isOfClass_8 : Dc mX3_isOfClass 8 (.getfield 9) 3 11 := ⟨by decide +kernel, rfl⟩
theorem dX3_isOfClass_11 : Dc mX3_isOfClass 11 (.iload_n 1) 1 12 := ⟨by decide +kernel, rfl⟩
theorem dX3_isOfClass_12 : Dc mX3_isOfClass 12 (.bipush 10) 2 14 := ⟨by decide +kernel, rfl⟩
theorem dX3_isOfClass_14 : Dc mX3_isOfClass 14 (.isub) 1 15 := ⟨by decide +kernel, rfl⟩
theorem dX3_isOfClass_15 : Dc mX3_isOfClass 15 (.invokevirtual 19) 3 18 := ⟨by decide +kernel, rfl⟩
theorem dX3_isOfClass_18 : Dj mX3_isOfClass 18 (.ifCond .ne 24) 3 21 (24) 42 := ⟨by decide +kernel, rfl, by decide⟩
theorem dX3_isOfClass_21 : Dc mX3_isOfClass 21 (.iload_n 1) 1 22 := ⟨by decide +kernel, rfl⟩
theorem dX3_isOfClass_22 : Dc mX3_isOfClass 22 (.invokestatic 24) 3 25 := ⟨by decide +kernel, rfl⟩
theorem dX3_isOfClass_25 : Dj mX3_isOfClass 25 (.ifCond .eq 21) 3 28 (21) 46 := ⟨by decide +kernel, rfl, by decide⟩
theorem dX3_isOfClass_28 : Dc mX3_isOfClass 28 (.aload_n 0) 1 29 := ⟨by decide +kernel, rfl⟩
theorem dX3_isOfClass_29 : Dc mX3_isOfClass 29 (.getfield 9) 3 32 := ⟨by decide +kernel, rfl⟩
theorem dX3_isOfClass_32 : Dc mX3_isOfClass 32 (.iload_n 1) 1 33 := ⟨by decide +kernel, rfl⟩
theorem dX3_isOfClass_33 : Dc mX3_isOfClass 33 (.bipush 40) 2 35 := ⟨by decide +kernel, rfl⟩
theorem dX3_isOfClass_35 : Dc mX3_isOfClass 35 (.isub) 1 36 := ⟨by decide +kernel, rfl⟩
theorem dX3_isOfClass_36 : Dc mX3_isOfClass 36 (.invokevirtual 19) 3 39 := ⟨by decide +kernel, rfl⟩
theorem dX3_isOfClass_39 : Dj mX3_isOfClass 39 (.ifCond .eq 7) 3 42 (7) 46 := ⟨by decide +kernel, rfl, by decide⟩
theorem dX3_isOfClass_42 : Dc mX3_isOfClass 42 (.iconst 1) 1 43 := ⟨by decide +kernel, rfl⟩
theorem dX3_isOfClass_43 : Dj mX3_isOfClass 43 (.goto 4) 3 46 (4) 47 := ⟨by decide +kernel, rfl, by decide⟩
theorem dX3_isOfClass_46 : Dc mX3_isOfClass 46 (.iconst 0) 1 47 := ⟨by decide +kernel, rfl⟩
theorem dX3_isOfClass_47 : Dc mX3_isOfClass 47 (.ireturn) 1 48 := ⟨by decide +kernel, rfl⟩
theorem dX3_isKnown_0 : Dc mX3_isKnown 0 (.iload_n 1) 1 1 := ⟨by decide +kernel, rfl⟩
theorem dX3_isKnown_1 : Dj mX3_isKnown 1 (.ifCond .lt 8) 3 4 (8) 9 := ⟨by decide +kernel, rfl, by decide⟩
theorem dX3_isKnown_4 : Dc mX3_isKnown 4 (.iload_n 1) 1 5 := ⟨by decide +kernel, rfl⟩
theorem dX3_isKnown_5 : Dc mX3_isKnown 5 (.iconst 5) 1 6 := ⟨by decide +kernel, rfl⟩
theorem dX3_isKnown_6 : Dj mX3_isKnown 6 (.if_icmp .le 24) 3 9 (24) 30 := ⟨by decide +kernel, rfl, by decide⟩
theorem dX3_isKnown_9 : Dc mX3_isKnown 9 (.aload_n 0) 1 10 := ⟨by decide +kernel, rfl⟩
theorem dX3_isKnown_10 : Dc mX3_isKnown 10 (.iload_n 1) 1 11 := ⟨by decide +kernel, rfl⟩
theorem dX3_isKnown_11 : Dc mX3_isKnown 11 (.invokevirtual 27) 3 14 := ⟨by decide +kernel, rfl⟩
theorem dX3_isKnown_14 : Dj mX3_isKnown 14 (.ifCond .ne 16) 3 17 (16) 30 := ⟨by decide +kernel, rfl, by decide⟩
theorem dX3_isKnown_17 : Dc mX3_isKnown 17 (.iload_n 1) 1 18 := ⟨by decide +kernel, rfl⟩
theorem dX3_isKnown_18 : Dc mX3_isKnown 18 (.bipush 100) 2 20 := ⟨by decide +kernel, rfl⟩
theorem dX3_isKnown_20 : Dj mX3_isKnown 20 (.if_icmp .lt 14) 3 23 (14) 34 := ⟨by decide +kernel, rfl, by decide⟩
theorem dX3_isKnown_23 : Dc mX3_isKnown 23 (.iload_n 1) 1 24 := ⟨by decide +kernel, rfl⟩
theorem dX3_isKnown_24 : Dc mX3_isKnown 24 (.sipush 140) 3 27 := ⟨by decide +kernel, rfl⟩
theorem dX3_isKnown_27 : Dj mX3_isKnown 27 (.if_icmp .ge 7) 3 30 (7) 34 := ⟨by decide +kernel, rfl, by decide⟩
theorem dX3_isKnown_30 : Dc mX3_isKnown 30 (.iconst 1) 1 31 := ⟨by decide +kernel, rfl⟩
theorem dX3_isKnown_31 : Dj mX3_isKnown 31 (.goto 4) 3 34 (4) 35 := ⟨by decide +kernel, rfl, by decide⟩
theorem dX3_isKnown_34 : Dc mX3_isKnown 34 (.iconst 0) 1 35 := ⟨by decide +kernel, rfl⟩
theorem dX3_isKnown_35 : Dc mX3_isKnown 35 (.ireturn) 1 36 := ⟨by decide +kernel, rfl⟩
theorem dX3_isArgument_0 : Dc mX3_isArgument 0 (.iload_n 1) 1 1 := ⟨by decide +kernel, rfl⟩
theorem dX3_isArgument_1 : Dc mX3_isArgument 1 (.iconst 1) 1 2 := ⟨by decide +kernel, rfl⟩
theorem dX3_isArgument_2 : Dj mX3_isArgument 2 (.if_icmp .eq 21) 3 5 (21) 23 := ⟨by decide +kernel, rfl, by decide⟩
theorem dX3_isArgument_5 : Dc mX3_isArgument 5 (.iload_n 1) 1 6 := ⟨by decide +kernel, rfl⟩
theorem dX3_isArgument_6 : Dc mX3_isArgument 6 (.iconst 2) 1 7 := ⟨by decide +kernel, rfl⟩
theorem dX3_isArgument_7 : Dj mX3_isArgument 7 (.if_icmp .eq 16) 3 10 (16) 23 := ⟨by decide +kernel, rfl, by decide⟩
theorem dX3_isArgument_10 : Dc mX3_isArgument 10 (.iload_n 1) 1 11 := ⟨by decide +kernel, rfl⟩
theorem dX3_isArgument_11 : Dc mX3_isArgument 11 (.iconst 5) 1 12 := ⟨by decide +kernel, rfl⟩
theorem dX3_isArgument_12 : Dj mX3_isArgument 12 (.if_icmp .eq 11) 3 15 (11) 23 := ⟨by decide +kernel, rfl, by decide⟩
theorem dX3_isArgument_15 : Dc mX3_isArgument 15 (.aload_n 0) 1 16 := ⟨by decide +kernel, rfl⟩
theorem dX3_isArgument_16 : Dc mX3_isArgument 16 (.iload_n 1) 1 17 := ⟨by decide +kernel, rfl⟩
theorem dX3_isArgument_17 : Dc mX3_isArgument 17 (.invokevirtual 27) 3 20 := ⟨by decide +kernel, rfl⟩
theorem dX3_isArgument_20 : Dj mX3_isArgument 20 (.ifCond .eq 7) 3 23 (7) 27 := ⟨by decide +kernel, rfl, by decide⟩
theorem dX3_isArgument_23 : Dc mX3_isArgument 23 (.iconst 1) 1 24 := ⟨by decide +kernel, rfl⟩
theorem dX3_isArgument_24 : Dj mX3_isArgument 24 (.goto 4) 3 27 (4) 28 := ⟨by decide +kernel, rfl, by decide⟩
theorem dX3_isArgument_27 : Dc mX3_isArgument 27 (.iconst 0) 1 28 := ⟨by decide +kernel, rfl⟩
theorem dX3_isArgument_28 : Dc mX3_isArgument 28 (.ireturn) 1 29 := ⟨by decide +kernel, rfl⟩
theorem dX3_isResult_0 : Dc mX3_isResult 0 (.iload_n 1) 1 1 := ⟨by decide +kernel, rfl⟩
theorem dX3_isResult_1 : Dj mX3_isResult 1 (.ifCond .eq 11) 3 4 (11) 12 := ⟨by decide +kernel, rfl, by decide⟩
theorem dX3_isResult_4 : Dc mX3_isResult 4 (.aload_n 0) 1 5 := ⟨by decide +kernel, rfl⟩
theorem dX3_isResult_5 : Dc mX3_isResult 5 (.iload_n 1) 1 6 := ⟨by decide +kernel, rfl⟩
theorem dX3_isResult_6 : Dc mX3_isResult 6 (.invokevirtual 30) 3 9 := ⟨by decide +kernel, rfl⟩
theorem dX3_isResult_9 : Dj mX3_isResult 9 (.ifCond .eq 7) 3 12 (7) 16 := ⟨by decide +kernel, rfl, by decide⟩
theorem dX3_isResult_12 : Dc mX3_isResult 12 (.iconst 1) 1 13 := ⟨by decide +kernel, rfl⟩
theorem dX3_isResult_13 : Dj mX3_isResult 13 (.goto 4) 3 16 (4) 17 := ⟨by decide +kernel, rfl, by decide⟩
theorem dX3_isResult_16 : Dc mX3_isResult 16 (.iconst 0) 1 17 := ⟨by decide +kernel, rfl⟩
theorem dX3_isResult_17 : Dc mX3_isResult 17 (.ireturn) 1 18 := ⟨by decide +kernel, rfl⟩
theorem dX3_suits_0 : Dc mX3_suits 0 (.iload_n 1) 1 1 := ⟨by decide +kernel, rfl⟩
theorem dX3_suits_1 : Dc mX3_suits 1 (.iload_n 2) 1 2 := ⟨by decide +kernel, rfl⟩
theorem dX3_suits_2 : Dj mX3_suits 2 (.if_icmp .ne 5) 3 5 (5) 7 := ⟨by decide +kernel, rfl, by decide⟩
theorem dX3_suits_5 : Dc mX3_suits 5 (.iconst 1) 1 6 := ⟨by decide +kernel, rfl⟩
theorem dX3_suits_6 : Dc mX3_suits 6 (.ireturn) 1 7 := ⟨by decide +kernel, rfl⟩
theorem dX3_suits_7 : Dc mX3_suits 7 (.iload_n 1) 1 8 := ⟨by decide +kernel, rfl⟩
theorem dX3_suits_8 : Dc mX3_suits 8 (.iconst 4) 1 9 := ⟨by decide +kernel, rfl⟩
theorem dX3_suits_9 : Dj mX3_suits 9 (.if_icmp .ne 8) 3 12 (8) 17 := ⟨by decide +kernel, rfl, by decide⟩
theorem dX3_suits_12 : Dc mX3_suits 12 (.iload_n 2) 1 13 := ⟨by decide +kernel, rfl⟩
theorem dX3_suits_13 : Dc mX3_suits 13 (.invokestatic 33) 3 16 := ⟨by decide +kernel, rfl⟩
theorem dX3_suits_16 : Dc mX3_suits 16 (.ireturn) 1 17 := ⟨by decide +kernel, rfl⟩
theorem dX3_suits_17 : Dc mX3_suits 17 (.iload_n 1) 1 18 := ⟨by decide +kernel, rfl⟩
theorem dX3_suits_18 : Dc mX3_suits 18 (.invokestatic 15) 3 21 := ⟨by decide +kernel, rfl⟩
theorem dX3_suits_21 : Dj mX3_suits 21 (.ifCond .eq 26) 3 24 (26) 47 := ⟨by decide +kernel, rfl, by decide⟩
theorem dX3_suits_24 : Dc mX3_suits 24 (.iload_n 2) 1 25 := ⟨by decide +kernel, rfl⟩
theorem dX3_suits_25 : Dc mX3_suits 25 (.invokestatic 15) 3 28 := ⟨by decide +kernel, rfl⟩
theorem dX3_suits_28 : Dj mX3_suits 28 (.ifCond .eq 19) 3 31 (19) 47 := ⟨by decide +kernel, rfl, by decide⟩
theorem dX3_suits_31 : Dc mX3_suits 31 (.aload_n 0) 1 32 := ⟨by decide +kernel, rfl⟩
theorem dX3_suits_32 : Dc mX3_suits 32 (.getfield 9) 3 35 := ⟨by decide +kernel, rfl⟩
theorem dX3_suits_35 : Dc mX3_suits 35 (.iload_n 1) 1 36 := ⟨by decide +kernel, rfl⟩
theorem dX3_suits_36 : Dc mX3_suits 36 (.bipush 10) 2 38 := ⟨by decide +kernel, rfl⟩
theorem dX3_suits_38 : Dc mX3_suits 38 (.isub) 1 39 := ⟨by decide +kernel, rfl⟩
theorem dX3_suits_39 : Dc mX3_suits 39 (.iload_n 2) 1 40 := ⟨by decide +kernel, rfl⟩
theorem dX3_suits_40 : Dc mX3_suits 40 (.bipush 10) 2 42 := ⟨by decide +kernel, rfl⟩
theorem dX3_suits_42 : Dc mX3_suits 42 (.isub) 1 43 := ⟨by decide +kernel, rfl⟩
theorem dX3_suits_43 : Dc mX3_suits 43 (.invokevirtual 36) 3 46 := ⟨by decide +kernel, rfl⟩
theorem dX3_suits_46 : Dc mX3_suits 46 (.ireturn) 1 47 := ⟨by decide +kernel, rfl⟩
theorem dX3_suits_47 : Dc mX3_suits 47 (.iload_n 1) 1 48 := ⟨by decide +kernel, rfl⟩
theorem dX3_suits_48 : Dc mX3_suits 48 (.invokestatic 24) 3 51 := ⟨by decide +kernel, rfl⟩
theorem dX3_suits_51 : Dj mX3_suits 51 (.ifCond .eq 26) 3 54 (26) 77 := ⟨by decide +kernel, rfl, by decide⟩
theorem dX3_suits_54 : Dc mX3_suits 54 (.iload_n 2) 1 55 := ⟨by decide +kernel, rfl⟩
theorem dX3_suits_55 : Dc mX3_suits 55 (.invokestatic 24) 3 58 := ⟨by decide +kernel, rfl⟩
theorem dX3_suits_58 : Dj mX3_suits 58 (.ifCond .eq 19) 3 61 (19) 77 := ⟨by decide +kernel, rfl, by decide⟩
theorem dX3_suits_61 : Dc mX3_suits 61 (.aload_n 0) 1 62 := ⟨by decide +kernel, rfl⟩
theorem dX3_suits_62 : Dc mX3_suits 62 (.getfield 9) 3 65 := ⟨by decide +kernel, rfl⟩
theorem dX3_suits_65 : Dc mX3_suits 65 (.iload_n 1) 1 66 := ⟨by decide +kernel, rfl⟩
theorem dX3_suits_66 : Dc mX3_suits 66 (.bipush 40) 2 68 := ⟨by decide +kernel, rfl⟩
theorem dX3_suits_68 : Dc mX3_suits 68 (.isub) 1 69 := ⟨by decide +kernel, rfl⟩
theorem dX3_suits_69 : Dc mX3_suits 69 (.iload_n 2) 1 70 := ⟨by decide +kernel, rfl⟩
theorem dX3_suits_70 : Dc mX3_suits 70 (.bipush 40) 2 72 := ⟨by decide +kernel, rfl⟩
theorem dX3_suits_72 : Dc mX3_suits 72 (.isub) 1 73 := ⟨by decide +kernel, rfl⟩
theorem dX3_suits_73 : Dc mX3_suits 73 (.invokevirtual 36) 3 76 := ⟨by decide +kernel, rfl⟩
theorem dX3_suits_76 : Dc mX3_suits 76 (.ireturn) 1 77 := ⟨by decide +kernel, rfl⟩
theorem dX3_suits_77 : Dc mX3_suits 77 (.iload_n 1) 1 78 := ⟨by decide +kernel, rfl⟩
theorem dX3_suits_78 : Dc mX3_suits 78 (.iconst 5) 1 79 := ⟨by decide +kernel, rfl⟩
theorem dX3_suits_79 : Dj mX3_suits 79 (.if_icmp .eq 10) 3 82 (10) 89 := ⟨by decide +kernel, rfl, by decide⟩
theorem dX3_suits_82 : Dc mX3_suits 82 (.iload_n 1) 1 83 := ⟨by decide +kernel, rfl⟩
theorem dX3_suits_83 : Dc mX3_suits 83 (.invokestatic 24) 3 86 := ⟨by decide +kernel, rfl⟩
theorem dX3_suits_86 : Dj mX3_suits 86 (.ifCond .eq 13) 3 89 (13) 99 := ⟨by decide +kernel, rfl, by decide⟩
theorem dX3_suits_89 : Dc mX3_suits 89 (.iload_n 2) 1 90 := ⟨by decide +kernel, rfl⟩
theorem dX3_suits_90 : Dc mX3_suits 90 (.bipush 10) 2 92 := ⟨by decide +kernel, rfl⟩
theorem dX3_suits_92 : Dj mX3_suits 92 (.if_icmp .ne 7) 3 95 (7) 99 := ⟨by decide +kernel, rfl, by decide⟩
theorem dX3_suits_95 : Dc mX3_suits 95 (.iconst 1) 1 96 := ⟨by decide +kernel, rfl⟩
theorem dX3_suits_96 : Dj mX3_suits 96 (.goto 4) 3 99 (4) 100 := ⟨by decide +kernel, rfl, by decide⟩
theorem dX3_suits_99 : Dc mX3_suits 99 (.iconst 0) 1 100 := ⟨by decide +kernel, rfl⟩
theorem dX3_suits_100 : Dc mX3_suits 100 (.ireturn) 1 101 := ⟨by decide +kernel, rfl⟩
theorem dX3_merge_0 : Dc mX3_merge 0 (.iload_n 1) 1 1 := ⟨by decide +kernel, rfl⟩
theorem dX3_merge_1 : Dc mX3_merge 1 (.iload_n 2) 1 2 := ⟨by decide +kernel, rfl⟩
theorem dX3_merge_2 : Dj mX3_merge 2 (.if_icmp .ne 5) 3 5 (5) 7 := ⟨by decide +kernel, rfl, by decide⟩
theorem dX3_merge_5 : Dc mX3_merge 5 (.iload_n 1) 1 6 := ⟨by decide +kernel, rfl⟩
theorem dX3_merge_6 : Dc mX3_merge 6 (.ireturn) 1 7 := ⟨by decide +kernel, rfl⟩
theorem dX3_merge_7 : Dc mX3_merge 7 (.iload_n 1) 1 8 := ⟨by decide +kernel, rfl⟩
theorem dX3_merge_8 : Dc mX3_merge 8 (.invokestatic 33) 3 11 := ⟨by decide +kernel, rfl⟩
theorem dX3_merge_11 : Dj mX3_merge 11 (.ifCond .eq 10) 3 14 (10) 21 := ⟨by decide +kernel, rfl, by decide⟩
theorem dX3_merge_14 : Dc mX3_merge 14 (.iload_n 2) 1 15 := ⟨by decide +kernel, rfl⟩
theorem dX3_merge_15 : Dc mX3_merge 15 (.invokestatic 33) 3 18 := ⟨by decide +kernel, rfl⟩
theorem dX3_merge_18 : Dj mX3_merge 18 (.ifCond .ne 5) 3 21 (5) 23 := ⟨by decide +kernel, rfl, by decide⟩
theorem dX3_merge_21 : Dc mX3_merge 21 (.iconst 0) 1 22 := ⟨by decide +kernel, rfl⟩
theorem dX3_merge_22 : Dc mX3_merge 22 (.ireturn) 1 23 := ⟨by decide +kernel, rfl⟩
theorem dX3_merge_23 : Dc mX3_merge 23 (.iload_n 1) 1 24 := ⟨by decide +kernel, rfl⟩
theorem dX3_merge_24 : Dc mX3_merge 24 (.iconst 4) 1 25 := ⟨by decide +kernel, rfl⟩
theorem dX3_merge_25 : Dj mX3_merge 25 (.if_icmp .ne 5) 3 28 (5) 30 := ⟨by decide +kernel, rfl, by decide⟩
theorem dX3_merge_28 : Dc mX3_merge 28 (.iload_n 2) 1 29 := ⟨by decide +kernel, rfl⟩
theorem dX3_merge_29 : Dc mX3_merge 29 (.ireturn) 1 30 := ⟨by decide +kernel, rfl⟩
theorem dX3_merge_30 : Dc mX3_merge 30 (.iload_n 2) 1 31 := ⟨by decide +kernel, rfl⟩
theorem dX3_merge_31 : Dc mX3_merge 31 (.iconst 4) 1 32 := ⟨by decide +kernel, rfl⟩
theorem dX3_merge_32 : Dj mX3_merge 32 (.if_icmp .ne 5) 3 35 (5) 37 := ⟨by decide +kernel, rfl, by decide⟩
theorem dX3_merge_35 : Dc mX3_merge 35 (.iload_n 1) 1 36 := ⟨by decide +kernel, rfl⟩
theorem dX3_merge_36 : Dc mX3_merge 36 (.ireturn) 1 37 := ⟨by decide +kernel, rfl⟩
theorem dX3_merge_37 : Dc mX3_merge 37 (.iload_n 1) 1 38 := ⟨by decide +kernel, rfl⟩
theorem dX3_merge_38 : Dc mX3_merge 38 (.invokestatic 15) 3 41 := ⟨by decide +kernel, rfl⟩
theorem dX3_merge_41 : Dj mX3_merge 41 (.ifCond .eq 29) 3 44 (29) 70 := ⟨by decide +kernel, rfl, by decide⟩
theorem dX3_merge_44 : Dc mX3_merge 44 (.iload_n 2) 1 45 := ⟨by decide +kernel, rfl⟩
theorem dX3_merge_45 : Dc mX3_merge 45 (.invokestatic 15) 3 48 := ⟨by decide +kernel, rfl⟩
theorem dX3_merge_48 : Dj mX3_merge 48 (.ifCond .eq 22) 3 51 (22) 70 := ⟨by decide +kernel, rfl, by decide⟩
theorem dX3_merge_51 : Dc mX3_merge 51 (.bipush 10) 2 53 := ⟨by decide +kernel, rfl⟩
theorem dX3_merge_53 : Dc mX3_merge 53 (.aload_n 0) 1 54 := ⟨by decide +kernel, rfl⟩
theorem dX3_merge_54 : Dc mX3_merge 54 (.getfield 9) 3 57 := ⟨by decide +kernel, rfl⟩
theorem dX3_merge_57 : Dc mX3_merge 57 (.iload_n 1) 1 58 := ⟨by decide +kernel, rfl⟩
theorem dX3_merge_58 : Dc mX3_merge 58 (.bipush 10) 2 60 := ⟨by decide +kernel, rfl⟩
theorem dX3_merge_60 : Dc mX3_merge 60 (.isub) 1 61 := ⟨by decide +kernel, rfl⟩
theorem dX3_merge_61 : Dc mX3_merge 61 (.iload_n 2) 1 62 := ⟨by decide +kernel, rfl⟩
theorem dX3_merge_62 : Dc mX3_merge 62 (.bipush 10) 2 64 := ⟨by decide +kernel, rfl⟩
theorem dX3_merge_64 : Dc mX3_merge 64 (.isub) 1 65 := ⟨by decide +kernel, rfl⟩
theorem dX3_merge_65 : Dc mX3_merge 65 (.invokevirtual 40) 3 68 := ⟨by decide +kernel, rfl⟩
theorem dX3_merge_68 : Dc mX3_merge 68 (.iadd) 1 69 := ⟨by decide +kernel, rfl⟩
theorem dX3_merge_69 : Dc mX3_merge 69 (.ireturn) 1 70 := ⟨by decide +kernel, rfl⟩
theorem dX3_merge_70 : Dc mX3_merge 70 (.iload_n 1) 1 71 := ⟨by decide +kernel, rfl⟩
theorem dX3_merge_71 : Dc mX3_merge 71 (.invokestatic 24) 3 74 := ⟨by decide +kernel, rfl⟩
theorem dX3_merge_74 : Dj mX3_merge 74 (.ifCond .eq 29) 3 77 (29) 103 := ⟨by decide +kernel, rfl, by decide⟩
theorem dX3_merge_77 : Dc mX3_merge 77 (.iload_n 2) 1 78 := ⟨by decide +kernel, rfl⟩
theorem dX3_merge_78 : Dc mX3_merge 78 (.invokestatic 24) 3 81 := ⟨by decide +kernel, rfl⟩
theorem dX3_merge_81 : Dj mX3_merge 81 (.ifCond .eq 22) 3 84 (22) 103 := ⟨by decide +kernel, rfl, by decide⟩
theorem dX3_merge_84 : Dc mX3_merge 84 (.bipush 40) 2 86 := ⟨by decide +kernel, rfl⟩
theorem dX3_merge_86 : Dc mX3_merge 86 (.aload_n 0) 1 87 := ⟨by decide +kernel, rfl⟩
theorem dX3_merge_87 : Dc mX3_merge 87 (.getfield 9) 3 90 := ⟨by decide +kernel, rfl⟩
theorem dX3_merge_90 : Dc mX3_merge 90 (.iload_n 1) 1 91 := ⟨by decide +kernel, rfl⟩
theorem dX3_merge_91 : Dc mX3_merge 91 (.bipush 40) 2 93 := ⟨by decide +kernel, rfl⟩
theorem dX3_merge_93 : Dc mX3_merge 93 (.isub) 1 94 := ⟨by decide +kernel, rfl⟩
theorem dX3_merge_94 : Dc mX3_merge 94 (.iload_n 2) 1 95 := ⟨by decide +kernel, rfl⟩
theorem dX3_merge_95 : Dc mX3_merge 95 (.bipush 40) 2 97 := ⟨by decide +kernel, rfl⟩
theorem dX3_merge_97 : Dc mX3_merge 97 (.isub) 1 98 := ⟨by decide +kernel, rfl⟩
theorem dX3_merge_98 : Dc mX3_merge 98 (.invokevirtual 40) 3 101 := ⟨by decide +kernel, rfl⟩
theorem dX3_merge_101 : Dc mX3_merge 101 (.iadd) 1 102 := ⟨by decide +kernel, rfl⟩
theorem dX3_merge_102 : Dc mX3_merge 102 (.ireturn) 1 103 := ⟨by decide +kernel, rfl⟩
theorem dX3_merge_103 : Dc mX3_merge 103 (.bipush 10) 2 105 := ⟨by decide +kernel, rfl⟩
theorem dX3_merge_105 : Dc mX3_merge 105 (.ireturn) 1 106 := ⟨by decide +kernel, rfl⟩
theorem dX4_init_0 : Dc mX4_init 0 (.aload_n 0) 1 1 := ⟨by decide +kernel, rfl⟩
theorem dX4_init_1 : Dc mX4_init 1 (.invokespecial 3) 3 4 := ⟨by decide +kernel, rfl⟩
theorem dX4_init_4 : Dc mX4_init 4 (.aload_n 0) 1 5 := ⟨by decide +kernel, rfl⟩
theorem dX4_init_5 : Dc mX4_init 5 (.bipush 8) 2 7 := ⟨by decide +kernel, rfl⟩
theorem dX4_init_7 : Dc mX4_init 7 (.newarray .int) 2 9 := ⟨by decide +kernel, rfl⟩
theorem dX4_init_9 : Dc mX4_init 9 (.putfield 9) 3 12 := ⟨by decide +kernel, rfl⟩
theorem dX4_init_12 : Dc mX4_init 12 (.aload_n 0) 1 13 := ⟨by decide +kernel, rfl⟩
theorem dX4_init_13 : Dc mX4_init 13 (.bipush 40) 2 15 := ⟨by decide +kernel, rfl⟩
theorem dX4_init_15 : Dc mX4_init 15 (.newarray .int) 2 17 := ⟨by decide +kernel, rfl⟩
theorem dX4_init_17 : Dc mX4_init 17 (.putfield 15) 3 20 := ⟨by decide +kernel, rfl⟩
theorem dX4_init_20 : Dc mX4_init 20 (.aload_n 0) 1 21 := ⟨by decide +kernel, rfl⟩
theorem dX4_init_21 : Dc mX4_init 21 (.bipush 40) 2 23 := ⟨by decide +kernel, rfl⟩
theorem dX4_init_23 : Dc mX4_init 23 (.newarray .int) 2 25 := ⟨by decide +kernel, rfl⟩
theorem dX4_init_25 : Dc mX4_init 25 (.putfield 18) 3 28 := ⟨by decide +kernel, rfl⟩
theorem dX4_init_28 : Dc mX4_init 28 (.aload_n 0) 1 29 := ⟨by decide +kernel, rfl⟩
theorem dX4_init_29 : Dc mX4_init 29 (.bipush 40) 2 31 := ⟨by decide +kernel, rfl⟩
theorem dX4_init_31 : Dc mX4_init 31 (.newarray .int) 2 33 := ⟨by decide +kernel, rfl⟩
theorem dX4_init_33 : Dc mX4_init 33 (.putfield 21) 3 36 := ⟨by decide +kernel, rfl⟩
theorem dX4_init_36 : Dc mX4_init 36 (.aload_n 0) 1 37 := ⟨by decide +kernel, rfl⟩
theorem dX4_init_37 : Dc mX4_init 37 (.bipush 6) 2 39 := ⟨by decide +kernel, rfl⟩
theorem dX4_init_39 : Dc mX4_init 39 (.newarray .int) 2 41 := ⟨by decide +kernel, rfl⟩
theorem dX4_init_41 : Dc mX4_init 41 (.putfield 24) 3 44 := ⟨by decide +kernel, rfl⟩
theorem dX4_init_44 : Dc mX4_init 44 (.aload_n 0) 1 45 := ⟨by decide +kernel, rfl⟩
theorem dX4_init_45 : Dc mX4_init 45 (.bipush 6) 2 47 := ⟨by decide +kernel, rfl⟩
theorem dX4_init_47 : Dc mX4_init 47 (.newarray .int) 2 49 := ⟨by decide +kernel, rfl⟩
theorem dX4_init_49 : Dc mX4_init 49 (.putfield 27) 3 52 := ⟨by decide +kernel, rfl⟩
theorem dX4_init_52 : Dc mX4_init 52 (.aload_n 0) 1 53 := ⟨by decide +kernel, rfl⟩
theorem dX4_init_53 : Dc mX4_init 53 (.bipush 6) 2 55 := ⟨by decide +kernel, rfl⟩
theorem dX4_init_55 : Dc mX4_init 55 (.newarray .int) 2 57 := ⟨by decide +kernel, rfl⟩
theorem dX4_init_57 : Dc mX4_init 57 (.putfield 30) 3 60 := ⟨by decide +kernel, rfl⟩
theorem dX4_init_60 : Dc mX4_init 60 (.aload_n 0) 1 61 := ⟨by decide +kernel, rfl⟩
theorem dX4_init_61 : Dc mX4_init 61 (.bipush 6) 2 63 := ⟨by decide +kernel, rfl⟩
theorem dX4_init_63 : Dc mX4_init 63 (.newarray .int) 2 65 := ⟨by decide +kernel, rfl⟩
theorem dX4_init_65 : Dc mX4_init 65 (.putfield 33) 3 68 := ⟨by decide +kernel, rfl⟩
theorem dX4_init_68 : Dc mX4_init 68 (.aload_n 0) 1 69 := ⟨by decide +kernel, rfl⟩
theorem dX4_init_69 : Dc mX4_init 69 (.new 36) 3 72 := ⟨by decide +kernel, rfl⟩
theorem dX4_init_72 : Dc mX4_init 72 (.dup) 1 73 := ⟨by decide +kernel, rfl⟩
theorem dX4_init_73 : Dc mX4_init 73 (.invokespecial 38) 3 76 := ⟨by decide +kernel, rfl⟩
theorem dX4_init_76 : Dc mX4_init 76 (.putfield 39) 3 79 := ⟨by decide +kernel, rfl⟩
theorem dX4_init_79 : Dc mX4_init 79 (.aload_n 0) 1 80 := ⟨by decide +kernel, rfl⟩
theorem dX4_init_80 : Dc mX4_init 80 (.iload_n 1) 1 81 := ⟨by decide +kernel, rfl⟩
theorem dX4_init_81 : Dc mX4_init 81 (.putfield 43) 3 84 := ⟨by decide +kernel, rfl⟩
theorem dX4_init_84 : Dc mX4_init 84 (.return_) 1 85 := ⟨by decide +kernel, rfl⟩
theorem dX4_addArgument_0 : Dc mX4_addArgument 0 (.aload_n 0) 1 1 := ⟨by decide +kernel, rfl⟩
theorem dX4_addArgument_1 : Dc mX4_addArgument 1 (.getfield 47) 3 4 := ⟨by decide +kernel, rfl⟩
theorem dX4_addArgument_4 : Dc mX4_addArgument 4 (.iload_n 1) 1 5 := ⟨by decide +kernel, rfl⟩
theorem dX4_addArgument_5 : Dc mX4_addArgument 5 (.iconst 2) 1 6 := ⟨by decide +kernel, rfl⟩
theorem dX4_addArgument_6 : Dj mX4_addArgument 6 (.if_icmp .ne 7) 3 9 (7) 13 := ⟨by decide +kernel, rfl, by decide⟩
theorem dX4_addArgument_9 : Dc mX4_addArgument 9 (.iconst 2) 1 10 := ⟨by decide +kernel, rfl⟩
theorem dX4_addArgument_10 : Dj mX4_addArgument 10 (.goto 4) 3 13 (4) 14 := ⟨by decide +kernel, rfl, by decide⟩
theorem dX4_addArgument_13 : Dc mX4_addArgument 13 (.iconst 1) 1 14 := ⟨by decide +kernel, rfl⟩
theorem dX4_addArgument_14 : Dc mX4_addArgument 14 (.iadd) 1 15 := ⟨by decide +kernel, rfl⟩
theorem dX4_addArgument_15 : Dc mX4_addArgument 15 (.istore_n 2) 1 16 := ⟨by decide +kernel, rfl⟩
theorem dX4_addArgument_16 : Dc mX4_addArgument 16 (.iload_n 2) 1 17 := ⟨by decide +kernel, rfl⟩
theorem dX4_addArgument_17 : Dc mX4_addArgument 17 (.bipush 8) 2 19 := ⟨by decide +kernel, rfl⟩
theorem dX4_addArgument_19 : Dj mX4_addArgument 19 (.if_icmp .le 6) 3 22 (6) 25 := ⟨by decide +kernel, rfl, by decide⟩
theorem dX4_addArgument_22 : Dc mX4_addArgument 22 (.bipush (-4)) 2 24 := ⟨by decide +kernel, rfl⟩
theorem dX4_addArgument_24 : Dc mX4_addArgument 24 (.ireturn) 1 25 := ⟨by decide +kernel, rfl⟩
theorem dX4_addArgument_25 : Dc mX4_addArgument 25 (.aload_n 0) 1 26 := ⟨by decide +kernel, rfl⟩
theorem dX4_addArgument_26 : Dc mX4_addArgument 26 (.getfield 9) 3 29 := ⟨by decide +kernel, rfl⟩
theorem dX4_addArgument_29 : Dc mX4_addArgument 29 (.aload_n 0) 1 30 := ⟨by decide +kernel, rfl⟩
theorem dX4_addArgument_30 : Dc mX4_addArgument 30 (.getfield 47) 3 33 := ⟨by decide +kernel, rfl⟩
theorem dX4_addArgument_33 : Dc mX4_addArgument 33 (.iload_n 1) 1 34 := ⟨by decide +kernel, rfl⟩
theorem dX4_addArgument_34 : Dc mX4_addArgument 34 (.iastore) 1 35 := ⟨by decide +kernel, rfl⟩
theorem dX4_addArgument_35 : Dc mX4_addArgument 35 (.iload_n 1) 1 36 := ⟨by decide +kernel, rfl⟩
theorem dX4_addArgument_36 : Dc mX4_addArgument 36 (.iconst 2) 1 37 := ⟨by decide +kernel, rfl⟩
theorem dX4_addArgument_37 : Dj mX4_addArgument 37 (.if_icmp .ne 15) 3 40 (15) 52 := ⟨by decide +kernel, rfl, by decide⟩
theorem dX4_addArgument_40 : Dc mX4_addArgument 40 (.aload_n 0) 1 41 := ⟨by decide +kernel, rfl⟩
theorem dX4_addArgument_41 : Dc mX4_addArgument 41 (.getfield 9) 3 44 := ⟨by decide +kernel, rfl⟩
theorem dX4_addArgument_44 : Dc mX4_addArgument 44 (.aload_n 0) 1 45 := ⟨by decide +kernel, rfl⟩
theorem dX4_addArgument_45 : Dc mX4_addArgument 45 (.getfield 47) 3 48 := ⟨by decide +kernel, rfl⟩
theorem dX4_addArgument_48 : Dc mX4_addArgument 48 (.iconst 1) 1 49 := ⟨by decide +kernel, rfl⟩
theorem dX4_addArgument_49 : Dc mX4_addArgument 49 (.iadd) 1 50 := ⟨by decide +kernel, rfl⟩
theorem dX4_addArgument_50 : Dc mX4_addArgument 50 (.iconst 3) 1 51 := ⟨by decide +kernel, rfl⟩
theorem dX4_addArgument_51 : Dc mX4_addArgument 51 (.iastore) 1 52 := ⟨by decide +kernel, rfl⟩
theorem dX4_addArgument_52 : Dc mX4_addArgument 52 (.aload_n 0) 1 53 := ⟨by decide +kernel, rfl⟩
theorem dX4_addArgument_53 : Dc mX4_addArgument 53 (.iload_n 2) 1 54 := ⟨by decide +kernel, rfl⟩
theorem dX4_addArgument_54 : Dc mX4_addArgument 54 (.putfield 47) 3 57 := ⟨by decide +kernel, rfl⟩
theorem dX4_addArgument_57 : Dc mX4_addArgument 57 (.aload_n 0) 1 58 := ⟨by decide +kernel, rfl⟩
theorem dX4_addArgument_58 : Dc mX4_addArgument 58 (.getfield 39) 3 61 := ⟨by decide +kernel, rfl⟩
theorem dX4_addArgument_61 : Dc mX4_addArgument 61 (.iconst 0) 1 62 := ⟨by decide +kernel, rfl⟩
theorem dX4_addArgument_62 : Dc mX4_addArgument 62 (.putfield 50) 3 65 := ⟨by decide +kernel, rfl⟩
theorem dX4_addArgument_65 : Dc mX4_addArgument 65 (.iload_n 2) 1 66 := ⟨by decide +kernel, rfl⟩
theorem dX4_addArgument_66 : Dc mX4_addArgument 66 (.ireturn) 1 67 := ⟨by decide +kernel, rfl⟩
theorem dX4_addOp_0 : Dc mX4_addOp 0 (.aload_n 0) 1 1 := ⟨by decide +kernel, rfl⟩
theorem dX4_addOp_1 : Dc mX4_addOp 1 (.getfield 54) 3 4 := ⟨by decide +kernel, rfl⟩
theorem dX4_addOp_4 : Dc mX4_addOp 4 (.bipush 40) 2 6 := ⟨by decide +kernel, rfl⟩
theorem dX4_addOp_6 : Dj mX4_addOp 6 (.if_icmp .lt 6) 3 9 (6) 12 := ⟨by decide +kernel, rfl, by decide⟩
theorem dX4_addOp_9 : Dc mX4_addOp 9 (.bipush (-4)) 2 11 := ⟨by decide +kernel, rfl⟩
theorem dX4_addOp_11 : Dc mX4_addOp 11 (.ireturn) 1 12 := ⟨by decide +kernel, rfl⟩
theorem dX4_addOp_12 : Dc mX4_addOp 12 (.aload_n 0) 1 13 := ⟨by decide +kernel, rfl⟩
theorem dX4_addOp_13 : Dc mX4_addOp 13 (.getfield 15) 3 16 := ⟨by decide +kernel, rfl⟩
theorem dX4_addOp_16 : Dc mX4_addOp 16 (.aload_n 0) 1 17 := ⟨by decide +kernel, rfl⟩
theorem dX4_addOp_17 : Dc mX4_addOp 17 (.getfield 54) 3 20 := ⟨by decide +kernel, rfl⟩
theorem dX4_addOp_20 : Dc mX4_addOp 20 (.iload_n 1) 1 21 := ⟨by decide +kernel, rfl⟩
theorem dX4_addOp_21 : Dc mX4_addOp 21 (.iastore) 1 22 := ⟨by decide +kernel, rfl⟩
theorem dX4_addOp_22 : Dc mX4_addOp 22 (.aload_n 0) 1 23 := ⟨by decide +kernel, rfl⟩
theorem dX4_addOp_23 : Dc mX4_addOp 23 (.getfield 18) 3 26 := ⟨by decide +kernel, rfl⟩
theorem dX4_addOp_26 : Dc mX4_addOp 26 (.aload_n 0) 1 27 := ⟨by decide +kernel, rfl⟩
theorem dX4_addOp_27 : Dc mX4_addOp 27 (.getfield 54) 3 30 := ⟨by decide +kernel, rfl⟩
theorem dX4_addOp_30 : Dc mX4_addOp 30 (.iload_n 2) 1 31 := ⟨by decide +kernel, rfl⟩
theorem dX4_addOp_31 : Dc mX4_addOp 31 (.iastore) 1 32 := ⟨by decide +kernel, rfl⟩
theorem dX4_addOp_32 : Dc mX4_addOp 32 (.aload_n 0) 1 33 := ⟨by decide +kernel, rfl⟩
theorem dX4_addOp_33 : Dc mX4_addOp 33 (.getfield 21) 3 36 := ⟨by decide +kernel, rfl⟩
theorem dX4_addOp_36 : Dc mX4_addOp 36 (.aload_n 0) 1 37 := ⟨by decide +kernel, rfl⟩
theorem dX4_addOp_37 : Dc mX4_addOp 37 (.getfield 54) 3 40 := ⟨by decide +kernel, rfl⟩
theorem dX4_addOp_40 : Dc mX4_addOp 40 (.iload_n 3) 1 41 := ⟨by decide +kernel, rfl⟩
theorem dX4_addOp_41 : Dc mX4_addOp 41 (.iastore) 1 42 := ⟨by decide +kernel, rfl⟩
theorem dX4_addOp_42 : Dc mX4_addOp 42 (.aload_n 0) 1 43 := ⟨by decide +kernel, rfl⟩
theorem dX4_addOp_43 : Dc mX4_addOp 43 (.dup) 1 44 := ⟨by decide +kernel, rfl⟩
theorem dX4_addOp_44 : Dc mX4_addOp 44 (.getfield 54) 3 47 := ⟨by decide +kernel, rfl⟩
theorem dX4_addOp_47 : Dc mX4_addOp 47 (.iconst 1) 1 48 := ⟨by decide +kernel, rfl⟩
theorem dX4_addOp_48 : Dc mX4_addOp 48 (.iadd) 1 49 := ⟨by decide +kernel, rfl⟩
theorem dX4_addOp_49 : Dc mX4_addOp 49 (.putfield 54) 3 52 := ⟨by decide +kernel, rfl⟩
theorem dX4_addOp_52 : Dc mX4_addOp 52 (.aload_n 0) 1 53 := ⟨by decide +kernel, rfl⟩
theorem dX4_addOp_53 : Dc mX4_addOp 53 (.getfield 39) 3 56 := ⟨by decide +kernel, rfl⟩
theorem dX4_addOp_56 : Dc mX4_addOp 56 (.iconst 0) 1 57 := ⟨by decide +kernel, rfl⟩
theorem dX4_addOp_57 : Dc mX4_addOp 57 (.putfield 50) 3 60 := ⟨by decide +kernel, rfl⟩
theorem dX4_addOp_60 : Dc mX4_addOp 60 (.aload_n 0) 1 61 := ⟨by decide +kernel, rfl⟩
theorem dX4_addOp_61 : Dc mX4_addOp 61 (.getfield 54) 3 64 := ⟨by decide +kernel, rfl⟩
theorem dX4_addOp_64 : Dc mX4_addOp 64 (.iconst 1) 1 65 := ⟨by decide +kernel, rfl⟩
theorem dX4_addOp_65 : Dc mX4_addOp 65 (.isub) 1 66 := ⟨by decide +kernel, rfl⟩
theorem dX4_addOp_66 : Dc mX4_addOp 66 (.ireturn) 1 67 := ⟨by decide +kernel, rfl⟩
theorem dX4_addGuard_0 : Dc mX4_addGuard 0 (.aload_n 0) 1 1 := ⟨by decide +kernel, rfl⟩
theorem dX4_addGuard_1 : Dc mX4_addGuard 1 (.getfield 57) 3 4 := ⟨by decide +kernel, rfl⟩
theorem dX4_addGuard_4 : Dc mX4_addGuard 4 (.bipush 6) 2 6 := ⟨by decide +kernel, rfl⟩
theorem dX4_addGuard_6 : Dj mX4_addGuard 6 (.if_icmp .lt 6) 3 9 (6) 12 := ⟨by decide +kernel, rfl, by decide⟩
theorem dX4_addGuard_9 : Dc mX4_addGuard 9 (.bipush (-4)) 2 11 := ⟨by decide +kernel, rfl⟩
theorem dX4_addGuard_11 : Dc mX4_addGuard 11 (.ireturn) 1 12 := ⟨by decide +kernel, rfl⟩
theorem dX4_addGuard_12 : Dc mX4_addGuard 12 (.aload_n 0) 1 13 := ⟨by decide +kernel, rfl⟩
theorem dX4_addGuard_13 : Dc mX4_addGuard 13 (.getfield 24) 3 16 := ⟨by decide +kernel, rfl⟩
theorem dX4_addGuard_16 : Dc mX4_addGuard 16 (.aload_n 0) 1 17 := ⟨by decide +kernel, rfl⟩
theorem dX4_addGuard_17 : Dc mX4_addGuard 17 (.getfield 57) 3 20 := ⟨by decide +kernel, rfl⟩
theorem dX4_addGuard_20 : Dc mX4_addGuard 20 (.iload_n 1) 1 21 := ⟨by decide +kernel, rfl⟩
theorem dX4_addGuard_21 : Dc mX4_addGuard 21 (.iastore) 1 22 := ⟨by decide +kernel, rfl⟩
theorem dX4_addGuard_22 : Dc mX4_addGuard 22 (.aload_n 0) 1 23 := ⟨by decide +kernel, rfl⟩
theorem dX4_addGuard_23 : Dc mX4_addGuard 23 (.getfield 27) 3 26 := ⟨by decide +kernel, rfl⟩
theorem dX4_addGuard_26 : Dc mX4_addGuard 26 (.aload_n 0) 1 27 := ⟨by decide +kernel, rfl⟩
theorem dX4_addGuard_27 : Dc mX4_addGuard 27 (.getfield 57) 3 30 := ⟨by decide +kernel, rfl⟩
theorem dX4_addGuard_30 : Dc mX4_addGuard 30 (.iload_n 2) 1 31 := ⟨by decide +kernel, rfl⟩
theorem dX4_addGuard_31 : Dc mX4_addGuard 31 (.iastore) 1 32 := ⟨by decide +kernel, rfl⟩
theorem dX4_addGuard_32 : Dc mX4_addGuard 32 (.aload_n 0) 1 33 := ⟨by decide +kernel, rfl⟩
theorem dX4_addGuard_33 : Dc mX4_addGuard 33 (.getfield 30) 3 36 := ⟨by decide +kernel, rfl⟩
theorem dX4_addGuard_36 : Dc mX4_addGuard 36 (.aload_n 0) 1 37 := ⟨by decide +kernel, rfl⟩
theorem dX4_addGuard_37 : Dc mX4_addGuard 37 (.getfield 57) 3 40 := ⟨by decide +kernel, rfl⟩
theorem dX4_addGuard_40 : Dc mX4_addGuard 40 (.iload_n 3) 1 41 := ⟨by decide +kernel, rfl⟩
theorem dX4_addGuard_41 : Dc mX4_addGuard 41 (.iastore) 1 42 := ⟨by decide +kernel, rfl⟩
theorem dX4_addGuard_42 : Dc mX4_addGuard 42 (.aload_n 0) 1 43 := ⟨by decide +kernel, rfl⟩
theorem dX4_addGuard_43 : Dc mX4_addGuard 43 (.getfield 33) 3 46 := ⟨by decide +kernel, rfl⟩
theorem dX4_addGuard_46 : Dc mX4_addGuard 46 (.aload_n 0) 1 47 := ⟨by decide +kernel, rfl⟩
theorem dX4_addGuard_47 : Dc mX4_addGuard 47 (.getfield 57) 3 50 := ⟨by decide +kernel, rfl⟩
theorem dX4_addGuard_50 : Dc mX4_addGuard 50 (.iload 4) 2 52 := ⟨by decide +kernel, rfl⟩
theorem dX4_addGuard_52 : Dc mX4_addGuard 52 (.iastore) 1 53 := ⟨by decide +kernel, rfl⟩
theorem dX4_addGuard_53 : Dc mX4_addGuard 53 (.aload_n 0) 1 54 := ⟨by decide +kernel, rfl⟩
theorem dX4_addGuard_54 : Dc mX4_addGuard 54 (.dup) 1 55 := ⟨by decide +kernel, rfl⟩
theorem dX4_addGuard_55 : Dc mX4_addGuard 55 (.getfield 57) 3 58 := ⟨by decide +kernel, rfl⟩
theorem dX4_addGuard_58 : Dc mX4_addGuard 58 (.iconst 1) 1 59 := ⟨by decide +kernel, rfl⟩
theorem dX4_addGuard_59 : Dc mX4_addGuard 59 (.iadd) 1 60 := ⟨by decide +kernel, rfl⟩
theorem dX4_addGuard_60 : Dc mX4_addGuard 60 (.putfield 57) 3 63 := ⟨by decide +kernel, rfl⟩
theorem dX4_addGuard_63 : Dc mX4_addGuard 63 (.aload_n 0) 1 64 := ⟨by decide +kernel, rfl⟩
theorem dX4_addGuard_64 : Dc mX4_addGuard 64 (.getfield 39) 3 67 := ⟨by decide +kernel, rfl⟩
theorem dX4_addGuard_67 : Dc mX4_addGuard 67 (.iconst 0) 1 68 := ⟨by decide +kernel, rfl⟩
theorem dX4_addGuard_68 : Dc mX4_addGuard 68 (.putfield 50) 3 71 := ⟨by decide +kernel, rfl⟩
theorem dX4_addGuard_71 : Dc mX4_addGuard 71 (.aload_n 0) 1 72 := ⟨by decide +kernel, rfl⟩
theorem dX4_addGuard_72 : Dc mX4_addGuard 72 (.getfield 57) 3 75 := ⟨by decide +kernel, rfl⟩
theorem dX4_addGuard_75 : Dc mX4_addGuard 75 (.iconst 1) 1 76 := ⟨by decide +kernel, rfl⟩
theorem dX4_addGuard_76 : Dc mX4_addGuard 76 (.isub) 1 77 := ⟨by decide +kernel, rfl⟩
theorem dX4_addGuard_77 : Dc mX4_addGuard 77 (.ireturn) 1 78 := ⟨by decide +kernel, rfl⟩
theorem dX4_hasPlace_0 : Dc mX4_hasPlace 0 (.iload_n 1) 1 1 := ⟨by decide +kernel, rfl⟩
theorem dX4_hasPlace_1 : Dj mX4_hasPlace 1 (.ifCond .lt 15) 3 4 (15) 16 := ⟨by decide +kernel, rfl, by decide⟩
theorem dX4_hasPlace_4 : Dc mX4_hasPlace 4 (.iload_n 1) 1 5 := ⟨by decide +kernel, rfl⟩
theorem dX4_hasPlace_5 : Dc mX4_hasPlace 5 (.aload_n 0) 1 6 := ⟨by decide +kernel, rfl⟩
theorem dX4_hasPlace_6 : Dc mX4_hasPlace 6 (.getfield 54) 3 9 := ⟨by decide +kernel, rfl⟩
theorem dX4_hasPlace_9 : Dj mX4_hasPlace 9 (.if_icmp .ge 7) 3 12 (7) 16 := ⟨by decide +kernel, rfl, by decide⟩
theorem dX4_hasPlace_12 : Dc mX4_hasPlace 12 (.iconst 1) 1 13 := ⟨by decide +kernel, rfl⟩
theorem dX4_hasPlace_13 : Dj mX4_hasPlace 13 (.goto 4) 3 16 (4) 17 := ⟨by decide +kernel, rfl, by decide⟩
theorem dX4_hasPlace_16 : Dc mX4_hasPlace 16 (.iconst 0) 1 17 := ⟨by decide +kernel, rfl⟩
theorem dX4_hasPlace_17 : Dc mX4_hasPlace 17 (.ireturn) 1 18 := ⟨by decide +kernel, rfl⟩
theorem dX4_isGuarded_0 : Dc mX4_isGuarded 0 (.iload_n 1) 1 1 := ⟨by decide +kernel, rfl⟩
theorem dX4_isGuarded_1 : Dc mX4_isGuarded 1 (.aload_n 0) 1 2 := ⟨by decide +kernel, rfl⟩
theorem dX4_isGuarded_2 : Dc mX4_isGuarded 2 (.getfield 24) 3 5 := ⟨by decide +kernel, rfl⟩
theorem dX4_isGuarded_5 : Dc mX4_isGuarded 5 (.iload_n 2) 1 6 := ⟨by decide +kernel, rfl⟩
theorem dX4_isGuarded_6 : Dc mX4_isGuarded 6 (.iaload) 1 7 := ⟨by decide +kernel, rfl⟩
theorem dX4_isGuarded_7 : Dj mX4_isGuarded 7 (.if_icmp .lt 17) 3 10 (17) 24 := ⟨by decide +kernel, rfl, by decide⟩
theorem dX4_isGuarded_10 : Dc mX4_isGuarded 10 (.iload_n 1) 1 11 := ⟨by decide +kernel, rfl⟩
theorem dX4_isGuarded_11 : Dc mX4_isGuarded 11 (.aload_n 0) 1 12 := ⟨by decide +kernel, rfl⟩
theorem dX4_isGuarded_12 : Dc mX4_isGuarded 12 (.getfield 27) 3 15 := ⟨by decide +kernel, rfl⟩
theorem dX4_isGuarded_15 : Dc mX4_isGuarded 15 (.iload_n 2) 1 16 := ⟨by decide +kernel, rfl⟩
theorem dX4_isGuarded_16 : Dc mX4_isGuarded 16 (.iaload) 1 17 := ⟨by decide +kernel, rfl⟩
theorem dX4_isGuarded_17 : Dj mX4_isGuarded 17 (.if_icmp .ge 7) 3 20 (7) 24 := ⟨by decide +kernel, rfl, by decide⟩
theorem dX4_isGuarded_20 : Dc mX4_isGuarded 20 (.iconst 1) 1 21 := ⟨by decide +kernel, rfl⟩
theorem dX4_isGuarded_21 : Dj mX4_isGuarded 21 (.goto 4) 3 24 (4) 25 := ⟨by decide +kernel, rfl, by decide⟩
theorem dX4_isGuarded_24 : Dc mX4_isGuarded 24 (.iconst 0) 1 25 := ⟨by decide +kernel, rfl⟩
theorem dX4_isGuarded_25 : Dc mX4_isGuarded 25 (.ireturn) 1 26 := ⟨by decide +kernel, rfl⟩
theorem dX4_isJump_0 : Dc mX4_isJump 0 (.aload_n 0) 1 1 := ⟨by decide +kernel, rfl⟩
theorem dX4_isJump_1 : Dc mX4_isJump 1 (.getfield 15) 3 4 := ⟨by decide +kernel, rfl⟩
theorem dX4_isJump_4 : Dc mX4_isJump 4 (.iload_n 1) 1 5 := ⟨by decide +kernel, rfl⟩
theorem dX4_isJump_5 : Dc mX4_isJump 5 (.iaload) 1 6 := ⟨by decide +kernel, rfl⟩
theorem dX4_isJump_6 : Dc mX4_isJump 6 (.bipush 11) 2 8 := ⟨by decide +kernel, rfl⟩
theorem dX4_isJump_8 : Dj mX4_isJump 8 (.if_icmp .eq 14) 3 11 (14) 22 := ⟨by decide +kernel, rfl, by decide⟩
theorem dX4_isJump_11 : Dc mX4_isJump 11 (.aload_n 0) 1 12 := ⟨by decide +kernel, rfl⟩
theorem dX4_isJump_12 : Dc mX4_isJump 12 (.getfield 15) 3 15 := ⟨by decide +kernel, rfl⟩
theorem dX4_isJump_15 : Dc mX4_isJump 15 (.iload_n 1) 1 16 := ⟨by decide +kernel, rfl⟩
theorem dX4_isJump_16 : Dc mX4_isJump 16 (.iaload) 1 17 := ⟨by decide +kernel, rfl⟩
theorem dX4_isJump_17 : Dc mX4_isJump 17 (.bipush 12) 2 19 := ⟨by decide +kernel, rfl⟩
theorem dX4_isJump_19 : Dj mX4_isJump 19 (.if_icmp .ne 7) 3 22 (7) 26 := ⟨by decide +kernel, rfl, by decide⟩
theorem dX4_isJump_22 : Dc mX4_isJump 22 (.iconst 1) 1 23 := ⟨by decide +kernel, rfl⟩
theorem dX4_isJump_23 : Dj mX4_isJump 23 (.goto 4) 3 26 (4) 27 := ⟨by decide +kernel, rfl, by decide⟩
theorem dX4_isJump_26 : Dc mX4_isJump 26 (.iconst 0) 1 27 := ⟨by decide +kernel, rfl⟩
theorem dX4_isJump_27 : Dc mX4_isJump 27 (.ireturn) 1 28 := ⟨by decide +kernel, rfl⟩
theorem dX4_classOfUnmade_0 : Dc mX4_classOfUnmade 0 (.iload_n 1) 1 1 := ⟨by decide +kernel, rfl⟩
theorem dX4_classOfUnmade_1 : Dc mX4_classOfUnmade 1 (.bipush 100) 2 3 := ⟨by decide +kernel, rfl⟩
theorem dX4_classOfUnmade_3 : Dc mX4_classOfUnmade 3 (.isub) 1 4 := ⟨by decide +kernel, rfl⟩
theorem dX4_classOfUnmade_4 : Dc mX4_classOfUnmade 4 (.istore_n 2) 1 5 := ⟨by decide +kernel, rfl⟩
theorem dX4_classOfUnmade_5 : Dc mX4_classOfUnmade 5 (.iload_n 1) 1 6 := ⟨by decide +kernel, rfl⟩
theorem dX4_classOfUnmade_6 : Dc mX4_classOfUnmade 6 (.invokestatic 60) 3 9 := ⟨by decide +kernel, rfl⟩
theorem dX4_classOfUnmade_9 : Dj mX4_classOfUnmade 9 (.ifCond .eq 31) 3 12 (31) 40 := ⟨by decide +kernel, rfl, by decide⟩
theorem dX4_classOfUnmade_12 : Dc mX4_classOfUnmade 12 (.aload_n 0) 1 13 := ⟨by decide +kernel, rfl⟩
theorem dX4_classOfUnmade_13 : Dc mX4_classOfUnmade 13 (.iload_n 2) 1 14 := ⟨by decide +kernel, rfl⟩
theorem dX4_classOfUnmade_14 : Dc mX4_classOfUnmade 14 (.invokevirtual 66) 3 17 := ⟨by decide +kernel, rfl⟩
theorem dX4_classOfUnmade_17 : Dj mX4_classOfUnmade 17 (.ifCond .eq 23) 3 20 (23) 40 := ⟨by decide +kernel, rfl, by decide⟩
theorem dX4_classOfUnmade_20 : Dc mX4_classOfUnmade 20 (.aload_n 0) 1 21 := ⟨by decide +kernel, rfl⟩
theorem dX4_classOfUnmade_21 : Dc mX4_classOfUnmade 21 (.getfield 15) 3 24 := ⟨by decide +kernel, rfl⟩
theorem dX4_classOfUnmade_24 : Dc mX4_classOfUnmade 24 (.iload_n 2) 1 25 := ⟨by decide +kernel, rfl⟩
theorem dX4_classOfUnmade_25 : Dc mX4_classOfUnmade 25 (.iaload) 1 26 := ⟨by decide +kernel, rfl⟩
theorem dX4_classOfUnmade_26 : Dc mX4_classOfUnmade 26 (.bipush 13) 2 28 := ⟨by decide +kernel, rfl⟩
theorem dX4_classOfUnmade_28 : Dj mX4_classOfUnmade 28 (.if_icmp .ne 12) 3 31 (12) 40 := ⟨by decide +kernel, rfl, by decide⟩
theorem dX4_classOfUnmade_31 : Dc mX4_classOfUnmade 31 (.aload_n 0) 1 32 := ⟨by decide +kernel, rfl⟩
theorem dX4_classOfUnmade_32 : Dc mX4_classOfUnmade 32 (.getfield 18) 3 35 := ⟨by decide +kernel, rfl⟩
theorem dX4_classOfUnmade_35 : Dc mX4_classOfUnmade 35 (.iload_n 2) 1 36 := ⟨by decide +kernel, rfl⟩
theorem dX4_classOfUnmade_36 : Dc mX4_classOfUnmade 36 (.iaload) 1 37 := ⟨by decide +kernel, rfl⟩
theorem dX4_classOfUnmade_37 : Dj mX4_classOfUnmade 37 (.goto 4) 3 40 (4) 41 := ⟨by decide +kernel, rfl, by decide⟩
theorem dX4_classOfUnmade_40 : Dc mX4_classOfUnmade 40 (.iconst (-1)) 1 41 := ⟨by decide +kernel, rfl⟩
theorem dX4_classOfUnmade_41 : Dc mX4_classOfUnmade 41 (.ireturn) 1 42 := ⟨by decide +kernel, rfl⟩
theorem dX4_wantedLocals_0 : Dc mX4_wantedLocals 0 (.aload_n 0) 1 1 := ⟨by decide +kernel, rfl⟩
theorem dX4_wantedLocals_1 : Dc mX4_wantedLocals 1 (.getfield 47) 3 4 := ⟨by decide +kernel, rfl⟩
theorem dX4_wantedLocals_4 : Dc mX4_wantedLocals 4 (.istore_n 1) 1 5 := ⟨by decide +kernel, rfl⟩
theorem dX4_wantedLocals_5 : Dc mX4_wantedLocals 5 (.iconst 0) 1 6 := ⟨by decide +kernel, rfl⟩
theorem dX4_wantedLocals_6 : Dc mX4_wantedLocals 6 (.istore_n 2) 1 7 := ⟨by decide +kernel, rfl⟩
theorem dX4_wantedLocals_7 : Dc mX4_wantedLocals 7 (.iload_n 2) 1 8 := ⟨by decide +kernel, rfl⟩
theorem dX4_wantedLocals_8 : Dc mX4_wantedLocals 8 (.aload_n 0) 1 9 := ⟨by decide +kernel, rfl⟩
theorem dX4_wantedLocals_9 : Dc mX4_wantedLocals 9 (.getfield 54) 3 12 := ⟨by decide +kernel, rfl⟩
theorem dX4_wantedLocals_12 : Dj mX4_wantedLocals 12 (.if_icmp .ge 34) 3 15 (34) 46 := ⟨by decide +kernel, rfl, by decide⟩
theorem dX4_wantedLocals_15 : Dc mX4_wantedLocals 15 (.aload_n 0) 1 16 := ⟨by decide +kernel, rfl⟩
theorem dX4_wantedLocals_16 : Dc mX4_wantedLocals 16 (.getfield 39) 3 19 := ⟨by decide +kernel, rfl⟩
theorem dX4_wantedLocals_19 : Dc mX4_wantedLocals 19 (.getfield 69) 3 22 := ⟨by decide +kernel, rfl⟩
theorem dX4_wantedLocals_22 : Dc mX4_wantedLocals 22 (.iload_n 2) 1 23 := ⟨by decide +kernel, rfl⟩
theorem dX4_wantedLocals_23 : Dc mX4_wantedLocals 23 (.aaload) 1 24 := ⟨by decide +kernel, rfl⟩
theorem dX4_wantedLocals_24 : Dc mX4_wantedLocals 24 (.invokevirtual 73) 3 27 := ⟨by decide +kernel, rfl⟩
theorem dX4_wantedLocals_27 : Dj mX4_wantedLocals 27 (.ifCond .eq 13) 3 30 (13) 40 := ⟨by decide +kernel, rfl, by decide⟩
theorem dX4_wantedLocals_30 : Dc mX4_wantedLocals 30 (.iload_n 1) 1 31 := ⟨by decide +kernel, rfl⟩
theorem dX4_wantedLocals_31 : Dc mX4_wantedLocals 31 (.aload_n 0) 1 32 := ⟨by decide +kernel, rfl⟩
theorem dX4_wantedLocals_32 : Dc mX4_wantedLocals 32 (.iload_n 2) 1 33 := ⟨by decide +kernel, rfl⟩
theorem dX4_wantedLocals_33 : Dc mX4_wantedLocals 33 (.invokevirtual 79) 3 36 := ⟨by decide +kernel, rfl⟩
theorem dX4_wantedLocals_36 : Dc mX4_wantedLocals 36 (.invokestatic 83) 3 39 := ⟨by decide +kernel, rfl⟩
theorem dX4_wantedLocals_39 : Dc mX4_wantedLocals 39 (.istore_n 1) 1 40 := ⟨by decide +kernel, rfl⟩
theorem dX4_wantedLocals_40 : Dc mX4_wantedLocals 40 (.iinc 2 1) 3 43 := ⟨by decide +kernel, rfl⟩
theorem dX4_wantedLocals_43 : Dj mX4_wantedLocals 43 (.goto (-36)) 3 46 (-36) 7 := ⟨by decide +kernel, rfl, by decide⟩
theorem dX4_wantedLocals_46 : Dc mX4_wantedLocals 46 (.iload_n 1) 1 47 := ⟨by decide +kernel, rfl⟩
theorem dX4_wantedLocals_47 : Dc mX4_wantedLocals 47 (.ireturn) 1 48 := ⟨by decide +kernel, rfl⟩
theorem dX4_localsOfOp_0 : Dc mX4_localsOfOp 0 (.aload_n 0) 1 1 := ⟨by decide +kernel, rfl⟩
theorem dX4_localsOfOp_1 : Dc mX4_localsOfOp 1 (.getfield 15) 3 4 := ⟨by decide +kernel, rfl⟩
theorem dX4_localsOfOp_4 : Dc mX4_localsOfOp 4 (.iload_n 1) 1 5 := ⟨by decide +kernel, rfl⟩
theorem dX4_localsOfOp_5 : Dc mX4_localsOfOp 5 (.iaload) 1 6 := ⟨by decide +kernel, rfl⟩
theorem dX4_localsOfOp_6 : Dc mX4_localsOfOp 6 (.istore_n 2) 1 7 := ⟨by decide +kernel, rfl⟩
theorem dX4_localsOfOp_7 : Dc mX4_localsOfOp 7 (.iload_n 2) 1 8 := ⟨by decide +kernel, rfl⟩
theorem dX4_localsOfOp_8 : Dc mX4_localsOfOp 8 (.iconst 2) 1 9 := ⟨by decide +kernel, rfl⟩
theorem dX4_localsOfOp_9 : Dj mX4_localsOfOp 9 (.if_icmp .lt 9) 3 12 (9) 18 := ⟨by decide +kernel, rfl, by decide⟩
theorem dX4_localsOfOp_12 : Dc mX4_localsOfOp 12 (.iload_n 2) 1 13 := ⟨by decide +kernel, rfl⟩
theorem dX4_localsOfOp_13 : Dc mX4_localsOfOp 13 (.bipush 7) 2 15 := ⟨by decide +kernel, rfl⟩
theorem dX4_localsOfOp_15 : Dj mX4_localsOfOp 15 (.if_icmp .le 5) 3 18 (5) 20 := ⟨by decide +kernel, rfl, by decide⟩
theorem dX4_localsOfOp_18 : Dc mX4_localsOfOp 18 (.iconst 0) 1 19 := ⟨by decide +kernel, rfl⟩
theorem dX4_localsOfOp_19 : Dc mX4_localsOfOp 19 (.ireturn) 1 20 := ⟨by decide +kernel, rfl⟩
theorem dX4_localsOfOp_20 : Dc mX4_localsOfOp 20 (.aload_n 0) 1 21 := ⟨by decide +kernel, rfl⟩
theorem dX4_localsOfOp_21 : Dc mX4_localsOfOp 21 (.getfield 18) 3 24 := ⟨by decide +kernel, rfl⟩
theorem dX4_localsOfOp_24 : Dc mX4_localsOfOp 24 (.iload_n 1) 1 25 := ⟨by decide +kernel, rfl⟩
theorem dX4_localsOfOp_25 : Dc mX4_localsOfOp 25 (.iaload) 1 26 := ⟨by decide +kernel, rfl⟩
theorem dX4_localsOfOp_26 : Dc mX4_localsOfOp 26 (.iload_n 2) 1 27 := ⟨by decide +kernel, rfl⟩
theorem dX4_localsOfOp_27 : Dc mX4_localsOfOp 27 (.iconst 4) 1 28 := ⟨by decide +kernel, rfl⟩
theorem dX4_localsOfOp_28 : Dj mX4_localsOfOp 28 (.if_icmp .eq 8) 3 31 (8) 36 := ⟨by decide +kernel, rfl, by decide⟩
theorem dX4_localsOfOp_31 : Dc mX4_localsOfOp 31 (.iload_n 2) 1 32 := ⟨by decide +kernel, rfl⟩
theorem dX4_localsOfOp_32 : Dc mX4_localsOfOp 32 (.iconst 5) 1 33 := ⟨by decide +kernel, rfl⟩
theorem dX4_localsOfOp_33 : Dj mX4_localsOfOp 33 (.if_icmp .ne 7) 3 36 (7) 40 := ⟨by decide +kernel, rfl, by decide⟩
theorem dX4_localsOfOp_36 : Dc mX4_localsOfOp 36 (.iconst 2) 1 37 := ⟨by decide +kernel, rfl⟩
theorem dX4_localsOfOp_37 : Dj mX4_localsOfOp 37 (.goto 4) 3 40 (4) 41 := ⟨by decide +kernel, rfl, by decide⟩
theorem dX4_localsOfOp_40 : Dc mX4_localsOfOp 40 (.iconst 1) 1 41 := ⟨by decide +kernel, rfl⟩
theorem dX4_localsOfOp_41 : Dc mX4_localsOfOp 41 (.iadd) 1 42 := ⟨by decide +kernel, rfl⟩
theorem dX4_localsOfOp_42 : Dc mX4_localsOfOp 42 (.ireturn) 1 43 := ⟨by decide +kernel, rfl⟩
end
section
theorem dX5_init_0 : Dc mX5_init 0 (.aload_n 0) 1 1 := ⟨by decide +kernel, rfl⟩
theorem dX5_init_1 : Dc mX5_init 1 (.invokespecial 3) 3 4 := ⟨by decide +kernel, rfl⟩
theorem dX5_init_4 : Dc mX5_init 4 (.aload_n 0) 1 5 := ⟨by decide +kernel, rfl⟩
theorem dX5_init_5 : Dc mX5_init 5 (.new 9) 3 8 := ⟨by decide +kernel, rfl⟩
theorem dX5_init_8 : Dc mX5_init 8 (.dup) 1 9 := ⟨by decide +kernel, rfl⟩
theorem dX5_init_9 : Dc mX5_init 9 (.invokespecial 11) 3 12 := ⟨by decide +kernel, rfl⟩
theorem dX5_init_12 : Dc mX5_init 12 (.putfield 12) 3 15 := ⟨by decide +kernel, rfl⟩
theorem dX5_init_15 : Dc mX5_init 15 (.aload_n 0) 1 16 := ⟨by decide +kernel, rfl⟩
theorem dX5_init_16 : Dc mX5_init 16 (.aload_n 1) 1 17 := ⟨by decide +kernel, rfl⟩
theorem dX5_init_17 : Dc mX5_init 17 (.putfield 18) 3 20 := ⟨by decide +kernel, rfl⟩
theorem dX5_init_20 : Dc mX5_init 20 (.return_) 1 21 := ⟨by decide +kernel, rfl⟩
theorem dX5_perform_0 : Dc mX5_perform 0 (.aload_n 0) 1 1 := ⟨by decide +kernel, rfl⟩
theorem dX5_perform_1 : Dc mX5_perform 1 (.getfield 12) 3 4 := ⟨by decide +kernel, rfl⟩
theorem dX5_perform_4 : Dc mX5_perform 4 (.aload_n 1) 1 5 := ⟨by decide +kernel, rfl⟩
theorem dX5_perform_5 : Dc mX5_perform 5 (.getfield 22) 3 8 := ⟨by decide +kernel, rfl⟩
theorem dX5_perform_8 : Dc mX5_perform 8 (.getfield 28) 3 11 := ⟨by decide +kernel, rfl⟩
theorem dX5_perform_11 : Dc mX5_perform 11 (.iload_n 2) 1 12 := ⟨by decide +kernel, rfl⟩
theorem dX5_perform_12 : Dc mX5_perform 12 (.aaload) 1 13 := ⟨by decide +kernel, rfl⟩
theorem dX5_perform_13 : Dc mX5_perform 13 (.invokevirtual 34) 3 16 := ⟨by decide +kernel, rfl⟩
theorem dX5_perform_16 : Dc mX5_perform 16 (.aload_n 0) 1 17 := ⟨by decide +kernel, rfl⟩
theorem dX5_perform_17 : Dc mX5_perform 17 (.iconst 0) 1 18 := ⟨by decide +kernel, rfl⟩
theorem dX5_perform_18 : Dc mX5_perform 18 (.putfield 38) 3 21 := ⟨by decide +kernel, rfl⟩
theorem dX5_perform_21 : Dc mX5_perform 21 (.aload_n 1) 1 22 := ⟨by decide +kernel, rfl⟩
theorem dX5_perform_22 : Dc mX5_perform 22 (.getfield 42) 3 25 := ⟨by decide +kernel, rfl⟩
theorem dX5_perform_25 : Dc mX5_perform 25 (.iload_n 2) 1 26 := ⟨by decide +kernel, rfl⟩
theorem dX5_perform_26 : Dc mX5_perform 26 (.iaload) 1 27 := ⟨by decide +kernel, rfl⟩
theorem dX5_perform_27 : Dc mX5_perform 27 (.istore_n 3) 1 28 := ⟨by decide +kernel, rfl⟩
theorem dX5_perform_28 : Dc mX5_perform 28 (.iload_n 3) 1 29 := ⟨by decide +kernel, rfl⟩
theorem dX5_perform_29 : Dc mX5_perform 29 (.iconst 2) 1 30 := ⟨by decide +kernel, rfl⟩
theorem dX5_perform_30 : Dj mX5_perform 30 (.if_icmp .lt 23) 3 33 (23) 53 := ⟨by decide +kernel, rfl, by decide⟩
theorem dX5_perform_33 : Dc mX5_perform 33 (.iload_n 3) 1 34 := ⟨by decide +kernel, rfl⟩
theorem dX5_perform_34 : Dc mX5_perform 34 (.bipush 7) 2 36 := ⟨by decide +kernel, rfl⟩
theorem dX5_perform_36 : Dj mX5_perform 36 (.if_icmp .gt 17) 3 39 (17) 53 := ⟨by decide +kernel, rfl, by decide⟩
theorem dX5_perform_39 : Dc mX5_perform 39 (.aload_n 0) 1 40 := ⟨by decide +kernel, rfl⟩
theorem dX5_perform_40 : Dc mX5_perform 40 (.iload_n 3) 1 41 := ⟨by decide +kernel, rfl⟩
theorem dX5_perform_41 : Dc mX5_perform 41 (.aload_n 1) 1 42 := ⟨by decide +kernel, rfl⟩
theorem dX5_perform_42 : Dc mX5_perform 42 (.getfield 46) 3 45 := ⟨by decide +kernel, rfl⟩
theorem dX5_perform_45 : Dc mX5_perform 45 (.iload_n 2) 1 46 := ⟨by decide +kernel, rfl⟩
theorem dX5_perform_46 : Dc mX5_perform 46 (.iaload) 1 47 := ⟨by decide +kernel, rfl⟩
theorem dX5_perform_47 : Dc mX5_perform 47 (.invokevirtual 49) 3 50 := ⟨by decide +kernel, rfl⟩
theorem dX5_perform_50 : Dj mX5_perform 50 (.goto 39) 3 53 (39) 89 := ⟨by decide +kernel, rfl, by decide⟩
theorem dX5_perform_53 : Dc mX5_perform 53 (.iload_n 3) 1 54 := ⟨by decide +kernel, rfl⟩
theorem dX5_perform_54 : Dc mX5_perform 54 (.bipush 13) 2 56 := ⟨by decide +kernel, rfl⟩
theorem dX5_perform_56 : Dj mX5_perform 56 (.if_icmp .eq 15) 3 59 (15) 71 := ⟨by decide +kernel, rfl, by decide⟩
theorem dX5_perform_59 : Dc mX5_perform 59 (.iload_n 3) 1 60 := ⟨by decide +kernel, rfl⟩
theorem dX5_perform_60 : Dc mX5_perform 60 (.bipush 15) 2 62 := ⟨by decide +kernel, rfl⟩
theorem dX5_perform_62 : Dj mX5_perform 62 (.if_icmp .lt 18) 3 65 (18) 80 := ⟨by decide +kernel, rfl, by decide⟩
theorem dX5_perform_65 : Dc mX5_perform 65 (.iload_n 3) 1 66 := ⟨by decide +kernel, rfl⟩
theorem dX5_perform_66 : Dc mX5_perform 66 (.bipush 21) 2 68 := ⟨by decide +kernel, rfl⟩
theorem dX5_perform_68 : Dj mX5_perform 68 (.if_icmp .gt 12) 3 71 (12) 80 := ⟨by decide +kernel, rfl, by decide⟩
theorem dX5_perform_71 : Dc mX5_perform 71 (.aload_n 0) 1 72 := ⟨by decide +kernel, rfl⟩
theorem dX5_perform_72 : Dc mX5_perform 72 (.aload_n 1) 1 73 := ⟨by decide +kernel, rfl⟩
theorem dX5_perform_73 : Dc mX5_perform 73 (.iload_n 2) 1 74 := ⟨by decide +kernel, rfl⟩
theorem dX5_perform_74 : Dc mX5_perform 74 (.invokevirtual 53) 3 77 := ⟨by decide +kernel, rfl⟩
theorem dX5_perform_77 : Dj mX5_perform 77 (.goto 12) 3 80 (12) 89 := ⟨by decide +kernel, rfl, by decide⟩
theorem dX5_perform_80 : Dc mX5_perform 80 (.aload_n 0) 1 81 := ⟨by decide +kernel, rfl⟩
theorem dX5_perform_81 : Dc mX5_perform 81 (.iload_n 3) 1 82 := ⟨by decide +kernel, rfl⟩
theorem dX5_perform_82 : Dc mX5_perform 82 (.aload_n 1) 1 83 := ⟨by decide +kernel, rfl⟩
theorem dX5_perform_83 : Dc mX5_perform 83 (.getfield 57) 3 86 := ⟨by decide +kernel, rfl⟩
theorem dX5_perform_86 : Dc mX5_perform 86 (.invokevirtual 60) 3 89 := ⟨by decide +kernel, rfl⟩
theorem dX5_perform_89 : Dc mX5_perform 89 (.aload_n 0) 1 90 := ⟨by decide +kernel, rfl⟩
theorem dX5_perform_90 : Dc mX5_perform 90 (.getfield 38) 3 93 := ⟨by decide +kernel, rfl⟩
theorem dX5_perform_93 : Dc mX5_perform 93 (.ireturn) 1 94 := ⟨by decide +kernel, rfl⟩
theorem dX5_useLocal_0 : Dc mX5_useLocal 0 (.iload_n 1) 1 1 := ⟨by decide +kernel, rfl⟩
theorem dX5_useLocal_1 : decode mX5_useLocal.2.1 1 = .ok (.tableswitch 144 2 6 #[35, 65, 79, 99, 112], 35) := by decide +kernel
theorem dX5_useLocal_36 : Dc mX5_useLocal 36 (.aload_n 0) 1 37 := ⟨by decide +kernel, rfl⟩
theorem dX5_useLocal_37 : Dc mX5_useLocal 37 (.aload_n 0) 1 38 := ⟨by decide +kernel, rfl⟩
theorem dX5_useLocal_38 : Dc mX5_useLocal 38 (.getfield 12) 3 41 := ⟨by decide +kernel, rfl⟩
theorem dX5_useLocal_41 : Dc mX5_useLocal 41 (.getfield 63) 3 44 := ⟨by decide +kernel, rfl⟩
theorem dX5_useLocal_44 : Dc mX5_useLocal 44 (.iload_n 2) 1 45 := ⟨by decide +kernel, rfl⟩
theorem dX5_useLocal_45 : Dc mX5_useLocal 45 (.iaload) 1 46 := ⟨by decide +kernel, rfl⟩
theorem dX5_useLocal_46 : Dc mX5_useLocal 46 (.iconst 1) 1 47 := ⟨by decide +kernel, rfl⟩
theorem dX5_useLocal_47 : Dj mX5_useLocal 47 (.if_icmp .ne 7) 3 50 (7) 54 := ⟨by decide +kernel, rfl, by decide⟩
theorem dX5_useLocal_50 : Dc mX5_useLocal 50 (.iconst 1) 1 51 := ⟨by decide +kernel, rfl⟩
theorem dX5_useLocal_51 : Dj mX5_useLocal 51 (.goto 4) 3 54 (4) 55 := ⟨by decide +kernel, rfl, by decide⟩
theorem dX5_useLocal_54 : Dc mX5_useLocal 54 (.iconst 0) 1 55 := ⟨by decide +kernel, rfl⟩
theorem dX5_useLocal_55 : Dc mX5_useLocal 55 (.invokevirtual 66) 3 58 := ⟨by decide +kernel, rfl⟩
theorem dX5_useLocal_58 : Dc mX5_useLocal 58 (.aload_n 0) 1 59 := ⟨by decide +kernel, rfl⟩
theorem dX5_useLocal_59 : Dc mX5_useLocal 59 (.iconst 1) 1 60 := ⟨by decide +kernel, rfl⟩
theorem dX5_useLocal_60 : Dc mX5_useLocal 60 (.invokevirtual 70) 3 63 := ⟨by decide +kernel, rfl⟩
theorem dX5_useLocal_63 : Dj mX5_useLocal 63 (.goto 101) 3 66 (101) 164 := ⟨by decide +kernel, rfl, by decide⟩
theorem dX5_useLocal_66 : Dc mX5_useLocal 66 (.aload_n 0) 1 67 := ⟨by decide +kernel, rfl⟩
theorem dX5_useLocal_67 : Dc mX5_useLocal 67 (.iconst 1) 1 68 := ⟨by decide +kernel, rfl⟩
theorem dX5_useLocal_68 : Dc mX5_useLocal 68 (.invokevirtual 74) 3 71 := ⟨by decide +kernel, rfl⟩
theorem dX5_useLocal_71 : Dc mX5_useLocal 71 (.aload_n 0) 1 72 := ⟨by decide +kernel, rfl⟩
theorem dX5_useLocal_72 : Dc mX5_useLocal 72 (.iload_n 2) 1 73 := ⟨by decide +kernel, rfl⟩
theorem dX5_useLocal_73 : Dc mX5_useLocal 73 (.iconst 1) 1 74 := ⟨by decide +kernel, rfl⟩
theorem dX5_useLocal_74 : Dc mX5_useLocal 74 (.invokevirtual 77) 3 77 := ⟨by decide +kernel, rfl⟩
theorem dX5_useLocal_77 : Dj mX5_useLocal 77 (.goto 87) 3 80 (87) 164 := ⟨by decide +kernel, rfl, by decide⟩
theorem dX5_useLocal_80 : Dc mX5_useLocal 80 (.aload_n 0) 1 81 := ⟨by decide +kernel, rfl⟩
theorem dX5_useLocal_81 : Dc mX5_useLocal 81 (.aload_n 0) 1 82 := ⟨by decide +kernel, rfl⟩
theorem dX5_useLocal_82 : Dc mX5_useLocal 82 (.getfield 12) 3 85 := ⟨by decide +kernel, rfl⟩
theorem dX5_useLocal_85 : Dc mX5_useLocal 85 (.iload_n 2) 1 86 := ⟨by decide +kernel, rfl⟩
theorem dX5_useLocal_86 : Dc mX5_useLocal 86 (.invokevirtual 80) 3 89 := ⟨by decide +kernel, rfl⟩
theorem dX5_useLocal_89 : Dc mX5_useLocal 89 (.invokevirtual 66) 3 92 := ⟨by decide +kernel, rfl⟩
theorem dX5_useLocal_92 : Dc mX5_useLocal 92 (.aload_n 0) 1 93 := ⟨by decide +kernel, rfl⟩
theorem dX5_useLocal_93 : Dc mX5_useLocal 93 (.iconst 2) 1 94 := ⟨by decide +kernel, rfl⟩
theorem dX5_useLocal_94 : Dc mX5_useLocal 94 (.invokevirtual 70) 3 97 := ⟨by decide +kernel, rfl⟩
theorem dX5_useLocal_97 : Dj mX5_useLocal 97 (.goto 67) 3 100 (67) 164 := ⟨by decide +kernel, rfl, by decide⟩
theorem dX5_useLocal_100 : Dc mX5_useLocal 100 (.aload_n 0) 1 101 := ⟨by decide +kernel, rfl⟩
theorem dX5_useLocal_101 : Dc mX5_useLocal 101 (.iconst 2) 1 102 := ⟨by decide +kernel, rfl⟩
theorem dX5_useLocal_102 : Dc mX5_useLocal 102 (.invokevirtual 74) 3 105 := ⟨by decide +kernel, rfl⟩
theorem dX5_useLocal_105 : Dc mX5_useLocal 105 (.aload_n 0) 1 106 := ⟨by decide +kernel, rfl⟩
theorem dX5_useLocal_106 : Dc mX5_useLocal 106 (.iload_n 2) 1 107 := ⟨by decide +kernel, rfl⟩
theorem dX5_useLocal_107 : Dc mX5_useLocal 107 (.invokevirtual 84) 3 110 := ⟨by decide +kernel, rfl⟩
theorem dX5_useLocal_110 : Dj mX5_useLocal 110 (.goto 54) 3 113 (54) 164 := ⟨by decide +kernel, rfl, by decide⟩
theorem dX5_useLocal_113 : Dc mX5_useLocal 113 (.aload_n 0) 1 114 := ⟨by decide +kernel, rfl⟩
theorem dX5_useLocal_114 : Dc mX5_useLocal 114 (.aload_n 0) 1 115 := ⟨by decide +kernel, rfl⟩
theorem dX5_useLocal_115 : Dc mX5_useLocal 115 (.getfield 12) 3 118 := ⟨by decide +kernel, rfl⟩
theorem dX5_useLocal_118 : Dc mX5_useLocal 118 (.getfield 63) 3 121 := ⟨by decide +kernel, rfl⟩
theorem dX5_useLocal_121 : Dc mX5_useLocal 121 (.iload_n 2) 1 122 := ⟨by decide +kernel, rfl⟩
theorem dX5_useLocal_122 : Dc mX5_useLocal 122 (.iaload) 1 123 := ⟨by decide +kernel, rfl⟩
theorem dX5_useLocal_123 : Dc mX5_useLocal 123 (.invokestatic 87) 3 126 := ⟨by decide +kernel, rfl⟩
theorem dX5_useLocal_126 : Dc mX5_useLocal 126 (.invokevirtual 66) 3 129 := ⟨by decide +kernel, rfl⟩
theorem dX5_useLocal_129 : Dc mX5_useLocal 129 (.aload_n 0) 1 130 := ⟨by decide +kernel, rfl⟩
theorem dX5_useLocal_130 : Dc mX5_useLocal 130 (.aload_n 0) 1 131 := ⟨by decide +kernel, rfl⟩
theorem dX5_useLocal_131 : Dc mX5_useLocal 131 (.getfield 12) 3 134 := ⟨by decide +kernel, rfl⟩
theorem dX5_useLocal_134 : Dc mX5_useLocal 134 (.getfield 63) 3 137 := ⟨by decide +kernel, rfl⟩
theorem dX5_useLocal_137 : Dc mX5_useLocal 137 (.iload_n 2) 1 138 := ⟨by decide +kernel, rfl⟩
theorem dX5_useLocal_138 : Dc mX5_useLocal 138 (.iaload) 1 139 := ⟨by decide +kernel, rfl⟩
theorem dX5_useLocal_139 : Dc mX5_useLocal 139 (.invokevirtual 70) 3 142 := ⟨by decide +kernel, rfl⟩
theorem dX5_useLocal_142 : Dj mX5_useLocal 142 (.goto 22) 3 145 (22) 164 := ⟨by decide +kernel, rfl, by decide⟩
theorem dX5_useLocal_145 : Dc mX5_useLocal 145 (.aload_n 0) 1 146 := ⟨by decide +kernel, rfl⟩
theorem dX5_useLocal_146 : Dc mX5_useLocal 146 (.invokevirtual 90) 3 149 := ⟨by decide +kernel, rfl⟩
theorem dX5_useLocal_149 : Dc mX5_useLocal 149 (.istore_n 3) 1 150 := ⟨by decide +kernel, rfl⟩
theorem dX5_useLocal_150 : Dc mX5_useLocal 150 (.aload_n 0) 1 151 := ⟨by decide +kernel, rfl⟩
theorem dX5_useLocal_151 : Dc mX5_useLocal 151 (.iload_n 3) 1 152 := ⟨by decide +kernel, rfl⟩
theorem dX5_useLocal_152 : Dc mX5_useLocal 152 (.invokestatic 87) 3 155 := ⟨by decide +kernel, rfl⟩
theorem dX5_useLocal_155 : Dc mX5_useLocal 155 (.invokevirtual 94) 3 158 := ⟨by decide +kernel, rfl⟩
theorem dX5_useLocal_158 : Dc mX5_useLocal 158 (.aload_n 0) 1 159 := ⟨by decide +kernel, rfl⟩
theorem dX5_useLocal_159 : Dc mX5_useLocal 159 (.iload_n 2) 1 160 := ⟨by decide +kernel, rfl⟩
theorem dX5_useLocal_160 : Dc mX5_useLocal 160 (.iload_n 3) 1 161 := ⟨by decide +kernel, rfl⟩
theorem dX5_useLocal_161 : Dc mX5_useLocal 161 (.invokevirtual 77) 3 164 := ⟨by decide +kernel, rfl⟩
theorem dX5_useLocal_164 : Dc mX5_useLocal 164 (.return_) 1 165 := ⟨by decide +kernel, rfl⟩
theorem dX5_useValue_0 : Dc mX5_useValue 0 (.iload_n 1) 1 1 := ⟨by decide +kernel, rfl⟩
theorem dX5_useValue_1 : decode mX5_useValue.2.1 1 = .ok (.tableswitch 244 0 25 #[119, 127, 244, 244, 244, 244, 244, 244, 135, 153, 171, 184, 244, 244, 192, 244, 244, 244, 244, 244, 244, 244, 199, 208, 216, 236], 119) := by decide +kernel
theorem dX5_useValue_120 : Dc mX5_useValue 120 (.aload_n 0) 1 121 := ⟨by decide +kernel, rfl⟩
theorem dX5_useValue_121 : Dc mX5_useValue 121 (.iconst 1) 1 122 := ⟨by decide +kernel, rfl⟩
theorem dX5_useValue_122 : Dc mX5_useValue 122 (.invokevirtual 70) 3 125 := ⟨by decide +kernel, rfl⟩
theorem dX5_useValue_125 : Dj mX5_useValue 125 (.goto 120) 3 128 (120) 245 := ⟨by decide +kernel, rfl, by decide⟩
theorem dX5_useValue_128 : Dc mX5_useValue 128 (.aload_n 0) 1 129 := ⟨by decide +kernel, rfl⟩
theorem dX5_useValue_129 : Dc mX5_useValue 129 (.iconst 2) 1 130 := ⟨by decide +kernel, rfl⟩
theorem dX5_useValue_130 : Dc mX5_useValue 130 (.invokevirtual 70) 3 133 := ⟨by decide +kernel, rfl⟩
theorem dX5_useValue_133 : Dj mX5_useValue 133 (.goto 112) 3 136 (112) 245 := ⟨by decide +kernel, rfl, by decide⟩
theorem dX5_useValue_136 : Dc mX5_useValue 136 (.aload_n 0) 1 137 := ⟨by decide +kernel, rfl⟩
theorem dX5_useValue_137 : Dc mX5_useValue 137 (.iconst 1) 1 138 := ⟨by decide +kernel, rfl⟩
theorem dX5_useValue_138 : Dc mX5_useValue 138 (.invokevirtual 74) 3 141 := ⟨by decide +kernel, rfl⟩
theorem dX5_useValue_141 : Dc mX5_useValue 141 (.aload_n 0) 1 142 := ⟨by decide +kernel, rfl⟩
theorem dX5_useValue_142 : Dc mX5_useValue 142 (.iconst 1) 1 143 := ⟨by decide +kernel, rfl⟩
theorem dX5_useValue_143 : Dc mX5_useValue 143 (.invokevirtual 74) 3 146 := ⟨by decide +kernel, rfl⟩
theorem dX5_useValue_146 : Dc mX5_useValue 146 (.aload_n 0) 1 147 := ⟨by decide +kernel, rfl⟩
theorem dX5_useValue_147 : Dc mX5_useValue 147 (.iconst 1) 1 148 := ⟨by decide +kernel, rfl⟩
theorem dX5_useValue_148 : Dc mX5_useValue 148 (.invokevirtual 70) 3 151 := ⟨by decide +kernel, rfl⟩
theorem dX5_useValue_151 : Dj mX5_useValue 151 (.goto 94) 3 154 (94) 245 := ⟨by decide +kernel, rfl, by decide⟩
theorem dX5_useValue_154 : Dc mX5_useValue 154 (.aload_n 0) 1 155 := ⟨by decide +kernel, rfl⟩
theorem dX5_useValue_155 : Dc mX5_useValue 155 (.iconst 2) 1 156 := ⟨by decide +kernel, rfl⟩
theorem dX5_useValue_156 : Dc mX5_useValue 156 (.invokevirtual 74) 3 159 := ⟨by decide +kernel, rfl⟩
theorem dX5_useValue_159 : Dc mX5_useValue 159 (.aload_n 0) 1 160 := ⟨by decide +kernel, rfl⟩
theorem dX5_useValue_160 : Dc mX5_useValue 160 (.iconst 2) 1 161 := ⟨by decide +kernel, rfl⟩
theorem dX5_useValue_161 : Dc mX5_useValue 161 (.invokevirtual 74) 3 164 := ⟨by decide +kernel, rfl⟩
theorem dX5_useValue_164 : Dc mX5_useValue 164 (.aload_n 0) 1 165 := ⟨by decide +kernel, rfl⟩
theorem dX5_useValue_165 : Dc mX5_useValue 165 (.iconst 2) 1 166 := ⟨by decide +kernel, rfl⟩
theorem dX5_useValue_166 : Dc mX5_useValue 166 (.invokevirtual 70) 3 169 := ⟨by decide +kernel, rfl⟩
theorem dX5_useValue_169 : Dj mX5_useValue 169 (.goto 76) 3 172 (76) 245 := ⟨by decide +kernel, rfl, by decide⟩
theorem dX5_useValue_172 : Dc mX5_useValue 172 (.aload_n 0) 1 173 := ⟨by decide +kernel, rfl⟩
theorem dX5_useValue_173 : Dc mX5_useValue 173 (.iconst 1) 1 174 := ⟨by decide +kernel, rfl⟩
theorem dX5_useValue_174 : Dc mX5_useValue 174 (.invokevirtual 74) 3 177 := ⟨by decide +kernel, rfl⟩
theorem dX5_useValue_177 : Dc mX5_useValue 177 (.aload_n 0) 1 178 := ⟨by decide +kernel, rfl⟩
theorem dX5_useValue_178 : Dc mX5_useValue 178 (.iconst 2) 1 179 := ⟨by decide +kernel, rfl⟩
theorem dX5_useValue_179 : Dc mX5_useValue 179 (.invokevirtual 70) 3 182 := ⟨by decide +kernel, rfl⟩
theorem dX5_useValue_182 : Dj mX5_useValue 182 (.goto 63) 3 185 (63) 245 := ⟨by decide +kernel, rfl, by decide⟩
theorem dX5_useValue_185 : Dc mX5_useValue 185 (.aload_n 0) 1 186 := ⟨by decide +kernel, rfl⟩
theorem dX5_useValue_186 : Dc mX5_useValue 186 (.iconst 1) 1 187 := ⟨by decide +kernel, rfl⟩
theorem dX5_useValue_187 : Dc mX5_useValue 187 (.invokevirtual 74) 3 190 := ⟨by decide +kernel, rfl⟩
theorem dX5_useValue_190 : Dj mX5_useValue 190 (.goto 55) 3 193 (55) 245 := ⟨by decide +kernel, rfl, by decide⟩
theorem dX5_useValue_193 : Dc mX5_useValue 193 (.aload_n 0) 1 194 := ⟨by decide +kernel, rfl⟩
theorem dX5_useValue_194 : Dc mX5_useValue 194 (.invokevirtual 97) 3 197 := ⟨by decide +kernel, rfl⟩
theorem dX5_useValue_197 : Dj mX5_useValue 197 (.goto 48) 3 200 (48) 245 := ⟨by decide +kernel, rfl, by decide⟩
theorem dX5_useValue_200 : Dc mX5_useValue 200 (.aload_n 0) 1 201 := ⟨by decide +kernel, rfl⟩
theorem dX5_useValue_201 : Dc mX5_useValue 201 (.bipush 11) 2 203 := ⟨by decide +kernel, rfl⟩
theorem dX5_useValue_203 : Dc mX5_useValue 203 (.invokevirtual 74) 3 206 := ⟨by decide +kernel, rfl⟩
theorem dX5_useValue_206 : Dj mX5_useValue 206 (.goto 39) 3 209 (39) 245 := ⟨by decide +kernel, rfl, by decide⟩
theorem dX5_useValue_209 : Dc mX5_useValue 209 (.aload_n 0) 1 210 := ⟨by decide +kernel, rfl⟩
theorem dX5_useValue_210 : Dc mX5_useValue 210 (.iload_n 2) 1 211 := ⟨by decide +kernel, rfl⟩
theorem dX5_useValue_211 : Dc mX5_useValue 211 (.invokevirtual 74) 3 214 := ⟨by decide +kernel, rfl⟩
theorem dX5_useValue_214 : Dj mX5_useValue 214 (.goto 31) 3 217 (31) 245 := ⟨by decide +kernel, rfl, by decide⟩
theorem dX5_useValue_217 : Dc mX5_useValue 217 (.aload_n 0) 1 218 := ⟨by decide +kernel, rfl⟩
theorem dX5_useValue_218 : Dc mX5_useValue 218 (.aload_n 0) 1 219 := ⟨by decide +kernel, rfl⟩
theorem dX5_useValue_219 : Dc mX5_useValue 219 (.invokevirtual 90) 3 222 := ⟨by decide +kernel, rfl⟩
theorem dX5_useValue_222 : Dc mX5_useValue 222 (.iconst 3) 1 223 := ⟨by decide +kernel, rfl⟩
theorem dX5_useValue_223 : Dj mX5_useValue 223 (.if_icmp .eq 7) 3 226 (7) 230 := ⟨by decide +kernel, rfl, by decide⟩
theorem dX5_useValue_226 : Dc mX5_useValue 226 (.iconst 1) 1 227 := ⟨by decide +kernel, rfl⟩
theorem dX5_useValue_227 : Dj mX5_useValue 227 (.goto 4) 3 230 (4) 231 := ⟨by decide +kernel, rfl, by decide⟩
theorem dX5_useValue_230 : Dc mX5_useValue 230 (.iconst 0) 1 231 := ⟨by decide +kernel, rfl⟩
theorem dX5_useValue_231 : Dc mX5_useValue 231 (.invokevirtual 94) 3 234 := ⟨by decide +kernel, rfl⟩
theorem dX5_useValue_234 : Dj mX5_useValue 234 (.goto 11) 3 237 (11) 245 := ⟨by decide +kernel, rfl, by decide⟩
theorem dX5_useValue_237 : Dc mX5_useValue 237 (.aload_n 0) 1 238 := ⟨by decide +kernel, rfl⟩
theorem dX5_useValue_238 : Dc mX5_useValue 238 (.iconst 2) 1 239 := ⟨by decide +kernel, rfl⟩
theorem dX5_useValue_239 : Dc mX5_useValue 239 (.invokevirtual 74) 3 242 := ⟨by decide +kernel, rfl⟩
theorem dX5_useValue_242 : Dj mX5_useValue 242 (.goto 3) 3 245 (3) 245 := ⟨by decide +kernel, rfl, by decide⟩
theorem dX5_useValue_245 : Dc mX5_useValue 245 (.return_) 1 246 := ⟨by decide +kernel, rfl⟩
theorem dX5_useThing_0 : Dc mX5_useThing 0 (.aload_n 1) 1 1 := ⟨by decide +kernel, rfl⟩
theorem dX5_useThing_1 : Dc mX5_useThing 1 (.getfield 46) 3 4 := ⟨by decide +kernel, rfl⟩
theorem dX5_useThing_4 : Dc mX5_useThing 4 (.iload_n 2) 1 5 := ⟨by decide +kernel, rfl⟩
theorem dX5_useThing_5 : Dc mX5_useThing 5 (.iaload) 1 6 := ⟨by decide +kernel, rfl⟩
theorem dX5_useThing_6 : Dc mX5_useThing 6 (.istore_n 3) 1 7 := ⟨by decide +kernel, rfl⟩
theorem dX5_useThing_7 : Dc mX5_useThing 7 (.aload_n 1) 1 8 := ⟨by decide +kernel, rfl⟩
theorem dX5_useThing_8 : Dc mX5_useThing 8 (.getfield 42) 3 11 := ⟨by decide +kernel, rfl⟩
theorem dX5_useThing_11 : Dc mX5_useThing 11 (.iload_n 2) 1 12 := ⟨by decide +kernel, rfl⟩
theorem dX5_useThing_12 : Dc mX5_useThing 12 (.iaload) 1 13 := ⟨by decide +kernel, rfl⟩
theorem dX5_useThing_13 : decode mX5_useThing.2.1 13 = .ok (.tableswitch 150 13 20 #[47, 150, 58, 67, 88, 96, 118, 143], 47) := by decide +kernel
theorem dX5_useThing_60 : Dc mX5_useThing 60 (.aload_n 0) 1 61 := ⟨by decide +kernel, rfl⟩
theorem dX5_useThing_61 : Dc mX5_useThing 61 (.bipush 100) 2 63 := ⟨by decide +kernel, rfl⟩
theorem dX5_useThing_63 : Dc mX5_useThing 63 (.iload_n 2) 1 64 := ⟨by decide +kernel, rfl⟩
theorem dX5_useThing_64 : Dc mX5_useThing 64 (.iadd) 1 65 := ⟨by decide +kernel, rfl⟩
theorem dX5_useThing_65 : Dc mX5_useThing 65 (.invokevirtual 70) 3 68 := ⟨by decide +kernel, rfl⟩
theorem dX5_useThing_68 : Dj mX5_useThing 68 (.goto 99) 3 71 (99) 167 := ⟨by decide +kernel, rfl, by decide⟩
theorem dX5_useThing_71 : Dc mX5_useThing 71 (.aload_n 0) 1 72 := ⟨by decide +kernel, rfl⟩
theorem dX5_useThing_72 : Dc mX5_useThing 72 (.aload_n 1) 1 73 := ⟨by decide +kernel, rfl⟩
theorem dX5_useThing_73 : Dc mX5_useThing 73 (.iload_n 3) 1 74 := ⟨by decide +kernel, rfl⟩
theorem dX5_useThing_74 : Dc mX5_useThing 74 (.invokevirtual 100) 3 77 := ⟨by decide +kernel, rfl⟩
theorem dX5_useThing_77 : Dj mX5_useThing 77 (.goto 90) 3 80 (90) 167 := ⟨by decide +kernel, rfl, by decide⟩
theorem dX5_useThing_80 : Dc mX5_useThing 80 (.aload_n 0) 1 81 := ⟨by decide +kernel, rfl⟩
theorem dX5_useThing_81 : Dc mX5_useThing 81 (.bipush 10) 2 83 := ⟨by decide +kernel, rfl⟩
theorem dX5_useThing_83 : Dc mX5_useThing 83 (.iload_n 3) 1 84 := ⟨by decide +kernel, rfl⟩
theorem dX5_useThing_84 : Dc mX5_useThing 84 (.iadd) 1 85 := ⟨by decide +kernel, rfl⟩
theorem dX5_useThing_85 : Dc mX5_useThing 85 (.invokevirtual 74) 3 88 := ⟨by decide +kernel, rfl⟩
theorem dX5_useThing_88 : Dc mX5_useThing 88 (.aload_n 0) 1 89 := ⟨by decide +kernel, rfl⟩
theorem dX5_useThing_89 : Dc mX5_useThing 89 (.aload_n 1) 1 90 := ⟨by decide +kernel, rfl⟩
theorem dX5_useThing_90 : Dc mX5_useThing 90 (.getfield 103) 3 93 := ⟨by decide +kernel, rfl⟩
theorem dX5_useThing_93 : Dc mX5_useThing 93 (.iload_n 2) 1 94 := ⟨by decide +kernel, rfl⟩
theorem dX5_useThing_94 : Dc mX5_useThing 94 (.iaload) 1 95 := ⟨by decide +kernel, rfl⟩
theorem dX5_useThing_95 : Dc mX5_useThing 95 (.invokevirtual 70) 3 98 := ⟨by decide +kernel, rfl⟩
theorem dX5_useThing_98 : Dj mX5_useThing 98 (.goto 69) 3 101 (69) 167 := ⟨by decide +kernel, rfl, by decide⟩
theorem dX5_useThing_101 : Dc mX5_useThing 101 (.aload_n 0) 1 102 := ⟨by decide +kernel, rfl⟩
theorem dX5_useThing_102 : Dc mX5_useThing 102 (.iconst 4) 1 103 := ⟨by decide +kernel, rfl⟩
theorem dX5_useThing_103 : Dc mX5_useThing 103 (.invokevirtual 70) 3 106 := ⟨by decide +kernel, rfl⟩
theorem dX5_useThing_106 : Dj mX5_useThing 106 (.goto 61) 3 109 (61) 167 := ⟨by decide +kernel, rfl, by decide⟩
theorem dX5_useThing_109 : Dc mX5_useThing 109 (.aload_n 0) 1 110 := ⟨by decide +kernel, rfl⟩
theorem dX5_useThing_110 : Dc mX5_useThing 110 (.aload_n 0) 1 111 := ⟨by decide +kernel, rfl⟩
theorem dX5_useThing_111 : Dc mX5_useThing 111 (.invokevirtual 90) 3 114 := ⟨by decide +kernel, rfl⟩
theorem dX5_useThing_114 : Dc mX5_useThing 114 (.invokestatic 106) 3 117 := ⟨by decide +kernel, rfl⟩
theorem dX5_useThing_117 : Dc mX5_useThing 117 (.invokevirtual 94) 3 120 := ⟨by decide +kernel, rfl⟩
theorem dX5_useThing_120 : Dc mX5_useThing 120 (.aload_n 0) 1 121 := ⟨by decide +kernel, rfl⟩
theorem dX5_useThing_121 : Dc mX5_useThing 121 (.bipush 10) 2 123 := ⟨by decide +kernel, rfl⟩
theorem dX5_useThing_123 : Dc mX5_useThing 123 (.iload_n 3) 1 124 := ⟨by decide +kernel, rfl⟩
theorem dX5_useThing_124 : Dc mX5_useThing 124 (.iadd) 1 125 := ⟨by decide +kernel, rfl⟩
theorem dX5_useThing_125 : Dc mX5_useThing 125 (.invokevirtual 70) 3 128 := ⟨by decide +kernel, rfl⟩
theorem dX5_useThing_128 : Dj mX5_useThing 128 (.goto 39) 3 131 (39) 167 := ⟨by decide +kernel, rfl, by decide⟩
theorem dX5_useThing_131 : Dc mX5_useThing 131 (.aload_n 0) 1 132 := ⟨by decide +kernel, rfl⟩
theorem dX5_useThing_132 : Dc mX5_useThing 132 (.iconst 1) 1 133 := ⟨by decide +kernel, rfl⟩
theorem dX5_useThing_133 : Dc mX5_useThing 133 (.invokevirtual 74) 3 136 := ⟨by decide +kernel, rfl⟩
theorem dX5_useThing_136 : Dc mX5_useThing 136 (.aload_n 0) 1 137 := ⟨by decide +kernel, rfl⟩
theorem dX5_useThing_137 : Dc mX5_useThing 137 (.iload_n 3) 1 138 := ⟨by decide +kernel, rfl⟩
theorem dX5_useThing_138 : Dc mX5_useThing 138 (.iconst (-1)) 1 139 := ⟨by decide +kernel, rfl⟩
theorem dX5_useThing_139 : Dj mX5_useThing 139 (.if_icmp .ne 7) 3 142 (7) 146 := ⟨by decide +kernel, rfl, by decide⟩
theorem dX5_useThing_142 : Dc mX5_useThing 142 (.iconst 5) 1 143 := ⟨by decide +kernel, rfl⟩
theorem dX5_useThing_143 : Dj mX5_useThing 143 (.goto 7) 3 146 (7) 150 := ⟨by decide +kernel, rfl, by decide⟩
theorem dX5_useThing_146 : Dc mX5_useThing 146 (.bipush 40) 2 148 := ⟨by decide +kernel, rfl⟩
theorem dX5_useThing_148 : Dc mX5_useThing 148 (.iload_n 3) 1 149 := ⟨by decide +kernel, rfl⟩
theorem dX5_useThing_149 : Dc mX5_useThing 149 (.iadd) 1 150 := ⟨by decide +kernel, rfl⟩
theorem dX5_useThing_150 : Dc mX5_useThing 150 (.invokevirtual 70) 3 153 := ⟨by decide +kernel, rfl⟩
theorem dX5_useThing_153 : Dj mX5_useThing 153 (.goto 14) 3 156 (14) 167 := ⟨by decide +kernel, rfl, by decide⟩
theorem dX5_useThing_156 : Dc mX5_useThing 156 (.aload_n 0) 1 157 := ⟨by decide +kernel, rfl⟩
theorem dX5_useThing_157 : Dc mX5_useThing 157 (.invokevirtual 111) 3 160 := ⟨by decide +kernel, rfl⟩
theorem dX5_useThing_160 : Dj mX5_useThing 160 (.goto 7) 3 163 (7) 167 := ⟨by decide +kernel, rfl, by decide⟩
theorem dX5_useThing_163 : Dc mX5_useThing 163 (.aload_n 0) 1 164 := ⟨by decide +kernel, rfl⟩
theorem dX5_useThing_164 : Dc mX5_useThing 164 (.invokevirtual 114) 3 167 := ⟨by decide +kernel, rfl⟩
theorem dX5_useThing_167 : Dc mX5_useThing 167 (.return_) 1 168 := ⟨by decide +kernel, rfl⟩
theorem dX5_layTop_0 : Dc mX5_layTop 0 (.aload_n 0) 1 1 := ⟨by decide +kernel, rfl⟩
theorem dX5_layTop_1 : Dc mX5_layTop 1 (.invokevirtual 90) 3 4 := ⟨by decide +kernel, rfl⟩
theorem dX5_layTop_4 : Dc mX5_layTop 4 (.istore_n 1) 1 5 := ⟨by decide +kernel, rfl⟩
theorem dX5_layTop_5 : Dc mX5_layTop 5 (.aload_n 0) 1 6 := ⟨by decide +kernel, rfl⟩
theorem dX5_layTop_6 : Dc mX5_layTop 6 (.iload_n 1) 1 7 := ⟨by decide +kernel, rfl⟩
theorem dX5_layTop_7 : Dc mX5_layTop 7 (.iconst 3) 1 8 := ⟨by decide +kernel, rfl⟩
theorem dX5_layTop_8 : Dj mX5_layTop 8 (.if_icmp .eq 7) 3 11 (7) 15 := ⟨by decide +kernel, rfl, by decide⟩
theorem dX5_layTop_11 : Dc mX5_layTop 11 (.iconst 1) 1 12 := ⟨by decide +kernel, rfl⟩
theorem dX5_layTop_12 : Dj mX5_layTop 12 (.goto 4) 3 15 (4) 16 := ⟨by decide +kernel, rfl, by decide⟩
theorem dX5_layTop_15 : Dc mX5_layTop 15 (.iconst 0) 1 16 := ⟨by decide +kernel, rfl⟩
theorem dX5_layTop_16 : Dc mX5_layTop 16 (.invokevirtual 94) 3 19 := ⟨by decide +kernel, rfl⟩
theorem dX5_layTop_19 : Dc mX5_layTop 19 (.aload_n 0) 1 20 := ⟨by decide +kernel, rfl⟩
theorem dX5_layTop_20 : Dc mX5_layTop 20 (.iload_n 1) 1 21 := ⟨by decide +kernel, rfl⟩
theorem dX5_layTop_21 : Dc mX5_layTop 21 (.invokevirtual 70) 3 24 := ⟨by decide +kernel, rfl⟩
theorem dX5_layTop_24 : Dc mX5_layTop 24 (.aload_n 0) 1 25 := ⟨by decide +kernel, rfl⟩
theorem dX5_layTop_25 : Dc mX5_layTop 25 (.iload_n 1) 1 26 := ⟨by decide +kernel, rfl⟩
theorem dX5_layTop_26 : Dc mX5_layTop 26 (.invokevirtual 70) 3 29 := ⟨by decide +kernel, rfl⟩
theorem dX5_layTop_29 : Dc mX5_layTop 29 (.return_) 1 30 := ⟨by decide +kernel, rfl⟩
theorem dX5_make_0 : Dc mX5_make 0 (.aload_n 0) 1 1 := ⟨by decide +kernel, rfl⟩
theorem dX5_make_1 : Dc mX5_make 1 (.invokevirtual 90) 3 4 := ⟨by decide +kernel, rfl⟩
theorem dX5_make_4 : Dc mX5_make 4 (.istore_n 3) 1 5 := ⟨by decide +kernel, rfl⟩
theorem dX5_make_5 : Dc mX5_make 5 (.aload_n 0) 1 6 := ⟨by decide +kernel, rfl⟩
theorem dX5_make_6 : Dc mX5_make 6 (.aload_n 1) 1 7 := ⟨by decide +kernel, rfl⟩
theorem dX5_make_7 : Dc mX5_make 7 (.iload_n 3) 1 8 := ⟨by decide +kernel, rfl⟩
theorem dX5_make_8 : Dc mX5_make 8 (.invokevirtual 117) 3 11 := ⟨by decide +kernel, rfl⟩
theorem dX5_make_11 : Dc mX5_make 11 (.iload_n 2) 1 12 := ⟨by decide +kernel, rfl⟩
theorem dX5_make_12 : Dj mX5_make 12 (.if_icmp .ne 7) 3 15 (7) 19 := ⟨by decide +kernel, rfl, by decide⟩
theorem dX5_make_15 : Dc mX5_make 15 (.iconst 1) 1 16 := ⟨by decide +kernel, rfl⟩
theorem dX5_make_16 : Dj mX5_make 16 (.goto 4) 3 19 (4) 20 := ⟨by decide +kernel, rfl, by decide⟩
theorem dX5_make_19 : Dc mX5_make 19 (.iconst 0) 1 20 := ⟨by decide +kernel, rfl⟩
theorem dX5_make_20 : Dc mX5_make 20 (.invokevirtual 94) 3 23 := ⟨by decide +kernel, rfl⟩
theorem dX5_make_23 : Dc mX5_make 23 (.aload_n 0) 1 24 := ⟨by decide +kernel, rfl⟩
theorem dX5_make_24 : Dc mX5_make 24 (.getfield 38) 3 27 := ⟨by decide +kernel, rfl⟩
theorem dX5_make_27 : Dj mX5_make 27 (.ifCond .ne 15) 3 30 (15) 42 := ⟨by decide +kernel, rfl, by decide⟩
theorem dX5_make_30 : Dc mX5_make 30 (.aload_n 0) 1 31 := ⟨by decide +kernel, rfl⟩
theorem dX5_make_31 : Dc mX5_make 31 (.getfield 12) 3 34 := ⟨by decide +kernel, rfl⟩
theorem dX5_make_34 : Dc mX5_make 34 (.iload_n 3) 1 35 := ⟨by decide +kernel, rfl⟩
theorem dX5_make_35 : Dc mX5_make 35 (.bipush 10) 2 37 := ⟨by decide +kernel, rfl⟩
theorem dX5_make_37 : Dc mX5_make 37 (.iload_n 2) 1 38 := ⟨by decide +kernel, rfl⟩
theorem dX5_make_38 : Dc mX5_make 38 (.iadd) 1 39 := ⟨by decide +kernel, rfl⟩
theorem dX5_make_39 : Dc mX5_make 39 (.invokevirtual 121) 3 42 := ⟨by decide +kernel, rfl⟩
theorem dX5_make_42 : Dc mX5_make 42 (.return_) 1 43 := ⟨by decide +kernel, rfl⟩
theorem dX5_loadElement_0 : Dc mX5_loadElement 0 (.aload_n 0) 1 1 := ⟨by decide +kernel, rfl⟩
theorem dX5_loadElement_1 : Dc mX5_loadElement 1 (.iconst 1) 1 2 := ⟨by decide +kernel, rfl⟩
theorem dX5_loadElement_2 : Dc mX5_loadElement 2 (.invokevirtual 74) 3 5 := ⟨by decide +kernel, rfl⟩
theorem dX5_loadElement_5 : Dc mX5_loadElement 5 (.aload_n 0) 1 6 := ⟨by decide +kernel, rfl⟩
theorem dX5_loadElement_6 : Dc mX5_loadElement 6 (.invokevirtual 90) 3 9 := ⟨by decide +kernel, rfl⟩
theorem dX5_loadElement_9 : Dc mX5_loadElement 9 (.istore_n 1) 1 10 := ⟨by decide +kernel, rfl⟩
theorem dX5_loadElement_10 : Dc mX5_loadElement 10 (.iload_n 1) 1 11 := ⟨by decide +kernel, rfl⟩
theorem dX5_loadElement_11 : Dc mX5_loadElement 11 (.iconst 5) 1 12 := ⟨by decide +kernel, rfl⟩
theorem dX5_loadElement_12 : Dj mX5_loadElement 12 (.if_icmp .ne 11) 3 15 (11) 23 := ⟨by decide +kernel, rfl, by decide⟩
theorem dX5_loadElement_15 : Dc mX5_loadElement 15 (.aload_n 0) 1 16 := ⟨by decide +kernel, rfl⟩
theorem dX5_loadElement_16 : Dc mX5_loadElement 16 (.iconst 1) 1 17 := ⟨by decide +kernel, rfl⟩
theorem dX5_loadElement_17 : Dc mX5_loadElement 17 (.invokevirtual 70) 3 20 := ⟨by decide +kernel, rfl⟩
theorem dX5_loadElement_20 : Dj mX5_loadElement 20 (.goto 43) 3 23 (43) 63 := ⟨by decide +kernel, rfl, by decide⟩
theorem dX5_loadElement_23 : Dc mX5_loadElement 23 (.iload_n 1) 1 24 := ⟨by decide +kernel, rfl⟩
theorem dX5_loadElement_24 : Dc mX5_loadElement 24 (.invokestatic 124) 3 27 := ⟨by decide +kernel, rfl⟩
theorem dX5_loadElement_27 : Dj mX5_loadElement 27 (.ifCond .eq 17) 3 30 (17) 44 := ⟨by decide +kernel, rfl, by decide⟩
theorem dX5_loadElement_30 : Dc mX5_loadElement 30 (.aload_n 0) 1 31 := ⟨by decide +kernel, rfl⟩
theorem dX5_loadElement_31 : Dc mX5_loadElement 31 (.bipush 10) 2 33 := ⟨by decide +kernel, rfl⟩
theorem dX5_loadElement_33 : Dc mX5_loadElement 33 (.iload_n 1) 1 34 := ⟨by decide +kernel, rfl⟩
theorem dX5_loadElement_34 : Dc mX5_loadElement 34 (.iadd) 1 35 := ⟨by decide +kernel, rfl⟩
theorem dX5_loadElement_35 : Dc mX5_loadElement 35 (.bipush 40) 2 37 := ⟨by decide +kernel, rfl⟩
theorem dX5_loadElement_37 : Dc mX5_loadElement 37 (.isub) 1 38 := ⟨by decide +kernel, rfl⟩
theorem dX5_loadElement_38 : Dc mX5_loadElement 38 (.invokevirtual 70) 3 41 := ⟨by decide +kernel, rfl⟩
theorem dX5_loadElement_41 : Dj mX5_loadElement 41 (.goto 22) 3 44 (22) 63 := ⟨by decide +kernel, rfl, by decide⟩
theorem dX5_loadElement_44 : Dc mX5_loadElement 44 (.aload_n 0) 1 45 := ⟨by decide +kernel, rfl⟩
theorem dX5_loadElement_45 : Dc mX5_loadElement 45 (.iload_n 1) 1 46 := ⟨by decide +kernel, rfl⟩
theorem dX5_loadElement_46 : Dc mX5_loadElement 46 (.iconst 4) 1 47 := ⟨by decide +kernel, rfl⟩
theorem dX5_loadElement_47 : Dj mX5_loadElement 47 (.if_icmp .ne 7) 3 50 (7) 54 := ⟨by decide +kernel, rfl, by decide⟩
theorem dX5_loadElement_50 : Dc mX5_loadElement 50 (.iconst 1) 1 51 := ⟨by decide +kernel, rfl⟩
theorem dX5_loadElement_51 : Dj mX5_loadElement 51 (.goto 4) 3 54 (4) 55 := ⟨by decide +kernel, rfl, by decide⟩
theorem dX5_loadElement_54 : Dc mX5_loadElement 54 (.iconst 0) 1 55 := ⟨by decide +kernel, rfl⟩
theorem dX5_loadElement_55 : Dc mX5_loadElement 55 (.invokevirtual 94) 3 58 := ⟨by decide +kernel, rfl⟩
theorem dX5_loadElement_58 : Dc mX5_loadElement 58 (.aload_n 0) 1 59 := ⟨by decide +kernel, rfl⟩
theorem dX5_loadElement_59 : Dc mX5_loadElement 59 (.iconst 4) 1 60 := ⟨by decide +kernel, rfl⟩
theorem dX5_loadElement_60 : Dc mX5_loadElement 60 (.invokevirtual 70) 3 63 := ⟨by decide +kernel, rfl⟩
theorem dX5_loadElement_63 : Dc mX5_loadElement 63 (.return_) 1 64 := ⟨by decide +kernel, rfl⟩
theorem dX5_storeElement_0 : Dc mX5_storeElement 0 (.aload_n 0) 1 1 := ⟨by decide +kernel, rfl⟩
theorem dX5_storeElement_1 : Dc mX5_storeElement 1 (.invokevirtual 90) 3 4 := ⟨by decide +kernel, rfl⟩
theorem dX5_storeElement_4 : Dc mX5_storeElement 4 (.istore_n 1) 1 5 := ⟨by decide +kernel, rfl⟩
theorem dX5_storeElement_5 : Dc mX5_storeElement 5 (.aload_n 0) 1 6 := ⟨by decide +kernel, rfl⟩
theorem dX5_storeElement_6 : Dc mX5_storeElement 6 (.iload_n 1) 1 7 := ⟨by decide +kernel, rfl⟩
theorem dX5_storeElement_7 : Dc mX5_storeElement 7 (.iconst 1) 1 8 := ⟨by decide +kernel, rfl⟩
theorem dX5_storeElement_8 : Dj mX5_storeElement 8 (.if_icmp .eq 10) 3 11 (10) 18 := ⟨by decide +kernel, rfl, by decide⟩
theorem dX5_storeElement_11 : Dc mX5_storeElement 11 (.iload_n 1) 1 12 := ⟨by decide +kernel, rfl⟩
theorem dX5_storeElement_12 : Dc mX5_storeElement 12 (.invokestatic 106) 3 15 := ⟨by decide +kernel, rfl⟩
theorem dX5_storeElement_15 : Dj mX5_storeElement 15 (.ifCond .eq 7) 3 18 (7) 22 := ⟨by decide +kernel, rfl, by decide⟩
theorem dX5_storeElement_18 : Dc mX5_storeElement 18 (.iconst 1) 1 19 := ⟨by decide +kernel, rfl⟩
theorem dX5_storeElement_19 : Dj mX5_storeElement 19 (.goto 4) 3 22 (4) 23 := ⟨by decide +kernel, rfl, by decide⟩
theorem dX5_storeElement_22 : Dc mX5_storeElement 22 (.iconst 0) 1 23 := ⟨by decide +kernel, rfl⟩
theorem dX5_storeElement_23 : Dc mX5_storeElement 23 (.invokevirtual 94) 3 26 := ⟨by decide +kernel, rfl⟩
theorem dX5_storeElement_26 : Dc mX5_storeElement 26 (.aload_n 0) 1 27 := ⟨by decide +kernel, rfl⟩
theorem dX5_storeElement_27 : Dc mX5_storeElement 27 (.iconst 1) 1 28 := ⟨by decide +kernel, rfl⟩
theorem dX5_storeElement_28 : Dc mX5_storeElement 28 (.invokevirtual 74) 3 31 := ⟨by decide +kernel, rfl⟩
theorem dX5_storeElement_31 : Dc mX5_storeElement 31 (.aload_n 0) 1 32 := ⟨by decide +kernel, rfl⟩
theorem dX5_storeElement_32 : Dc mX5_storeElement 32 (.invokevirtual 90) 3 35 := ⟨by decide +kernel, rfl⟩
theorem dX5_storeElement_35 : Dc mX5_storeElement 35 (.istore_n 2) 1 36 := ⟨by decide +kernel, rfl⟩
theorem dX5_storeElement_36 : Dc mX5_storeElement 36 (.aload_n 0) 1 37 := ⟨by decide +kernel, rfl⟩
theorem dX5_storeElement_37 : Dc mX5_storeElement 37 (.iload_n 2) 1 38 := ⟨by decide +kernel, rfl⟩
theorem dX5_storeElement_38 : Dc mX5_storeElement 38 (.iconst 4) 1 39 := ⟨by decide +kernel, rfl⟩
theorem dX5_storeElement_39 : Dj mX5_storeElement 39 (.if_icmp .eq 23) 3 42 (23) 62 := ⟨by decide +kernel, rfl, by decide⟩
theorem dX5_storeElement_42 : Dc mX5_storeElement 42 (.iload_n 1) 1 43 := ⟨by decide +kernel, rfl⟩
theorem dX5_storeElement_43 : Dc mX5_storeElement 43 (.iconst 1) 1 44 := ⟨by decide +kernel, rfl⟩
theorem dX5_storeElement_44 : Dj mX5_storeElement 44 (.if_icmp .ne 11) 3 47 (11) 55 := ⟨by decide +kernel, rfl, by decide⟩
theorem dX5_storeElement_47 : Dc mX5_storeElement 47 (.iload_n 2) 1 48 := ⟨by decide +kernel, rfl⟩
theorem dX5_storeElement_48 : Dc mX5_storeElement 48 (.iconst 5) 1 49 := ⟨by decide +kernel, rfl⟩
theorem dX5_storeElement_49 : Dj mX5_storeElement 49 (.if_icmp .ne 17) 3 52 (17) 66 := ⟨by decide +kernel, rfl, by decide⟩
theorem dX5_storeElement_52 : Dj mX5_storeElement 52 (.goto 10) 3 55 (10) 62 := ⟨by decide +kernel, rfl, by decide⟩
theorem dX5_storeElement_55 : Dc mX5_storeElement 55 (.iload_n 2) 1 56 := ⟨by decide +kernel, rfl⟩
theorem dX5_storeElement_56 : Dc mX5_storeElement 56 (.invokestatic 124) 3 59 := ⟨by decide +kernel, rfl⟩
theorem dX5_storeElement_59 : Dj mX5_storeElement 59 (.ifCond .eq 7) 3 62 (7) 66 := ⟨by decide +kernel, rfl, by decide⟩
theorem dX5_storeElement_62 : Dc mX5_storeElement 62 (.iconst 1) 1 63 := ⟨by decide +kernel, rfl⟩
theorem dX5_storeElement_63 : Dj mX5_storeElement 63 (.goto 4) 3 66 (4) 67 := ⟨by decide +kernel, rfl, by decide⟩
theorem dX5_storeElement_66 : Dc mX5_storeElement 66 (.iconst 0) 1 67 := ⟨by decide +kernel, rfl⟩
theorem dX5_storeElement_67 : Dc mX5_storeElement 67 (.invokevirtual 94) 3 70 := ⟨by decide +kernel, rfl⟩
theorem dX5_storeElement_70 : Dc mX5_storeElement 70 (.return_) 1 71 := ⟨by decide +kernel, rfl⟩
theorem dX5_isReferenceOrUnmade_0 : Dc mX5_isReferenceOrUnmade 0 (.iload_n 0) 1 1 := ⟨by decide +kernel, rfl⟩
theorem dX5_isReferenceOrUnmade_1 : Dc mX5_isReferenceOrUnmade 1 (.invokestatic 106) 3 4 := ⟨by decide +kernel, rfl⟩
theorem dX5_isReferenceOrUnmade_4 : Dj mX5_isReferenceOrUnmade 4 (.ifCond .ne 10) 3 7 (10) 14 := ⟨by decide +kernel, rfl, by decide⟩
theorem dX5_isReferenceOrUnmade_7 : Dc mX5_isReferenceOrUnmade 7 (.iload_n 0) 1 8 := ⟨by decide +kernel, rfl⟩
theorem dX5_isReferenceOrUnmade_8 : Dc mX5_isReferenceOrUnmade 8 (.invokestatic 127) 3 11 := ⟨by decide +kernel, rfl⟩
theorem dX5_isReferenceOrUnmade_11 : Dj mX5_isReferenceOrUnmade 11 (.ifCond .eq 7) 3 14 (7) 18 := ⟨by decide +kernel, rfl, by decide⟩
theorem dX5_isReferenceOrUnmade_14 : Dc mX5_isReferenceOrUnmade 14 (.iconst 1) 1 15 := ⟨by decide +kernel, rfl⟩
theorem dX5_isReferenceOrUnmade_15 : Dj mX5_isReferenceOrUnmade 15 (.goto 4) 3 18 (4) 19 := ⟨by decide +kernel, rfl, by decide⟩
theorem dX5_isReferenceOrUnmade_18 : Dc mX5_isReferenceOrUnmade 18 (.iconst 0) 1 19 := ⟨by decide +kernel, rfl⟩
theorem dX5_isReferenceOrUnmade_19 : Dc mX5_isReferenceOrUnmade 19 (.ireturn) 1 20 := ⟨by decide +kernel, rfl⟩
theorem dX5_breakRule_0 : Dc mX5_breakRule 0 (.aload_n 0) 1 1 := ⟨by decide +kernel, rfl⟩
theorem dX5_breakRule_1 : Dc mX5_breakRule 1 (.aload_n 0) 1 2 := ⟨by decide +kernel, rfl⟩
theorem dX5_breakRule_2 : Dc mX5_breakRule 2 (.getfield 38) 3 5 := ⟨by decide +kernel, rfl⟩
theorem dX5_breakRule_5 : Dj mX5_breakRule 5 (.ifCond .ne 7) 3 8 (7) 12 := ⟨by decide +kernel, rfl, by decide⟩
theorem dX5_breakRule_8 : Dc mX5_breakRule 8 (.iload_n 1) 1 9 := ⟨by decide +kernel, rfl⟩
theorem dX5_breakRule_9 : Dj mX5_breakRule 9 (.goto 7) 3 12 (7) 16 := ⟨by decide +kernel, rfl, by decide⟩
theorem dX5_breakRule_12 : Dc mX5_breakRule 12 (.aload_n 0) 1 13 := ⟨by decide +kernel, rfl⟩
theorem dX5_breakRule_13 : Dc mX5_breakRule 13 (.getfield 38) 3 16 := ⟨by decide +kernel, rfl⟩
theorem dX5_breakRule_16 : Dc mX5_breakRule 16 (.putfield 38) 3 19 := ⟨by decide +kernel, rfl⟩
theorem dX5_breakRule_19 : Dc mX5_breakRule 19 (.return_) 1 20 := ⟨by decide +kernel, rfl⟩
theorem dX5_expect_0 : Dc mX5_expect 0 (.iload_n 1) 1 1 := ⟨by decide +kernel, rfl⟩
theorem dX5_expect_1 : Dj mX5_expect 1 (.ifCond .ne 8) 3 4 (8) 9 := ⟨by decide +kernel, rfl, by decide⟩
theorem dX5_expect_4 : Dc mX5_expect 4 (.aload_n 0) 1 5 := ⟨by decide +kernel, rfl⟩
theorem dX5_expect_5 : Dc mX5_expect 5 (.iconst 3) 1 6 := ⟨by decide +kernel, rfl⟩
theorem dX5_expect_6 : Dc mX5_expect 6 (.invokevirtual 130) 3 9 := ⟨by decide +kernel, rfl⟩
theorem dX5_expect_9 : Dc mX5_expect 9 (.return_) 1 10 := ⟨by decide +kernel, rfl⟩
theorem dX5_expectInLocal_0 : Dc mX5_expectInLocal 0 (.iload_n 1) 1 1 := ⟨by decide +kernel, rfl⟩
theorem dX5_expectInLocal_1 : Dj mX5_expectInLocal 1 (.ifCond .ne 8) 3 4 (8) 9 := ⟨by decide +kernel, rfl, by decide⟩
theorem dX5_expectInLocal_4 : Dc mX5_expectInLocal 4 (.aload_n 0) 1 5 := ⟨by decide +kernel, rfl⟩
theorem dX5_expectInLocal_5 : Dc mX5_expectInLocal 5 (.iconst 4) 1 6 := ⟨by decide +kernel, rfl⟩
theorem dX5_expectInLocal_6 : Dc mX5_expectInLocal 6 (.invokevirtual 130) 3 9 := ⟨by decide +kernel, rfl⟩
theorem dX5_expectInLocal_9 : Dc mX5_expectInLocal 9 (.return_) 1 10 := ⟨by decide +kernel, rfl⟩
theorem dX5_takeAny_0 : Dc mX5_takeAny 0 (.aload_n 0) 1 1 := ⟨by decide +kernel, rfl⟩
theorem dX5_takeAny_1 : Dc mX5_takeAny 1 (.getfield 12) 3 4 := ⟨by decide +kernel, rfl⟩
theorem dX5_takeAny_4 : Dc mX5_takeAny 4 (.getfield 133) 3 7 := ⟨by decide +kernel, rfl⟩
theorem dX5_takeAny_7 : Dc mX5_takeAny 7 (.iconst 1) 1 8 := ⟨by decide +kernel, rfl⟩
theorem dX5_takeAny_8 : Dj mX5_takeAny 8 (.if_icmp .ge 8) 3 11 (8) 16 := ⟨by decide +kernel, rfl, by decide⟩
theorem dX5_takeAny_11 : Dc mX5_takeAny 11 (.aload_n 0) 1 12 := ⟨by decide +kernel, rfl⟩
theorem dX5_takeAny_12 : Dc mX5_takeAny 12 (.iconst 2) 1 13 := ⟨by decide +kernel, rfl⟩
theorem dX5_takeAny_13 : Dc mX5_takeAny 13 (.invokevirtual 130) 3 16 := ⟨by decide +kernel, rfl⟩
theorem dX5_takeAny_16 : Dc mX5_takeAny 16 (.aload_n 0) 1 17 := ⟨by decide +kernel, rfl⟩
theorem dX5_takeAny_17 : Dc mX5_takeAny 17 (.getfield 38) 3 20 := ⟨by decide +kernel, rfl⟩
theorem dX5_takeAny_20 : Dj mX5_takeAny 20 (.ifCond .eq 5) 3 23 (5) 25 := ⟨by decide +kernel, rfl, by decide⟩
theorem dX5_takeAny_23 : Dc mX5_takeAny 23 (.iconst 0) 1 24 := ⟨by decide +kernel, rfl⟩
theorem dX5_takeAny_24 : Dc mX5_takeAny 24 (.ireturn) 1 25 := ⟨by decide +kernel, rfl⟩
theorem dX5_takeAny_25 : Dc mX5_takeAny 25 (.aload_n 0) 1 26 := ⟨by decide +kernel, rfl⟩
theorem dX5_takeAny_26 : Dc mX5_takeAny 26 (.getfield 12) 3 29 := ⟨by decide +kernel, rfl⟩
theorem dX5_takeAny_29 : Dc mX5_takeAny 29 (.invokevirtual 136) 3 32 := ⟨by decide +kernel, rfl⟩
theorem dX5_takeAny_32 : Dc mX5_takeAny 32 (.istore_n 1) 1 33 := ⟨by decide +kernel, rfl⟩
theorem dX5_takeAny_33 : Dc mX5_takeAny 33 (.aload_n 0) 1 34 := ⟨by decide +kernel, rfl⟩
theorem dX5_takeAny_34 : Dc mX5_takeAny 34 (.getfield 12) 3 37 := ⟨by decide +kernel, rfl⟩
theorem dX5_takeAny_37 : Dc mX5_takeAny 37 (.dup) 1 38 := ⟨by decide +kernel, rfl⟩
theorem dX5_takeAny_38 : Dc mX5_takeAny 38 (.getfield 133) 3 41 := ⟨by decide +kernel, rfl⟩
theorem dX5_takeAny_41 : Dc mX5_takeAny 41 (.iconst 1) 1 42 := ⟨by decide +kernel, rfl⟩
theorem dX5_takeAny_42 : Dc mX5_takeAny 42 (.isub) 1 43 := ⟨by decide +kernel, rfl⟩
theorem dX5_takeAny_43 : Dc mX5_takeAny 43 (.putfield 133) 3 46 := ⟨by decide +kernel, rfl⟩
theorem dX5_takeAny_46 : Dc mX5_takeAny 46 (.iload_n 1) 1 47 := ⟨by decide +kernel, rfl⟩
theorem dX5_takeAny_47 : Dc mX5_takeAny 47 (.ireturn) 1 48 := ⟨by decide +kernel, rfl⟩
theorem dX5_take_0 : Dc mX5_take 0 (.iload_n 1) 1 1 := ⟨by decide +kernel, rfl⟩
theorem dX5_take_1 : Dc mX5_take 1 (.iconst 2) 1 2 := ⟨by decide +kernel, rfl⟩
theorem dX5_take_2 : Dj mX5_take 2 (.if_icmp .ne 10) 3 5 (10) 12 := ⟨by decide +kernel, rfl, by decide⟩
theorem dX5_take_5 : Dc mX5_take 5 (.aload_n 0) 1 6 := ⟨by decide +kernel, rfl⟩
theorem dX5_take_6 : Dc mX5_take 6 (.invokevirtual 139) 3 9 := ⟨by decide +kernel, rfl⟩
theorem dX5_take_9 : Dj mX5_take 9 (.goto 25) 3 12 (25) 34 := ⟨by decide +kernel, rfl, by decide⟩
theorem dX5_take_12 : Dc mX5_take 12 (.iload_n 1) 1 13 := ⟨by decide +kernel, rfl⟩
theorem dX5_take_13 : Dj mX5_take 13 (.ifCond .eq 21) 3 16 (21) 34 := ⟨by decide +kernel, rfl, by decide⟩
theorem dX5_take_16 : Dc mX5_take 16 (.aload_n 0) 1 17 := ⟨by decide +kernel, rfl⟩
theorem dX5_take_17 : Dc mX5_take 17 (.invokevirtual 90) 3 20 := ⟨by decide +kernel, rfl⟩
theorem dX5_take_20 : Dc mX5_take 20 (.istore_n 2) 1 21 := ⟨by decide +kernel, rfl⟩
theorem dX5_take_21 : Dc mX5_take 21 (.aload_n 0) 1 22 := ⟨by decide +kernel, rfl⟩
theorem dX5_take_22 : Dc mX5_take 22 (.aload_n 0) 1 23 := ⟨by decide +kernel, rfl⟩
theorem dX5_take_23 : Dc mX5_take 23 (.getfield 18) 3 26 := ⟨by decide +kernel, rfl⟩
theorem dX5_take_26 : Dc mX5_take 26 (.iload_n 2) 1 27 := ⟨by decide +kernel, rfl⟩
theorem dX5_take_27 : Dc mX5_take 27 (.iload_n 1) 1 28 := ⟨by decide +kernel, rfl⟩
theorem dX5_take_28 : Dc mX5_take 28 (.invokevirtual 142) 3 31 := ⟨by decide +kernel, rfl⟩
theorem dX5_take_31 : Dc mX5_take 31 (.invokevirtual 94) 3 34 := ⟨by decide +kernel, rfl⟩
theorem dX5_take_34 : Dc mX5_take 34 (.return_) 1 35 := ⟨by decide +kernel, rfl⟩
theorem dX5_takeLong_0 : Dc mX5_takeLong 0 (.aload_n 0) 1 1 := ⟨by decide +kernel, rfl⟩
theorem dX5_takeLong_1 : Dc mX5_takeLong 1 (.getfield 12) 3 4 := ⟨by decide +kernel, rfl⟩
theorem dX5_takeLong_4 : Dc mX5_takeLong 4 (.getfield 133) 3 7 := ⟨by decide +kernel, rfl⟩
theorem dX5_takeLong_7 : Dc mX5_takeLong 7 (.iconst 2) 1 8 := ⟨by decide +kernel, rfl⟩
theorem dX5_takeLong_8 : Dj mX5_takeLong 8 (.if_icmp .ge 8) 3 11 (8) 16 := ⟨by decide +kernel, rfl, by decide⟩
theorem dX5_takeLong_11 : Dc mX5_takeLong 11 (.aload_n 0) 1 12 := ⟨by decide +kernel, rfl⟩
theorem dX5_takeLong_12 : Dc mX5_takeLong 12 (.iconst 2) 1 13 := ⟨by decide +kernel, rfl⟩
theorem dX5_takeLong_13 : Dc mX5_takeLong 13 (.invokevirtual 130) 3 16 := ⟨by decide +kernel, rfl⟩
theorem dX5_takeLong_16 : Dc mX5_takeLong 16 (.aload_n 0) 1 17 := ⟨by decide +kernel, rfl⟩
theorem dX5_takeLong_17 : Dc mX5_takeLong 17 (.getfield 12) 3 20 := ⟨by decide +kernel, rfl⟩
theorem dX5_takeLong_20 : Dc mX5_takeLong 20 (.invokevirtual 146) 3 23 := ⟨by decide +kernel, rfl⟩
theorem dX5_takeLong_23 : Dj mX5_takeLong 23 (.ifCond .ne 8) 3 26 (8) 31 := ⟨by decide +kernel, rfl, by decide⟩
theorem dX5_takeLong_26 : Dc mX5_takeLong 26 (.aload_n 0) 1 27 := ⟨by decide +kernel, rfl⟩
theorem dX5_takeLong_27 : Dc mX5_takeLong 27 (.iconst 3) 1 28 := ⟨by decide +kernel, rfl⟩
theorem dX5_takeLong_28 : Dc mX5_takeLong 28 (.invokevirtual 130) 3 31 := ⟨by decide +kernel, rfl⟩
theorem dX5_takeLong_31 : Dc mX5_takeLong 31 (.aload_n 0) 1 32 := ⟨by decide +kernel, rfl⟩
theorem dX5_takeLong_32 : Dc mX5_takeLong 32 (.getfield 38) 3 35 := ⟨by decide +kernel, rfl⟩
theorem dX5_takeLong_35 : Dj mX5_takeLong 35 (.ifCond .ne 16) 3 38 (16) 51 := ⟨by decide +kernel, rfl, by decide⟩
theorem dX5_takeLong_38 : Dc mX5_takeLong 38 (.aload_n 0) 1 39 := ⟨by decide +kernel, rfl⟩
theorem dX5_takeLong_39 : Dc mX5_takeLong 39 (.getfield 12) 3 42 := ⟨by decide +kernel, rfl⟩
theorem dX5_takeLong_42 : Dc mX5_takeLong 42 (.dup) 1 43 := ⟨by decide +kernel, rfl⟩
theorem dX5_takeLong_43 : Dc mX5_takeLong 43 (.getfield 133) 3 46 := ⟨by decide +kernel, rfl⟩
theorem dX5_takeLong_46 : Dc mX5_takeLong 46 (.iconst 2) 1 47 := ⟨by decide +kernel, rfl⟩
theorem dX5_takeLong_47 : Dc mX5_takeLong 47 (.isub) 1 48 := ⟨by decide +kernel, rfl⟩
theorem dX5_takeLong_48 : Dc mX5_takeLong 48 (.putfield 133) 3 51 := ⟨by decide +kernel, rfl⟩
theorem dX5_takeLong_51 : Dc mX5_takeLong 51 (.return_) 1 52 := ⟨by decide +kernel, rfl⟩
theorem dX5_lay_0 : Dc mX5_lay 0 (.iload_n 1) 1 1 := ⟨by decide +kernel, rfl⟩
theorem dX5_lay_1 : Dj mX5_lay 1 (.ifCond .ne 4) 3 4 (4) 5 := ⟨by decide +kernel, rfl, by decide⟩
theorem dX5_lay_4 : Dc mX5_lay 4 (.return_) 1 5 := ⟨by decide +kernel, rfl⟩
theorem dX5_lay_5 : Dc mX5_lay 5 (.aload_n 0) 1 6 := ⟨by decide +kernel, rfl⟩
theorem dX5_lay_6 : Dc mX5_lay 6 (.getfield 12) 3 9 := ⟨by decide +kernel, rfl⟩
theorem dX5_lay_9 : Dc mX5_lay 9 (.getfield 133) 3 12 := ⟨by decide +kernel, rfl⟩
theorem dX5_lay_12 : Dc mX5_lay 12 (.iload_n 1) 1 13 := ⟨by decide +kernel, rfl⟩
theorem dX5_lay_13 : Dc mX5_lay 13 (.iconst 2) 1 14 := ⟨by decide +kernel, rfl⟩
theorem dX5_lay_14 : Dj mX5_lay 14 (.if_icmp .ne 7) 3 17 (7) 21 := ⟨by decide +kernel, rfl, by decide⟩
theorem dX5_lay_17 : Dc mX5_lay 17 (.iconst 2) 1 18 := ⟨by decide +kernel, rfl⟩
theorem dX5_lay_18 : Dj mX5_lay 18 (.goto 4) 3 21 (4) 22 := ⟨by decide +kernel, rfl, by decide⟩
theorem dX5_lay_21 : Dc mX5_lay 21 (.iconst 1) 1 22 := ⟨by decide +kernel, rfl⟩
theorem dX5_lay_22 : Dc mX5_lay 22 (.iadd) 1 23 := ⟨by decide +kernel, rfl⟩
theorem dX5_lay_23 : Dc mX5_lay 23 (.istore_n 2) 1 24 := ⟨by decide +kernel, rfl⟩
theorem dX5_lay_24 : Dc mX5_lay 24 (.iload_n 2) 1 25 := ⟨by decide +kernel, rfl⟩
theorem dX5_lay_25 : Dc mX5_lay 25 (.bipush 8) 2 27 := ⟨by decide +kernel, rfl⟩
theorem dX5_lay_27 : Dj mX5_lay 27 (.if_icmp .le 8) 3 30 (8) 35 := ⟨by decide +kernel, rfl, by decide⟩
theorem dX5_lay_30 : Dc mX5_lay 30 (.aload_n 0) 1 31 := ⟨by decide +kernel, rfl⟩
theorem dX5_lay_31 : Dc mX5_lay 31 (.iconst 1) 1 32 := ⟨by decide +kernel, rfl⟩
theorem dX5_lay_32 : Dc mX5_lay 32 (.invokevirtual 130) 3 35 := ⟨by decide +kernel, rfl⟩
theorem dX5_lay_35 : Dc mX5_lay 35 (.aload_n 0) 1 36 := ⟨by decide +kernel, rfl⟩
theorem dX5_lay_36 : Dc mX5_lay 36 (.getfield 38) 3 39 := ⟨by decide +kernel, rfl⟩
theorem dX5_lay_39 : Dj mX5_lay 39 (.ifCond .eq 4) 3 42 (4) 43 := ⟨by decide +kernel, rfl, by decide⟩
theorem dX5_lay_42 : Dc mX5_lay 42 (.return_) 1 43 := ⟨by decide +kernel, rfl⟩
theorem dX5_lay_43 : Dc mX5_lay 43 (.aload_n 0) 1 44 := ⟨by decide +kernel, rfl⟩
theorem dX5_lay_44 : Dc mX5_lay 44 (.getfield 12) 3 47 := ⟨by decide +kernel, rfl⟩
theorem dX5_lay_47 : Dc mX5_lay 47 (.getfield 150) 3 50 := ⟨by decide +kernel, rfl⟩
theorem dX5_lay_50 : Dc mX5_lay 50 (.aload_n 0) 1 51 := ⟨by decide +kernel, rfl⟩
theorem dX5_lay_51 : Dc mX5_lay 51 (.getfield 12) 3 54 := ⟨by decide +kernel, rfl⟩
theorem dX5_lay_54 : Dc mX5_lay 54 (.getfield 133) 3 57 := ⟨by decide +kernel, rfl⟩
theorem dX5_lay_57 : Dc mX5_lay 57 (.iload_n 1) 1 58 := ⟨by decide +kernel, rfl⟩
theorem dX5_lay_58 : Dc mX5_lay 58 (.iastore) 1 59 := ⟨by decide +kernel, rfl⟩
theorem dX5_lay_59 : Dc mX5_lay 59 (.iload_n 1) 1 60 := ⟨by decide +kernel, rfl⟩
theorem dX5_lay_60 : Dc mX5_lay 60 (.iconst 2) 1 61 := ⟨by decide +kernel, rfl⟩
theorem dX5_lay_61 : Dj mX5_lay 61 (.if_icmp .ne 21) 3 64 (21) 82 := ⟨by decide +kernel, rfl, by decide⟩
theorem dX5_lay_64 : Dc mX5_lay 64 (.aload_n 0) 1 65 := ⟨by decide +kernel, rfl⟩
theorem dX5_lay_65 : Dc mX5_lay 65 (.getfield 12) 3 68 := ⟨by decide +kernel, rfl⟩
theorem dX5_lay_68 : Dc mX5_lay 68 (.getfield 150) 3 71 := ⟨by decide +kernel, rfl⟩
theorem dX5_lay_71 : Dc mX5_lay 71 (.aload_n 0) 1 72 := ⟨by decide +kernel, rfl⟩
theorem dX5_lay_72 : Dc mX5_lay 72 (.getfield 12) 3 75 := ⟨by decide +kernel, rfl⟩
theorem dX5_lay_75 : Dc mX5_lay 75 (.getfield 133) 3 78 := ⟨by decide +kernel, rfl⟩
theorem dX5_lay_78 : Dc mX5_lay 78 (.iconst 1) 1 79 := ⟨by decide +kernel, rfl⟩
theorem dX5_lay_79 : Dc mX5_lay 79 (.iadd) 1 80 := ⟨by decide +kernel, rfl⟩
theorem dX5_lay_80 : Dc mX5_lay 80 (.iconst 3) 1 81 := ⟨by decide +kernel, rfl⟩
theorem dX5_lay_81 : Dc mX5_lay 81 (.iastore) 1 82 := ⟨by decide +kernel, rfl⟩
theorem dX5_lay_82 : Dc mX5_lay 82 (.aload_n 0) 1 83 := ⟨by decide +kernel, rfl⟩
theorem dX5_lay_83 : Dc mX5_lay 83 (.getfield 12) 3 86 := ⟨by decide +kernel, rfl⟩
theorem dX5_lay_86 : Dc mX5_lay 86 (.iload_n 2) 1 87 := ⟨by decide +kernel, rfl⟩
theorem dX5_lay_87 : Dc mX5_lay 87 (.putfield 133) 3 90 := ⟨by decide +kernel, rfl⟩
theorem dX5_lay_90 : Dc mX5_lay 90 (.return_) 1 91 := ⟨by decide +kernel, rfl⟩
theorem dX5_put_0 : Dc mX5_put 0 (.aload_n 0) 1 1 := ⟨by decide +kernel, rfl⟩
theorem dX5_put_1 : Dc mX5_put 1 (.getfield 38) 3 4 := ⟨by decide +kernel, rfl⟩
theorem dX5_put_4 : Dj mX5_put 4 (.ifCond .ne 21) 3 7 (21) 25 := ⟨by decide +kernel, rfl, by decide⟩
theorem dX5_put_7 : Dc mX5_put 7 (.aload_n 0) 1 8 := ⟨by decide +kernel, rfl⟩
theorem dX5_put_8 : Dc mX5_put 8 (.getfield 12) 3 11 := ⟨by decide +kernel, rfl⟩
theorem dX5_put_11 : Dc mX5_put 11 (.iload_n 1) 1 12 := ⟨by decide +kernel, rfl⟩
theorem dX5_put_12 : Dc mX5_put 12 (.invokevirtual 153) 3 15 := ⟨by decide +kernel, rfl⟩
theorem dX5_put_15 : Dc mX5_put 15 (.aload_n 0) 1 16 := ⟨by decide +kernel, rfl⟩
theorem dX5_put_16 : Dc mX5_put 16 (.getfield 12) 3 19 := ⟨by decide +kernel, rfl⟩
theorem dX5_put_19 : Dc mX5_put 19 (.getfield 63) 3 22 := ⟨by decide +kernel, rfl⟩
theorem dX5_put_22 : Dc mX5_put 22 (.iload_n 1) 1 23 := ⟨by decide +kernel, rfl⟩
theorem dX5_put_23 : Dc mX5_put 23 (.iload_n 2) 1 24 := ⟨by decide +kernel, rfl⟩
theorem dX5_put_24 : Dc mX5_put 24 (.iastore) 1 25 := ⟨by decide +kernel, rfl⟩
theorem dX5_put_25 : Dc mX5_put 25 (.return_) 1 26 := ⟨by decide +kernel, rfl⟩
theorem dX5_putLong_0 : Dc mX5_putLong 0 (.aload_n 0) 1 1 := ⟨by decide +kernel, rfl⟩
theorem dX5_putLong_1 : Dc mX5_putLong 1 (.iload_n 1) 1 2 := ⟨by decide +kernel, rfl⟩
theorem dX5_putLong_2 : Dc mX5_putLong 2 (.iconst 2) 1 3 := ⟨by decide +kernel, rfl⟩
theorem dX5_putLong_3 : Dc mX5_putLong 3 (.invokevirtual 77) 3 6 := ⟨by decide +kernel, rfl⟩
theorem dX5_putLong_6 : Dc mX5_putLong 6 (.aload_n 0) 1 7 := ⟨by decide +kernel, rfl⟩
theorem dX5_putLong_7 : Dc mX5_putLong 7 (.iload_n 1) 1 8 := ⟨by decide +kernel, rfl⟩
theorem dX5_putLong_8 : Dc mX5_putLong 8 (.iconst 1) 1 9 := ⟨by decide +kernel, rfl⟩
theorem dX5_putLong_9 : Dc mX5_putLong 9 (.iadd) 1 10 := ⟨by decide +kernel, rfl⟩
theorem dX5_putLong_10 : Dc mX5_putLong 10 (.iconst 3) 1 11 := ⟨by decide +kernel, rfl⟩
theorem dX5_putLong_11 : Dc mX5_putLong 11 (.invokevirtual 77) 3 14 := ⟨by decide +kernel, rfl⟩
theorem dX5_putLong_14 : Dc mX5_putLong 14 (.return_) 1 15 := ⟨by decide +kernel, rfl⟩
theorem dX6_init_0 : Dc mX6_init 0 (.aload_n 0) 1 1 := ⟨by decide +kernel, rfl⟩
theorem dX6_init_1 : Dc mX6_init 1 (.invokespecial 3) 3 4 := ⟨by decide +kernel, rfl⟩
theorem dX6_init_4 : Dc mX6_init 4 (.aload_n 0) 1 5 := ⟨by decide +kernel, rfl⟩
theorem dX6_init_5 : Dc mX6_init 5 (.bipush 40) 2 7 := ⟨by decide +kernel, rfl⟩
theorem dX6_init_7 : Dc mX6_init 7 (.anewarray 9) 3 10 := ⟨by decide +kernel, rfl⟩
theorem dX6_init_10 : Dc mX6_init 10 (.putfield 11) 3 13 := ⟨by decide +kernel, rfl⟩
theorem dX6_init_13 : Dc mX6_init 13 (.aload_n 0) 1 14 := ⟨by decide +kernel, rfl⟩
theorem dX6_init_14 : Dc mX6_init 14 (.bipush 40) 2 16 := ⟨by decide +kernel, rfl⟩
theorem dX6_init_16 : Dc mX6_init 16 (.newarray .boolean) 2 18 := ⟨by decide +kernel, rfl⟩
theorem dX6_init_18 : Dc mX6_init 18 (.putfield 17) 3 21 := ⟨by decide +kernel, rfl⟩
theorem dX6_init_21 : Dc mX6_init 21 (.iconst 0) 1 22 := ⟨by decide +kernel, rfl⟩
theorem dX6_init_22 : Dc mX6_init 22 (.istore_n 1) 1 23 := ⟨by decide +kernel, rfl⟩
theorem dX6_init_23 : Dc mX6_init 23 (.iload_n 1) 1 24 := ⟨by decide +kernel, rfl⟩
theorem dX6_init_24 : Dc mX6_init 24 (.bipush 40) 2 26 := ⟨by decide +kernel, rfl⟩
theorem dX6_init_26 : Dj mX6_init 26 (.if_icmp .ge 22) 3 29 (22) 48 := ⟨by decide +kernel, rfl, by decide⟩
theorem dX6_init_29 : Dc mX6_init 29 (.aload_n 0) 1 30 := ⟨by decide +kernel, rfl⟩
theorem dX6_init_30 : Dc mX6_init 30 (.getfield 11) 3 33 := ⟨by decide +kernel, rfl⟩
theorem dX6_init_33 : Dc mX6_init 33 (.iload_n 1) 1 34 := ⟨by decide +kernel, rfl⟩
theorem dX6_init_34 : Dc mX6_init 34 (.new 9) 3 37 := ⟨by decide +kernel, rfl⟩
theorem dX6_init_37 : Dc mX6_init 37 (.dup) 1 38 := ⟨by decide +kernel, rfl⟩
theorem dX6_init_38 : Dc mX6_init 38 (.invokespecial 21) 3 41 := ⟨by decide +kernel, rfl⟩
theorem dX6_init_41 : Dc mX6_init 41 (.aastore) 1 42 := ⟨by decide +kernel, rfl⟩
theorem dX6_init_42 : Dc mX6_init 42 (.iinc 1 1) 3 45 := ⟨by decide +kernel, rfl⟩
theorem dX6_init_45 : Dj mX6_init 45 (.goto (-22)) 3 48 (-22) 23 := ⟨by decide +kernel, rfl, by decide⟩
theorem dX6_init_48 : Dc mX6_init 48 (.return_) 1 49 := ⟨by decide +kernel, rfl⟩
theorem dX6_startWith_0 : Dc mX6_startWith 0 (.iconst 0) 1 1 := ⟨by decide +kernel, rfl⟩
theorem dX6_startWith_1 : Dc mX6_startWith 1 (.istore_n 2) 1 2 := ⟨by decide +kernel, rfl⟩
theorem dX6_startWith_2 : Dc mX6_startWith 2 (.iload_n 2) 1 3 := ⟨by decide +kernel, rfl⟩
theorem dX6_startWith_3 : Dc mX6_startWith 3 (.bipush 40) 2 5 := ⟨by decide +kernel, rfl⟩
theorem dX6_startWith_5 : Dj mX6_startWith 5 (.if_icmp .ge 26) 3 8 (26) 31 := ⟨by decide +kernel, rfl, by decide⟩
theorem dX6_startWith_8 : Dc mX6_startWith 8 (.aload_n 0) 1 9 := ⟨by decide +kernel, rfl⟩
theorem dX6_startWith_9 : Dc mX6_startWith 9 (.getfield 11) 3 12 := ⟨by decide +kernel, rfl⟩
theorem dX6_startWith_12 : Dc mX6_startWith 12 (.iload_n 2) 1 13 := ⟨by decide +kernel, rfl⟩
theorem dX6_startWith_13 : Dc mX6_startWith 13 (.aaload) 1 14 := ⟨by decide +kernel, rfl⟩
theorem dX6_startWith_14 : Dc mX6_startWith 14 (.iconst (-1)) 1 15 := ⟨by decide +kernel, rfl⟩
theorem dX6_startWith_15 : Dc mX6_startWith 15 (.putfield 22) 3 18 := ⟨by decide +kernel, rfl⟩
theorem dX6_startWith_18 : Dc mX6_startWith 18 (.aload_n 0) 1 19 := ⟨by decide +kernel, rfl⟩
theorem dX6_startWith_19 : Dc mX6_startWith 19 (.getfield 17) 3 22 := ⟨by decide +kernel, rfl⟩
theorem dX6_startWith_22 : Dc mX6_startWith 22 (.iload_n 2) 1 23 := ⟨by decide +kernel, rfl⟩
theorem dX6_startWith_23 : Dc mX6_startWith 23 (.iconst 0) 1 24 := ⟨by decide +kernel, rfl⟩
theorem dX6_startWith_24 : Dc mX6_startWith 24 (.bastore) 1 25 := ⟨by decide +kernel, rfl⟩
theorem dX6_startWith_25 : Dc mX6_startWith 25 (.iinc 2 1) 3 28 := ⟨by decide +kernel, rfl⟩
theorem dX6_startWith_28 : Dj mX6_startWith 28 (.goto (-26)) 3 31 (-26) 2 := ⟨by decide +kernel, rfl, by decide⟩
theorem dX6_startWith_31 : Dc mX6_startWith 31 (.aload_n 0) 1 32 := ⟨by decide +kernel, rfl⟩
theorem dX6_startWith_32 : Dc mX6_startWith 32 (.getfield 11) 3 35 := ⟨by decide +kernel, rfl⟩
theorem dX6_startWith_35 : Dc mX6_startWith 35 (.iconst 0) 1 36 := ⟨by decide +kernel, rfl⟩
theorem dX6_startWith_36 : Dc mX6_startWith 36 (.aaload) 1 37 := ⟨by decide +kernel, rfl⟩
theorem dX6_startWith_37 : Dc mX6_startWith 37 (.aload_n 1) 1 38 := ⟨by decide +kernel, rfl⟩
theorem dX6_startWith_38 : Dc mX6_startWith 38 (.invokevirtual 26) 3 41 := ⟨by decide +kernel, rfl⟩
theorem dX6_startWith_41 : Dc mX6_startWith 41 (.aload_n 0) 1 42 := ⟨by decide +kernel, rfl⟩
theorem dX6_startWith_42 : Dc mX6_startWith 42 (.getfield 17) 3 45 := ⟨by decide +kernel, rfl⟩
theorem dX6_startWith_45 : Dc mX6_startWith 45 (.iconst 0) 1 46 := ⟨by decide +kernel, rfl⟩
theorem dX6_startWith_46 : Dc mX6_startWith 46 (.iconst 1) 1 47 := ⟨by decide +kernel, rfl⟩
theorem dX6_startWith_47 : Dc mX6_startWith 47 (.bastore) 1 48 := ⟨by decide +kernel, rfl⟩
theorem dX6_startWith_48 : Dc mX6_startWith 48 (.aload_n 0) 1 49 := ⟨by decide +kernel, rfl⟩
theorem dX6_startWith_49 : Dc mX6_startWith 49 (.iconst 1) 1 50 := ⟨by decide +kernel, rfl⟩
theorem dX6_startWith_50 : Dc mX6_startWith 50 (.putfield 30) 3 53 := ⟨by decide +kernel, rfl⟩
theorem dX6_startWith_53 : Dc mX6_startWith 53 (.aload_n 0) 1 54 := ⟨by decide +kernel, rfl⟩
theorem dX6_startWith_54 : Dc mX6_startWith 54 (.iconst 0) 1 55 := ⟨by decide +kernel, rfl⟩
theorem dX6_startWith_55 : Dc mX6_startWith 55 (.putfield 34) 3 58 := ⟨by decide +kernel, rfl⟩
theorem dX6_startWith_58 : Dc mX6_startWith 58 (.aload_n 0) 1 59 := ⟨by decide +kernel, rfl⟩
theorem dX6_startWith_59 : Dc mX6_startWith 59 (.iconst (-1)) 1 60 := ⟨by decide +kernel, rfl⟩
theorem dX6_startWith_60 : Dc mX6_startWith 60 (.putfield 37) 3 63 := ⟨by decide +kernel, rfl⟩
theorem dX6_startWith_63 : Dc mX6_startWith 63 (.aload_n 0) 1 64 := ⟨by decide +kernel, rfl⟩
theorem dX6_startWith_64 : Dc mX6_startWith 64 (.iconst 0) 1 65 := ⟨by decide +kernel, rfl⟩
theorem dX6_startWith_65 : Dc mX6_startWith 65 (.putfield 40) 3 68 := ⟨by decide +kernel, rfl⟩
theorem dX6_startWith_68 : Dc mX6_startWith 68 (.aload_n 0) 1 69 := ⟨by decide +kernel, rfl⟩
theorem dX6_startWith_69 : Dc mX6_startWith 69 (.iconst 0) 1 70 := ⟨by decide +kernel, rfl⟩
theorem dX6_startWith_70 : Dc mX6_startWith 70 (.putfield 43) 3 73 := ⟨by decide +kernel, rfl⟩
theorem dX6_startWith_73 : Dc mX6_startWith 73 (.return_) 1 74 := ⟨by decide +kernel, rfl⟩
theorem dX6_leastWaiting_0 : Dc mX6_leastWaiting 0 (.iconst 0) 1 1 := ⟨by decide +kernel, rfl⟩
theorem dX6_leastWaiting_1 : Dc mX6_leastWaiting 1 (.istore_n 1) 1 2 := ⟨by decide +kernel, rfl⟩
theorem dX6_leastWaiting_2 : Dc mX6_leastWaiting 2 (.iload_n 1) 1 3 := ⟨by decide +kernel, rfl⟩
theorem dX6_leastWaiting_3 : Dc mX6_leastWaiting 3 (.bipush 40) 2 5 := ⟨by decide +kernel, rfl⟩
theorem dX6_leastWaiting_5 : Dj mX6_leastWaiting 5 (.if_icmp .ge 20) 3 8 (20) 25 := ⟨by decide +kernel, rfl, by decide⟩
theorem dX6_leastWaiting_8 : Dc mX6_leastWaiting 8 (.aload_n 0) 1 9 := ⟨by decide +kernel, rfl⟩
theorem dX6_leastWaiting_9 : Dc mX6_leastWaiting 9 (.getfield 17) 3 12 := ⟨by decide +kernel, rfl⟩
theorem dX6_leastWaiting_12 : Dc mX6_leastWaiting 12 (.iload_n 1) 1 13 := ⟨by decide +kernel, rfl⟩
theorem dX6_leastWaiting_13 : Dc mX6_leastWaiting 13 (.baload) 1 14 := ⟨by decide +kernel, rfl⟩
theorem dX6_leastWaiting_14 : Dj mX6_leastWaiting 14 (.ifCond .eq 5) 3 17 (5) 19 := ⟨by decide +kernel, rfl, by decide⟩
theorem dX6_leastWaiting_17 : Dc mX6_leastWaiting 17 (.iload_n 1) 1 18 := ⟨by decide +kernel, rfl⟩
theorem dX6_leastWaiting_18 : Dc mX6_leastWaiting 18 (.ireturn) 1 19 := ⟨by decide +kernel, rfl⟩
theorem dX6_leastWaiting_19 : Dc mX6_leastWaiting 19 (.iinc 1 1) 3 22 := ⟨by decide +kernel, rfl⟩
theorem dX6_leastWaiting_22 : Dj mX6_leastWaiting 22 (.goto (-20)) 3 25 (-20) 2 := ⟨by decide +kernel, rfl, by decide⟩
theorem dX6_leastWaiting_25 : Dc mX6_leastWaiting 25 (.iconst (-1)) 1 26 := ⟨by decide +kernel, rfl⟩
theorem dX6_leastWaiting_26 : Dc mX6_leastWaiting 26 (.ireturn) 1 27 := ⟨by decide +kernel, rfl⟩
theorem dX6_breakAt_0 : Dc mX6_breakAt 0 (.aload_n 0) 1 1 := ⟨by decide +kernel, rfl⟩
theorem dX6_breakAt_1 : Dc mX6_breakAt 1 (.iload_n 1) 1 2 := ⟨by decide +kernel, rfl⟩
theorem dX6_breakAt_2 : Dc mX6_breakAt 2 (.putfield 37) 3 5 := ⟨by decide +kernel, rfl⟩
theorem dX6_breakAt_5 : Dc mX6_breakAt 5 (.aload_n 0) 1 6 := ⟨by decide +kernel, rfl⟩
theorem dX6_breakAt_6 : Dc mX6_breakAt 6 (.iload_n 2) 1 7 := ⟨by decide +kernel, rfl⟩
theorem dX6_breakAt_7 : Dc mX6_breakAt 7 (.putfield 34) 3 10 := ⟨by decide +kernel, rfl⟩
theorem dX6_breakAt_10 : Dc mX6_breakAt 10 (.return_) 1 11 := ⟨by decide +kernel, rfl⟩
theorem dX6_note_0 : Dc mX6_note 0 (.aload_n 0) 1 1 := ⟨by decide +kernel, rfl⟩
theorem dX6_note_1 : Dc mX6_note 1 (.aload_n 0) 1 2 := ⟨by decide +kernel, rfl⟩
theorem dX6_note_2 : Dc mX6_note 2 (.getfield 43) 3 5 := ⟨by decide +kernel, rfl⟩
theorem dX6_note_5 : Dc mX6_note 5 (.iload_n 1) 1 6 := ⟨by decide +kernel, rfl⟩
theorem dX6_note_6 : Dc mX6_note 6 (.invokestatic 46) 3 9 := ⟨by decide +kernel, rfl⟩
theorem dX6_note_9 : Dc mX6_note 9 (.putfield 43) 3 12 := ⟨by decide +kernel, rfl⟩
theorem dX6_note_12 : Dc mX6_note 12 (.return_) 1 13 := ⟨by decide +kernel, rfl⟩
theorem dX7_init_0 : Dc mX7_init 0 (.aload_n 0) 1 1 := ⟨by decide +kernel, rfl⟩
theorem dX7_init_1 : Dc mX7_init 1 (.invokespecial 3) 3 4 := ⟨by decide +kernel, rfl⟩
theorem dX7_init_4 : Dc mX7_init 4 (.aload_n 0) 1 5 := ⟨by decide +kernel, rfl⟩
theorem dX7_init_5 : Dc mX7_init 5 (.new 9) 3 8 := ⟨by decide +kernel, rfl⟩
theorem dX7_init_8 : Dc mX7_init 8 (.dup) 1 9 := ⟨by decide +kernel, rfl⟩
theorem dX7_init_9 : Dc mX7_init 9 (.invokespecial 11) 3 12 := ⟨by decide +kernel, rfl⟩
theorem dX7_init_12 : Dc mX7_init 12 (.putfield 12) 3 15 := ⟨by decide +kernel, rfl⟩
theorem dX7_init_15 : Dc mX7_init 15 (.aload_n 0) 1 16 := ⟨by decide +kernel, rfl⟩
theorem dX7_init_16 : Dc mX7_init 16 (.aload_n 1) 1 17 := ⟨by decide +kernel, rfl⟩
theorem dX7_init_17 : Dc mX7_init 17 (.putfield 18) 3 20 := ⟨by decide +kernel, rfl⟩
theorem dX7_init_20 : Dc mX7_init 20 (.aload_n 0) 1 21 := ⟨by decide +kernel, rfl⟩
theorem dX7_init_21 : Dc mX7_init 21 (.new 22) 3 24 := ⟨by decide +kernel, rfl⟩
theorem dX7_init_24 : Dc mX7_init 24 (.dup) 1 25 := ⟨by decide +kernel, rfl⟩
theorem dX7_init_25 : Dc mX7_init 25 (.aload_n 1) 1 26 := ⟨by decide +kernel, rfl⟩
theorem dX7_init_26 : Dc mX7_init 26 (.invokespecial 24) 3 29 := ⟨by decide +kernel, rfl⟩
theorem dX7_init_29 : Dc mX7_init 29 (.putfield 27) 3 32 := ⟨by decide +kernel, rfl⟩
theorem dX7_init_32 : Dc mX7_init 32 (.return_) 1 33 := ⟨by decide +kernel, rfl⟩
theorem dX7_run_0 : Dc mX7_run 0 (.aload_n 1) 1 1 := ⟨by decide +kernel, rfl⟩
theorem dX7_run_1 : Dc mX7_run 1 (.getfield 31) 3 4 := ⟨by decide +kernel, rfl⟩
theorem dX7_run_4 : Dc mX7_run 4 (.astore_n 2) 1 5 := ⟨by decide +kernel, rfl⟩
theorem dX7_run_5 : Dc mX7_run 5 (.aload_n 2) 1 6 := ⟨by decide +kernel, rfl⟩
theorem dX7_run_6 : Dc mX7_run 6 (.aload_n 1) 1 7 := ⟨by decide +kernel, rfl⟩
theorem dX7_run_7 : Dc mX7_run 7 (.getfield 37) 3 10 := ⟨by decide +kernel, rfl⟩
theorem dX7_run_10 : Dc mX7_run 10 (.invokevirtual 41) 3 13 := ⟨by decide +kernel, rfl⟩
theorem dX7_run_13 : Dc mX7_run 13 (.iconst 0) 1 14 := ⟨by decide +kernel, rfl⟩
theorem dX7_run_14 : Dc mX7_run 14 (.istore_n 3) 1 15 := ⟨by decide +kernel, rfl⟩
theorem dX7_run_15 : Dc mX7_run 15 (.iload_n 3) 1 16 := ⟨by decide +kernel, rfl⟩
theorem dX7_run_16 : Dc mX7_run 16 (.ldc 47) 2 18 := ⟨by decide +kernel, rfl⟩
theorem dX7_run_18 : Dj mX7_run 18 (.if_icmp .ge 108) 3 21 (108) 126 := ⟨by decide +kernel, rfl, by decide⟩
theorem dX7_run_21 : Dc mX7_run 21 (.aload_n 2) 1 22 := ⟨by decide +kernel, rfl⟩
theorem dX7_run_22 : Dc mX7_run 22 (.invokevirtual 48) 3 25 := ⟨by decide +kernel, rfl⟩
theorem dX7_run_25 : Dc mX7_run 25 (.istore 4) 2 27 := ⟨by decide +kernel, rfl⟩
theorem dX7_run_27 : Dc mX7_run 27 (.iload 4) 2 29 := ⟨by decide +kernel, rfl⟩
theorem dX7_run_29 : Dc mX7_run 29 (.iconst (-1)) 1 30 := ⟨by decide +kernel, rfl⟩
theorem dX7_run_30 : Dj mX7_run 30 (.if_icmp .ne 4) 3 33 (4) 34 := ⟨by decide +kernel, rfl, by decide⟩
theorem dX7_run_33 : Dc mX7_run 33 (.return_) 1 34 := ⟨by decide +kernel, rfl⟩
end
section
theorem dX7_run_34 : Dc mX7_run 34 (.aload_n 2) 1 35 := ⟨by decide +kernel, rfl⟩
theorem dX7_run_35 : Dc mX7_run 35 (.getfield 52) 3 38 := ⟨by decide +kernel, rfl⟩
theorem dX7_run_38 : Dc mX7_run 38 (.iload 4) 2 40 := ⟨by decide +kernel, rfl⟩
theorem dX7_run_40 : Dc mX7_run 40 (.iconst 0) 1 41 := ⟨by decide +kernel, rfl⟩
theorem dX7_run_41 : Dc mX7_run 41 (.bastore) 1 42 := ⟨by decide +kernel, rfl⟩
theorem dX7_run_42 : Dc mX7_run 42 (.aload_n 2) 1 43 := ⟨by decide +kernel, rfl⟩
theorem dX7_run_43 : Dc mX7_run 43 (.dup) 1 44 := ⟨by decide +kernel, rfl⟩
theorem dX7_run_44 : Dc mX7_run 44 (.getfield 56) 3 47 := ⟨by decide +kernel, rfl⟩
theorem dX7_run_47 : Dc mX7_run 47 (.iconst 1) 1 48 := ⟨by decide +kernel, rfl⟩
theorem dX7_run_48 : Dc mX7_run 48 (.iadd) 1 49 := ⟨by decide +kernel, rfl⟩
theorem dX7_run_49 : Dc mX7_run 49 (.putfield 56) 3 52 := ⟨by decide +kernel, rfl⟩
theorem dX7_run_52 : Dc mX7_run 52 (.aload_n 0) 1 53 := ⟨by decide +kernel, rfl⟩
theorem dX7_run_53 : Dc mX7_run 53 (.aload_n 1) 1 54 := ⟨by decide +kernel, rfl⟩
theorem dX7_run_54 : Dc mX7_run 54 (.iload 4) 2 56 := ⟨by decide +kernel, rfl⟩
theorem dX7_run_56 : Dc mX7_run 56 (.invokevirtual 60) 3 59 := ⟨by decide +kernel, rfl⟩
theorem dX7_run_59 : Dc mX7_run 59 (.istore 5) 2 61 := ⟨by decide +kernel, rfl⟩
theorem dX7_run_61 : Dc mX7_run 61 (.iload 5) 2 63 := ⟨by decide +kernel, rfl⟩
theorem dX7_run_63 : Dj mX7_run 63 (.ifCond .ne 15) 3 66 (15) 78 := ⟨by decide +kernel, rfl, by decide⟩
theorem dX7_run_66 : Dc mX7_run 66 (.aload_n 0) 1 67 := ⟨by decide +kernel, rfl⟩
theorem dX7_run_67 : Dc mX7_run 67 (.getfield 27) 3 70 := ⟨by decide +kernel, rfl⟩
theorem dX7_run_70 : Dc mX7_run 70 (.aload_n 1) 1 71 := ⟨by decide +kernel, rfl⟩
theorem dX7_run_71 : Dc mX7_run 71 (.iload 4) 2 73 := ⟨by decide +kernel, rfl⟩
theorem dX7_run_73 : Dc mX7_run 73 (.invokevirtual 64) 3 76 := ⟨by decide +kernel, rfl⟩
theorem dX7_run_76 : Dc mX7_run 76 (.istore 5) 2 78 := ⟨by decide +kernel, rfl⟩
theorem dX7_run_78 : Dc mX7_run 78 (.iload 5) 2 80 := ⟨by decide +kernel, rfl⟩
theorem dX7_run_80 : Dj mX7_run 80 (.ifCond .ne 26) 3 83 (26) 106 := ⟨by decide +kernel, rfl, by decide⟩
theorem dX7_run_83 : Dc mX7_run 83 (.aload_n 2) 1 84 := ⟨by decide +kernel, rfl⟩
theorem dX7_run_84 : Dc mX7_run 84 (.aload_n 0) 1 85 := ⟨by decide +kernel, rfl⟩
theorem dX7_run_85 : Dc mX7_run 85 (.getfield 27) 3 88 := ⟨by decide +kernel, rfl⟩
theorem dX7_run_88 : Dc mX7_run 88 (.getfield 67) 3 91 := ⟨by decide +kernel, rfl⟩
theorem dX7_run_91 : Dc mX7_run 91 (.getfield 70) 3 94 := ⟨by decide +kernel, rfl⟩
theorem dX7_run_94 : Dc mX7_run 94 (.invokevirtual 73) 3 97 := ⟨by decide +kernel, rfl⟩
theorem dX7_run_97 : Dc mX7_run 97 (.aload_n 0) 1 98 := ⟨by decide +kernel, rfl⟩
theorem dX7_run_98 : Dc mX7_run 98 (.aload_n 1) 1 99 := ⟨by decide +kernel, rfl⟩
theorem dX7_run_99 : Dc mX7_run 99 (.iload 4) 2 101 := ⟨by decide +kernel, rfl⟩
theorem dX7_run_101 : Dc mX7_run 101 (.invokevirtual 77) 3 104 := ⟨by decide +kernel, rfl⟩
theorem dX7_run_104 : Dc mX7_run 104 (.istore 5) 2 106 := ⟨by decide +kernel, rfl⟩
theorem dX7_run_106 : Dc mX7_run 106 (.iload 5) 2 108 := ⟨by decide +kernel, rfl⟩
theorem dX7_run_108 : Dj mX7_run 108 (.ifCond .eq 12) 3 111 (12) 120 := ⟨by decide +kernel, rfl, by decide⟩
theorem dX7_run_111 : Dc mX7_run 111 (.aload_n 2) 1 112 := ⟨by decide +kernel, rfl⟩
theorem dX7_run_112 : Dc mX7_run 112 (.iload 4) 2 114 := ⟨by decide +kernel, rfl⟩
theorem dX7_run_114 : Dc mX7_run 114 (.iload 5) 2 116 := ⟨by decide +kernel, rfl⟩
theorem dX7_run_116 : Dc mX7_run 116 (.invokevirtual 80) 3 119 := ⟨by decide +kernel, rfl⟩
theorem dX7_run_119 : Dc mX7_run 119 (.return_) 1 120 := ⟨by decide +kernel, rfl⟩
theorem dX7_run_120 : Dc mX7_run 120 (.iinc 3 1) 3 123 := ⟨by decide +kernel, rfl⟩
theorem dX7_run_123 : Dj mX7_run 123 (.goto (-108)) 3 126 (-108) 15 := ⟨by decide +kernel, rfl, by decide⟩
theorem dX7_run_126 : Dc mX7_run 126 (.return_) 1 127 := ⟨by decide +kernel, rfl⟩
theorem dX7_meetHandlers_0 : Dc mX7_meetHandlers 0 (.iconst 0) 1 1 := ⟨by decide +kernel, rfl⟩
theorem dX7_meetHandlers_1 : Dc mX7_meetHandlers 1 (.istore_n 3) 1 2 := ⟨by decide +kernel, rfl⟩
theorem dX7_meetHandlers_2 : Dc mX7_meetHandlers 2 (.iload_n 3) 1 3 := ⟨by decide +kernel, rfl⟩
theorem dX7_meetHandlers_3 : Dc mX7_meetHandlers 3 (.aload_n 1) 1 4 := ⟨by decide +kernel, rfl⟩
theorem dX7_meetHandlers_4 : Dc mX7_meetHandlers 4 (.getfield 84) 3 7 := ⟨by decide +kernel, rfl⟩
theorem dX7_meetHandlers_7 : Dj mX7_meetHandlers 7 (.if_icmp .ge 86) 3 10 (86) 93 := ⟨by decide +kernel, rfl, by decide⟩
theorem dX7_meetHandlers_10 : Dc mX7_meetHandlers 10 (.aload_n 1) 1 11 := ⟨by decide +kernel, rfl⟩
theorem dX7_meetHandlers_11 : Dc mX7_meetHandlers 11 (.iload_n 2) 1 12 := ⟨by decide +kernel, rfl⟩
theorem dX7_meetHandlers_12 : Dc mX7_meetHandlers 12 (.iload_n 3) 1 13 := ⟨by decide +kernel, rfl⟩
theorem dX7_meetHandlers_13 : Dc mX7_meetHandlers 13 (.invokevirtual 87) 3 16 := ⟨by decide +kernel, rfl⟩
theorem dX7_meetHandlers_16 : Dj mX7_meetHandlers 16 (.ifCond .ne 6) 3 19 (6) 22 := ⟨by decide +kernel, rfl, by decide⟩
theorem dX7_meetHandlers_19 : Dj mX7_meetHandlers 19 (.goto 68) 3 22 (68) 87 := ⟨by decide +kernel, rfl, by decide⟩
theorem dX7_meetHandlers_22 : Dc mX7_meetHandlers 22 (.aload_n 1) 1 23 := ⟨by decide +kernel, rfl⟩
theorem dX7_meetHandlers_23 : Dc mX7_meetHandlers 23 (.aload_n 1) 1 24 := ⟨by decide +kernel, rfl⟩
theorem dX7_meetHandlers_24 : Dc mX7_meetHandlers 24 (.getfield 91) 3 27 := ⟨by decide +kernel, rfl⟩
theorem dX7_meetHandlers_27 : Dc mX7_meetHandlers 27 (.iload_n 3) 1 28 := ⟨by decide +kernel, rfl⟩
theorem dX7_meetHandlers_28 : Dc mX7_meetHandlers 28 (.iaload) 1 29 := ⟨by decide +kernel, rfl⟩
theorem dX7_meetHandlers_29 : Dc mX7_meetHandlers 29 (.invokevirtual 94) 3 32 := ⟨by decide +kernel, rfl⟩
theorem dX7_meetHandlers_32 : Dj mX7_meetHandlers 32 (.ifCond .ne 6) 3 35 (6) 38 := ⟨by decide +kernel, rfl, by decide⟩
theorem dX7_meetHandlers_35 : Dc mX7_meetHandlers 35 (.bipush 6) 2 37 := ⟨by decide +kernel, rfl⟩
theorem dX7_meetHandlers_37 : Dc mX7_meetHandlers 37 (.ireturn) 1 38 := ⟨by decide +kernel, rfl⟩
theorem dX7_meetHandlers_38 : Dc mX7_meetHandlers 38 (.aload_n 0) 1 39 := ⟨by decide +kernel, rfl⟩
theorem dX7_meetHandlers_39 : Dc mX7_meetHandlers 39 (.getfield 12) 3 42 := ⟨by decide +kernel, rfl⟩
theorem dX7_meetHandlers_42 : Dc mX7_meetHandlers 42 (.aload_n 1) 1 43 := ⟨by decide +kernel, rfl⟩
theorem dX7_meetHandlers_43 : Dc mX7_meetHandlers 43 (.getfield 31) 3 46 := ⟨by decide +kernel, rfl⟩
theorem dX7_meetHandlers_46 : Dc mX7_meetHandlers 46 (.getfield 98) 3 49 := ⟨by decide +kernel, rfl⟩
theorem dX7_meetHandlers_49 : Dc mX7_meetHandlers 49 (.iload_n 2) 1 50 := ⟨by decide +kernel, rfl⟩
theorem dX7_meetHandlers_50 : Dc mX7_meetHandlers 50 (.aaload) 1 51 := ⟨by decide +kernel, rfl⟩
theorem dX7_meetHandlers_51 : Dc mX7_meetHandlers 51 (.bipush 10) 2 53 := ⟨by decide +kernel, rfl⟩
theorem dX7_meetHandlers_53 : Dc mX7_meetHandlers 53 (.aload_n 1) 1 54 := ⟨by decide +kernel, rfl⟩
theorem dX7_meetHandlers_54 : Dc mX7_meetHandlers 54 (.getfield 102) 3 57 := ⟨by decide +kernel, rfl⟩
theorem dX7_meetHandlers_57 : Dc mX7_meetHandlers 57 (.iload_n 3) 1 58 := ⟨by decide +kernel, rfl⟩
theorem dX7_meetHandlers_58 : Dc mX7_meetHandlers 58 (.iaload) 1 59 := ⟨by decide +kernel, rfl⟩
theorem dX7_meetHandlers_59 : Dc mX7_meetHandlers 59 (.iadd) 1 60 := ⟨by decide +kernel, rfl⟩
theorem dX7_meetHandlers_60 : Dc mX7_meetHandlers 60 (.invokevirtual 105) 3 63 := ⟨by decide +kernel, rfl⟩
theorem dX7_meetHandlers_63 : Dc mX7_meetHandlers 63 (.aload_n 0) 1 64 := ⟨by decide +kernel, rfl⟩
theorem dX7_meetHandlers_64 : Dc mX7_meetHandlers 64 (.aload_n 1) 1 65 := ⟨by decide +kernel, rfl⟩
theorem dX7_meetHandlers_65 : Dc mX7_meetHandlers 65 (.getfield 31) 3 68 := ⟨by decide +kernel, rfl⟩
theorem dX7_meetHandlers_68 : Dc mX7_meetHandlers 68 (.aload_n 1) 1 69 := ⟨by decide +kernel, rfl⟩
theorem dX7_meetHandlers_69 : Dc mX7_meetHandlers 69 (.getfield 91) 3 72 := ⟨by decide +kernel, rfl⟩
theorem dX7_meetHandlers_72 : Dc mX7_meetHandlers 72 (.iload_n 3) 1 73 := ⟨by decide +kernel, rfl⟩
theorem dX7_meetHandlers_73 : Dc mX7_meetHandlers 73 (.iaload) 1 74 := ⟨by decide +kernel, rfl⟩
theorem dX7_meetHandlers_74 : Dc mX7_meetHandlers 74 (.aload_n 0) 1 75 := ⟨by decide +kernel, rfl⟩
theorem dX7_meetHandlers_75 : Dc mX7_meetHandlers 75 (.getfield 12) 3 78 := ⟨by decide +kernel, rfl⟩
theorem dX7_meetHandlers_78 : Dc mX7_meetHandlers 78 (.invokevirtual 109) 3 81 := ⟨by decide +kernel, rfl⟩
theorem dX7_meetHandlers_81 : Dj mX7_meetHandlers 81 (.ifCond .ne 6) 3 84 (6) 87 := ⟨by decide +kernel, rfl, by decide⟩
theorem dX7_meetHandlers_84 : Dc mX7_meetHandlers 84 (.bipush 8) 2 86 := ⟨by decide +kernel, rfl⟩
theorem dX7_meetHandlers_86 : Dc mX7_meetHandlers 86 (.ireturn) 1 87 := ⟨by decide +kernel, rfl⟩
theorem dX7_meetHandlers_87 : Dc mX7_meetHandlers 87 (.iinc 3 1) 3 90 := ⟨by decide +kernel, rfl⟩
theorem dX7_meetHandlers_90 : Dj mX7_meetHandlers 90 (.goto (-88)) 3 93 (-88) 2 := ⟨by decide +kernel, rfl, by decide⟩
theorem dX7_meetHandlers_93 : Dc mX7_meetHandlers 93 (.iconst 0) 1 94 := ⟨by decide +kernel, rfl⟩
theorem dX7_meetHandlers_94 : Dc mX7_meetHandlers 94 (.ireturn) 1 95 := ⟨by decide +kernel, rfl⟩
theorem dX7_goOn_0 : Dc mX7_goOn 0 (.aload_n 1) 1 1 := ⟨by decide +kernel, rfl⟩
theorem dX7_goOn_1 : Dc mX7_goOn 1 (.getfield 113) 3 4 := ⟨by decide +kernel, rfl⟩
theorem dX7_goOn_4 : Dc mX7_goOn 4 (.iload_n 2) 1 5 := ⟨by decide +kernel, rfl⟩
theorem dX7_goOn_5 : Dc mX7_goOn 5 (.iaload) 1 6 := ⟨by decide +kernel, rfl⟩
theorem dX7_goOn_6 : Dc mX7_goOn 6 (.istore_n 3) 1 7 := ⟨by decide +kernel, rfl⟩
theorem dX7_goOn_7 : Dc mX7_goOn 7 (.iload_n 3) 1 8 := ⟨by decide +kernel, rfl⟩
theorem dX7_goOn_8 : Dc mX7_goOn 8 (.bipush 22) 2 10 := ⟨by decide +kernel, rfl⟩
theorem dX7_goOn_10 : Dj mX7_goOn 10 (.if_icmp .eq 9) 3 13 (9) 19 := ⟨by decide +kernel, rfl, by decide⟩
theorem dX7_goOn_13 : Dc mX7_goOn 13 (.iload_n 3) 1 14 := ⟨by decide +kernel, rfl⟩
theorem dX7_goOn_14 : Dc mX7_goOn 14 (.bipush 23) 2 16 := ⟨by decide +kernel, rfl⟩
theorem dX7_goOn_16 : Dj mX7_goOn 16 (.if_icmp .ne 5) 3 19 (5) 21 := ⟨by decide +kernel, rfl, by decide⟩
theorem dX7_goOn_19 : Dc mX7_goOn 19 (.iconst 0) 1 20 := ⟨by decide +kernel, rfl⟩
theorem dX7_goOn_20 : Dc mX7_goOn 20 (.ireturn) 1 21 := ⟨by decide +kernel, rfl⟩
theorem dX7_goOn_21 : Dc mX7_goOn 21 (.aload_n 1) 1 22 := ⟨by decide +kernel, rfl⟩
theorem dX7_goOn_22 : Dc mX7_goOn 22 (.iload_n 2) 1 23 := ⟨by decide +kernel, rfl⟩
theorem dX7_goOn_23 : Dc mX7_goOn 23 (.invokevirtual 116) 3 26 := ⟨by decide +kernel, rfl⟩
theorem dX7_goOn_26 : Dj mX7_goOn 26 (.ifCond .eq 46) 3 29 (46) 72 := ⟨by decide +kernel, rfl, by decide⟩
theorem dX7_goOn_29 : Dc mX7_goOn 29 (.aload_n 0) 1 30 := ⟨by decide +kernel, rfl⟩
theorem dX7_goOn_30 : Dc mX7_goOn 30 (.aload_n 1) 1 31 := ⟨by decide +kernel, rfl⟩
theorem dX7_goOn_31 : Dc mX7_goOn 31 (.iload_n 2) 1 32 := ⟨by decide +kernel, rfl⟩
theorem dX7_goOn_32 : Dc mX7_goOn 32 (.invokevirtual 119) 3 35 := ⟨by decide +kernel, rfl⟩
theorem dX7_goOn_35 : Dc mX7_goOn 35 (.istore 4) 2 37 := ⟨by decide +kernel, rfl⟩
theorem dX7_goOn_37 : Dc mX7_goOn 37 (.iload 4) 2 39 := ⟨by decide +kernel, rfl⟩
theorem dX7_goOn_39 : Dj mX7_goOn 39 (.ifCond .eq 6) 3 42 (6) 45 := ⟨by decide +kernel, rfl, by decide⟩
theorem dX7_goOn_42 : Dc mX7_goOn 42 (.iload 4) 2 44 := ⟨by decide +kernel, rfl⟩
theorem dX7_goOn_44 : Dc mX7_goOn 44 (.ireturn) 1 45 := ⟨by decide +kernel, rfl⟩
theorem dX7_goOn_45 : Dc mX7_goOn 45 (.aload_n 0) 1 46 := ⟨by decide +kernel, rfl⟩
theorem dX7_goOn_46 : Dc mX7_goOn 46 (.aload_n 1) 1 47 := ⟨by decide +kernel, rfl⟩
theorem dX7_goOn_47 : Dc mX7_goOn 47 (.getfield 31) 3 50 := ⟨by decide +kernel, rfl⟩
theorem dX7_goOn_50 : Dc mX7_goOn 50 (.aload_n 1) 1 51 := ⟨by decide +kernel, rfl⟩
theorem dX7_goOn_51 : Dc mX7_goOn 51 (.getfield 122) 3 54 := ⟨by decide +kernel, rfl⟩
theorem dX7_goOn_54 : Dc mX7_goOn 54 (.iload_n 2) 1 55 := ⟨by decide +kernel, rfl⟩
theorem dX7_goOn_55 : Dc mX7_goOn 55 (.iaload) 1 56 := ⟨by decide +kernel, rfl⟩
theorem dX7_goOn_56 : Dc mX7_goOn 56 (.aload_n 0) 1 57 := ⟨by decide +kernel, rfl⟩
theorem dX7_goOn_57 : Dc mX7_goOn 57 (.getfield 27) 3 60 := ⟨by decide +kernel, rfl⟩
theorem dX7_goOn_60 : Dc mX7_goOn 60 (.getfield 67) 3 63 := ⟨by decide +kernel, rfl⟩
theorem dX7_goOn_63 : Dc mX7_goOn 63 (.invokevirtual 109) 3 66 := ⟨by decide +kernel, rfl⟩
theorem dX7_goOn_66 : Dj mX7_goOn 66 (.ifCond .ne 6) 3 69 (6) 72 := ⟨by decide +kernel, rfl, by decide⟩
theorem dX7_goOn_69 : Dc mX7_goOn 69 (.bipush 8) 2 71 := ⟨by decide +kernel, rfl⟩
theorem dX7_goOn_71 : Dc mX7_goOn 71 (.ireturn) 1 72 := ⟨by decide +kernel, rfl⟩
theorem dX7_goOn_72 : Dc mX7_goOn 72 (.iload_n 3) 1 73 := ⟨by decide +kernel, rfl⟩
theorem dX7_goOn_73 : Dc mX7_goOn 73 (.bipush 12) 2 75 := ⟨by decide +kernel, rfl⟩
theorem dX7_goOn_75 : Dj mX7_goOn 75 (.if_icmp .ne 5) 3 78 (5) 80 := ⟨by decide +kernel, rfl, by decide⟩
theorem dX7_goOn_78 : Dc mX7_goOn 78 (.iconst 0) 1 79 := ⟨by decide +kernel, rfl⟩
theorem dX7_goOn_79 : Dc mX7_goOn 79 (.ireturn) 1 80 := ⟨by decide +kernel, rfl⟩
theorem dX7_goOn_80 : Dc mX7_goOn 80 (.aload_n 1) 1 81 := ⟨by decide +kernel, rfl⟩
theorem dX7_goOn_81 : Dc mX7_goOn 81 (.iload_n 2) 1 82 := ⟨by decide +kernel, rfl⟩
theorem dX7_goOn_82 : Dc mX7_goOn 82 (.iconst 1) 1 83 := ⟨by decide +kernel, rfl⟩
theorem dX7_goOn_83 : Dc mX7_goOn 83 (.iadd) 1 84 := ⟨by decide +kernel, rfl⟩
theorem dX7_goOn_84 : Dc mX7_goOn 84 (.invokevirtual 94) 3 87 := ⟨by decide +kernel, rfl⟩
theorem dX7_goOn_87 : Dj mX7_goOn 87 (.ifCond .ne 5) 3 90 (5) 92 := ⟨by decide +kernel, rfl, by decide⟩
theorem dX7_goOn_90 : Dc mX7_goOn 90 (.iconst 5) 1 91 := ⟨by decide +kernel, rfl⟩
theorem dX7_goOn_91 : Dc mX7_goOn 91 (.ireturn) 1 92 := ⟨by decide +kernel, rfl⟩
theorem dX7_goOn_92 : Dc mX7_goOn 92 (.aload_n 0) 1 93 := ⟨by decide +kernel, rfl⟩
theorem dX7_goOn_93 : Dc mX7_goOn 93 (.aload_n 1) 1 94 := ⟨by decide +kernel, rfl⟩
theorem dX7_goOn_94 : Dc mX7_goOn 94 (.getfield 31) 3 97 := ⟨by decide +kernel, rfl⟩
theorem dX7_goOn_97 : Dc mX7_goOn 97 (.iload_n 2) 1 98 := ⟨by decide +kernel, rfl⟩
theorem dX7_goOn_98 : Dc mX7_goOn 98 (.iconst 1) 1 99 := ⟨by decide +kernel, rfl⟩
theorem dX7_goOn_99 : Dc mX7_goOn 99 (.iadd) 1 100 := ⟨by decide +kernel, rfl⟩
theorem dX7_goOn_100 : Dc mX7_goOn 100 (.aload_n 0) 1 101 := ⟨by decide +kernel, rfl⟩
theorem dX7_goOn_101 : Dc mX7_goOn 101 (.getfield 27) 3 104 := ⟨by decide +kernel, rfl⟩
theorem dX7_goOn_104 : Dc mX7_goOn 104 (.getfield 67) 3 107 := ⟨by decide +kernel, rfl⟩
theorem dX7_goOn_107 : Dc mX7_goOn 107 (.invokevirtual 109) 3 110 := ⟨by decide +kernel, rfl⟩
theorem dX7_goOn_110 : Dj mX7_goOn 110 (.ifCond .eq 7) 3 113 (7) 117 := ⟨by decide +kernel, rfl, by decide⟩
theorem dX7_goOn_113 : Dc mX7_goOn 113 (.iconst 0) 1 114 := ⟨by decide +kernel, rfl⟩
theorem dX7_goOn_114 : Dj mX7_goOn 114 (.goto 5) 3 117 (5) 119 := ⟨by decide +kernel, rfl, by decide⟩
theorem dX7_goOn_117 : Dc mX7_goOn 117 (.bipush 8) 2 119 := ⟨by decide +kernel, rfl⟩
theorem dX7_goOn_119 : Dc mX7_goOn 119 (.ireturn) 1 120 := ⟨by decide +kernel, rfl⟩
theorem dX7_jumpRule_0 : Dc mX7_jumpRule 0 (.aload_n 1) 1 1 := ⟨by decide +kernel, rfl⟩
theorem dX7_jumpRule_1 : Dc mX7_jumpRule 1 (.getfield 122) 3 4 := ⟨by decide +kernel, rfl⟩
theorem dX7_jumpRule_4 : Dc mX7_jumpRule 4 (.iload_n 2) 1 5 := ⟨by decide +kernel, rfl⟩
theorem dX7_jumpRule_5 : Dc mX7_jumpRule 5 (.iaload) 1 6 := ⟨by decide +kernel, rfl⟩
theorem dX7_jumpRule_6 : Dc mX7_jumpRule 6 (.istore_n 3) 1 7 := ⟨by decide +kernel, rfl⟩
theorem dX7_jumpRule_7 : Dc mX7_jumpRule 7 (.aload_n 1) 1 8 := ⟨by decide +kernel, rfl⟩
theorem dX7_jumpRule_8 : Dc mX7_jumpRule 8 (.iload_n 3) 1 9 := ⟨by decide +kernel, rfl⟩
theorem dX7_jumpRule_9 : Dc mX7_jumpRule 9 (.invokevirtual 94) 3 12 := ⟨by decide +kernel, rfl⟩
theorem dX7_jumpRule_12 : Dj mX7_jumpRule 12 (.ifCond .ne 6) 3 15 (6) 18 := ⟨by decide +kernel, rfl, by decide⟩
theorem dX7_jumpRule_15 : Dc mX7_jumpRule 15 (.bipush 6) 2 17 := ⟨by decide +kernel, rfl⟩
theorem dX7_jumpRule_17 : Dc mX7_jumpRule 17 (.ireturn) 1 18 := ⟨by decide +kernel, rfl⟩
theorem dX7_jumpRule_18 : Dc mX7_jumpRule 18 (.iload_n 3) 1 19 := ⟨by decide +kernel, rfl⟩
theorem dX7_jumpRule_19 : Dc mX7_jumpRule 19 (.iload_n 2) 1 20 := ⟨by decide +kernel, rfl⟩
theorem dX7_jumpRule_20 : Dj mX7_jumpRule 20 (.if_icmp .gt 21) 3 23 (21) 41 := ⟨by decide +kernel, rfl, by decide⟩
theorem dX7_jumpRule_23 : Dc mX7_jumpRule 23 (.aload_n 0) 1 24 := ⟨by decide +kernel, rfl⟩
theorem dX7_jumpRule_24 : Dc mX7_jumpRule 24 (.getfield 27) 3 27 := ⟨by decide +kernel, rfl⟩
theorem dX7_jumpRule_27 : Dc mX7_jumpRule 27 (.getfield 67) 3 30 := ⟨by decide +kernel, rfl⟩
theorem dX7_jumpRule_30 : Dc mX7_jumpRule 30 (.invokevirtual 125) 3 33 := ⟨by decide +kernel, rfl⟩
theorem dX7_jumpRule_33 : Dj mX7_jumpRule 33 (.ifCond .eq 8) 3 36 (8) 41 := ⟨by decide +kernel, rfl, by decide⟩
theorem dX7_jumpRule_36 : Dc mX7_jumpRule 36 (.bipush 7) 2 38 := ⟨by decide +kernel, rfl⟩
theorem dX7_jumpRule_38 : Dj mX7_jumpRule 38 (.goto 4) 3 41 (4) 42 := ⟨by decide +kernel, rfl, by decide⟩
theorem dX7_jumpRule_41 : Dc mX7_jumpRule 41 (.iconst 0) 1 42 := ⟨by decide +kernel, rfl⟩
theorem dX7_jumpRule_42 : Dc mX7_jumpRule 42 (.ireturn) 1 43 := ⟨by decide +kernel, rfl⟩
theorem dX7_meet_0 : Dc mX7_meet 0 (.aload_n 1) 1 1 := ⟨by decide +kernel, rfl⟩
theorem dX7_meet_1 : Dc mX7_meet 1 (.getfield 98) 3 4 := ⟨by decide +kernel, rfl⟩
theorem dX7_meet_4 : Dc mX7_meet 4 (.iload_n 2) 1 5 := ⟨by decide +kernel, rfl⟩
theorem dX7_meet_5 : Dc mX7_meet 5 (.aaload) 1 6 := ⟨by decide +kernel, rfl⟩
theorem dX7_meet_6 : Dc mX7_meet 6 (.astore 4) 2 8 := ⟨by decide +kernel, rfl⟩
theorem dX7_meet_8 : Dc mX7_meet 8 (.aload 4) 2 10 := ⟨by decide +kernel, rfl⟩
theorem dX7_meet_10 : Dc mX7_meet 10 (.invokevirtual 129) 3 13 := ⟨by decide +kernel, rfl⟩
theorem dX7_meet_13 : Dj mX7_meet 13 (.ifCond .ne 26) 3 16 (26) 39 := ⟨by decide +kernel, rfl, by decide⟩
theorem dX7_meet_16 : Dc mX7_meet 16 (.aload 4) 2 18 := ⟨by decide +kernel, rfl⟩
theorem dX7_meet_18 : Dc mX7_meet 18 (.aload_n 3) 1 19 := ⟨by decide +kernel, rfl⟩
theorem dX7_meet_19 : Dc mX7_meet 19 (.invokevirtual 132) 3 22 := ⟨by decide +kernel, rfl⟩
theorem dX7_meet_22 : Dc mX7_meet 22 (.aload_n 1) 1 23 := ⟨by decide +kernel, rfl⟩
theorem dX7_meet_23 : Dc mX7_meet 23 (.aload_n 3) 1 24 := ⟨by decide +kernel, rfl⟩
theorem dX7_meet_24 : Dc mX7_meet 24 (.getfield 70) 3 27 := ⟨by decide +kernel, rfl⟩
theorem dX7_meet_27 : Dc mX7_meet 27 (.invokevirtual 73) 3 30 := ⟨by decide +kernel, rfl⟩
theorem dX7_meet_30 : Dc mX7_meet 30 (.aload_n 1) 1 31 := ⟨by decide +kernel, rfl⟩
theorem dX7_meet_31 : Dc mX7_meet 31 (.getfield 52) 3 34 := ⟨by decide +kernel, rfl⟩
theorem dX7_meet_34 : Dc mX7_meet 34 (.iload_n 2) 1 35 := ⟨by decide +kernel, rfl⟩
theorem dX7_meet_35 : Dc mX7_meet 35 (.iconst 1) 1 36 := ⟨by decide +kernel, rfl⟩
theorem dX7_meet_36 : Dc mX7_meet 36 (.bastore) 1 37 := ⟨by decide +kernel, rfl⟩
theorem dX7_meet_37 : Dc mX7_meet 37 (.iconst 1) 1 38 := ⟨by decide +kernel, rfl⟩
theorem dX7_meet_38 : Dc mX7_meet 38 (.ireturn) 1 39 := ⟨by decide +kernel, rfl⟩
theorem dX7_meet_39 : Dc mX7_meet 39 (.aload_n 0) 1 40 := ⟨by decide +kernel, rfl⟩
theorem dX7_meet_40 : Dc mX7_meet 40 (.aload 4) 2 42 := ⟨by decide +kernel, rfl⟩
theorem dX7_meet_42 : Dc mX7_meet 42 (.aload_n 3) 1 43 := ⟨by decide +kernel, rfl⟩
theorem dX7_meet_43 : Dc mX7_meet 43 (.invokevirtual 136) 3 46 := ⟨by decide +kernel, rfl⟩
theorem dX7_meet_46 : Dj mX7_meet 46 (.ifCond .ne 5) 3 49 (5) 51 := ⟨by decide +kernel, rfl, by decide⟩
theorem dX7_meet_49 : Dc mX7_meet 49 (.iconst 0) 1 50 := ⟨by decide +kernel, rfl⟩
theorem dX7_meet_50 : Dc mX7_meet 50 (.ireturn) 1 51 := ⟨by decide +kernel, rfl⟩
theorem dX7_meet_51 : Dc mX7_meet 51 (.aload_n 0) 1 52 := ⟨by decide +kernel, rfl⟩
theorem dX7_meet_52 : Dc mX7_meet 52 (.aload 4) 2 54 := ⟨by decide +kernel, rfl⟩
theorem dX7_meet_54 : Dc mX7_meet 54 (.getfield 140) 3 57 := ⟨by decide +kernel, rfl⟩
theorem dX7_meet_57 : Dc mX7_meet 57 (.aload_n 3) 1 58 := ⟨by decide +kernel, rfl⟩
theorem dX7_meet_58 : Dc mX7_meet 58 (.getfield 140) 3 61 := ⟨by decide +kernel, rfl⟩
theorem dX7_meet_61 : Dc mX7_meet 61 (.aload 4) 2 63 := ⟨by decide +kernel, rfl⟩
theorem dX7_meet_63 : Dc mX7_meet 63 (.getfield 70) 3 66 := ⟨by decide +kernel, rfl⟩
theorem dX7_meet_66 : Dc mX7_meet 66 (.invokevirtual 143) 3 69 := ⟨by decide +kernel, rfl⟩
theorem dX7_meet_69 : Dc mX7_meet 69 (.istore 5) 2 71 := ⟨by decide +kernel, rfl⟩
theorem dX7_meet_71 : Dc mX7_meet 71 (.aload_n 0) 1 72 := ⟨by decide +kernel, rfl⟩
theorem dX7_meet_72 : Dc mX7_meet 72 (.aload 4) 2 74 := ⟨by decide +kernel, rfl⟩
theorem dX7_meet_74 : Dc mX7_meet 74 (.getfield 147) 3 77 := ⟨by decide +kernel, rfl⟩
theorem dX7_meet_77 : Dc mX7_meet 77 (.aload_n 3) 1 78 := ⟨by decide +kernel, rfl⟩
theorem dX7_meet_78 : Dc mX7_meet 78 (.getfield 147) 3 81 := ⟨by decide +kernel, rfl⟩
theorem dX7_meet_81 : Dc mX7_meet 81 (.bipush 8) 2 83 := ⟨by decide +kernel, rfl⟩
theorem dX7_meet_83 : Dc mX7_meet 83 (.invokevirtual 143) 3 86 := ⟨by decide +kernel, rfl⟩
theorem dX7_meet_86 : Dc mX7_meet 86 (.istore 6) 2 88 := ⟨by decide +kernel, rfl⟩
theorem dX7_meet_88 : Dc mX7_meet 88 (.iload 5) 2 90 := ⟨by decide +kernel, rfl⟩
theorem dX7_meet_90 : Dj mX7_meet 90 (.ifCond .ne 8) 3 93 (8) 98 := ⟨by decide +kernel, rfl, by decide⟩
theorem dX7_meet_93 : Dc mX7_meet 93 (.iload 6) 2 95 := ⟨by decide +kernel, rfl⟩
theorem dX7_meet_95 : Dj mX7_meet 95 (.ifCond .eq 10) 3 98 (10) 105 := ⟨by decide +kernel, rfl, by decide⟩
theorem dX7_meet_98 : Dc mX7_meet 98 (.aload_n 1) 1 99 := ⟨by decide +kernel, rfl⟩
theorem dX7_meet_99 : Dc mX7_meet 99 (.getfield 52) 3 102 := ⟨by decide +kernel, rfl⟩
theorem dX7_meet_102 : Dc mX7_meet 102 (.iload_n 2) 1 103 := ⟨by decide +kernel, rfl⟩
theorem dX7_meet_103 : Dc mX7_meet 103 (.iconst 1) 1 104 := ⟨by decide +kernel, rfl⟩
theorem dX7_meet_104 : Dc mX7_meet 104 (.bastore) 1 105 := ⟨by decide +kernel, rfl⟩
theorem dX7_meet_105 : Dc mX7_meet 105 (.iconst 1) 1 106 := ⟨by decide +kernel, rfl⟩
theorem dX7_meet_106 : Dc mX7_meet 106 (.ireturn) 1 107 := ⟨by decide +kernel, rfl⟩
theorem dX7_canMeet_0 : Dc mX7_canMeet 0 (.aload_n 1) 1 1 := ⟨by decide +kernel, rfl⟩
theorem dX7_canMeet_1 : Dc mX7_canMeet 1 (.getfield 70) 3 4 := ⟨by decide +kernel, rfl⟩
theorem dX7_canMeet_4 : Dc mX7_canMeet 4 (.aload_n 2) 1 5 := ⟨by decide +kernel, rfl⟩
theorem dX7_canMeet_5 : Dc mX7_canMeet 5 (.getfield 70) 3 8 := ⟨by decide +kernel, rfl⟩
theorem dX7_canMeet_8 : Dj mX7_canMeet 8 (.if_icmp .eq 5) 3 11 (5) 13 := ⟨by decide +kernel, rfl, by decide⟩
theorem dX7_canMeet_11 : Dc mX7_canMeet 11 (.iconst 0) 1 12 := ⟨by decide +kernel, rfl⟩
theorem dX7_canMeet_12 : Dc mX7_canMeet 12 (.ireturn) 1 13 := ⟨by decide +kernel, rfl⟩
theorem dX7_canMeet_13 : Dc mX7_canMeet 13 (.iconst 0) 1 14 := ⟨by decide +kernel, rfl⟩
theorem dX7_canMeet_14 : Dc mX7_canMeet 14 (.istore_n 3) 1 15 := ⟨by decide +kernel, rfl⟩
theorem dX7_canMeet_15 : Dc mX7_canMeet 15 (.iload_n 3) 1 16 := ⟨by decide +kernel, rfl⟩
theorem dX7_canMeet_16 : Dc mX7_canMeet 16 (.aload_n 1) 1 17 := ⟨by decide +kernel, rfl⟩
theorem dX7_canMeet_17 : Dc mX7_canMeet 17 (.getfield 70) 3 20 := ⟨by decide +kernel, rfl⟩
theorem dX7_canMeet_20 : Dj mX7_canMeet 20 (.if_icmp .ge 33) 3 23 (33) 53 := ⟨by decide +kernel, rfl, by decide⟩
theorem dX7_canMeet_23 : Dc mX7_canMeet 23 (.aload_n 0) 1 24 := ⟨by decide +kernel, rfl⟩
theorem dX7_canMeet_24 : Dc mX7_canMeet 24 (.getfield 18) 3 27 := ⟨by decide +kernel, rfl⟩
theorem dX7_canMeet_27 : Dc mX7_canMeet 27 (.aload_n 1) 1 28 := ⟨by decide +kernel, rfl⟩
theorem dX7_canMeet_28 : Dc mX7_canMeet 28 (.getfield 140) 3 31 := ⟨by decide +kernel, rfl⟩
theorem dX7_canMeet_31 : Dc mX7_canMeet 31 (.iload_n 3) 1 32 := ⟨by decide +kernel, rfl⟩
theorem dX7_canMeet_32 : Dc mX7_canMeet 32 (.iaload) 1 33 := ⟨by decide +kernel, rfl⟩
theorem dX7_canMeet_33 : Dc mX7_canMeet 33 (.aload_n 2) 1 34 := ⟨by decide +kernel, rfl⟩
theorem dX7_canMeet_34 : Dc mX7_canMeet 34 (.getfield 140) 3 37 := ⟨by decide +kernel, rfl⟩
theorem dX7_canMeet_37 : Dc mX7_canMeet 37 (.iload_n 3) 1 38 := ⟨by decide +kernel, rfl⟩
theorem dX7_canMeet_38 : Dc mX7_canMeet 38 (.iaload) 1 39 := ⟨by decide +kernel, rfl⟩
theorem dX7_canMeet_39 : Dc mX7_canMeet 39 (.invokevirtual 150) 3 42 := ⟨by decide +kernel, rfl⟩
theorem dX7_canMeet_42 : Dj mX7_canMeet 42 (.ifCond .ne 5) 3 45 (5) 47 := ⟨by decide +kernel, rfl, by decide⟩
theorem dX7_canMeet_45 : Dc mX7_canMeet 45 (.iconst 0) 1 46 := ⟨by decide +kernel, rfl⟩
theorem dX7_canMeet_46 : Dc mX7_canMeet 46 (.ireturn) 1 47 := ⟨by decide +kernel, rfl⟩
theorem dX7_canMeet_47 : Dc mX7_canMeet 47 (.iinc 3 1) 3 50 := ⟨by decide +kernel, rfl⟩
theorem dX7_canMeet_50 : Dj mX7_canMeet 50 (.goto (-35)) 3 53 (-35) 15 := ⟨by decide +kernel, rfl, by decide⟩
theorem dX7_canMeet_53 : Dc mX7_canMeet 53 (.iconst 1) 1 54 := ⟨by decide +kernel, rfl⟩
theorem dX7_canMeet_54 : Dc mX7_canMeet 54 (.ireturn) 1 55 := ⟨by decide +kernel, rfl⟩
theorem dX7_mergeRow_0 : Dc mX7_mergeRow 0 (.iconst 0) 1 1 := ⟨by decide +kernel, rfl⟩
theorem dX7_mergeRow_1 : Dc mX7_mergeRow 1 (.istore 4) 2 3 := ⟨by decide +kernel, rfl⟩
theorem dX7_mergeRow_3 : Dc mX7_mergeRow 3 (.iconst 0) 1 4 := ⟨by decide +kernel, rfl⟩
theorem dX7_mergeRow_4 : Dc mX7_mergeRow 4 (.istore 5) 2 6 := ⟨by decide +kernel, rfl⟩
theorem dX7_mergeRow_6 : Dc mX7_mergeRow 6 (.iload 5) 2 8 := ⟨by decide +kernel, rfl⟩
theorem dX7_mergeRow_8 : Dc mX7_mergeRow 8 (.iload_n 3) 1 9 := ⟨by decide +kernel, rfl⟩
theorem dX7_mergeRow_9 : Dj mX7_mergeRow 9 (.if_icmp .ge 53) 3 12 (53) 62 := ⟨by decide +kernel, rfl, by decide⟩
theorem dX7_mergeRow_12 : Dc mX7_mergeRow 12 (.aload_n 0) 1 13 := ⟨by decide +kernel, rfl⟩
theorem dX7_mergeRow_13 : Dc mX7_mergeRow 13 (.getfield 18) 3 16 := ⟨by decide +kernel, rfl⟩
theorem dX7_mergeRow_16 : Dc mX7_mergeRow 16 (.aload_n 1) 1 17 := ⟨by decide +kernel, rfl⟩
theorem dX7_mergeRow_17 : Dc mX7_mergeRow 17 (.iload 5) 2 19 := ⟨by decide +kernel, rfl⟩
theorem dX7_mergeRow_19 : Dc mX7_mergeRow 19 (.iaload) 1 20 := ⟨by decide +kernel, rfl⟩
theorem dX7_mergeRow_20 : Dc mX7_mergeRow 20 (.aload_n 2) 1 21 := ⟨by decide +kernel, rfl⟩
theorem dX7_mergeRow_21 : Dc mX7_mergeRow 21 (.iload 5) 2 23 := ⟨by decide +kernel, rfl⟩
theorem dX7_mergeRow_23 : Dc mX7_mergeRow 23 (.iaload) 1 24 := ⟨by decide +kernel, rfl⟩
theorem dX7_mergeRow_24 : Dc mX7_mergeRow 24 (.invokevirtual 150) 3 27 := ⟨by decide +kernel, rfl⟩
theorem dX7_mergeRow_27 : Dc mX7_mergeRow 27 (.istore 6) 2 29 := ⟨by decide +kernel, rfl⟩
theorem dX7_mergeRow_29 : Dc mX7_mergeRow 29 (.iload 4) 2 31 := ⟨by decide +kernel, rfl⟩
theorem dX7_mergeRow_31 : Dj mX7_mergeRow 31 (.ifCond .ne 12) 3 34 (12) 43 := ⟨by decide +kernel, rfl, by decide⟩
theorem dX7_mergeRow_34 : Dc mX7_mergeRow 34 (.iload 6) 2 36 := ⟨by decide +kernel, rfl⟩
theorem dX7_mergeRow_36 : Dc mX7_mergeRow 36 (.aload_n 1) 1 37 := ⟨by decide +kernel, rfl⟩
theorem dX7_mergeRow_37 : Dc mX7_mergeRow 37 (.iload 5) 2 39 := ⟨by decide +kernel, rfl⟩
theorem dX7_mergeRow_39 : Dc mX7_mergeRow 39 (.iaload) 1 40 := ⟨by decide +kernel, rfl⟩
theorem dX7_mergeRow_40 : Dj mX7_mergeRow 40 (.if_icmp .eq 7) 3 43 (7) 47 := ⟨by decide +kernel, rfl, by decide⟩
theorem dX7_mergeRow_43 : Dc mX7_mergeRow 43 (.iconst 1) 1 44 := ⟨by decide +kernel, rfl⟩
theorem dX7_mergeRow_44 : Dj mX7_mergeRow 44 (.goto 4) 3 47 (4) 48 := ⟨by decide +kernel, rfl, by decide⟩
theorem dX7_mergeRow_47 : Dc mX7_mergeRow 47 (.iconst 0) 1 48 := ⟨by decide +kernel, rfl⟩
theorem dX7_mergeRow_48 : Dc mX7_mergeRow 48 (.istore 4) 2 50 := ⟨by decide +kernel, rfl⟩
theorem dX7_mergeRow_50 : Dc mX7_mergeRow 50 (.aload_n 1) 1 51 := ⟨by decide +kernel, rfl⟩
theorem dX7_mergeRow_51 : Dc mX7_mergeRow 51 (.iload 5) 2 53 := ⟨by decide +kernel, rfl⟩
theorem dX7_mergeRow_53 : Dc mX7_mergeRow 53 (.iload 6) 2 55 := ⟨by decide +kernel, rfl⟩
theorem dX7_mergeRow_55 : Dc mX7_mergeRow 55 (.iastore) 1 56 := ⟨by decide +kernel, rfl⟩
theorem dX7_mergeRow_56 : Dc mX7_mergeRow 56 (.iinc 5 1) 3 59 := ⟨by decide +kernel, rfl⟩
theorem dX7_mergeRow_59 : Dj mX7_mergeRow 59 (.goto (-53)) 3 62 (-53) 6 := ⟨by decide +kernel, rfl, by decide⟩
theorem dX7_mergeRow_62 : Dc mX7_mergeRow 62 (.iload 4) 2 64 := ⟨by decide +kernel, rfl⟩
theorem dX7_mergeRow_64 : Dc mX7_mergeRow 64 (.ireturn) 1 65 := ⟨by decide +kernel, rfl⟩
theorem dX8_init_0 : Dc mX8_init 0 (.aload_n 0) 1 1 := ⟨by decide +kernel, rfl⟩
theorem dX8_init_1 : Dc mX8_init 1 (.invokespecial 1) 3 4 := ⟨by decide +kernel, rfl⟩
theorem dX8_init_4 : Dc mX8_init 4 (.aload_n 0) 1 5 := ⟨by decide +kernel, rfl⟩
theorem dX8_init_5 : Dc mX8_init 5 (.new 7) 3 8 := ⟨by decide +kernel, rfl⟩
theorem dX8_init_8 : Dc mX8_init 8 (.dup) 1 9 := ⟨by decide +kernel, rfl⟩
theorem dX8_init_9 : Dc mX8_init 9 (.invokespecial 9) 3 12 := ⟨by decide +kernel, rfl⟩
theorem dX8_init_12 : Dc mX8_init 12 (.putfield 10) 3 15 := ⟨by decide +kernel, rfl⟩
theorem dX8_init_15 : Dc mX8_init 15 (.aload_n 0) 1 16 := ⟨by decide +kernel, rfl⟩
theorem dX8_init_16 : Dc mX8_init 16 (.new 16) 3 19 := ⟨by decide +kernel, rfl⟩
theorem dX8_init_19 : Dc mX8_init 19 (.dup) 1 20 := ⟨by decide +kernel, rfl⟩
theorem dX8_init_20 : Dc mX8_init 20 (.aload_n 0) 1 21 := ⟨by decide +kernel, rfl⟩
theorem dX8_init_21 : Dc mX8_init 21 (.getfield 10) 3 24 := ⟨by decide +kernel, rfl⟩
theorem dX8_init_24 : Dc mX8_init 24 (.invokespecial 18) 3 27 := ⟨by decide +kernel, rfl⟩
theorem dX8_init_27 : Dc mX8_init 27 (.putfield 21) 3 30 := ⟨by decide +kernel, rfl⟩
theorem dX8_init_30 : Dc mX8_init 30 (.aload_n 0) 1 31 := ⟨by decide +kernel, rfl⟩
theorem dX8_init_31 : Dc mX8_init 31 (.new 25) 3 34 := ⟨by decide +kernel, rfl⟩
theorem dX8_init_34 : Dc mX8_init 34 (.dup) 1 35 := ⟨by decide +kernel, rfl⟩
theorem dX8_init_35 : Dc mX8_init 35 (.aload_n 0) 1 36 := ⟨by decide +kernel, rfl⟩
theorem dX8_init_36 : Dc mX8_init 36 (.getfield 21) 3 39 := ⟨by decide +kernel, rfl⟩
theorem dX8_init_39 : Dc mX8_init 39 (.invokespecial 27) 3 42 := ⟨by decide +kernel, rfl⟩
theorem dX8_init_42 : Dc mX8_init 42 (.putfield 30) 3 45 := ⟨by decide +kernel, rfl⟩
theorem dX8_init_45 : Dc mX8_init 45 (.aload_n 0) 1 46 := ⟨by decide +kernel, rfl⟩
theorem dX8_init_46 : Dc mX8_init 46 (.new 34) 3 49 := ⟨by decide +kernel, rfl⟩
theorem dX8_init_49 : Dc mX8_init 49 (.dup) 1 50 := ⟨by decide +kernel, rfl⟩
theorem dX8_init_50 : Dc mX8_init 50 (.invokespecial 36) 3 53 := ⟨by decide +kernel, rfl⟩
theorem dX8_init_53 : Dc mX8_init 53 (.putfield 37) 3 56 := ⟨by decide +kernel, rfl⟩
theorem dX8_init_56 : Dc mX8_init 56 (.aload_n 0) 1 57 := ⟨by decide +kernel, rfl⟩
theorem dX8_init_57 : Dc mX8_init 57 (.bipush 6) 2 59 := ⟨by decide +kernel, rfl⟩
theorem dX8_init_59 : Dc mX8_init 59 (.anewarray 41) 3 62 := ⟨by decide +kernel, rfl⟩
theorem dX8_init_62 : Dc mX8_init 62 (.putfield 43) 3 65 := ⟨by decide +kernel, rfl⟩
theorem dX8_init_65 : Dc mX8_init 65 (.aload_n 0) 1 66 := ⟨by decide +kernel, rfl⟩
theorem dX8_init_66 : Dc mX8_init 66 (.iconst 0) 1 67 := ⟨by decide +kernel, rfl⟩
theorem dX8_init_67 : Dc mX8_init 67 (.putfield 47) 3 70 := ⟨by decide +kernel, rfl⟩
theorem dX8_init_70 : Dc mX8_init 70 (.return_) 1 71 := ⟨by decide +kernel, rfl⟩
theorem dX8_cls_0 : Dc mX8_cls 0 (.iload_n 1) 1 1 := ⟨by decide +kernel, rfl⟩
theorem dX8_cls_1 : Dc mX8_cls 1 (.iconst (-1)) 1 2 := ⟨by decide +kernel, rfl⟩
theorem dX8_cls_2 : Dj mX8_cls 2 (.if_icmp .eq 28) 3 5 (28) 30 := ⟨by decide +kernel, rfl, by decide⟩
theorem dX8_cls_5 : Dc mX8_cls 5 (.aload_n 0) 1 6 := ⟨by decide +kernel, rfl⟩
theorem dX8_cls_6 : Dc mX8_cls 6 (.getfield 10) 3 9 := ⟨by decide +kernel, rfl⟩
theorem dX8_cls_9 : Dc mX8_cls 9 (.iload_n 1) 1 10 := ⟨by decide +kernel, rfl⟩
theorem dX8_cls_10 : Dc mX8_cls 10 (.invokevirtual 51) 3 13 := ⟨by decide +kernel, rfl⟩
theorem dX8_cls_13 : Dj mX8_cls 13 (.ifCond .eq 14) 3 16 (14) 27 := ⟨by decide +kernel, rfl, by decide⟩
theorem dX8_cls_16 : Dc mX8_cls 16 (.aload_n 0) 1 17 := ⟨by decide +kernel, rfl⟩
theorem dX8_cls_17 : Dc mX8_cls 17 (.getfield 10) 3 20 := ⟨by decide +kernel, rfl⟩
theorem dX8_cls_20 : Dc mX8_cls 20 (.iload_n 1) 1 21 := ⟨by decide +kernel, rfl⟩
theorem dX8_cls_21 : Dc mX8_cls 21 (.invokevirtual 55) 3 24 := ⟨by decide +kernel, rfl⟩
theorem dX8_cls_24 : Dj mX8_cls 24 (.ifCond .eq 6) 3 27 (6) 30 := ⟨by decide +kernel, rfl, by decide⟩
theorem dX8_cls_27 : Dc mX8_cls 27 (.bipush (-2)) 2 29 := ⟨by decide +kernel, rfl⟩
theorem dX8_cls_29 : Dc mX8_cls 29 (.ireturn) 1 30 := ⟨by decide +kernel, rfl⟩
theorem dX8_cls_30 : Dc mX8_cls 30 (.aload_n 0) 1 31 := ⟨by decide +kernel, rfl⟩
theorem dX8_cls_31 : Dc mX8_cls 31 (.getfield 10) 3 34 := ⟨by decide +kernel, rfl⟩
theorem dX8_cls_34 : Dc mX8_cls 34 (.invokevirtual 58) 3 37 := ⟨by decide +kernel, rfl⟩
theorem dX8_cls_37 : Dj mX8_cls 37 (.ifCond .eq 8) 3 40 (8) 45 := ⟨by decide +kernel, rfl, by decide⟩
theorem dX8_cls_40 : Dc mX8_cls 40 (.bipush (-4)) 2 42 := ⟨by decide +kernel, rfl⟩
theorem dX8_cls_42 : Dj mX8_cls 42 (.goto 11) 3 45 (11) 53 := ⟨by decide +kernel, rfl, by decide⟩
theorem dX8_cls_45 : Dc mX8_cls 45 (.aload_n 0) 1 46 := ⟨by decide +kernel, rfl⟩
theorem dX8_cls_46 : Dc mX8_cls 46 (.getfield 10) 3 49 := ⟨by decide +kernel, rfl⟩
theorem dX8_cls_49 : Dc mX8_cls 49 (.iload_n 1) 1 50 := ⟨by decide +kernel, rfl⟩
theorem dX8_cls_50 : Dc mX8_cls 50 (.invokevirtual 62) 3 53 := ⟨by decide +kernel, rfl⟩
theorem dX8_cls_53 : Dc mX8_cls 53 (.ireturn) 1 54 := ⟨by decide +kernel, rfl⟩
theorem dX8_fits_0 : Dc mX8_fits 0 (.aload_n 0) 1 1 := ⟨by decide +kernel, rfl⟩
theorem dX8_fits_1 : Dc mX8_fits 1 (.getfield 10) 3 4 := ⟨by decide +kernel, rfl⟩
theorem dX8_fits_4 : Dc mX8_fits 4 (.iload_n 1) 1 5 := ⟨by decide +kernel, rfl⟩
theorem dX8_fits_5 : Dc mX8_fits 5 (.invokevirtual 51) 3 8 := ⟨by decide +kernel, rfl⟩
theorem dX8_fits_8 : Dj mX8_fits 8 (.ifCond .eq 14) 3 11 (14) 22 := ⟨by decide +kernel, rfl, by decide⟩
theorem dX8_fits_11 : Dc mX8_fits 11 (.aload_n 0) 1 12 := ⟨by decide +kernel, rfl⟩
theorem dX8_fits_12 : Dc mX8_fits 12 (.getfield 10) 3 15 := ⟨by decide +kernel, rfl⟩
theorem dX8_fits_15 : Dc mX8_fits 15 (.iload_n 2) 1 16 := ⟨by decide +kernel, rfl⟩
theorem dX8_fits_16 : Dc mX8_fits 16 (.invokevirtual 51) 3 19 := ⟨by decide +kernel, rfl⟩
theorem dX8_fits_19 : Dj mX8_fits 19 (.ifCond .ne 6) 3 22 (6) 25 := ⟨by decide +kernel, rfl, by decide⟩
theorem dX8_fits_22 : Dc mX8_fits 22 (.bipush (-2)) 2 24 := ⟨by decide +kernel, rfl⟩
theorem dX8_fits_24 : Dc mX8_fits 24 (.ireturn) 1 25 := ⟨by decide +kernel, rfl⟩
theorem dX8_fits_25 : Dc mX8_fits 25 (.aload_n 0) 1 26 := ⟨by decide +kernel, rfl⟩
theorem dX8_fits_26 : Dc mX8_fits 26 (.getfield 10) 3 29 := ⟨by decide +kernel, rfl⟩
theorem dX8_fits_29 : Dc mX8_fits 29 (.iload_n 1) 1 30 := ⟨by decide +kernel, rfl⟩
theorem dX8_fits_30 : Dc mX8_fits 30 (.iload_n 2) 1 31 := ⟨by decide +kernel, rfl⟩
theorem dX8_fits_31 : Dc mX8_fits 31 (.invokevirtual 66) 3 34 := ⟨by decide +kernel, rfl⟩
theorem dX8_fits_34 : Dj mX8_fits 34 (.ifCond .eq 7) 3 37 (7) 41 := ⟨by decide +kernel, rfl, by decide⟩
theorem dX8_fits_37 : Dc mX8_fits 37 (.iconst 1) 1 38 := ⟨by decide +kernel, rfl⟩
theorem dX8_fits_38 : Dj mX8_fits 38 (.goto 4) 3 41 (4) 42 := ⟨by decide +kernel, rfl, by decide⟩
theorem dX8_fits_41 : Dc mX8_fits 41 (.iconst 0) 1 42 := ⟨by decide +kernel, rfl⟩
theorem dX8_fits_42 : Dc mX8_fits 42 (.ireturn) 1 43 := ⟨by decide +kernel, rfl⟩
theorem dX8_join_0 : Dc mX8_join 0 (.aload_n 0) 1 1 := ⟨by decide +kernel, rfl⟩
theorem dX8_join_1 : Dc mX8_join 1 (.getfield 21) 3 4 := ⟨by decide +kernel, rfl⟩
theorem dX8_join_4 : Dc mX8_join 4 (.iload_n 1) 1 5 := ⟨by decide +kernel, rfl⟩
theorem dX8_join_5 : Dc mX8_join 5 (.invokevirtual 70) 3 8 := ⟨by decide +kernel, rfl⟩
theorem dX8_join_8 : Dj mX8_join 8 (.ifCond .eq 14) 3 11 (14) 22 := ⟨by decide +kernel, rfl, by decide⟩
theorem dX8_join_11 : Dc mX8_join 11 (.aload_n 0) 1 12 := ⟨by decide +kernel, rfl⟩
theorem dX8_join_12 : Dc mX8_join 12 (.getfield 21) 3 15 := ⟨by decide +kernel, rfl⟩
theorem dX8_join_15 : Dc mX8_join 15 (.iload_n 2) 1 16 := ⟨by decide +kernel, rfl⟩
theorem dX8_join_16 : Dc mX8_join 16 (.invokevirtual 70) 3 19 := ⟨by decide +kernel, rfl⟩
theorem dX8_join_19 : Dj mX8_join 19 (.ifCond .ne 6) 3 22 (6) 25 := ⟨by decide +kernel, rfl, by decide⟩
theorem dX8_join_22 : Dc mX8_join 22 (.bipush (-2)) 2 24 := ⟨by decide +kernel, rfl⟩
theorem dX8_join_24 : Dc mX8_join 24 (.ireturn) 1 25 := ⟨by decide +kernel, rfl⟩
theorem dX8_join_25 : Dc mX8_join 25 (.aload_n 0) 1 26 := ⟨by decide +kernel, rfl⟩
theorem dX8_join_26 : Dc mX8_join 26 (.getfield 21) 3 29 := ⟨by decide +kernel, rfl⟩
theorem dX8_join_29 : Dc mX8_join 29 (.iload_n 1) 1 30 := ⟨by decide +kernel, rfl⟩
theorem dX8_join_30 : Dc mX8_join 30 (.iload_n 2) 1 31 := ⟨by decide +kernel, rfl⟩
theorem dX8_join_31 : Dc mX8_join 31 (.invokevirtual 73) 3 34 := ⟨by decide +kernel, rfl⟩
theorem dX8_join_34 : Dc mX8_join 34 (.ireturn) 1 35 := ⟨by decide +kernel, rfl⟩
theorem dX8_method_0 : Dc mX8_method 0 (.aload_n 0) 1 1 := ⟨by decide +kernel, rfl⟩
theorem dX8_method_1 : Dc mX8_method 1 (.getfield 21) 3 4 := ⟨by decide +kernel, rfl⟩
theorem dX8_method_4 : Dc mX8_method 4 (.iload_n 1) 1 5 := ⟨by decide +kernel, rfl⟩
theorem dX8_method_5 : Dc mX8_method 5 (.invokevirtual 77) 3 8 := ⟨by decide +kernel, rfl⟩
theorem dX8_method_8 : Dj mX8_method 8 (.ifCond .ne 6) 3 11 (6) 14 := ⟨by decide +kernel, rfl, by decide⟩
theorem dX8_method_11 : Dc mX8_method 11 (.bipush (-2)) 2 13 := ⟨by decide +kernel, rfl⟩
theorem dX8_method_13 : Dc mX8_method 13 (.ireturn) 1 14 := ⟨by decide +kernel, rfl⟩
theorem dX8_method_14 : Dc mX8_method 14 (.aload_n 0) 1 15 := ⟨by decide +kernel, rfl⟩
theorem dX8_method_15 : Dc mX8_method 15 (.getfield 47) 3 18 := ⟨by decide +kernel, rfl⟩
theorem dX8_method_18 : Dc mX8_method 18 (.bipush 6) 2 20 := ⟨by decide +kernel, rfl⟩
theorem dX8_method_20 : Dj mX8_method 20 (.if_icmp .lt 6) 3 23 (6) 26 := ⟨by decide +kernel, rfl, by decide⟩
theorem dX8_method_23 : Dc mX8_method 23 (.bipush (-4)) 2 25 := ⟨by decide +kernel, rfl⟩
theorem dX8_method_25 : Dc mX8_method 25 (.ireturn) 1 26 := ⟨by decide +kernel, rfl⟩
theorem dX8_method_26 : Dc mX8_method 26 (.aload_n 0) 1 27 := ⟨by decide +kernel, rfl⟩
theorem dX8_method_27 : Dc mX8_method 27 (.getfield 43) 3 30 := ⟨by decide +kernel, rfl⟩
theorem dX8_method_30 : Dc mX8_method 30 (.aload_n 0) 1 31 := ⟨by decide +kernel, rfl⟩
theorem dX8_method_31 : Dc mX8_method 31 (.getfield 47) 3 34 := ⟨by decide +kernel, rfl⟩
theorem dX8_method_34 : Dc mX8_method 34 (.new 41) 3 37 := ⟨by decide +kernel, rfl⟩
theorem dX8_method_37 : Dc mX8_method 37 (.dup) 1 38 := ⟨by decide +kernel, rfl⟩
theorem dX8_method_38 : Dc mX8_method 38 (.iload_n 1) 1 39 := ⟨by decide +kernel, rfl⟩
theorem dX8_method_39 : Dc mX8_method 39 (.invokespecial 80) 3 42 := ⟨by decide +kernel, rfl⟩
theorem dX8_method_42 : Dc mX8_method 42 (.aastore) 1 43 := ⟨by decide +kernel, rfl⟩
theorem dX8_method_43 : Dc mX8_method 43 (.aload_n 0) 1 44 := ⟨by decide +kernel, rfl⟩
theorem dX8_method_44 : Dc mX8_method 44 (.dup) 1 45 := ⟨by decide +kernel, rfl⟩
theorem dX8_method_45 : Dc mX8_method 45 (.getfield 47) 3 48 := ⟨by decide +kernel, rfl⟩
theorem dX8_method_48 : Dc mX8_method 48 (.iconst 1) 1 49 := ⟨by decide +kernel, rfl⟩
theorem dX8_method_49 : Dc mX8_method 49 (.iadd) 1 50 := ⟨by decide +kernel, rfl⟩
theorem dX8_method_50 : Dc mX8_method 50 (.putfield 47) 3 53 := ⟨by decide +kernel, rfl⟩
theorem dX8_method_53 : Dc mX8_method 53 (.aload_n 0) 1 54 := ⟨by decide +kernel, rfl⟩
theorem dX8_method_54 : Dc mX8_method 54 (.getfield 47) 3 57 := ⟨by decide +kernel, rfl⟩
theorem dX8_method_57 : Dc mX8_method 57 (.iconst 1) 1 58 := ⟨by decide +kernel, rfl⟩
theorem dX8_method_58 : Dc mX8_method 58 (.isub) 1 59 := ⟨by decide +kernel, rfl⟩
theorem dX8_method_59 : Dc mX8_method 59 (.ireturn) 1 60 := ⟨by decide +kernel, rfl⟩
theorem dX8_argument_0 : Dc mX8_argument 0 (.aload_n 0) 1 1 := ⟨by decide +kernel, rfl⟩
theorem dX8_argument_1 : Dc mX8_argument 1 (.iload_n 1) 1 2 := ⟨by decide +kernel, rfl⟩
theorem dX8_argument_2 : Dc mX8_argument 2 (.invokevirtual 83) 3 5 := ⟨by decide +kernel, rfl⟩
theorem dX8_argument_5 : Dc mX8_argument 5 (.astore_n 3) 1 6 := ⟨by decide +kernel, rfl⟩
theorem dX8_argument_6 : Dc mX8_argument 6 (.aload_n 3) 1 7 := ⟨by decide +kernel, rfl⟩
theorem dX8_argument_7 : Dj mX8_argument 7 (.ifnull 14) 3 10 (14) 21 := ⟨by decide +kernel, rfl, by decide⟩
theorem dX8_argument_10 : Dc mX8_argument 10 (.aload_n 0) 1 11 := ⟨by decide +kernel, rfl⟩
theorem dX8_argument_11 : Dc mX8_argument 11 (.getfield 21) 3 14 := ⟨by decide +kernel, rfl⟩
theorem dX8_argument_14 : Dc mX8_argument 14 (.iload_n 2) 1 15 := ⟨by decide +kernel, rfl⟩
theorem dX8_argument_15 : Dc mX8_argument 15 (.invokevirtual 87) 3 18 := ⟨by decide +kernel, rfl⟩
theorem dX8_argument_18 : Dj mX8_argument 18 (.ifCond .ne 6) 3 21 (6) 24 := ⟨by decide +kernel, rfl, by decide⟩
theorem dX8_argument_21 : Dc mX8_argument 21 (.bipush (-2)) 2 23 := ⟨by decide +kernel, rfl⟩
theorem dX8_argument_23 : Dc mX8_argument 23 (.ireturn) 1 24 := ⟨by decide +kernel, rfl⟩
theorem dX8_argument_24 : Dc mX8_argument 24 (.aload_n 3) 1 25 := ⟨by decide +kernel, rfl⟩
theorem dX8_argument_25 : Dc mX8_argument 25 (.iload_n 2) 1 26 := ⟨by decide +kernel, rfl⟩
theorem dX8_argument_26 : Dc mX8_argument 26 (.invokevirtual 90) 3 29 := ⟨by decide +kernel, rfl⟩
theorem dX8_argument_29 : Dc mX8_argument 29 (.ireturn) 1 30 := ⟨by decide +kernel, rfl⟩
theorem dX8_op_0 : Dc mX8_op 0 (.aload_n 0) 1 1 := ⟨by decide +kernel, rfl⟩
theorem dX8_op_1 : Dc mX8_op 1 (.iload_n 1) 1 2 := ⟨by decide +kernel, rfl⟩
theorem dX8_op_2 : Dc mX8_op 2 (.invokevirtual 83) 3 5 := ⟨by decide +kernel, rfl⟩
theorem dX8_op_5 : Dc mX8_op 5 (.astore 5) 2 7 := ⟨by decide +kernel, rfl⟩
theorem dX8_op_7 : Dc mX8_op 7 (.aload 5) 2 9 := ⟨by decide +kernel, rfl⟩
theorem dX8_op_9 : Dj mX8_op 9 (.ifnull 14) 3 12 (14) 23 := ⟨by decide +kernel, rfl, by decide⟩
theorem dX8_op_12 : Dc mX8_op 12 (.aload_n 0) 1 13 := ⟨by decide +kernel, rfl⟩
theorem dX8_op_13 : Dc mX8_op 13 (.iload_n 2) 1 14 := ⟨by decide +kernel, rfl⟩
theorem dX8_op_14 : Dc mX8_op 14 (.iload_n 3) 1 15 := ⟨by decide +kernel, rfl⟩
theorem dX8_op_15 : Dc mX8_op 15 (.iload 4) 2 17 := ⟨by decide +kernel, rfl⟩
theorem dX8_op_17 : Dc mX8_op 17 (.invokevirtual 93) 3 20 := ⟨by decide +kernel, rfl⟩
theorem dX8_op_20 : Dj mX8_op 20 (.ifCond .ne 6) 3 23 (6) 26 := ⟨by decide +kernel, rfl, by decide⟩
theorem dX8_op_23 : Dc mX8_op 23 (.bipush (-2)) 2 25 := ⟨by decide +kernel, rfl⟩
theorem dX8_op_25 : Dc mX8_op 25 (.ireturn) 1 26 := ⟨by decide +kernel, rfl⟩
theorem dX8_op_26 : Dc mX8_op 26 (.aload 5) 2 28 := ⟨by decide +kernel, rfl⟩
theorem dX8_op_28 : Dc mX8_op 28 (.iload_n 2) 1 29 := ⟨by decide +kernel, rfl⟩
theorem dX8_op_29 : Dc mX8_op 29 (.iload_n 3) 1 30 := ⟨by decide +kernel, rfl⟩
theorem dX8_op_30 : Dc mX8_op 30 (.iload 4) 2 32 := ⟨by decide +kernel, rfl⟩
theorem dX8_op_32 : Dc mX8_op 32 (.invokevirtual 97) 3 35 := ⟨by decide +kernel, rfl⟩
theorem dX8_op_35 : Dc mX8_op 35 (.ireturn) 1 36 := ⟨by decide +kernel, rfl⟩
theorem dX8_guard_0 : Dc mX8_guard 0 (.aload_n 0) 1 1 := ⟨by decide +kernel, rfl⟩
theorem dX8_guard_1 : Dc mX8_guard 1 (.iload_n 1) 1 2 := ⟨by decide +kernel, rfl⟩
theorem dX8_guard_2 : Dc mX8_guard 2 (.invokevirtual 83) 3 5 := ⟨by decide +kernel, rfl⟩
theorem dX8_guard_5 : Dc mX8_guard 5 (.astore 6) 2 7 := ⟨by decide +kernel, rfl⟩
theorem dX8_guard_7 : Dc mX8_guard 7 (.aload 6) 2 9 := ⟨by decide +kernel, rfl⟩
theorem dX8_guard_9 : Dj mX8_guard 9 (.ifnull 18) 3 12 (18) 27 := ⟨by decide +kernel, rfl, by decide⟩
theorem dX8_guard_12 : Dc mX8_guard 12 (.iload_n 2) 1 13 := ⟨by decide +kernel, rfl⟩
theorem dX8_guard_13 : Dj mX8_guard 13 (.ifCond .lt 14) 3 16 (14) 27 := ⟨by decide +kernel, rfl, by decide⟩
theorem dX8_guard_16 : Dc mX8_guard 16 (.iload_n 2) 1 17 := ⟨by decide +kernel, rfl⟩
theorem dX8_guard_17 : Dc mX8_guard 17 (.iload_n 3) 1 18 := ⟨by decide +kernel, rfl⟩
theorem dX8_guard_18 : Dj mX8_guard 18 (.if_icmp .ge 9) 3 21 (9) 27 := ⟨by decide +kernel, rfl, by decide⟩
theorem dX8_guard_21 : Dc mX8_guard 21 (.iload_n 3) 1 22 := ⟨by decide +kernel, rfl⟩
theorem dX8_guard_22 : Dc mX8_guard 22 (.bipush 40) 2 24 := ⟨by decide +kernel, rfl⟩
theorem dX8_guard_24 : Dj mX8_guard 24 (.if_icmp .le 6) 3 27 (6) 30 := ⟨by decide +kernel, rfl, by decide⟩
theorem dX8_guard_27 : Dc mX8_guard 27 (.bipush (-2)) 2 29 := ⟨by decide +kernel, rfl⟩
theorem dX8_guard_29 : Dc mX8_guard 29 (.ireturn) 1 30 := ⟨by decide +kernel, rfl⟩
theorem dX8_guard_30 : Dc mX8_guard 30 (.iload 4) 2 32 := ⟨by decide +kernel, rfl⟩
theorem dX8_guard_32 : Dj mX8_guard 32 (.ifCond .lt 22) 3 35 (22) 54 := ⟨by decide +kernel, rfl, by decide⟩
theorem dX8_guard_35 : Dc mX8_guard 35 (.iload 4) 2 37 := ⟨by decide +kernel, rfl⟩
theorem dX8_guard_37 : Dc mX8_guard 37 (.bipush 40) 2 39 := ⟨by decide +kernel, rfl⟩
theorem dX8_guard_39 : Dj mX8_guard 39 (.if_icmp .ge 15) 3 42 (15) 54 := ⟨by decide +kernel, rfl, by decide⟩
theorem dX8_guard_42 : Dc mX8_guard 42 (.aload_n 0) 1 43 := ⟨by decide +kernel, rfl⟩
theorem dX8_guard_43 : Dc mX8_guard 43 (.getfield 10) 3 46 := ⟨by decide +kernel, rfl⟩
theorem dX8_guard_46 : Dc mX8_guard 46 (.iload 5) 2 48 := ⟨by decide +kernel, rfl⟩
theorem dX8_guard_48 : Dc mX8_guard 48 (.invokevirtual 51) 3 51 := ⟨by decide +kernel, rfl⟩
theorem dX8_guard_51 : Dj mX8_guard 51 (.ifCond .ne 6) 3 54 (6) 57 := ⟨by decide +kernel, rfl, by decide⟩
theorem dX8_guard_54 : Dc mX8_guard 54 (.bipush (-2)) 2 56 := ⟨by decide +kernel, rfl⟩
theorem dX8_guard_56 : Dc mX8_guard 56 (.ireturn) 1 57 := ⟨by decide +kernel, rfl⟩
theorem dX8_guard_57 : Dc mX8_guard 57 (.aload 6) 2 59 := ⟨by decide +kernel, rfl⟩
theorem dX8_guard_59 : Dc mX8_guard 59 (.iload_n 2) 1 60 := ⟨by decide +kernel, rfl⟩
theorem dX8_guard_60 : Dc mX8_guard 60 (.iload_n 3) 1 61 := ⟨by decide +kernel, rfl⟩
theorem dX8_guard_61 : Dc mX8_guard 61 (.iload 4) 2 63 := ⟨by decide +kernel, rfl⟩
theorem dX8_guard_63 : Dc mX8_guard 63 (.iload 5) 2 65 := ⟨by decide +kernel, rfl⟩
theorem dX8_guard_65 : Dc mX8_guard 65 (.invokevirtual 101) 3 68 := ⟨by decide +kernel, rfl⟩
theorem dX8_guard_68 : Dc mX8_guard 68 (.ireturn) 1 69 := ⟨by decide +kernel, rfl⟩
theorem dX8_compute_0 : Dc mX8_compute 0 (.aload_n 0) 1 1 := ⟨by decide +kernel, rfl⟩
theorem dX8_compute_1 : Dc mX8_compute 1 (.iload_n 1) 1 2 := ⟨by decide +kernel, rfl⟩
theorem dX8_compute_2 : Dc mX8_compute 2 (.invokevirtual 83) 3 5 := ⟨by decide +kernel, rfl⟩
theorem dX8_compute_5 : Dc mX8_compute 5 (.astore_n 2) 1 6 := ⟨by decide +kernel, rfl⟩
theorem dX8_compute_6 : Dc mX8_compute 6 (.aload_n 2) 1 7 := ⟨by decide +kernel, rfl⟩
theorem dX8_compute_7 : Dj mX8_compute 7 (.ifnonnull 6) 3 10 (6) 13 := ⟨by decide +kernel, rfl, by decide⟩
theorem dX8_compute_10 : Dc mX8_compute 10 (.bipush (-2)) 2 12 := ⟨by decide +kernel, rfl⟩
theorem dX8_compute_12 : Dc mX8_compute 12 (.ireturn) 1 13 := ⟨by decide +kernel, rfl⟩
theorem dX8_compute_13 : Dc mX8_compute 13 (.aload_n 2) 1 14 := ⟨by decide +kernel, rfl⟩
theorem dX8_compute_14 : Dc mX8_compute 14 (.getfield 105) 3 17 := ⟨by decide +kernel, rfl⟩
theorem dX8_compute_17 : Dj mX8_compute 17 (.ifCond .ne 6) 3 20 (6) 23 := ⟨by decide +kernel, rfl, by decide⟩
theorem dX8_compute_20 : Dc mX8_compute 20 (.bipush (-3)) 2 22 := ⟨by decide +kernel, rfl⟩
theorem dX8_compute_22 : Dc mX8_compute 22 (.ireturn) 1 23 := ⟨by decide +kernel, rfl⟩
theorem dX8_compute_23 : Dc mX8_compute 23 (.aload_n 0) 1 24 := ⟨by decide +kernel, rfl⟩
theorem dX8_compute_24 : Dc mX8_compute 24 (.getfield 30) 3 27 := ⟨by decide +kernel, rfl⟩
theorem dX8_compute_27 : Dc mX8_compute 27 (.aload_n 2) 1 28 := ⟨by decide +kernel, rfl⟩
theorem dX8_compute_28 : Dc mX8_compute 28 (.invokevirtual 108) 3 31 := ⟨by decide +kernel, rfl⟩
theorem dX8_compute_31 : Dc mX8_compute 31 (.aload_n 2) 1 32 := ⟨by decide +kernel, rfl⟩
theorem dX8_compute_32 : Dc mX8_compute 32 (.getfield 112) 3 35 := ⟨by decide +kernel, rfl⟩
theorem dX8_compute_35 : Dc mX8_compute 35 (.getfield 116) 3 38 := ⟨by decide +kernel, rfl⟩
theorem dX8_compute_38 : Dc mX8_compute 38 (.ireturn) 1 39 := ⟨by decide +kernel, rfl⟩
theorem dX8_told_0 : Dc mX8_told 0 (.aload_n 0) 1 1 := ⟨by decide +kernel, rfl⟩
theorem dX8_told_1 : Dc mX8_told 1 (.iload_n 1) 1 2 := ⟨by decide +kernel, rfl⟩
theorem dX8_told_2 : Dc mX8_told 2 (.invokevirtual 83) 3 5 := ⟨by decide +kernel, rfl⟩
theorem dX8_told_5 : Dc mX8_told 5 (.astore_n 3) 1 6 := ⟨by decide +kernel, rfl⟩
theorem dX8_told_6 : Dc mX8_told 6 (.aload_n 3) 1 7 := ⟨by decide +kernel, rfl⟩
theorem dX8_told_7 : Dj mX8_told 7 (.ifnull 12) 3 10 (12) 19 := ⟨by decide +kernel, rfl, by decide⟩
theorem dX8_told_10 : Dc mX8_told 10 (.iload_n 2) 1 11 := ⟨by decide +kernel, rfl⟩
theorem dX8_told_11 : Dj mX8_told 11 (.ifCond .lt 8) 3 14 (8) 19 := ⟨by decide +kernel, rfl, by decide⟩
theorem dX8_told_14 : Dc mX8_told 14 (.iload_n 2) 1 15 := ⟨by decide +kernel, rfl⟩
theorem dX8_told_15 : Dc mX8_told 15 (.iconst 3) 1 16 := ⟨by decide +kernel, rfl⟩
theorem dX8_told_16 : Dj mX8_told 16 (.if_icmp .le 6) 3 19 (6) 22 := ⟨by decide +kernel, rfl, by decide⟩
theorem dX8_told_19 : Dc mX8_told 19 (.bipush (-2)) 2 21 := ⟨by decide +kernel, rfl⟩
theorem dX8_told_21 : Dc mX8_told 21 (.ireturn) 1 22 := ⟨by decide +kernel, rfl⟩
theorem dX8_told_22 : Dc mX8_told 22 (.aload_n 3) 1 23 := ⟨by decide +kernel, rfl⟩
theorem dX8_told_23 : Dc mX8_told 23 (.getfield 112) 3 26 := ⟨by decide +kernel, rfl⟩
theorem dX8_told_26 : Dc mX8_told 26 (.getfield 121) 3 29 := ⟨by decide +kernel, rfl⟩
theorem dX8_told_29 : Dj mX8_told 29 (.ifCond .ne 6) 3 32 (6) 35 := ⟨by decide +kernel, rfl, by decide⟩
theorem dX8_told_32 : Dc mX8_told 32 (.bipush (-3)) 2 34 := ⟨by decide +kernel, rfl⟩
theorem dX8_told_34 : Dc mX8_told 34 (.ireturn) 1 35 := ⟨by decide +kernel, rfl⟩
theorem dX8_told_35 : Dc mX8_told 35 (.iload_n 2) 1 36 := ⟨by decide +kernel, rfl⟩
theorem dX8_told_36 : decode mX8_told.2.1 36 = .ok (.tableswitch 52 0 2 #[28, 36, 44], 28) := by decide +kernel
theorem dX8_told_64 : Dc mX8_told 64 (.aload_n 3) 1 65 := ⟨by decide +kernel, rfl⟩
theorem dX8_told_65 : Dc mX8_told 65 (.getfield 112) 3 68 := ⟨by decide +kernel, rfl⟩
theorem dX8_told_68 : Dc mX8_told 68 (.getfield 125) 3 71 := ⟨by decide +kernel, rfl⟩
theorem dX8_told_71 : Dc mX8_told 71 (.ireturn) 1 72 := ⟨by decide +kernel, rfl⟩
theorem dX8_told_72 : Dc mX8_told 72 (.aload_n 3) 1 73 := ⟨by decide +kernel, rfl⟩
theorem dX8_told_73 : Dc mX8_told 73 (.getfield 112) 3 76 := ⟨by decide +kernel, rfl⟩
theorem dX8_told_76 : Dc mX8_told 76 (.getfield 128) 3 79 := ⟨by decide +kernel, rfl⟩
theorem dX8_told_79 : Dc mX8_told 79 (.ireturn) 1 80 := ⟨by decide +kernel, rfl⟩
theorem dX8_told_80 : Dc mX8_told 80 (.aload_n 3) 1 81 := ⟨by decide +kernel, rfl⟩
theorem dX8_told_81 : Dc mX8_told 81 (.getfield 112) 3 84 := ⟨by decide +kernel, rfl⟩
theorem dX8_told_84 : Dc mX8_told 84 (.getfield 131) 3 87 := ⟨by decide +kernel, rfl⟩
theorem dX8_told_87 : Dc mX8_told 87 (.ireturn) 1 88 := ⟨by decide +kernel, rfl⟩
theorem dX8_told_88 : Dc mX8_told 88 (.aload_n 3) 1 89 := ⟨by decide +kernel, rfl⟩
theorem dX8_told_89 : Dc mX8_told 89 (.invokevirtual 134) 3 92 := ⟨by decide +kernel, rfl⟩
theorem dX8_told_92 : Dc mX8_told 92 (.ireturn) 1 93 := ⟨by decide +kernel, rfl⟩
theorem dX8_frame_0 : Dc mX8_frame 0 (.aload_n 0) 1 1 := ⟨by decide +kernel, rfl⟩
theorem dX8_frame_1 : Dc mX8_frame 1 (.iload_n 1) 1 2 := ⟨by decide +kernel, rfl⟩
theorem dX8_frame_2 : Dc mX8_frame 2 (.invokevirtual 83) 3 5 := ⟨by decide +kernel, rfl⟩
theorem dX8_frame_5 : Dc mX8_frame 5 (.astore 4) 2 7 := ⟨by decide +kernel, rfl⟩
theorem dX8_frame_7 : Dc mX8_frame 7 (.aload 4) 2 9 := ⟨by decide +kernel, rfl⟩
theorem dX8_frame_9 : Dj mX8_frame 9 (.ifnull 22) 3 12 (22) 31 := ⟨by decide +kernel, rfl, by decide⟩
theorem dX8_frame_12 : Dc mX8_frame 12 (.aload 4) 2 14 := ⟨by decide +kernel, rfl⟩
theorem dX8_frame_14 : Dc mX8_frame 14 (.iload_n 2) 1 15 := ⟨by decide +kernel, rfl⟩
theorem dX8_frame_15 : Dc mX8_frame 15 (.invokevirtual 138) 3 18 := ⟨by decide +kernel, rfl⟩
theorem dX8_frame_18 : Dj mX8_frame 18 (.ifCond .eq 13) 3 21 (13) 31 := ⟨by decide +kernel, rfl, by decide⟩
theorem dX8_frame_21 : Dc mX8_frame 21 (.iload_n 3) 1 22 := ⟨by decide +kernel, rfl⟩
theorem dX8_frame_22 : Dj mX8_frame 22 (.ifCond .lt 9) 3 25 (9) 31 := ⟨by decide +kernel, rfl, by decide⟩
theorem dX8_frame_25 : Dc mX8_frame 25 (.iload_n 3) 1 26 := ⟨by decide +kernel, rfl⟩
theorem dX8_frame_26 : Dc mX8_frame 26 (.bipush 16) 2 28 := ⟨by decide +kernel, rfl⟩
theorem dX8_frame_28 : Dj mX8_frame 28 (.if_icmp .lt 6) 3 31 (6) 34 := ⟨by decide +kernel, rfl, by decide⟩
theorem dX8_frame_31 : Dc mX8_frame 31 (.bipush (-2)) 2 33 := ⟨by decide +kernel, rfl⟩
theorem dX8_frame_33 : Dc mX8_frame 33 (.ireturn) 1 34 := ⟨by decide +kernel, rfl⟩
theorem dX8_frame_34 : Dc mX8_frame 34 (.aload 4) 2 36 := ⟨by decide +kernel, rfl⟩
theorem dX8_frame_36 : Dc mX8_frame 36 (.getfield 112) 3 39 := ⟨by decide +kernel, rfl⟩
theorem dX8_frame_39 : Dc mX8_frame 39 (.getfield 121) 3 42 := ⟨by decide +kernel, rfl⟩
theorem dX8_frame_42 : Dj mX8_frame 42 (.ifCond .ne 6) 3 45 (6) 48 := ⟨by decide +kernel, rfl, by decide⟩
theorem dX8_frame_45 : Dc mX8_frame 45 (.bipush (-3)) 2 47 := ⟨by decide +kernel, rfl⟩
theorem dX8_frame_47 : Dc mX8_frame 47 (.ireturn) 1 48 := ⟨by decide +kernel, rfl⟩
theorem dX8_frame_48 : Dc mX8_frame 48 (.aload 4) 2 50 := ⟨by decide +kernel, rfl⟩
theorem dX8_frame_50 : Dc mX8_frame 50 (.getfield 112) 3 53 := ⟨by decide +kernel, rfl⟩
theorem dX8_frame_53 : Dc mX8_frame 53 (.getfield 141) 3 56 := ⟨by decide +kernel, rfl⟩
theorem dX8_frame_56 : Dc mX8_frame 56 (.iload_n 2) 1 57 := ⟨by decide +kernel, rfl⟩
theorem dX8_frame_57 : Dc mX8_frame 57 (.aaload) 1 58 := ⟨by decide +kernel, rfl⟩
theorem dX8_frame_58 : Dc mX8_frame 58 (.iload_n 3) 1 59 := ⟨by decide +kernel, rfl⟩
theorem dX8_frame_59 : Dc mX8_frame 59 (.invokevirtual 145) 3 62 := ⟨by decide +kernel, rfl⟩
theorem dX8_frame_62 : Dc mX8_frame 62 (.ireturn) 1 63 := ⟨by decide +kernel, rfl⟩
theorem dX8_height_0 : Dc mX8_height 0 (.aload_n 0) 1 1 := ⟨by decide +kernel, rfl⟩
theorem dX8_height_1 : Dc mX8_height 1 (.iload_n 1) 1 2 := ⟨by decide +kernel, rfl⟩
theorem dX8_height_2 : Dc mX8_height 2 (.invokevirtual 83) 3 5 := ⟨by decide +kernel, rfl⟩
theorem dX8_height_5 : Dc mX8_height 5 (.astore_n 3) 1 6 := ⟨by decide +kernel, rfl⟩
theorem dX8_height_6 : Dc mX8_height 6 (.aload_n 3) 1 7 := ⟨by decide +kernel, rfl⟩
theorem dX8_height_7 : Dj mX8_height 7 (.ifnull 11) 3 10 (11) 18 := ⟨by decide +kernel, rfl, by decide⟩
theorem dX8_height_10 : Dc mX8_height 10 (.aload_n 3) 1 11 := ⟨by decide +kernel, rfl⟩
theorem dX8_height_11 : Dc mX8_height 11 (.iload_n 2) 1 12 := ⟨by decide +kernel, rfl⟩
theorem dX8_height_12 : Dc mX8_height 12 (.invokevirtual 138) 3 15 := ⟨by decide +kernel, rfl⟩
theorem dX8_height_15 : Dj mX8_height 15 (.ifCond .ne 6) 3 18 (6) 21 := ⟨by decide +kernel, rfl, by decide⟩
theorem dX8_height_18 : Dc mX8_height 18 (.bipush (-2)) 2 20 := ⟨by decide +kernel, rfl⟩
theorem dX8_height_20 : Dc mX8_height 20 (.ireturn) 1 21 := ⟨by decide +kernel, rfl⟩
theorem dX8_height_21 : Dc mX8_height 21 (.aload_n 3) 1 22 := ⟨by decide +kernel, rfl⟩
theorem dX8_height_22 : Dc mX8_height 22 (.getfield 112) 3 25 := ⟨by decide +kernel, rfl⟩
theorem dX8_height_25 : Dc mX8_height 25 (.getfield 121) 3 28 := ⟨by decide +kernel, rfl⟩
theorem dX8_height_28 : Dj mX8_height 28 (.ifCond .ne 6) 3 31 (6) 34 := ⟨by decide +kernel, rfl, by decide⟩
theorem dX8_height_31 : Dc mX8_height 31 (.bipush (-3)) 2 33 := ⟨by decide +kernel, rfl⟩
theorem dX8_height_33 : Dc mX8_height 33 (.ireturn) 1 34 := ⟨by decide +kernel, rfl⟩
theorem dX8_height_34 : Dc mX8_height 34 (.aload_n 3) 1 35 := ⟨by decide +kernel, rfl⟩
theorem dX8_height_35 : Dc mX8_height 35 (.getfield 112) 3 38 := ⟨by decide +kernel, rfl⟩
theorem dX8_height_38 : Dc mX8_height 38 (.getfield 141) 3 41 := ⟨by decide +kernel, rfl⟩
theorem dX8_height_41 : Dc mX8_height 41 (.iload_n 2) 1 42 := ⟨by decide +kernel, rfl⟩
theorem dX8_height_42 : Dc mX8_height 42 (.aaload) 1 43 := ⟨by decide +kernel, rfl⟩
theorem dX8_height_43 : Dc mX8_height 43 (.getfield 150) 3 46 := ⟨by decide +kernel, rfl⟩
theorem dX8_height_46 : Dc mX8_height 46 (.ireturn) 1 47 := ⟨by decide +kernel, rfl⟩
theorem dX8_form_0 : Dc mX8_form 0 (.aload_n 0) 1 1 := ⟨by decide +kernel, rfl⟩
theorem dX8_form_1 : Dc mX8_form 1 (.iload_n 1) 1 2 := ⟨by decide +kernel, rfl⟩
theorem dX8_form_2 : Dc mX8_form 2 (.invokevirtual 83) 3 5 := ⟨by decide +kernel, rfl⟩
theorem dX8_form_5 : Dc mX8_form 5 (.astore_n 3) 1 6 := ⟨by decide +kernel, rfl⟩
theorem dX8_form_6 : Dc mX8_form 6 (.aload_n 3) 1 7 := ⟨by decide +kernel, rfl⟩
theorem dX8_form_7 : Dj mX8_form 7 (.ifnull 11) 3 10 (11) 18 := ⟨by decide +kernel, rfl, by decide⟩
theorem dX8_form_10 : Dc mX8_form 10 (.aload_n 3) 1 11 := ⟨by decide +kernel, rfl⟩
theorem dX8_form_11 : Dc mX8_form 11 (.iload_n 2) 1 12 := ⟨by decide +kernel, rfl⟩
theorem dX8_form_12 : Dc mX8_form 12 (.invokevirtual 138) 3 15 := ⟨by decide +kernel, rfl⟩
theorem dX8_form_15 : Dj mX8_form 15 (.ifCond .ne 6) 3 18 (6) 21 := ⟨by decide +kernel, rfl, by decide⟩
theorem dX8_form_18 : Dc mX8_form 18 (.bipush (-2)) 2 20 := ⟨by decide +kernel, rfl⟩
theorem dX8_form_20 : Dc mX8_form 20 (.ireturn) 1 21 := ⟨by decide +kernel, rfl⟩
theorem dX8_form_21 : Dc mX8_form 21 (.aload_n 3) 1 22 := ⟨by decide +kernel, rfl⟩
theorem dX8_form_22 : Dc mX8_form 22 (.getfield 112) 3 25 := ⟨by decide +kernel, rfl⟩
theorem dX8_form_25 : Dc mX8_form 25 (.getfield 121) 3 28 := ⟨by decide +kernel, rfl⟩
theorem dX8_form_28 : Dj mX8_form 28 (.ifCond .eq 13) 3 31 (13) 41 := ⟨by decide +kernel, rfl, by decide⟩
theorem dX8_form_31 : Dc mX8_form 31 (.aload_n 3) 1 32 := ⟨by decide +kernel, rfl⟩
theorem dX8_form_32 : Dc mX8_form 32 (.getfield 112) 3 35 := ⟨by decide +kernel, rfl⟩
theorem dX8_form_35 : Dc mX8_form 35 (.getfield 116) 3 38 := ⟨by decide +kernel, rfl⟩
theorem dX8_form_38 : Dj mX8_form 38 (.ifCond .eq 6) 3 41 (6) 44 := ⟨by decide +kernel, rfl, by decide⟩
theorem dX8_form_41 : Dc mX8_form 41 (.bipush (-3)) 2 43 := ⟨by decide +kernel, rfl⟩
theorem dX8_form_43 : Dc mX8_form 43 (.ireturn) 1 44 := ⟨by decide +kernel, rfl⟩
theorem dX8_form_44 : Dc mX8_form 44 (.aload_n 0) 1 45 := ⟨by decide +kernel, rfl⟩
theorem dX8_form_45 : Dc mX8_form 45 (.getfield 37) 3 48 := ⟨by decide +kernel, rfl⟩
theorem dX8_form_48 : Dc mX8_form 48 (.aload_n 3) 1 49 := ⟨by decide +kernel, rfl⟩
theorem dX8_form_49 : Dc mX8_form 49 (.iload_n 2) 1 50 := ⟨by decide +kernel, rfl⟩
theorem dX8_form_50 : Dc mX8_form 50 (.invokevirtual 153) 3 53 := ⟨by decide +kernel, rfl⟩
theorem dX8_form_53 : Dc mX8_form 53 (.ireturn) 1 54 := ⟨by decide +kernel, rfl⟩
theorem dX8_count_0 : Dc mX8_count 0 (.iload_n 1) 1 1 := ⟨by decide +kernel, rfl⟩
theorem dX8_count_1 : Dj mX8_count 1 (.ifCond .ne 11) 3 4 (11) 12 := ⟨by decide +kernel, rfl, by decide⟩
theorem dX8_count_4 : Dc mX8_count 4 (.aload_n 0) 1 5 := ⟨by decide +kernel, rfl⟩
theorem dX8_count_5 : Dc mX8_count 5 (.getfield 10) 3 8 := ⟨by decide +kernel, rfl⟩
theorem dX8_count_8 : Dc mX8_count 8 (.getfield 157) 3 11 := ⟨by decide +kernel, rfl⟩
theorem dX8_count_11 : Dc mX8_count 11 (.ireturn) 1 12 := ⟨by decide +kernel, rfl⟩
theorem dX8_count_12 : Dc mX8_count 12 (.iload_n 1) 1 13 := ⟨by decide +kernel, rfl⟩
theorem dX8_count_13 : Dc mX8_count 13 (.iconst 1) 1 14 := ⟨by decide +kernel, rfl⟩
theorem dX8_count_14 : Dj mX8_count 14 (.if_icmp .ne 8) 3 17 (8) 22 := ⟨by decide +kernel, rfl, by decide⟩
theorem dX8_count_17 : Dc mX8_count 17 (.aload_n 0) 1 18 := ⟨by decide +kernel, rfl⟩
theorem dX8_count_18 : Dc mX8_count 18 (.getfield 47) 3 21 := ⟨by decide +kernel, rfl⟩
theorem dX8_count_21 : Dc mX8_count 21 (.ireturn) 1 22 := ⟨by decide +kernel, rfl⟩
theorem dX8_count_22 : Dc mX8_count 22 (.aload_n 0) 1 23 := ⟨by decide +kernel, rfl⟩
theorem dX8_count_23 : Dc mX8_count 23 (.iload_n 2) 1 24 := ⟨by decide +kernel, rfl⟩
theorem dX8_count_24 : Dc mX8_count 24 (.invokevirtual 83) 3 27 := ⟨by decide +kernel, rfl⟩
theorem dX8_count_27 : Dc mX8_count 27 (.astore_n 3) 1 28 := ⟨by decide +kernel, rfl⟩
theorem dX8_count_28 : Dc mX8_count 28 (.aload_n 3) 1 29 := ⟨by decide +kernel, rfl⟩
theorem dX8_count_29 : Dj mX8_count 29 (.ifnull 13) 3 32 (13) 42 := ⟨by decide +kernel, rfl, by decide⟩
theorem dX8_count_32 : Dc mX8_count 32 (.iload_n 1) 1 33 := ⟨by decide +kernel, rfl⟩
theorem dX8_count_33 : Dc mX8_count 33 (.iconst 2) 1 34 := ⟨by decide +kernel, rfl⟩
theorem dX8_count_34 : Dj mX8_count 34 (.if_icmp .lt 8) 3 37 (8) 42 := ⟨by decide +kernel, rfl, by decide⟩
theorem dX8_count_37 : Dc mX8_count 37 (.iload_n 1) 1 38 := ⟨by decide +kernel, rfl⟩
theorem dX8_count_38 : Dc mX8_count 38 (.iconst 3) 1 39 := ⟨by decide +kernel, rfl⟩
theorem dX8_count_39 : Dj mX8_count 39 (.if_icmp .le 6) 3 42 (6) 45 := ⟨by decide +kernel, rfl, by decide⟩
theorem dX8_count_42 : Dc mX8_count 42 (.bipush (-2)) 2 44 := ⟨by decide +kernel, rfl⟩
theorem dX8_count_44 : Dc mX8_count 44 (.ireturn) 1 45 := ⟨by decide +kernel, rfl⟩
theorem dX8_count_45 : Dc mX8_count 45 (.iload_n 1) 1 46 := ⟨by decide +kernel, rfl⟩
theorem dX8_count_46 : Dc mX8_count 46 (.iconst 2) 1 47 := ⟨by decide +kernel, rfl⟩
theorem dX8_count_47 : Dj mX8_count 47 (.if_icmp .ne 10) 3 50 (10) 57 := ⟨by decide +kernel, rfl, by decide⟩
theorem dX8_count_50 : Dc mX8_count 50 (.aload_n 3) 1 51 := ⟨by decide +kernel, rfl⟩
theorem dX8_count_51 : Dc mX8_count 51 (.getfield 105) 3 54 := ⟨by decide +kernel, rfl⟩
theorem dX8_count_54 : Dj mX8_count 54 (.goto 7) 3 57 (7) 61 := ⟨by decide +kernel, rfl, by decide⟩
theorem dX8_count_57 : Dc mX8_count 57 (.aload_n 3) 1 58 := ⟨by decide +kernel, rfl⟩
theorem dX8_count_58 : Dc mX8_count 58 (.getfield 160) 3 61 := ⟨by decide +kernel, rfl⟩
theorem dX8_count_61 : Dc mX8_count 61 (.ireturn) 1 62 := ⟨by decide +kernel, rfl⟩
theorem dX8_find_0 : Dc mX8_find 0 (.iload_n 1) 1 1 := ⟨by decide +kernel, rfl⟩
theorem dX8_find_1 : Dj mX8_find 1 (.ifCond .lt 20) 3 4 (20) 21 := ⟨by decide +kernel, rfl, by decide⟩
theorem dX8_find_4 : Dc mX8_find 4 (.iload_n 1) 1 5 := ⟨by decide +kernel, rfl⟩
theorem dX8_find_5 : Dc mX8_find 5 (.aload_n 0) 1 6 := ⟨by decide +kernel, rfl⟩
theorem dX8_find_6 : Dc mX8_find 6 (.getfield 47) 3 9 := ⟨by decide +kernel, rfl⟩
end
section
theorem dX8_find_9 : Dj mX8_find 9 (.if_icmp .ge 12) 3 12 (12) 21 := ⟨by decide +kernel, rfl, by decide⟩
theorem dX8_find_12 : Dc mX8_find 12 (.aload_n 0) 1 13 := ⟨by decide +kernel, rfl⟩
theorem dX8_find_13 : Dc mX8_find 13 (.getfield 43) 3 16 := ⟨by decide +kernel, rfl⟩
theorem dX8_find_16 : Dc mX8_find 16 (.iload_n 1) 1 17 := ⟨by decide +kernel, rfl⟩
theorem dX8_find_17 : Dc mX8_find 17 (.aaload) 1 18 := ⟨by decide +kernel, rfl⟩
theorem dX8_find_18 : Dj mX8_find 18 (.goto 4) 3 21 (4) 22 := ⟨by decide +kernel, rfl, by decide⟩
theorem dX8_find_21 : Dc mX8_find 21 (.aconst_null) 1 22 := ⟨by decide +kernel, rfl⟩
theorem dX8_find_22 : Dc mX8_find 22 (.areturn) 1 23 := ⟨by decide +kernel, rfl⟩
theorem dX8_isOp_0 : Dc mX8_isOp 0 (.iload_n 1) 1 1 := ⟨by decide +kernel, rfl⟩
theorem dX8_isOp_1 : decode mX8_isOp.2.1 1 = .ok (.tableswitch 188 2 19 #[87, 87, 103, 103, 87, 87, 188, 188, 188, 119, 119, 129, 188, 129, 138, 188, 129, 166], 87) := by decide +kernel
theorem dX8_isOp_88 : Dc mX8_isOp 88 (.iload_n 2) 1 89 := ⟨by decide +kernel, rfl⟩
theorem dX8_isOp_89 : Dj mX8_isOp 89 (.ifCond .lt 13) 3 92 (13) 102 := ⟨by decide +kernel, rfl, by decide⟩
theorem dX8_isOp_92 : Dc mX8_isOp 92 (.iload_n 2) 1 93 := ⟨by decide +kernel, rfl⟩
theorem dX8_isOp_93 : Dc mX8_isOp 93 (.bipush 8) 2 95 := ⟨by decide +kernel, rfl⟩
theorem dX8_isOp_95 : Dj mX8_isOp 95 (.if_icmp .ge 7) 3 98 (7) 102 := ⟨by decide +kernel, rfl, by decide⟩
theorem dX8_isOp_98 : Dc mX8_isOp 98 (.iconst 1) 1 99 := ⟨by decide +kernel, rfl⟩
theorem dX8_isOp_99 : Dj mX8_isOp 99 (.goto 4) 3 102 (4) 103 := ⟨by decide +kernel, rfl, by decide⟩
theorem dX8_isOp_102 : Dc mX8_isOp 102 (.iconst 0) 1 103 := ⟨by decide +kernel, rfl⟩
theorem dX8_isOp_103 : Dc mX8_isOp 103 (.ireturn) 1 104 := ⟨by decide +kernel, rfl⟩
theorem dX8_isOp_104 : Dc mX8_isOp 104 (.iload_n 2) 1 105 := ⟨by decide +kernel, rfl⟩
theorem dX8_isOp_105 : Dj mX8_isOp 105 (.ifCond .lt 13) 3 108 (13) 118 := ⟨by decide +kernel, rfl, by decide⟩
theorem dX8_isOp_108 : Dc mX8_isOp 108 (.iload_n 2) 1 109 := ⟨by decide +kernel, rfl⟩
theorem dX8_isOp_109 : Dc mX8_isOp 109 (.bipush 7) 2 111 := ⟨by decide +kernel, rfl⟩
theorem dX8_isOp_111 : Dj mX8_isOp 111 (.if_icmp .ge 7) 3 114 (7) 118 := ⟨by decide +kernel, rfl, by decide⟩
theorem dX8_isOp_114 : Dc mX8_isOp 114 (.iconst 1) 1 115 := ⟨by decide +kernel, rfl⟩
theorem dX8_isOp_115 : Dj mX8_isOp 115 (.goto 4) 3 118 (4) 119 := ⟨by decide +kernel, rfl, by decide⟩
theorem dX8_isOp_118 : Dc mX8_isOp 118 (.iconst 0) 1 119 := ⟨by decide +kernel, rfl⟩
theorem dX8_isOp_119 : Dc mX8_isOp 119 (.ireturn) 1 120 := ⟨by decide +kernel, rfl⟩
theorem dX8_isOp_120 : Dc mX8_isOp 120 (.iload_n 2) 1 121 := ⟨by decide +kernel, rfl⟩
theorem dX8_isOp_121 : Dj mX8_isOp 121 (.ifCond .lt 7) 3 124 (7) 128 := ⟨by decide +kernel, rfl, by decide⟩
theorem dX8_isOp_124 : Dc mX8_isOp 124 (.iconst 1) 1 125 := ⟨by decide +kernel, rfl⟩
theorem dX8_isOp_125 : Dj mX8_isOp 125 (.goto 4) 3 128 (4) 129 := ⟨by decide +kernel, rfl, by decide⟩
theorem dX8_isOp_128 : Dc mX8_isOp 128 (.iconst 0) 1 129 := ⟨by decide +kernel, rfl⟩
theorem dX8_isOp_129 : Dc mX8_isOp 129 (.ireturn) 1 130 := ⟨by decide +kernel, rfl⟩
theorem dX8_isOp_130 : Dc mX8_isOp 130 (.aload_n 0) 1 131 := ⟨by decide +kernel, rfl⟩
theorem dX8_isOp_131 : Dc mX8_isOp 131 (.getfield 10) 3 134 := ⟨by decide +kernel, rfl⟩
theorem dX8_isOp_134 : Dc mX8_isOp 134 (.iload_n 2) 1 135 := ⟨by decide +kernel, rfl⟩
theorem dX8_isOp_135 : Dc mX8_isOp 135 (.invokevirtual 51) 3 138 := ⟨by decide +kernel, rfl⟩
theorem dX8_isOp_138 : Dc mX8_isOp 138 (.ireturn) 1 139 := ⟨by decide +kernel, rfl⟩
theorem dX8_isOp_139 : Dc mX8_isOp 139 (.aload_n 0) 1 140 := ⟨by decide +kernel, rfl⟩
theorem dX8_isOp_140 : Dc mX8_isOp 140 (.getfield 10) 3 143 := ⟨by decide +kernel, rfl⟩
theorem dX8_isOp_143 : Dc mX8_isOp 143 (.iload_n 2) 1 144 := ⟨by decide +kernel, rfl⟩
theorem dX8_isOp_144 : Dc mX8_isOp 144 (.invokevirtual 51) 3 147 := ⟨by decide +kernel, rfl⟩
theorem dX8_isOp_147 : Dj mX8_isOp 147 (.ifCond .eq 18) 3 150 (18) 165 := ⟨by decide +kernel, rfl, by decide⟩
theorem dX8_isOp_150 : Dc mX8_isOp 150 (.aload_n 0) 1 151 := ⟨by decide +kernel, rfl⟩
theorem dX8_isOp_151 : Dc mX8_isOp 151 (.getfield 21) 3 154 := ⟨by decide +kernel, rfl⟩
theorem dX8_isOp_154 : Dc mX8_isOp 154 (.iload_n 3) 1 155 := ⟨by decide +kernel, rfl⟩
theorem dX8_isOp_155 : Dc mX8_isOp 155 (.invokevirtual 77) 3 158 := ⟨by decide +kernel, rfl⟩
theorem dX8_isOp_158 : Dj mX8_isOp 158 (.ifCond .eq 7) 3 161 (7) 165 := ⟨by decide +kernel, rfl, by decide⟩
theorem dX8_isOp_161 : Dc mX8_isOp 161 (.iconst 1) 1 162 := ⟨by decide +kernel, rfl⟩
theorem dX8_isOp_162 : Dj mX8_isOp 162 (.goto 4) 3 165 (4) 166 := ⟨by decide +kernel, rfl, by decide⟩
theorem dX8_isOp_165 : Dc mX8_isOp 165 (.iconst 0) 1 166 := ⟨by decide +kernel, rfl⟩
theorem dX8_isOp_166 : Dc mX8_isOp 166 (.ireturn) 1 167 := ⟨by decide +kernel, rfl⟩
theorem dX8_isOp_167 : Dc mX8_isOp 167 (.iload_n 2) 1 168 := ⟨by decide +kernel, rfl⟩
theorem dX8_isOp_168 : Dc mX8_isOp 168 (.iconst (-1)) 1 169 := ⟨by decide +kernel, rfl⟩
theorem dX8_isOp_169 : Dj mX8_isOp 169 (.if_icmp .eq 14) 3 172 (14) 183 := ⟨by decide +kernel, rfl, by decide⟩
theorem dX8_isOp_172 : Dc mX8_isOp 172 (.aload_n 0) 1 173 := ⟨by decide +kernel, rfl⟩
theorem dX8_isOp_173 : Dc mX8_isOp 173 (.getfield 10) 3 176 := ⟨by decide +kernel, rfl⟩
theorem dX8_isOp_176 : Dc mX8_isOp 176 (.iload_n 2) 1 177 := ⟨by decide +kernel, rfl⟩
theorem dX8_isOp_177 : Dc mX8_isOp 177 (.invokevirtual 51) 3 180 := ⟨by decide +kernel, rfl⟩
theorem dX8_isOp_180 : Dj mX8_isOp 180 (.ifCond .eq 7) 3 183 (7) 187 := ⟨by decide +kernel, rfl, by decide⟩
theorem dX8_isOp_183 : Dc mX8_isOp 183 (.iconst 1) 1 184 := ⟨by decide +kernel, rfl⟩
theorem dX8_isOp_184 : Dj mX8_isOp 184 (.goto 4) 3 187 (4) 188 := ⟨by decide +kernel, rfl, by decide⟩
theorem dX8_isOp_187 : Dc mX8_isOp 187 (.iconst 0) 1 188 := ⟨by decide +kernel, rfl⟩
theorem dX8_isOp_188 : Dc mX8_isOp 188 (.ireturn) 1 189 := ⟨by decide +kernel, rfl⟩
theorem dX8_isOp_189 : Dc mX8_isOp 189 (.iload_n 1) 1 190 := ⟨by decide +kernel, rfl⟩
theorem dX8_isOp_190 : Dj mX8_isOp 190 (.ifCond .lt 13) 3 193 (13) 203 := ⟨by decide +kernel, rfl, by decide⟩
theorem dX8_isOp_193 : Dc mX8_isOp 193 (.iload_n 1) 1 194 := ⟨by decide +kernel, rfl⟩
theorem dX8_isOp_194 : Dc mX8_isOp 194 (.bipush 25) 2 196 := ⟨by decide +kernel, rfl⟩
theorem dX8_isOp_196 : Dj mX8_isOp 196 (.if_icmp .gt 7) 3 199 (7) 203 := ⟨by decide +kernel, rfl, by decide⟩
theorem dX8_isOp_199 : Dc mX8_isOp 199 (.iconst 1) 1 200 := ⟨by decide +kernel, rfl⟩
theorem dX8_isOp_200 : Dj mX8_isOp 200 (.goto 4) 3 203 (4) 204 := ⟨by decide +kernel, rfl, by decide⟩
theorem dX8_isOp_203 : Dc mX8_isOp 203 (.iconst 0) 1 204 := ⟨by decide +kernel, rfl⟩
theorem dX8_isOp_204 : Dc mX8_isOp 204 (.ireturn) 1 205 := ⟨by decide +kernel, rfl⟩
end
section
theorem dX9_init_0 : Dc mX9_init 0 (.aload_n 0) 1 1 := ⟨by decide +kernel, rfl⟩
theorem dX9_init_1 : Dc mX9_init 1 (.invokespecial 1) 3 4 := ⟨by decide +kernel, rfl⟩
theorem dX9_init_4 : Dc mX9_init 4 (.aload_n 0) 1 5 := ⟨by decide +kernel, rfl⟩
theorem dX9_init_5 : Dc mX9_init 5 (.iconst 2) 1 6 := ⟨by decide +kernel, rfl⟩
theorem dX9_init_6 : Dc mX9_init 6 (.putfield 7) 3 9 := ⟨by decide +kernel, rfl⟩
theorem dX9_init_9 : Dc mX9_init 9 (.aload_n 0) 1 10 := ⟨by decide +kernel, rfl⟩
theorem dX9_init_10 : Dc mX9_init 10 (.bipush 16) 2 12 := ⟨by decide +kernel, rfl⟩
theorem dX9_init_12 : Dc mX9_init 12 (.newarray .int) 2 14 := ⟨by decide +kernel, rfl⟩
theorem dX9_init_14 : Dc mX9_init 14 (.putfield 13) 3 17 := ⟨by decide +kernel, rfl⟩
theorem dX9_init_17 : Dc mX9_init 17 (.aload_n 0) 1 18 := ⟨by decide +kernel, rfl⟩
theorem dX9_init_18 : Dc mX9_init 18 (.bipush 16) 2 20 := ⟨by decide +kernel, rfl⟩
theorem dX9_init_20 : Dc mX9_init 20 (.newarray .boolean) 2 22 := ⟨by decide +kernel, rfl⟩
theorem dX9_init_22 : Dc mX9_init 22 (.putfield 17) 3 25 := ⟨by decide +kernel, rfl⟩
theorem dX9_init_25 : Dc mX9_init 25 (.aload_n 0) 1 26 := ⟨by decide +kernel, rfl⟩
theorem dX9_init_26 : Dc mX9_init 26 (.bipush 6) 2 28 := ⟨by decide +kernel, rfl⟩
theorem dX9_init_28 : Dc mX9_init 28 (.newarray .int) 2 30 := ⟨by decide +kernel, rfl⟩
theorem dX9_init_30 : Dc mX9_init 30 (.putfield 21) 3 33 := ⟨by decide +kernel, rfl⟩
theorem dX9_init_33 : Dc mX9_init 33 (.aload_n 0) 1 34 := ⟨by decide +kernel, rfl⟩
theorem dX9_init_34 : Dc mX9_init 34 (.bipush 6) 2 36 := ⟨by decide +kernel, rfl⟩
theorem dX9_init_36 : Dc mX9_init 36 (.newarray .int) 2 38 := ⟨by decide +kernel, rfl⟩
theorem dX9_init_38 : Dc mX9_init 38 (.putfield 24) 3 41 := ⟨by decide +kernel, rfl⟩
theorem dX9_init_41 : Dc mX9_init 41 (.aload_n 0) 1 42 := ⟨by decide +kernel, rfl⟩
theorem dX9_init_42 : Dc mX9_init 42 (.bipush 48) 2 44 := ⟨by decide +kernel, rfl⟩
theorem dX9_init_44 : Dc mX9_init 44 (.newarray .int) 2 46 := ⟨by decide +kernel, rfl⟩
theorem dX9_init_46 : Dc mX9_init 46 (.putfield 27) 3 49 := ⟨by decide +kernel, rfl⟩
theorem dX9_init_49 : Dc mX9_init 49 (.aload_n 0) 1 50 := ⟨by decide +kernel, rfl⟩
theorem dX9_init_50 : Dc mX9_init 50 (.bipush 6) 2 52 := ⟨by decide +kernel, rfl⟩
theorem dX9_init_52 : Dc mX9_init 52 (.newarray .int) 2 54 := ⟨by decide +kernel, rfl⟩
theorem dX9_init_54 : Dc mX9_init 54 (.putfield 30) 3 57 := ⟨by decide +kernel, rfl⟩
theorem dX9_init_57 : Dc mX9_init 57 (.aload_n 0) 1 58 := ⟨by decide +kernel, rfl⟩
theorem dX9_init_58 : Dc mX9_init 58 (.sipush 240) 3 61 := ⟨by decide +kernel, rfl⟩
theorem dX9_init_61 : Dc mX9_init 61 (.newarray .int) 2 63 := ⟨by decide +kernel, rfl⟩
theorem dX9_init_63 : Dc mX9_init 63 (.putfield 33) 3 66 := ⟨by decide +kernel, rfl⟩
theorem dX9_init_66 : Dc mX9_init 66 (.aload_n 0) 1 67 := ⟨by decide +kernel, rfl⟩
theorem dX9_init_67 : Dc mX9_init 67 (.sipush 240) 3 70 := ⟨by decide +kernel, rfl⟩
theorem dX9_init_70 : Dc mX9_init 70 (.newarray .int) 2 72 := ⟨by decide +kernel, rfl⟩
theorem dX9_init_72 : Dc mX9_init 72 (.putfield 36) 3 75 := ⟨by decide +kernel, rfl⟩
theorem dX9_init_75 : Dc mX9_init 75 (.aload_n 0) 1 76 := ⟨by decide +kernel, rfl⟩
theorem dX9_init_76 : Dc mX9_init 76 (.sipush 240) 3 79 := ⟨by decide +kernel, rfl⟩
theorem dX9_init_79 : Dc mX9_init 79 (.newarray .int) 2 81 := ⟨by decide +kernel, rfl⟩
theorem dX9_init_81 : Dc mX9_init 81 (.putfield 39) 3 84 := ⟨by decide +kernel, rfl⟩
theorem dX9_init_84 : Dc mX9_init 84 (.aload_n 0) 1 85 := ⟨by decide +kernel, rfl⟩
theorem dX9_init_85 : Dc mX9_init 85 (.bipush 6) 2 87 := ⟨by decide +kernel, rfl⟩
theorem dX9_init_87 : Dc mX9_init 87 (.newarray .int) 2 89 := ⟨by decide +kernel, rfl⟩
theorem dX9_init_89 : Dc mX9_init 89 (.putfield 42) 3 92 := ⟨by decide +kernel, rfl⟩
theorem dX9_init_92 : Dc mX9_init 92 (.aload_n 0) 1 93 := ⟨by decide +kernel, rfl⟩
theorem dX9_init_93 : Dc mX9_init 93 (.bipush 36) 2 95 := ⟨by decide +kernel, rfl⟩
theorem dX9_init_95 : Dc mX9_init 95 (.newarray .int) 2 97 := ⟨by decide +kernel, rfl⟩
theorem dX9_init_97 : Dc mX9_init 97 (.putfield 45) 3 100 := ⟨by decide +kernel, rfl⟩
theorem dX9_init_100 : Dc mX9_init 100 (.aload_n 0) 1 101 := ⟨by decide +kernel, rfl⟩
theorem dX9_init_101 : Dc mX9_init 101 (.bipush 36) 2 103 := ⟨by decide +kernel, rfl⟩
theorem dX9_init_103 : Dc mX9_init 103 (.newarray .int) 2 105 := ⟨by decide +kernel, rfl⟩
theorem dX9_init_105 : Dc mX9_init 105 (.putfield 48) 3 108 := ⟨by decide +kernel, rfl⟩
theorem dX9_init_108 : Dc mX9_init 108 (.aload_n 0) 1 109 := ⟨by decide +kernel, rfl⟩
theorem dX9_init_109 : Dc mX9_init 109 (.bipush 36) 2 111 := ⟨by decide +kernel, rfl⟩
theorem dX9_init_111 : Dc mX9_init 111 (.newarray .int) 2 113 := ⟨by decide +kernel, rfl⟩
theorem dX9_init_113 : Dc mX9_init 113 (.putfield 51) 3 116 := ⟨by decide +kernel, rfl⟩
theorem dX9_init_116 : Dc mX9_init 116 (.aload_n 0) 1 117 := ⟨by decide +kernel, rfl⟩
theorem dX9_init_117 : Dc mX9_init 117 (.bipush 36) 2 119 := ⟨by decide +kernel, rfl⟩
theorem dX9_init_119 : Dc mX9_init 119 (.newarray .int) 2 121 := ⟨by decide +kernel, rfl⟩
theorem dX9_init_121 : Dc mX9_init 121 (.putfield 54) 3 124 := ⟨by decide +kernel, rfl⟩
theorem dX9_init_124 : Dc mX9_init 124 (.aload_n 0) 1 125 := ⟨by decide +kernel, rfl⟩
theorem dX9_init_125 : Dc mX9_init 125 (.bipush 6) 2 127 := ⟨by decide +kernel, rfl⟩
theorem dX9_init_127 : Dc mX9_init 127 (.newarray .boolean) 2 129 := ⟨by decide +kernel, rfl⟩
theorem dX9_init_129 : Dc mX9_init 129 (.putfield 57) 3 132 := ⟨by decide +kernel, rfl⟩
theorem dX9_init_132 : Dc mX9_init 132 (.aload_n 0) 1 133 := ⟨by decide +kernel, rfl⟩
theorem dX9_init_133 : Dc mX9_init 133 (.bipush 6) 2 135 := ⟨by decide +kernel, rfl⟩
theorem dX9_init_135 : Dc mX9_init 135 (.newarray .int) 2 137 := ⟨by decide +kernel, rfl⟩
theorem dX9_init_137 : Dc mX9_init 137 (.putfield 60) 3 140 := ⟨by decide +kernel, rfl⟩
theorem dX9_init_140 : Dc mX9_init 140 (.aload_n 0) 1 141 := ⟨by decide +kernel, rfl⟩
theorem dX9_init_141 : Dc mX9_init 141 (.bipush 6) 2 143 := ⟨by decide +kernel, rfl⟩
theorem dX9_init_143 : Dc mX9_init 143 (.newarray .int) 2 145 := ⟨by decide +kernel, rfl⟩
theorem dX9_init_145 : Dc mX9_init 145 (.putfield 63) 3 148 := ⟨by decide +kernel, rfl⟩
theorem dX9_init_148 : Dc mX9_init 148 (.aload_n 0) 1 149 := ⟨by decide +kernel, rfl⟩
theorem dX9_init_149 : Dc mX9_init 149 (.bipush 6) 2 151 := ⟨by decide +kernel, rfl⟩
theorem dX9_init_151 : Dc mX9_init 151 (.newarray .int) 2 153 := ⟨by decide +kernel, rfl⟩
theorem dX9_init_153 : Dc mX9_init 153 (.putfield 66) 3 156 := ⟨by decide +kernel, rfl⟩
theorem dX9_init_156 : Dc mX9_init 156 (.aload_n 0) 1 157 := ⟨by decide +kernel, rfl⟩
theorem dX9_init_157 : Dc mX9_init 157 (.bipush 6) 2 159 := ⟨by decide +kernel, rfl⟩
theorem dX9_init_159 : Dc mX9_init 159 (.newarray .int) 2 161 := ⟨by decide +kernel, rfl⟩
theorem dX9_init_161 : Dc mX9_init 161 (.putfield 69) 3 164 := ⟨by decide +kernel, rfl⟩
theorem dX9_init_164 : Dc mX9_init 164 (.aload_n 0) 1 165 := ⟨by decide +kernel, rfl⟩
theorem dX9_init_165 : Dc mX9_init 165 (.sipush 240) 3 168 := ⟨by decide +kernel, rfl⟩
theorem dX9_init_168 : Dc mX9_init 168 (.newarray .boolean) 2 170 := ⟨by decide +kernel, rfl⟩
theorem dX9_init_170 : Dc mX9_init 170 (.putfield 72) 3 173 := ⟨by decide +kernel, rfl⟩
theorem dX9_init_173 : Dc mX9_init 173 (.aload_n 0) 1 174 := ⟨by decide +kernel, rfl⟩
theorem dX9_init_174 : Dc mX9_init 174 (.sipush 240) 3 177 := ⟨by decide +kernel, rfl⟩
theorem dX9_init_177 : Dc mX9_init 177 (.newarray .boolean) 2 179 := ⟨by decide +kernel, rfl⟩
theorem dX9_init_179 : Dc mX9_init 179 (.putfield 75) 3 182 := ⟨by decide +kernel, rfl⟩
theorem dX9_init_182 : Dc mX9_init 182 (.aload_n 0) 1 183 := ⟨by decide +kernel, rfl⟩
theorem dX9_init_183 : Dc mX9_init 183 (.sipush 240) 3 186 := ⟨by decide +kernel, rfl⟩
theorem dX9_init_186 : Dc mX9_init 186 (.newarray .int) 2 188 := ⟨by decide +kernel, rfl⟩
theorem dX9_init_188 : Dc mX9_init 188 (.putfield 78) 3 191 := ⟨by decide +kernel, rfl⟩
theorem dX9_init_191 : Dc mX9_init 191 (.aload_n 0) 1 192 := ⟨by decide +kernel, rfl⟩
theorem dX9_init_192 : Dc mX9_init 192 (.sipush 3840) 3 195 := ⟨by decide +kernel, rfl⟩
theorem dX9_init_195 : Dc mX9_init 195 (.newarray .int) 2 197 := ⟨by decide +kernel, rfl⟩
theorem dX9_init_197 : Dc mX9_init 197 (.putfield 81) 3 200 := ⟨by decide +kernel, rfl⟩
theorem dX9_init_200 : Dc mX9_init 200 (.aload_n 0) 1 201 := ⟨by decide +kernel, rfl⟩
theorem dX9_init_201 : Dc mX9_init 201 (.bipush 8) 2 203 := ⟨by decide +kernel, rfl⟩
theorem dX9_init_203 : Dc mX9_init 203 (.newarray .int) 2 205 := ⟨by decide +kernel, rfl⟩
theorem dX9_init_205 : Dc mX9_init 205 (.putfield 84) 3 208 := ⟨by decide +kernel, rfl⟩
theorem dX9_init_208 : Dc mX9_init 208 (.aload_n 0) 1 209 := ⟨by decide +kernel, rfl⟩
theorem dX9_init_209 : Dc mX9_init 209 (.bipush 8) 2 211 := ⟨by decide +kernel, rfl⟩
theorem dX9_init_211 : Dc mX9_init 211 (.newarray .int) 2 213 := ⟨by decide +kernel, rfl⟩
theorem dX9_init_213 : Dc mX9_init 213 (.putfield 87) 3 216 := ⟨by decide +kernel, rfl⟩
theorem dX9_init_216 : Dc mX9_init 216 (.aload_n 0) 1 217 := ⟨by decide +kernel, rfl⟩
theorem dX9_init_217 : Dc mX9_init 217 (.bipush 16) 2 219 := ⟨by decide +kernel, rfl⟩
theorem dX9_init_219 : Dc mX9_init 219 (.newarray .int) 2 221 := ⟨by decide +kernel, rfl⟩
theorem dX9_init_221 : Dc mX9_init 221 (.putfield 90) 3 224 := ⟨by decide +kernel, rfl⟩
theorem dX9_init_224 : Dc mX9_init 224 (.aload_n 0) 1 225 := ⟨by decide +kernel, rfl⟩
theorem dX9_init_225 : Dc mX9_init 225 (.bipush 8) 2 227 := ⟨by decide +kernel, rfl⟩
theorem dX9_init_227 : Dc mX9_init 227 (.newarray .int) 2 229 := ⟨by decide +kernel, rfl⟩
theorem dX9_init_229 : Dc mX9_init 229 (.putfield 93) 3 232 := ⟨by decide +kernel, rfl⟩
theorem dX9_init_232 : Dc mX9_init 232 (.aload_n 0) 1 233 := ⟨by decide +kernel, rfl⟩
theorem dX9_init_233 : Dc mX9_init 233 (.bipush 8) 2 235 := ⟨by decide +kernel, rfl⟩
theorem dX9_init_235 : Dc mX9_init 235 (.newarray .int) 2 237 := ⟨by decide +kernel, rfl⟩
theorem dX9_init_237 : Dc mX9_init 237 (.putfield 96) 3 240 := ⟨by decide +kernel, rfl⟩
theorem dX9_init_240 : Dc mX9_init 240 (.aload_n 0) 1 241 := ⟨by decide +kernel, rfl⟩
theorem dX9_init_241 : Dc mX9_init 241 (.getfield 13) 3 244 := ⟨by decide +kernel, rfl⟩
theorem dX9_init_244 : Dc mX9_init 244 (.iconst 0) 1 245 := ⟨by decide +kernel, rfl⟩
theorem dX9_init_245 : Dc mX9_init 245 (.iconst (-1)) 1 246 := ⟨by decide +kernel, rfl⟩
theorem dX9_init_246 : Dc mX9_init 246 (.iastore) 1 247 := ⟨by decide +kernel, rfl⟩
theorem dX9_init_247 : Dc mX9_init 247 (.return_) 1 248 := ⟨by decide +kernel, rfl⟩
theorem dX9_in_0 : Dc mX9_in 0 (.iload_n 0) 1 1 := ⟨by decide +kernel, rfl⟩
theorem dX9_in_1 : Dc mX9_in 1 (.iload_n 1) 1 2 := ⟨by decide +kernel, rfl⟩
theorem dX9_in_2 : Dj mX9_in 2 (.if_icmp .lt 12) 3 5 (12) 14 := ⟨by decide +kernel, rfl, by decide⟩
theorem dX9_in_5 : Dc mX9_in 5 (.iload_n 0) 1 6 := ⟨by decide +kernel, rfl⟩
theorem dX9_in_6 : Dc mX9_in 6 (.iload_n 2) 1 7 := ⟨by decide +kernel, rfl⟩
theorem dX9_in_7 : Dj mX9_in 7 (.if_icmp .gt 7) 3 10 (7) 14 := ⟨by decide +kernel, rfl, by decide⟩
theorem dX9_in_10 : Dc mX9_in 10 (.iconst 1) 1 11 := ⟨by decide +kernel, rfl⟩
theorem dX9_in_11 : Dj mX9_in 11 (.goto 4) 3 14 (4) 15 := ⟨by decide +kernel, rfl, by decide⟩
theorem dX9_in_14 : Dc mX9_in 14 (.iconst 0) 1 15 := ⟨by decide +kernel, rfl⟩
theorem dX9_in_15 : Dc mX9_in 15 (.ireturn) 1 16 := ⟨by decide +kernel, rfl⟩
theorem dX9_isClass_0 : Dc mX9_isClass 0 (.iload_n 1) 1 1 := ⟨by decide +kernel, rfl⟩
theorem dX9_isClass_1 : Dc mX9_isClass 1 (.iconst 0) 1 2 := ⟨by decide +kernel, rfl⟩
theorem dX9_isClass_2 : Dc mX9_isClass 2 (.aload_n 0) 1 3 := ⟨by decide +kernel, rfl⟩
theorem dX9_isClass_3 : Dc mX9_isClass 3 (.getfield 7) 3 6 := ⟨by decide +kernel, rfl⟩
theorem dX9_isClass_6 : Dc mX9_isClass 6 (.iconst 1) 1 7 := ⟨by decide +kernel, rfl⟩
theorem dX9_isClass_7 : Dc mX9_isClass 7 (.isub) 1 8 := ⟨by decide +kernel, rfl⟩
theorem dX9_isClass_8 : Dc mX9_isClass 8 (.invokestatic 99) 3 11 := ⟨by decide +kernel, rfl⟩
theorem dX9_isClass_11 : Dc mX9_isClass 11 (.ireturn) 1 12 := ⟨by decide +kernel, rfl⟩
theorem dX9_cls_0 : Dc mX9_cls 0 (.iload_n 1) 1 1 := ⟨by decide +kernel, rfl⟩
theorem dX9_cls_1 : Dc mX9_cls 1 (.iconst (-1)) 1 2 := ⟨by decide +kernel, rfl⟩
theorem dX9_cls_2 : Dj mX9_cls 2 (.if_icmp .eq 23) 3 5 (23) 25 := ⟨by decide +kernel, rfl, by decide⟩
theorem dX9_cls_5 : Dc mX9_cls 5 (.aload_n 0) 1 6 := ⟨by decide +kernel, rfl⟩
theorem dX9_cls_6 : Dc mX9_cls 6 (.iload_n 1) 1 7 := ⟨by decide +kernel, rfl⟩
theorem dX9_cls_7 : Dc mX9_cls 7 (.invokevirtual 103) 3 10 := ⟨by decide +kernel, rfl⟩
theorem dX9_cls_10 : Dj mX9_cls 10 (.ifCond .eq 12) 3 13 (12) 22 := ⟨by decide +kernel, rfl, by decide⟩
theorem dX9_cls_13 : Dc mX9_cls 13 (.aload_n 0) 1 14 := ⟨by decide +kernel, rfl⟩
theorem dX9_cls_14 : Dc mX9_cls 14 (.getfield 17) 3 17 := ⟨by decide +kernel, rfl⟩
theorem dX9_cls_17 : Dc mX9_cls 17 (.iload_n 1) 1 18 := ⟨by decide +kernel, rfl⟩
theorem dX9_cls_18 : Dc mX9_cls 18 (.baload) 1 19 := ⟨by decide +kernel, rfl⟩
theorem dX9_cls_19 : Dj mX9_cls 19 (.ifCond .eq 6) 3 22 (6) 25 := ⟨by decide +kernel, rfl, by decide⟩
theorem dX9_cls_22 : Dc mX9_cls 22 (.bipush (-2)) 2 24 := ⟨by decide +kernel, rfl⟩
theorem dX9_cls_24 : Dc mX9_cls 24 (.ireturn) 1 25 := ⟨by decide +kernel, rfl⟩
theorem dX9_cls_25 : Dc mX9_cls 25 (.aload_n 0) 1 26 := ⟨by decide +kernel, rfl⟩
theorem dX9_cls_26 : Dc mX9_cls 26 (.getfield 7) 3 29 := ⟨by decide +kernel, rfl⟩
theorem dX9_cls_29 : Dc mX9_cls 29 (.bipush 16) 2 31 := ⟨by decide +kernel, rfl⟩
theorem dX9_cls_31 : Dj mX9_cls 31 (.if_icmp .ne 6) 3 34 (6) 37 := ⟨by decide +kernel, rfl, by decide⟩
theorem dX9_cls_34 : Dc mX9_cls 34 (.bipush (-4)) 2 36 := ⟨by decide +kernel, rfl⟩
theorem dX9_cls_36 : Dc mX9_cls 36 (.ireturn) 1 37 := ⟨by decide +kernel, rfl⟩
theorem dX9_cls_37 : Dc mX9_cls 37 (.aload_n 0) 1 38 := ⟨by decide +kernel, rfl⟩
theorem dX9_cls_38 : Dc mX9_cls 38 (.getfield 13) 3 41 := ⟨by decide +kernel, rfl⟩
theorem dX9_cls_41 : Dc mX9_cls 41 (.aload_n 0) 1 42 := ⟨by decide +kernel, rfl⟩
theorem dX9_cls_42 : Dc mX9_cls 42 (.getfield 7) 3 45 := ⟨by decide +kernel, rfl⟩
theorem dX9_cls_45 : Dc mX9_cls 45 (.iload_n 1) 1 46 := ⟨by decide +kernel, rfl⟩
theorem dX9_cls_46 : Dc mX9_cls 46 (.iastore) 1 47 := ⟨by decide +kernel, rfl⟩
theorem dX9_cls_47 : Dc mX9_cls 47 (.aload_n 0) 1 48 := ⟨by decide +kernel, rfl⟩
theorem dX9_cls_48 : Dc mX9_cls 48 (.getfield 17) 3 51 := ⟨by decide +kernel, rfl⟩
theorem dX9_cls_51 : Dc mX9_cls 51 (.aload_n 0) 1 52 := ⟨by decide +kernel, rfl⟩
theorem dX9_cls_52 : Dc mX9_cls 52 (.getfield 7) 3 55 := ⟨by decide +kernel, rfl⟩
theorem dX9_cls_55 : Dc mX9_cls 55 (.iload_n 1) 1 56 := ⟨by decide +kernel, rfl⟩
theorem dX9_cls_56 : Dc mX9_cls 56 (.iconst (-1)) 1 57 := ⟨by decide +kernel, rfl⟩
theorem dX9_cls_57 : Dj mX9_cls 57 (.if_icmp .ne 7) 3 60 (7) 64 := ⟨by decide +kernel, rfl, by decide⟩
theorem dX9_cls_60 : Dc mX9_cls 60 (.iconst 1) 1 61 := ⟨by decide +kernel, rfl⟩
theorem dX9_cls_61 : Dj mX9_cls 61 (.goto 4) 3 64 (4) 65 := ⟨by decide +kernel, rfl, by decide⟩
theorem dX9_cls_64 : Dc mX9_cls 64 (.iconst 0) 1 65 := ⟨by decide +kernel, rfl⟩
theorem dX9_cls_65 : Dc mX9_cls 65 (.bastore) 1 66 := ⟨by decide +kernel, rfl⟩
theorem dX9_cls_66 : Dc mX9_cls 66 (.aload_n 0) 1 67 := ⟨by decide +kernel, rfl⟩
theorem dX9_cls_67 : Dc mX9_cls 67 (.dup) 1 68 := ⟨by decide +kernel, rfl⟩
theorem dX9_cls_68 : Dc mX9_cls 68 (.getfield 7) 3 71 := ⟨by decide +kernel, rfl⟩
theorem dX9_cls_71 : Dc mX9_cls 71 (.iconst 1) 1 72 := ⟨by decide +kernel, rfl⟩
theorem dX9_cls_72 : Dc mX9_cls 72 (.iadd) 1 73 := ⟨by decide +kernel, rfl⟩
theorem dX9_cls_73 : Dc mX9_cls 73 (.putfield 7) 3 76 := ⟨by decide +kernel, rfl⟩
theorem dX9_cls_76 : Dc mX9_cls 76 (.aload_n 0) 1 77 := ⟨by decide +kernel, rfl⟩
theorem dX9_cls_77 : Dc mX9_cls 77 (.getfield 7) 3 80 := ⟨by decide +kernel, rfl⟩
theorem dX9_cls_80 : Dc mX9_cls 80 (.iconst 1) 1 81 := ⟨by decide +kernel, rfl⟩
theorem dX9_cls_81 : Dc mX9_cls 81 (.isub) 1 82 := ⟨by decide +kernel, rfl⟩
theorem dX9_cls_82 : Dc mX9_cls 82 (.ireturn) 1 83 := ⟨by decide +kernel, rfl⟩
theorem dX9_isBelow_0 : Dc mX9_isBelow 0 (.iload_n 1) 1 1 := ⟨by decide +kernel, rfl⟩
theorem dX9_isBelow_1 : Dc mX9_isBelow 1 (.istore_n 3) 1 2 := ⟨by decide +kernel, rfl⟩
theorem dX9_isBelow_2 : Dc mX9_isBelow 2 (.iload_n 3) 1 3 := ⟨by decide +kernel, rfl⟩
theorem dX9_isBelow_3 : Dc mX9_isBelow 3 (.iconst (-1)) 1 4 := ⟨by decide +kernel, rfl⟩
theorem dX9_isBelow_4 : Dj mX9_isBelow 4 (.if_icmp .eq 18) 3 7 (18) 22 := ⟨by decide +kernel, rfl, by decide⟩
theorem dX9_isBelow_7 : Dc mX9_isBelow 7 (.iload_n 3) 1 8 := ⟨by decide +kernel, rfl⟩
theorem dX9_isBelow_8 : Dc mX9_isBelow 8 (.iload_n 2) 1 9 := ⟨by decide +kernel, rfl⟩
theorem dX9_isBelow_9 : Dj mX9_isBelow 9 (.if_icmp .eq 13) 3 12 (13) 22 := ⟨by decide +kernel, rfl, by decide⟩
theorem dX9_isBelow_12 : Dc mX9_isBelow 12 (.aload_n 0) 1 13 := ⟨by decide +kernel, rfl⟩
theorem dX9_isBelow_13 : Dc mX9_isBelow 13 (.getfield 13) 3 16 := ⟨by decide +kernel, rfl⟩
theorem dX9_isBelow_16 : Dc mX9_isBelow 16 (.iload_n 3) 1 17 := ⟨by decide +kernel, rfl⟩
theorem dX9_isBelow_17 : Dc mX9_isBelow 17 (.iaload) 1 18 := ⟨by decide +kernel, rfl⟩
theorem dX9_isBelow_18 : Dc mX9_isBelow 18 (.istore_n 3) 1 19 := ⟨by decide +kernel, rfl⟩
theorem dX9_isBelow_19 : Dj mX9_isBelow 19 (.goto (-17)) 3 22 (-17) 2 := ⟨by decide +kernel, rfl, by decide⟩
theorem dX9_isBelow_22 : Dc mX9_isBelow 22 (.iload_n 3) 1 23 := ⟨by decide +kernel, rfl⟩
theorem dX9_isBelow_23 : Dc mX9_isBelow 23 (.iload_n 2) 1 24 := ⟨by decide +kernel, rfl⟩
theorem dX9_isBelow_24 : Dj mX9_isBelow 24 (.if_icmp .ne 7) 3 27 (7) 31 := ⟨by decide +kernel, rfl, by decide⟩
theorem dX9_isBelow_27 : Dc mX9_isBelow 27 (.iconst 1) 1 28 := ⟨by decide +kernel, rfl⟩
theorem dX9_isBelow_28 : Dj mX9_isBelow 28 (.goto 4) 3 31 (4) 32 := ⟨by decide +kernel, rfl, by decide⟩
theorem dX9_isBelow_31 : Dc mX9_isBelow 31 (.iconst 0) 1 32 := ⟨by decide +kernel, rfl⟩
theorem dX9_isBelow_32 : Dc mX9_isBelow 32 (.ireturn) 1 33 := ⟨by decide +kernel, rfl⟩
theorem dX9_fitsClass_0 : Dc mX9_fitsClass 0 (.aload_n 0) 1 1 := ⟨by decide +kernel, rfl⟩
theorem dX9_fitsClass_1 : Dc mX9_fitsClass 1 (.getfield 17) 3 4 := ⟨by decide +kernel, rfl⟩
theorem dX9_fitsClass_4 : Dc mX9_fitsClass 4 (.iload_n 2) 1 5 := ⟨by decide +kernel, rfl⟩
theorem dX9_fitsClass_5 : Dc mX9_fitsClass 5 (.baload) 1 6 := ⟨by decide +kernel, rfl⟩
theorem dX9_fitsClass_6 : Dj mX9_fitsClass 6 (.ifCond .ne 25) 3 9 (25) 31 := ⟨by decide +kernel, rfl, by decide⟩
theorem dX9_fitsClass_9 : Dc mX9_fitsClass 9 (.aload_n 0) 1 10 := ⟨by decide +kernel, rfl⟩
theorem dX9_fitsClass_10 : Dc mX9_fitsClass 10 (.iload_n 1) 1 11 := ⟨by decide +kernel, rfl⟩
theorem dX9_fitsClass_11 : Dc mX9_fitsClass 11 (.iload_n 2) 1 12 := ⟨by decide +kernel, rfl⟩
theorem dX9_fitsClass_12 : Dc mX9_fitsClass 12 (.invokevirtual 107) 3 15 := ⟨by decide +kernel, rfl⟩
theorem dX9_fitsClass_15 : Dj mX9_fitsClass 15 (.ifCond .ne 16) 3 18 (16) 31 := ⟨by decide +kernel, rfl, by decide⟩
theorem dX9_fitsClass_18 : Dc mX9_fitsClass 18 (.aload_n 0) 1 19 := ⟨by decide +kernel, rfl⟩
theorem dX9_fitsClass_19 : Dc mX9_fitsClass 19 (.getfield 17) 3 22 := ⟨by decide +kernel, rfl⟩
theorem dX9_fitsClass_22 : Dc mX9_fitsClass 22 (.iload_n 1) 1 23 := ⟨by decide +kernel, rfl⟩
theorem dX9_fitsClass_23 : Dc mX9_fitsClass 23 (.baload) 1 24 := ⟨by decide +kernel, rfl⟩
theorem dX9_fitsClass_24 : Dj mX9_fitsClass 24 (.ifCond .eq 11) 3 27 (11) 35 := ⟨by decide +kernel, rfl, by decide⟩
theorem dX9_fitsClass_27 : Dc mX9_fitsClass 27 (.iload_n 2) 1 28 := ⟨by decide +kernel, rfl⟩
theorem dX9_fitsClass_28 : Dj mX9_fitsClass 28 (.ifCond .ne 7) 3 31 (7) 35 := ⟨by decide +kernel, rfl, by decide⟩
theorem dX9_fitsClass_31 : Dc mX9_fitsClass 31 (.iconst 1) 1 32 := ⟨by decide +kernel, rfl⟩
theorem dX9_fitsClass_32 : Dj mX9_fitsClass 32 (.goto 4) 3 35 (4) 36 := ⟨by decide +kernel, rfl, by decide⟩
theorem dX9_fitsClass_35 : Dc mX9_fitsClass 35 (.iconst 0) 1 36 := ⟨by decide +kernel, rfl⟩
theorem dX9_fitsClass_36 : Dc mX9_fitsClass 36 (.ireturn) 1 37 := ⟨by decide +kernel, rfl⟩
theorem dX9_joinClass_0 : Dc mX9_joinClass 0 (.iload_n 1) 1 1 := ⟨by decide +kernel, rfl⟩
theorem dX9_joinClass_1 : Dc mX9_joinClass 1 (.iload_n 2) 1 2 := ⟨by decide +kernel, rfl⟩
theorem dX9_joinClass_2 : Dj mX9_joinClass 2 (.if_icmp .ne 5) 3 5 (5) 7 := ⟨by decide +kernel, rfl, by decide⟩
theorem dX9_joinClass_5 : Dc mX9_joinClass 5 (.iload_n 1) 1 6 := ⟨by decide +kernel, rfl⟩
theorem dX9_joinClass_6 : Dc mX9_joinClass 6 (.ireturn) 1 7 := ⟨by decide +kernel, rfl⟩
theorem dX9_joinClass_7 : Dc mX9_joinClass 7 (.aload_n 0) 1 8 := ⟨by decide +kernel, rfl⟩
theorem dX9_joinClass_8 : Dc mX9_joinClass 8 (.getfield 17) 3 11 := ⟨by decide +kernel, rfl⟩
theorem dX9_joinClass_11 : Dc mX9_joinClass 11 (.iload_n 1) 1 12 := ⟨by decide +kernel, rfl⟩
theorem dX9_joinClass_12 : Dc mX9_joinClass 12 (.baload) 1 13 := ⟨by decide +kernel, rfl⟩
theorem dX9_joinClass_13 : Dj mX9_joinClass 13 (.ifCond .ne 12) 3 16 (12) 25 := ⟨by decide +kernel, rfl, by decide⟩
theorem dX9_joinClass_16 : Dc mX9_joinClass 16 (.aload_n 0) 1 17 := ⟨by decide +kernel, rfl⟩
theorem dX9_joinClass_17 : Dc mX9_joinClass 17 (.getfield 17) 3 20 := ⟨by decide +kernel, rfl⟩
theorem dX9_joinClass_20 : Dc mX9_joinClass 20 (.iload_n 2) 1 21 := ⟨by decide +kernel, rfl⟩
theorem dX9_joinClass_21 : Dc mX9_joinClass 21 (.baload) 1 22 := ⟨by decide +kernel, rfl⟩
theorem dX9_joinClass_22 : Dj mX9_joinClass 22 (.ifCond .eq 5) 3 25 (5) 27 := ⟨by decide +kernel, rfl, by decide⟩
theorem dX9_joinClass_25 : Dc mX9_joinClass 25 (.iconst 0) 1 26 := ⟨by decide +kernel, rfl⟩
theorem dX9_joinClass_26 : Dc mX9_joinClass 26 (.ireturn) 1 27 := ⟨by decide +kernel, rfl⟩
theorem dX9_joinClass_27 : Dc mX9_joinClass 27 (.iload_n 1) 1 28 := ⟨by decide +kernel, rfl⟩
theorem dX9_joinClass_28 : Dc mX9_joinClass 28 (.istore_n 3) 1 29 := ⟨by decide +kernel, rfl⟩
theorem dX9_joinClass_29 : Dc mX9_joinClass 29 (.aload_n 0) 1 30 := ⟨by decide +kernel, rfl⟩
theorem dX9_joinClass_30 : Dc mX9_joinClass 30 (.iload_n 2) 1 31 := ⟨by decide +kernel, rfl⟩
theorem dX9_joinClass_31 : Dc mX9_joinClass 31 (.iload_n 3) 1 32 := ⟨by decide +kernel, rfl⟩
theorem dX9_joinClass_32 : Dc mX9_joinClass 32 (.invokevirtual 107) 3 35 := ⟨by decide +kernel, rfl⟩
theorem dX9_joinClass_35 : Dj mX9_joinClass 35 (.ifCond .ne 13) 3 38 (13) 48 := ⟨by decide +kernel, rfl, by decide⟩
theorem dX9_joinClass_38 : Dc mX9_joinClass 38 (.aload_n 0) 1 39 := ⟨by decide +kernel, rfl⟩
theorem dX9_joinClass_39 : Dc mX9_joinClass 39 (.getfield 13) 3 42 := ⟨by decide +kernel, rfl⟩
theorem dX9_joinClass_42 : Dc mX9_joinClass 42 (.iload_n 3) 1 43 := ⟨by decide +kernel, rfl⟩
theorem dX9_joinClass_43 : Dc mX9_joinClass 43 (.iaload) 1 44 := ⟨by decide +kernel, rfl⟩
theorem dX9_joinClass_44 : Dc mX9_joinClass 44 (.istore_n 3) 1 45 := ⟨by decide +kernel, rfl⟩
theorem dX9_joinClass_45 : Dj mX9_joinClass 45 (.goto (-16)) 3 48 (-16) 29 := ⟨by decide +kernel, rfl, by decide⟩
theorem dX9_joinClass_48 : Dc mX9_joinClass 48 (.iload_n 3) 1 49 := ⟨by decide +kernel, rfl⟩
theorem dX9_joinClass_49 : Dc mX9_joinClass 49 (.ireturn) 1 50 := ⟨by decide +kernel, rfl⟩
theorem dX9_fits_0 : Dc mX9_fits 0 (.aload_n 0) 1 1 := ⟨by decide +kernel, rfl⟩
theorem dX9_fits_1 : Dc mX9_fits 1 (.iload_n 1) 1 2 := ⟨by decide +kernel, rfl⟩
theorem dX9_fits_2 : Dc mX9_fits 2 (.invokevirtual 103) 3 5 := ⟨by decide +kernel, rfl⟩
theorem dX9_fits_5 : Dj mX9_fits 5 (.ifCond .eq 11) 3 8 (11) 16 := ⟨by decide +kernel, rfl, by decide⟩
theorem dX9_fits_8 : Dc mX9_fits 8 (.aload_n 0) 1 9 := ⟨by decide +kernel, rfl⟩
theorem dX9_fits_9 : Dc mX9_fits 9 (.iload_n 2) 1 10 := ⟨by decide +kernel, rfl⟩
theorem dX9_fits_10 : Dc mX9_fits 10 (.invokevirtual 103) 3 13 := ⟨by decide +kernel, rfl⟩
theorem dX9_fits_13 : Dj mX9_fits 13 (.ifCond .ne 8) 3 16 (8) 21 := ⟨by decide +kernel, rfl, by decide⟩
theorem dX9_fits_16 : Dc mX9_fits 16 (.bipush (-2)) 2 18 := ⟨by decide +kernel, rfl⟩
theorem dX9_fits_18 : Dj mX9_fits 18 (.goto 17) 3 21 (17) 35 := ⟨by decide +kernel, rfl, by decide⟩
theorem dX9_fits_21 : Dc mX9_fits 21 (.aload_n 0) 1 22 := ⟨by decide +kernel, rfl⟩
theorem dX9_fits_22 : Dc mX9_fits 22 (.iload_n 1) 1 23 := ⟨by decide +kernel, rfl⟩
theorem dX9_fits_23 : Dc mX9_fits 23 (.iload_n 2) 1 24 := ⟨by decide +kernel, rfl⟩
theorem dX9_fits_24 : Dc mX9_fits 24 (.invokevirtual 111) 3 27 := ⟨by decide +kernel, rfl⟩
theorem dX9_fits_27 : Dj mX9_fits 27 (.ifCond .eq 7) 3 30 (7) 34 := ⟨by decide +kernel, rfl, by decide⟩
theorem dX9_fits_30 : Dc mX9_fits 30 (.iconst 1) 1 31 := ⟨by decide +kernel, rfl⟩
theorem dX9_fits_31 : Dj mX9_fits 31 (.goto 4) 3 34 (4) 35 := ⟨by decide +kernel, rfl, by decide⟩
theorem dX9_fits_34 : Dc mX9_fits 34 (.iconst 0) 1 35 := ⟨by decide +kernel, rfl⟩
theorem dX9_fits_35 : Dc mX9_fits 35 (.ireturn) 1 36 := ⟨by decide +kernel, rfl⟩
theorem dX9_isThing_0 : Dc mX9_isThing 0 (.iload_n 1) 1 1 := ⟨by decide +kernel, rfl⟩
theorem dX9_isThing_1 : Dc mX9_isThing 1 (.bipush 10) 2 3 := ⟨by decide +kernel, rfl⟩
theorem dX9_isThing_3 : Dc mX9_isThing 3 (.bipush 10) 2 5 := ⟨by decide +kernel, rfl⟩
theorem dX9_isThing_5 : Dc mX9_isThing 5 (.aload_n 0) 1 6 := ⟨by decide +kernel, rfl⟩
theorem dX9_isThing_6 : Dc mX9_isThing 6 (.getfield 7) 3 9 := ⟨by decide +kernel, rfl⟩
theorem dX9_isThing_9 : Dc mX9_isThing 9 (.iadd) 1 10 := ⟨by decide +kernel, rfl⟩
theorem dX9_isThing_10 : Dc mX9_isThing 10 (.iconst 1) 1 11 := ⟨by decide +kernel, rfl⟩
theorem dX9_isThing_11 : Dc mX9_isThing 11 (.isub) 1 12 := ⟨by decide +kernel, rfl⟩
theorem dX9_isThing_12 : Dc mX9_isThing 12 (.invokestatic 99) 3 15 := ⟨by decide +kernel, rfl⟩
theorem dX9_isThing_15 : Dc mX9_isThing 15 (.ireturn) 1 16 := ⟨by decide +kernel, rfl⟩
theorem dX9_isThings_0 : Dc mX9_isThings 0 (.iload_n 1) 1 1 := ⟨by decide +kernel, rfl⟩
theorem dX9_isThings_1 : Dc mX9_isThings 1 (.bipush 40) 2 3 := ⟨by decide +kernel, rfl⟩
theorem dX9_isThings_3 : Dc mX9_isThings 3 (.bipush 40) 2 5 := ⟨by decide +kernel, rfl⟩
theorem dX9_isThings_5 : Dc mX9_isThings 5 (.aload_n 0) 1 6 := ⟨by decide +kernel, rfl⟩
theorem dX9_isThings_6 : Dc mX9_isThings 6 (.getfield 7) 3 9 := ⟨by decide +kernel, rfl⟩
theorem dX9_isThings_9 : Dc mX9_isThings 9 (.iadd) 1 10 := ⟨by decide +kernel, rfl⟩
theorem dX9_isThings_10 : Dc mX9_isThings 10 (.iconst 1) 1 11 := ⟨by decide +kernel, rfl⟩
theorem dX9_isThings_11 : Dc mX9_isThings 11 (.isub) 1 12 := ⟨by decide +kernel, rfl⟩
theorem dX9_isThings_12 : Dc mX9_isThings 12 (.invokestatic 99) 3 15 := ⟨by decide +kernel, rfl⟩
theorem dX9_isThings_15 : Dc mX9_isThings 15 (.ireturn) 1 16 := ⟨by decide +kernel, rfl⟩
theorem dX9_isReference_0 : Dc mX9_isReference 0 (.iload_n 0) 1 1 := ⟨by decide +kernel, rfl⟩
theorem dX9_isReference_1 : Dc mX9_isReference 1 (.iconst 4) 1 2 := ⟨by decide +kernel, rfl⟩
theorem dX9_isReference_2 : Dj mX9_isReference 2 (.if_icmp .eq 20) 3 5 (20) 22 := ⟨by decide +kernel, rfl, by decide⟩
theorem dX9_isReference_5 : Dc mX9_isReference 5 (.iload_n 0) 1 6 := ⟨by decide +kernel, rfl⟩
theorem dX9_isReference_6 : Dc mX9_isReference 6 (.iconst 5) 1 7 := ⟨by decide +kernel, rfl⟩
theorem dX9_isReference_7 : Dj mX9_isReference 7 (.if_icmp .eq 15) 3 10 (15) 22 := ⟨by decide +kernel, rfl, by decide⟩
theorem dX9_isReference_10 : Dc mX9_isReference 10 (.iload_n 0) 1 11 := ⟨by decide +kernel, rfl⟩
theorem dX9_isReference_11 : Dc mX9_isReference 11 (.bipush 10) 2 13 := ⟨by decide +kernel, rfl⟩
theorem dX9_isReference_13 : Dj mX9_isReference 13 (.if_icmp .lt 13) 3 16 (13) 26 := ⟨by decide +kernel, rfl, by decide⟩
theorem dX9_isReference_16 : Dc mX9_isReference 16 (.iload_n 0) 1 17 := ⟨by decide +kernel, rfl⟩
theorem dX9_isReference_17 : Dc mX9_isReference 17 (.bipush 100) 2 19 := ⟨by decide +kernel, rfl⟩
theorem dX9_isReference_19 : Dj mX9_isReference 19 (.if_icmp .ge 7) 3 22 (7) 26 := ⟨by decide +kernel, rfl, by decide⟩
theorem dX9_isReference_22 : Dc mX9_isReference 22 (.iconst 1) 1 23 := ⟨by decide +kernel, rfl⟩
theorem dX9_isReference_23 : Dj mX9_isReference 23 (.goto 4) 3 26 (4) 27 := ⟨by decide +kernel, rfl, by decide⟩
theorem dX9_isReference_26 : Dc mX9_isReference 26 (.iconst 0) 1 27 := ⟨by decide +kernel, rfl⟩
theorem dX9_isReference_27 : Dc mX9_isReference 27 (.ireturn) 1 28 := ⟨by decide +kernel, rfl⟩
theorem dX9_fitsKind_0 : Dc mX9_fitsKind 0 (.iload_n 1) 1 1 := ⟨by decide +kernel, rfl⟩
theorem dX9_fitsKind_1 : Dc mX9_fitsKind 1 (.iload_n 2) 1 2 := ⟨by decide +kernel, rfl⟩
theorem dX9_fitsKind_2 : Dj mX9_fitsKind 2 (.if_icmp .eq 15) 3 5 (15) 17 := ⟨by decide +kernel, rfl, by decide⟩
theorem dX9_fitsKind_5 : Dc mX9_fitsKind 5 (.iload_n 1) 1 6 := ⟨by decide +kernel, rfl⟩
theorem dX9_fitsKind_6 : Dc mX9_fitsKind 6 (.iconst 4) 1 7 := ⟨by decide +kernel, rfl⟩
theorem dX9_fitsKind_7 : Dj mX9_fitsKind 7 (.if_icmp .ne 12) 3 10 (12) 19 := ⟨by decide +kernel, rfl, by decide⟩
theorem dX9_fitsKind_10 : Dc mX9_fitsKind 10 (.iload_n 2) 1 11 := ⟨by decide +kernel, rfl⟩
theorem dX9_fitsKind_11 : Dc mX9_fitsKind 11 (.invokestatic 114) 3 14 := ⟨by decide +kernel, rfl⟩
theorem dX9_fitsKind_14 : Dj mX9_fitsKind 14 (.ifCond .eq 5) 3 17 (5) 19 := ⟨by decide +kernel, rfl, by decide⟩
theorem dX9_fitsKind_17 : Dc mX9_fitsKind 17 (.iconst 1) 1 18 := ⟨by decide +kernel, rfl⟩
theorem dX9_fitsKind_18 : Dc mX9_fitsKind 18 (.ireturn) 1 19 := ⟨by decide +kernel, rfl⟩
theorem dX9_fitsKind_19 : Dc mX9_fitsKind 19 (.aload_n 0) 1 20 := ⟨by decide +kernel, rfl⟩
theorem dX9_fitsKind_20 : Dc mX9_fitsKind 20 (.iload_n 1) 1 21 := ⟨by decide +kernel, rfl⟩
theorem dX9_fitsKind_21 : Dc mX9_fitsKind 21 (.invokevirtual 117) 3 24 := ⟨by decide +kernel, rfl⟩
theorem dX9_fitsKind_24 : Dj mX9_fitsKind 24 (.ifCond .eq 24) 3 27 (24) 48 := ⟨by decide +kernel, rfl, by decide⟩
theorem dX9_fitsKind_27 : Dc mX9_fitsKind 27 (.aload_n 0) 1 28 := ⟨by decide +kernel, rfl⟩
theorem dX9_fitsKind_28 : Dc mX9_fitsKind 28 (.iload_n 2) 1 29 := ⟨by decide +kernel, rfl⟩
theorem dX9_fitsKind_29 : Dc mX9_fitsKind 29 (.invokevirtual 117) 3 32 := ⟨by decide +kernel, rfl⟩
theorem dX9_fitsKind_32 : Dj mX9_fitsKind 32 (.ifCond .eq 16) 3 35 (16) 48 := ⟨by decide +kernel, rfl, by decide⟩
theorem dX9_fitsKind_35 : Dc mX9_fitsKind 35 (.aload_n 0) 1 36 := ⟨by decide +kernel, rfl⟩
theorem dX9_fitsKind_36 : Dc mX9_fitsKind 36 (.iload_n 1) 1 37 := ⟨by decide +kernel, rfl⟩
theorem dX9_fitsKind_37 : Dc mX9_fitsKind 37 (.bipush 10) 2 39 := ⟨by decide +kernel, rfl⟩
theorem dX9_fitsKind_39 : Dc mX9_fitsKind 39 (.isub) 1 40 := ⟨by decide +kernel, rfl⟩
theorem dX9_fitsKind_40 : Dc mX9_fitsKind 40 (.iload_n 2) 1 41 := ⟨by decide +kernel, rfl⟩
theorem dX9_fitsKind_41 : Dc mX9_fitsKind 41 (.bipush 10) 2 43 := ⟨by decide +kernel, rfl⟩
theorem dX9_fitsKind_43 : Dc mX9_fitsKind 43 (.isub) 1 44 := ⟨by decide +kernel, rfl⟩
theorem dX9_fitsKind_44 : Dc mX9_fitsKind 44 (.invokevirtual 111) 3 47 := ⟨by decide +kernel, rfl⟩
theorem dX9_fitsKind_47 : Dc mX9_fitsKind 47 (.ireturn) 1 48 := ⟨by decide +kernel, rfl⟩
theorem dX9_fitsKind_48 : Dc mX9_fitsKind 48 (.aload_n 0) 1 49 := ⟨by decide +kernel, rfl⟩
theorem dX9_fitsKind_49 : Dc mX9_fitsKind 49 (.iload_n 1) 1 50 := ⟨by decide +kernel, rfl⟩
theorem dX9_fitsKind_50 : Dc mX9_fitsKind 50 (.invokevirtual 120) 3 53 := ⟨by decide +kernel, rfl⟩
theorem dX9_fitsKind_53 : Dj mX9_fitsKind 53 (.ifCond .eq 24) 3 56 (24) 77 := ⟨by decide +kernel, rfl, by decide⟩
theorem dX9_fitsKind_56 : Dc mX9_fitsKind 56 (.aload_n 0) 1 57 := ⟨by decide +kernel, rfl⟩
theorem dX9_fitsKind_57 : Dc mX9_fitsKind 57 (.iload_n 2) 1 58 := ⟨by decide +kernel, rfl⟩
theorem dX9_fitsKind_58 : Dc mX9_fitsKind 58 (.invokevirtual 120) 3 61 := ⟨by decide +kernel, rfl⟩
theorem dX9_fitsKind_61 : Dj mX9_fitsKind 61 (.ifCond .eq 16) 3 64 (16) 77 := ⟨by decide +kernel, rfl, by decide⟩
theorem dX9_fitsKind_64 : Dc mX9_fitsKind 64 (.aload_n 0) 1 65 := ⟨by decide +kernel, rfl⟩
theorem dX9_fitsKind_65 : Dc mX9_fitsKind 65 (.iload_n 1) 1 66 := ⟨by decide +kernel, rfl⟩
theorem dX9_fitsKind_66 : Dc mX9_fitsKind 66 (.bipush 40) 2 68 := ⟨by decide +kernel, rfl⟩
theorem dX9_fitsKind_68 : Dc mX9_fitsKind 68 (.isub) 1 69 := ⟨by decide +kernel, rfl⟩
theorem dX9_fitsKind_69 : Dc mX9_fitsKind 69 (.iload_n 2) 1 70 := ⟨by decide +kernel, rfl⟩
theorem dX9_fitsKind_70 : Dc mX9_fitsKind 70 (.bipush 40) 2 72 := ⟨by decide +kernel, rfl⟩
theorem dX9_fitsKind_72 : Dc mX9_fitsKind 72 (.isub) 1 73 := ⟨by decide +kernel, rfl⟩
theorem dX9_fitsKind_73 : Dc mX9_fitsKind 73 (.invokevirtual 111) 3 76 := ⟨by decide +kernel, rfl⟩
theorem dX9_fitsKind_76 : Dc mX9_fitsKind 76 (.ireturn) 1 77 := ⟨by decide +kernel, rfl⟩
theorem dX9_fitsKind_77 : Dc mX9_fitsKind 77 (.iload_n 1) 1 78 := ⟨by decide +kernel, rfl⟩
theorem dX9_fitsKind_78 : Dc mX9_fitsKind 78 (.iconst 5) 1 79 := ⟨by decide +kernel, rfl⟩
theorem dX9_fitsKind_79 : Dj mX9_fitsKind 79 (.if_icmp .eq 11) 3 82 (11) 90 := ⟨by decide +kernel, rfl, by decide⟩
theorem dX9_fitsKind_82 : Dc mX9_fitsKind 82 (.aload_n 0) 1 83 := ⟨by decide +kernel, rfl⟩
theorem dX9_fitsKind_83 : Dc mX9_fitsKind 83 (.iload_n 1) 1 84 := ⟨by decide +kernel, rfl⟩
theorem dX9_fitsKind_84 : Dc mX9_fitsKind 84 (.invokevirtual 120) 3 87 := ⟨by decide +kernel, rfl⟩
theorem dX9_fitsKind_87 : Dj mX9_fitsKind 87 (.ifCond .eq 13) 3 90 (13) 100 := ⟨by decide +kernel, rfl, by decide⟩
theorem dX9_fitsKind_90 : Dc mX9_fitsKind 90 (.iload_n 2) 1 91 := ⟨by decide +kernel, rfl⟩
theorem dX9_fitsKind_91 : Dc mX9_fitsKind 91 (.bipush 10) 2 93 := ⟨by decide +kernel, rfl⟩
theorem dX9_fitsKind_93 : Dj mX9_fitsKind 93 (.if_icmp .ne 7) 3 96 (7) 100 := ⟨by decide +kernel, rfl, by decide⟩
theorem dX9_fitsKind_96 : Dc mX9_fitsKind 96 (.iconst 1) 1 97 := ⟨by decide +kernel, rfl⟩
theorem dX9_fitsKind_97 : Dj mX9_fitsKind 97 (.goto 4) 3 100 (4) 101 := ⟨by decide +kernel, rfl, by decide⟩
theorem dX9_fitsKind_100 : Dc mX9_fitsKind 100 (.iconst 0) 1 101 := ⟨by decide +kernel, rfl⟩
theorem dX9_fitsKind_101 : Dc mX9_fitsKind 101 (.ireturn) 1 102 := ⟨by decide +kernel, rfl⟩
theorem dX9_joined_0 : Dc mX9_joined 0 (.iload_n 1) 1 1 := ⟨by decide +kernel, rfl⟩
theorem dX9_joined_1 : Dc mX9_joined 1 (.iload_n 2) 1 2 := ⟨by decide +kernel, rfl⟩
theorem dX9_joined_2 : Dj mX9_joined 2 (.if_icmp .ne 5) 3 5 (5) 7 := ⟨by decide +kernel, rfl, by decide⟩
theorem dX9_joined_5 : Dc mX9_joined 5 (.iload_n 1) 1 6 := ⟨by decide +kernel, rfl⟩
theorem dX9_joined_6 : Dc mX9_joined 6 (.ireturn) 1 7 := ⟨by decide +kernel, rfl⟩
theorem dX9_joined_7 : Dc mX9_joined 7 (.iload_n 1) 1 8 := ⟨by decide +kernel, rfl⟩
theorem dX9_joined_8 : Dc mX9_joined 8 (.invokestatic 114) 3 11 := ⟨by decide +kernel, rfl⟩
theorem dX9_joined_11 : Dj mX9_joined 11 (.ifCond .eq 10) 3 14 (10) 21 := ⟨by decide +kernel, rfl, by decide⟩
theorem dX9_joined_14 : Dc mX9_joined 14 (.iload_n 2) 1 15 := ⟨by decide +kernel, rfl⟩
theorem dX9_joined_15 : Dc mX9_joined 15 (.invokestatic 114) 3 18 := ⟨by decide +kernel, rfl⟩
theorem dX9_joined_18 : Dj mX9_joined 18 (.ifCond .ne 5) 3 21 (5) 23 := ⟨by decide +kernel, rfl, by decide⟩
theorem dX9_joined_21 : Dc mX9_joined 21 (.iconst 0) 1 22 := ⟨by decide +kernel, rfl⟩
theorem dX9_joined_22 : Dc mX9_joined 22 (.ireturn) 1 23 := ⟨by decide +kernel, rfl⟩
theorem dX9_joined_23 : Dc mX9_joined 23 (.iload_n 1) 1 24 := ⟨by decide +kernel, rfl⟩
theorem dX9_joined_24 : Dc mX9_joined 24 (.iconst 4) 1 25 := ⟨by decide +kernel, rfl⟩
theorem dX9_joined_25 : Dj mX9_joined 25 (.if_icmp .eq 8) 3 28 (8) 33 := ⟨by decide +kernel, rfl, by decide⟩
theorem dX9_joined_28 : Dc mX9_joined 28 (.iload_n 2) 1 29 := ⟨by decide +kernel, rfl⟩
theorem dX9_joined_29 : Dc mX9_joined 29 (.iconst 4) 1 30 := ⟨by decide +kernel, rfl⟩
theorem dX9_joined_30 : Dj mX9_joined 30 (.if_icmp .ne 14) 3 33 (14) 44 := ⟨by decide +kernel, rfl, by decide⟩
theorem dX9_joined_33 : Dc mX9_joined 33 (.iload_n 1) 1 34 := ⟨by decide +kernel, rfl⟩
theorem dX9_joined_34 : Dc mX9_joined 34 (.iconst 4) 1 35 := ⟨by decide +kernel, rfl⟩
theorem dX9_joined_35 : Dj mX9_joined 35 (.if_icmp .ne 7) 3 38 (7) 42 := ⟨by decide +kernel, rfl, by decide⟩
theorem dX9_joined_38 : Dc mX9_joined 38 (.iload_n 2) 1 39 := ⟨by decide +kernel, rfl⟩
theorem dX9_joined_39 : Dj mX9_joined 39 (.goto 4) 3 42 (4) 43 := ⟨by decide +kernel, rfl, by decide⟩
theorem dX9_joined_42 : Dc mX9_joined 42 (.iload_n 1) 1 43 := ⟨by decide +kernel, rfl⟩
theorem dX9_joined_43 : Dc mX9_joined 43 (.ireturn) 1 44 := ⟨by decide +kernel, rfl⟩
theorem dX9_joined_44 : Dc mX9_joined 44 (.aload_n 0) 1 45 := ⟨by decide +kernel, rfl⟩
theorem dX9_joined_45 : Dc mX9_joined 45 (.iload_n 1) 1 46 := ⟨by decide +kernel, rfl⟩
theorem dX9_joined_46 : Dc mX9_joined 46 (.invokevirtual 117) 3 49 := ⟨by decide +kernel, rfl⟩
theorem dX9_joined_49 : Dj mX9_joined 49 (.ifCond .eq 27) 3 52 (27) 76 := ⟨by decide +kernel, rfl, by decide⟩
theorem dX9_joined_52 : Dc mX9_joined 52 (.aload_n 0) 1 53 := ⟨by decide +kernel, rfl⟩
theorem dX9_joined_53 : Dc mX9_joined 53 (.iload_n 2) 1 54 := ⟨by decide +kernel, rfl⟩
theorem dX9_joined_54 : Dc mX9_joined 54 (.invokevirtual 117) 3 57 := ⟨by decide +kernel, rfl⟩
theorem dX9_joined_57 : Dj mX9_joined 57 (.ifCond .eq 19) 3 60 (19) 76 := ⟨by decide +kernel, rfl, by decide⟩
theorem dX9_joined_60 : Dc mX9_joined 60 (.bipush 10) 2 62 := ⟨by decide +kernel, rfl⟩
theorem dX9_joined_62 : Dc mX9_joined 62 (.aload_n 0) 1 63 := ⟨by decide +kernel, rfl⟩
theorem dX9_joined_63 : Dc mX9_joined 63 (.iload_n 1) 1 64 := ⟨by decide +kernel, rfl⟩
theorem dX9_joined_64 : Dc mX9_joined 64 (.bipush 10) 2 66 := ⟨by decide +kernel, rfl⟩
theorem dX9_joined_66 : Dc mX9_joined 66 (.isub) 1 67 := ⟨by decide +kernel, rfl⟩
theorem dX9_joined_67 : Dc mX9_joined 67 (.iload_n 2) 1 68 := ⟨by decide +kernel, rfl⟩
theorem dX9_joined_68 : Dc mX9_joined 68 (.bipush 10) 2 70 := ⟨by decide +kernel, rfl⟩
theorem dX9_joined_70 : Dc mX9_joined 70 (.isub) 1 71 := ⟨by decide +kernel, rfl⟩
theorem dX9_joined_71 : Dc mX9_joined 71 (.invokevirtual 123) 3 74 := ⟨by decide +kernel, rfl⟩
theorem dX9_joined_74 : Dc mX9_joined 74 (.iadd) 1 75 := ⟨by decide +kernel, rfl⟩
theorem dX9_joined_75 : Dc mX9_joined 75 (.ireturn) 1 76 := ⟨by decide +kernel, rfl⟩
theorem dX9_joined_76 : Dc mX9_joined 76 (.aload_n 0) 1 77 := ⟨by decide +kernel, rfl⟩
theorem dX9_joined_77 : Dc mX9_joined 77 (.iload_n 1) 1 78 := ⟨by decide +kernel, rfl⟩
theorem dX9_joined_78 : Dc mX9_joined 78 (.invokevirtual 120) 3 81 := ⟨by decide +kernel, rfl⟩
theorem dX9_joined_81 : Dj mX9_joined 81 (.ifCond .eq 29) 3 84 (29) 110 := ⟨by decide +kernel, rfl, by decide⟩
theorem dX9_joined_84 : Dc mX9_joined 84 (.aload_n 0) 1 85 := ⟨by decide +kernel, rfl⟩
theorem dX9_joined_85 : Dc mX9_joined 85 (.iload_n 2) 1 86 := ⟨by decide +kernel, rfl⟩
theorem dX9_joined_86 : Dc mX9_joined 86 (.invokevirtual 120) 3 89 := ⟨by decide +kernel, rfl⟩
theorem dX9_joined_89 : Dj mX9_joined 89 (.ifCond .eq 21) 3 92 (21) 110 := ⟨by decide +kernel, rfl, by decide⟩
theorem dX9_joined_92 : Dc mX9_joined 92 (.bipush 40) 2 94 := ⟨by decide +kernel, rfl⟩
theorem dX9_joined_94 : Dc mX9_joined 94 (.aload_n 0) 1 95 := ⟨by decide +kernel, rfl⟩
theorem dX9_joined_95 : Dc mX9_joined 95 (.iload_n 1) 1 96 := ⟨by decide +kernel, rfl⟩
theorem dX9_joined_96 : Dc mX9_joined 96 (.bipush 40) 2 98 := ⟨by decide +kernel, rfl⟩
theorem dX9_joined_98 : Dc mX9_joined 98 (.isub) 1 99 := ⟨by decide +kernel, rfl⟩
theorem dX9_joined_99 : Dc mX9_joined 99 (.iload_n 2) 1 100 := ⟨by decide +kernel, rfl⟩
theorem dX9_joined_100 : Dc mX9_joined 100 (.bipush 40) 2 102 := ⟨by decide +kernel, rfl⟩
theorem dX9_joined_102 : Dc mX9_joined 102 (.isub) 1 103 := ⟨by decide +kernel, rfl⟩
theorem dX9_joined_103 : Dc mX9_joined 103 (.invokevirtual 123) 3 106 := ⟨by decide +kernel, rfl⟩
theorem dX9_joined_106 : Dc mX9_joined 106 (.iadd) 1 107 := ⟨by decide +kernel, rfl⟩
theorem dX9_joined_107 : Dj mX9_joined 107 (.goto 5) 3 110 (5) 112 := ⟨by decide +kernel, rfl, by decide⟩
theorem dX9_joined_110 : Dc mX9_joined 110 (.bipush 10) 2 112 := ⟨by decide +kernel, rfl⟩
theorem dX9_joined_112 : Dc mX9_joined 112 (.ireturn) 1 113 := ⟨by decide +kernel, rfl⟩
theorem dX9_isKind_0 : Dc mX9_isKind 0 (.iload_n 1) 1 1 := ⟨by decide +kernel, rfl⟩
theorem dX9_isKind_1 : Dc mX9_isKind 1 (.iconst 0) 1 2 := ⟨by decide +kernel, rfl⟩
theorem dX9_isKind_2 : Dc mX9_isKind 2 (.iconst 5) 1 3 := ⟨by decide +kernel, rfl⟩
theorem dX9_isKind_3 : Dc mX9_isKind 3 (.invokestatic 99) 3 6 := ⟨by decide +kernel, rfl⟩
theorem dX9_isKind_6 : Dj mX9_isKind 6 (.ifCond .ne 31) 3 9 (31) 37 := ⟨by decide +kernel, rfl, by decide⟩
theorem dX9_isKind_9 : Dc mX9_isKind 9 (.aload_n 0) 1 10 := ⟨by decide +kernel, rfl⟩
theorem dX9_isKind_10 : Dc mX9_isKind 10 (.iload_n 1) 1 11 := ⟨by decide +kernel, rfl⟩
theorem dX9_isKind_11 : Dc mX9_isKind 11 (.invokevirtual 117) 3 14 := ⟨by decide +kernel, rfl⟩
theorem dX9_isKind_14 : Dj mX9_isKind 14 (.ifCond .ne 23) 3 17 (23) 37 := ⟨by decide +kernel, rfl, by decide⟩
theorem dX9_isKind_17 : Dc mX9_isKind 17 (.aload_n 0) 1 18 := ⟨by decide +kernel, rfl⟩
theorem dX9_isKind_18 : Dc mX9_isKind 18 (.iload_n 1) 1 19 := ⟨by decide +kernel, rfl⟩
theorem dX9_isKind_19 : Dc mX9_isKind 19 (.invokevirtual 120) 3 22 := ⟨by decide +kernel, rfl⟩
theorem dX9_isKind_22 : Dj mX9_isKind 22 (.ifCond .ne 15) 3 25 (15) 37 := ⟨by decide +kernel, rfl, by decide⟩
theorem dX9_isKind_25 : Dc mX9_isKind 25 (.iload_n 1) 1 26 := ⟨by decide +kernel, rfl⟩
theorem dX9_isKind_26 : Dc mX9_isKind 26 (.bipush 100) 2 28 := ⟨by decide +kernel, rfl⟩
theorem dX9_isKind_28 : Dc mX9_isKind 28 (.sipush 139) 3 31 := ⟨by decide +kernel, rfl⟩
theorem dX9_isKind_31 : Dc mX9_isKind 31 (.invokestatic 99) 3 34 := ⟨by decide +kernel, rfl⟩
theorem dX9_isKind_34 : Dj mX9_isKind 34 (.ifCond .eq 7) 3 37 (7) 41 := ⟨by decide +kernel, rfl, by decide⟩
theorem dX9_isKind_37 : Dc mX9_isKind 37 (.iconst 1) 1 38 := ⟨by decide +kernel, rfl⟩
theorem dX9_isKind_38 : Dj mX9_isKind 38 (.goto 4) 3 41 (4) 42 := ⟨by decide +kernel, rfl, by decide⟩
theorem dX9_isKind_41 : Dc mX9_isKind 41 (.iconst 0) 1 42 := ⟨by decide +kernel, rfl⟩
theorem dX9_isKind_42 : Dc mX9_isKind 42 (.ireturn) 1 43 := ⟨by decide +kernel, rfl⟩
theorem dX9_join_0 : Dc mX9_join 0 (.aload_n 0) 1 1 := ⟨by decide +kernel, rfl⟩
theorem dX9_join_1 : Dc mX9_join 1 (.iload_n 1) 1 2 := ⟨by decide +kernel, rfl⟩
theorem dX9_join_2 : Dc mX9_join 2 (.invokevirtual 127) 3 5 := ⟨by decide +kernel, rfl⟩
theorem dX9_join_5 : Dj mX9_join 5 (.ifCond .eq 20) 3 8 (20) 25 := ⟨by decide +kernel, rfl, by decide⟩
theorem dX9_join_8 : Dc mX9_join 8 (.aload_n 0) 1 9 := ⟨by decide +kernel, rfl⟩
theorem dX9_join_9 : Dc mX9_join 9 (.iload_n 2) 1 10 := ⟨by decide +kernel, rfl⟩
theorem dX9_join_10 : Dc mX9_join 10 (.invokevirtual 127) 3 13 := ⟨by decide +kernel, rfl⟩
theorem dX9_join_13 : Dj mX9_join 13 (.ifCond .eq 12) 3 16 (12) 25 := ⟨by decide +kernel, rfl, by decide⟩
theorem dX9_join_16 : Dc mX9_join 16 (.aload_n 0) 1 17 := ⟨by decide +kernel, rfl⟩
theorem dX9_join_17 : Dc mX9_join 17 (.iload_n 1) 1 18 := ⟨by decide +kernel, rfl⟩
theorem dX9_join_18 : Dc mX9_join 18 (.iload_n 2) 1 19 := ⟨by decide +kernel, rfl⟩
theorem dX9_join_19 : Dc mX9_join 19 (.invokevirtual 130) 3 22 := ⟨by decide +kernel, rfl⟩
theorem dX9_join_22 : Dj mX9_join 22 (.goto 5) 3 25 (5) 27 := ⟨by decide +kernel, rfl, by decide⟩
theorem dX9_join_25 : Dc mX9_join 25 (.bipush (-2)) 2 27 := ⟨by decide +kernel, rfl⟩
theorem dX9_join_27 : Dc mX9_join 27 (.ireturn) 1 28 := ⟨by decide +kernel, rfl⟩
theorem dX9_isArgument_0 : Dc mX9_isArgument 0 (.iload_n 1) 1 1 := ⟨by decide +kernel, rfl⟩
theorem dX9_isArgument_1 : Dc mX9_isArgument 1 (.iconst 1) 1 2 := ⟨by decide +kernel, rfl⟩
theorem dX9_isArgument_2 : Dj mX9_isArgument 2 (.if_icmp .eq 29) 3 5 (29) 31 := ⟨by decide +kernel, rfl, by decide⟩
theorem dX9_isArgument_5 : Dc mX9_isArgument 5 (.iload_n 1) 1 6 := ⟨by decide +kernel, rfl⟩
theorem dX9_isArgument_6 : Dc mX9_isArgument 6 (.iconst 2) 1 7 := ⟨by decide +kernel, rfl⟩
theorem dX9_isArgument_7 : Dj mX9_isArgument 7 (.if_icmp .eq 24) 3 10 (24) 31 := ⟨by decide +kernel, rfl, by decide⟩
theorem dX9_isArgument_10 : Dc mX9_isArgument 10 (.iload_n 1) 1 11 := ⟨by decide +kernel, rfl⟩
theorem dX9_isArgument_11 : Dc mX9_isArgument 11 (.iconst 5) 1 12 := ⟨by decide +kernel, rfl⟩
theorem dX9_isArgument_12 : Dj mX9_isArgument 12 (.if_icmp .eq 19) 3 15 (19) 31 := ⟨by decide +kernel, rfl, by decide⟩
theorem dX9_isArgument_15 : Dc mX9_isArgument 15 (.aload_n 0) 1 16 := ⟨by decide +kernel, rfl⟩
theorem dX9_isArgument_16 : Dc mX9_isArgument 16 (.iload_n 1) 1 17 := ⟨by decide +kernel, rfl⟩
theorem dX9_isArgument_17 : Dc mX9_isArgument 17 (.invokevirtual 117) 3 20 := ⟨by decide +kernel, rfl⟩
theorem dX9_isArgument_20 : Dj mX9_isArgument 20 (.ifCond .ne 11) 3 23 (11) 31 := ⟨by decide +kernel, rfl, by decide⟩
theorem dX9_isArgument_23 : Dc mX9_isArgument 23 (.aload_n 0) 1 24 := ⟨by decide +kernel, rfl⟩
theorem dX9_isArgument_24 : Dc mX9_isArgument 24 (.iload_n 1) 1 25 := ⟨by decide +kernel, rfl⟩
theorem dX9_isArgument_25 : Dc mX9_isArgument 25 (.invokevirtual 120) 3 28 := ⟨by decide +kernel, rfl⟩
theorem dX9_isArgument_28 : Dj mX9_isArgument 28 (.ifCond .eq 7) 3 31 (7) 35 := ⟨by decide +kernel, rfl, by decide⟩
theorem dX9_isArgument_31 : Dc mX9_isArgument 31 (.iconst 1) 1 32 := ⟨by decide +kernel, rfl⟩
theorem dX9_isArgument_32 : Dj mX9_isArgument 32 (.goto 4) 3 35 (4) 36 := ⟨by decide +kernel, rfl, by decide⟩
theorem dX9_isArgument_35 : Dc mX9_isArgument 35 (.iconst 0) 1 36 := ⟨by decide +kernel, rfl⟩
theorem dX9_isArgument_36 : Dc mX9_isArgument 36 (.ireturn) 1 37 := ⟨by decide +kernel, rfl⟩
theorem dX9_isMethod_0 : Dc mX9_isMethod 0 (.iload_n 1) 1 1 := ⟨by decide +kernel, rfl⟩
theorem dX9_isMethod_1 : Dc mX9_isMethod 1 (.iconst 0) 1 2 := ⟨by decide +kernel, rfl⟩
theorem dX9_isMethod_2 : Dc mX9_isMethod 2 (.aload_n 0) 1 3 := ⟨by decide +kernel, rfl⟩
theorem dX9_isMethod_3 : Dc mX9_isMethod 3 (.getfield 133) 3 6 := ⟨by decide +kernel, rfl⟩
theorem dX9_isMethod_6 : Dc mX9_isMethod 6 (.iconst 1) 1 7 := ⟨by decide +kernel, rfl⟩
theorem dX9_isMethod_7 : Dc mX9_isMethod 7 (.isub) 1 8 := ⟨by decide +kernel, rfl⟩
theorem dX9_isMethod_8 : Dc mX9_isMethod 8 (.invokestatic 99) 3 11 := ⟨by decide +kernel, rfl⟩
theorem dX9_isMethod_11 : Dc mX9_isMethod 11 (.ireturn) 1 12 := ⟨by decide +kernel, rfl⟩
theorem dX9_method_0 : Dc mX9_method 0 (.iload_n 1) 1 1 := ⟨by decide +kernel, rfl⟩
theorem dX9_method_1 : Dj mX9_method 1 (.ifCond .eq 14) 3 4 (14) 15 := ⟨by decide +kernel, rfl, by decide⟩
theorem dX9_method_4 : Dc mX9_method 4 (.aload_n 0) 1 5 := ⟨by decide +kernel, rfl⟩
theorem dX9_method_5 : Dc mX9_method 5 (.iload_n 1) 1 6 := ⟨by decide +kernel, rfl⟩
theorem dX9_method_6 : Dc mX9_method 6 (.invokevirtual 136) 3 9 := ⟨by decide +kernel, rfl⟩
theorem dX9_method_9 : Dj mX9_method 9 (.ifCond .ne 6) 3 12 (6) 15 := ⟨by decide +kernel, rfl, by decide⟩
theorem dX9_method_12 : Dc mX9_method 12 (.bipush (-2)) 2 14 := ⟨by decide +kernel, rfl⟩
theorem dX9_method_14 : Dc mX9_method 14 (.ireturn) 1 15 := ⟨by decide +kernel, rfl⟩
theorem dX9_method_15 : Dc mX9_method 15 (.aload_n 0) 1 16 := ⟨by decide +kernel, rfl⟩
theorem dX9_method_16 : Dc mX9_method 16 (.getfield 133) 3 19 := ⟨by decide +kernel, rfl⟩
theorem dX9_method_19 : Dc mX9_method 19 (.bipush 6) 2 21 := ⟨by decide +kernel, rfl⟩
theorem dX9_method_21 : Dj mX9_method 21 (.if_icmp .ne 6) 3 24 (6) 27 := ⟨by decide +kernel, rfl, by decide⟩
theorem dX9_method_24 : Dc mX9_method 24 (.bipush (-4)) 2 26 := ⟨by decide +kernel, rfl⟩
theorem dX9_method_26 : Dc mX9_method 26 (.ireturn) 1 27 := ⟨by decide +kernel, rfl⟩
theorem dX9_method_27 : Dc mX9_method 27 (.aload_n 0) 1 28 := ⟨by decide +kernel, rfl⟩
theorem dX9_method_28 : Dc mX9_method 28 (.getfield 21) 3 31 := ⟨by decide +kernel, rfl⟩
theorem dX9_method_31 : Dc mX9_method 31 (.aload_n 0) 1 32 := ⟨by decide +kernel, rfl⟩
theorem dX9_method_32 : Dc mX9_method 32 (.getfield 133) 3 35 := ⟨by decide +kernel, rfl⟩
theorem dX9_method_35 : Dc mX9_method 35 (.iload_n 1) 1 36 := ⟨by decide +kernel, rfl⟩
theorem dX9_method_36 : Dc mX9_method 36 (.iastore) 1 37 := ⟨by decide +kernel, rfl⟩
theorem dX9_method_37 : Dc mX9_method 37 (.aload_n 0) 1 38 := ⟨by decide +kernel, rfl⟩
theorem dX9_method_38 : Dc mX9_method 38 (.dup) 1 39 := ⟨by decide +kernel, rfl⟩
theorem dX9_method_39 : Dc mX9_method 39 (.getfield 133) 3 42 := ⟨by decide +kernel, rfl⟩
theorem dX9_method_42 : Dc mX9_method 42 (.iconst 1) 1 43 := ⟨by decide +kernel, rfl⟩
theorem dX9_method_43 : Dc mX9_method 43 (.iadd) 1 44 := ⟨by decide +kernel, rfl⟩
theorem dX9_method_44 : Dc mX9_method 44 (.putfield 133) 3 47 := ⟨by decide +kernel, rfl⟩
theorem dX9_method_47 : Dc mX9_method 47 (.aload_n 0) 1 48 := ⟨by decide +kernel, rfl⟩
theorem dX9_method_48 : Dc mX9_method 48 (.getfield 133) 3 51 := ⟨by decide +kernel, rfl⟩
theorem dX9_method_51 : Dc mX9_method 51 (.iconst 1) 1 52 := ⟨by decide +kernel, rfl⟩
theorem dX9_method_52 : Dc mX9_method 52 (.isub) 1 53 := ⟨by decide +kernel, rfl⟩
theorem dX9_method_53 : Dc mX9_method 53 (.ireturn) 1 54 := ⟨by decide +kernel, rfl⟩
theorem dX9_argument_0 : Dc mX9_argument 0 (.aload_n 0) 1 1 := ⟨by decide +kernel, rfl⟩
theorem dX9_argument_1 : Dc mX9_argument 1 (.iload_n 1) 1 2 := ⟨by decide +kernel, rfl⟩
theorem dX9_argument_2 : Dc mX9_argument 2 (.invokevirtual 139) 3 5 := ⟨by decide +kernel, rfl⟩
theorem dX9_argument_5 : Dj mX9_argument 5 (.ifCond .eq 11) 3 8 (11) 16 := ⟨by decide +kernel, rfl, by decide⟩
theorem dX9_argument_8 : Dc mX9_argument 8 (.aload_n 0) 1 9 := ⟨by decide +kernel, rfl⟩
theorem dX9_argument_9 : Dc mX9_argument 9 (.iload_n 2) 1 10 := ⟨by decide +kernel, rfl⟩
theorem dX9_argument_10 : Dc mX9_argument 10 (.invokevirtual 136) 3 13 := ⟨by decide +kernel, rfl⟩
theorem dX9_argument_13 : Dj mX9_argument 13 (.ifCond .ne 6) 3 16 (6) 19 := ⟨by decide +kernel, rfl, by decide⟩
theorem dX9_argument_16 : Dc mX9_argument 16 (.bipush (-2)) 2 18 := ⟨by decide +kernel, rfl⟩
theorem dX9_argument_18 : Dc mX9_argument 18 (.ireturn) 1 19 := ⟨by decide +kernel, rfl⟩
theorem dX9_argument_19 : Dc mX9_argument 19 (.iload_n 2) 1 20 := ⟨by decide +kernel, rfl⟩
theorem dX9_argument_20 : Dc mX9_argument 20 (.iconst 2) 1 21 := ⟨by decide +kernel, rfl⟩
theorem dX9_argument_21 : Dj mX9_argument 21 (.if_icmp .ne 7) 3 24 (7) 28 := ⟨by decide +kernel, rfl, by decide⟩
theorem dX9_argument_24 : Dc mX9_argument 24 (.iconst 2) 1 25 := ⟨by decide +kernel, rfl⟩
theorem dX9_argument_25 : Dj mX9_argument 25 (.goto 4) 3 28 (4) 29 := ⟨by decide +kernel, rfl, by decide⟩
theorem dX9_argument_28 : Dc mX9_argument 28 (.iconst 1) 1 29 := ⟨by decide +kernel, rfl⟩
theorem dX9_argument_29 : Dc mX9_argument 29 (.istore_n 3) 1 30 := ⟨by decide +kernel, rfl⟩
theorem dX9_argument_30 : Dc mX9_argument 30 (.aload_n 0) 1 31 := ⟨by decide +kernel, rfl⟩
theorem dX9_argument_31 : Dc mX9_argument 31 (.getfield 24) 3 34 := ⟨by decide +kernel, rfl⟩
theorem dX9_argument_34 : Dc mX9_argument 34 (.iload_n 1) 1 35 := ⟨by decide +kernel, rfl⟩
theorem dX9_argument_35 : Dc mX9_argument 35 (.iaload) 1 36 := ⟨by decide +kernel, rfl⟩
theorem dX9_argument_36 : Dc mX9_argument 36 (.iload_n 3) 1 37 := ⟨by decide +kernel, rfl⟩
theorem dX9_argument_37 : Dc mX9_argument 37 (.iadd) 1 38 := ⟨by decide +kernel, rfl⟩
theorem dX9_argument_38 : Dc mX9_argument 38 (.bipush 8) 2 40 := ⟨by decide +kernel, rfl⟩
theorem dX9_argument_40 : Dj mX9_argument 40 (.if_icmp .le 6) 3 43 (6) 46 := ⟨by decide +kernel, rfl, by decide⟩
theorem dX9_argument_43 : Dc mX9_argument 43 (.bipush (-4)) 2 45 := ⟨by decide +kernel, rfl⟩
theorem dX9_argument_45 : Dc mX9_argument 45 (.ireturn) 1 46 := ⟨by decide +kernel, rfl⟩
theorem dX9_argument_46 : Dc mX9_argument 46 (.aload_n 0) 1 47 := ⟨by decide +kernel, rfl⟩
theorem dX9_argument_47 : Dc mX9_argument 47 (.getfield 27) 3 50 := ⟨by decide +kernel, rfl⟩
theorem dX9_argument_50 : Dc mX9_argument 50 (.bipush 8) 2 52 := ⟨by decide +kernel, rfl⟩
theorem dX9_argument_52 : Dc mX9_argument 52 (.iload_n 1) 1 53 := ⟨by decide +kernel, rfl⟩
theorem dX9_argument_53 : Dc mX9_argument 53 (.imul) 1 54 := ⟨by decide +kernel, rfl⟩
theorem dX9_argument_54 : Dc mX9_argument 54 (.aload_n 0) 1 55 := ⟨by decide +kernel, rfl⟩
theorem dX9_argument_55 : Dc mX9_argument 55 (.getfield 24) 3 58 := ⟨by decide +kernel, rfl⟩
theorem dX9_argument_58 : Dc mX9_argument 58 (.iload_n 1) 1 59 := ⟨by decide +kernel, rfl⟩
theorem dX9_argument_59 : Dc mX9_argument 59 (.iaload) 1 60 := ⟨by decide +kernel, rfl⟩
theorem dX9_argument_60 : Dc mX9_argument 60 (.iadd) 1 61 := ⟨by decide +kernel, rfl⟩
theorem dX9_argument_61 : Dc mX9_argument 61 (.iload_n 2) 1 62 := ⟨by decide +kernel, rfl⟩
theorem dX9_argument_62 : Dc mX9_argument 62 (.iastore) 1 63 := ⟨by decide +kernel, rfl⟩
theorem dX9_argument_63 : Dc mX9_argument 63 (.iload_n 2) 1 64 := ⟨by decide +kernel, rfl⟩
theorem dX9_argument_64 : Dc mX9_argument 64 (.iconst 2) 1 65 := ⟨by decide +kernel, rfl⟩
theorem dX9_argument_65 : Dj mX9_argument 65 (.if_icmp .ne 22) 3 68 (22) 87 := ⟨by decide +kernel, rfl, by decide⟩
theorem dX9_argument_68 : Dc mX9_argument 68 (.aload_n 0) 1 69 := ⟨by decide +kernel, rfl⟩
theorem dX9_argument_69 : Dc mX9_argument 69 (.getfield 27) 3 72 := ⟨by decide +kernel, rfl⟩
theorem dX9_argument_72 : Dc mX9_argument 72 (.bipush 8) 2 74 := ⟨by decide +kernel, rfl⟩
theorem dX9_argument_74 : Dc mX9_argument 74 (.iload_n 1) 1 75 := ⟨by decide +kernel, rfl⟩
theorem dX9_argument_75 : Dc mX9_argument 75 (.imul) 1 76 := ⟨by decide +kernel, rfl⟩
theorem dX9_argument_76 : Dc mX9_argument 76 (.aload_n 0) 1 77 := ⟨by decide +kernel, rfl⟩
theorem dX9_argument_77 : Dc mX9_argument 77 (.getfield 24) 3 80 := ⟨by decide +kernel, rfl⟩
theorem dX9_argument_80 : Dc mX9_argument 80 (.iload_n 1) 1 81 := ⟨by decide +kernel, rfl⟩
theorem dX9_argument_81 : Dc mX9_argument 81 (.iaload) 1 82 := ⟨by decide +kernel, rfl⟩
theorem dX9_argument_82 : Dc mX9_argument 82 (.iadd) 1 83 := ⟨by decide +kernel, rfl⟩
theorem dX9_argument_83 : Dc mX9_argument 83 (.iconst 1) 1 84 := ⟨by decide +kernel, rfl⟩
theorem dX9_argument_84 : Dc mX9_argument 84 (.iadd) 1 85 := ⟨by decide +kernel, rfl⟩
theorem dX9_argument_85 : Dc mX9_argument 85 (.iconst 3) 1 86 := ⟨by decide +kernel, rfl⟩
theorem dX9_argument_86 : Dc mX9_argument 86 (.iastore) 1 87 := ⟨by decide +kernel, rfl⟩
theorem dX9_argument_87 : Dc mX9_argument 87 (.aload_n 0) 1 88 := ⟨by decide +kernel, rfl⟩
theorem dX9_argument_88 : Dc mX9_argument 88 (.getfield 24) 3 91 := ⟨by decide +kernel, rfl⟩
theorem dX9_argument_91 : Dc mX9_argument 91 (.iload_n 1) 1 92 := ⟨by decide +kernel, rfl⟩
theorem dX9_argument_92 : Dc mX9_argument 92 (.dup2) 1 93 := ⟨by decide +kernel, rfl⟩
theorem dX9_argument_93 : Dc mX9_argument 93 (.iaload) 1 94 := ⟨by decide +kernel, rfl⟩
theorem dX9_argument_94 : Dc mX9_argument 94 (.iload_n 3) 1 95 := ⟨by decide +kernel, rfl⟩
theorem dX9_argument_95 : Dc mX9_argument 95 (.iadd) 1 96 := ⟨by decide +kernel, rfl⟩
theorem dX9_argument_96 : Dc mX9_argument 96 (.iastore) 1 97 := ⟨by decide +kernel, rfl⟩
theorem dX9_argument_97 : Dc mX9_argument 97 (.aload_n 0) 1 98 := ⟨by decide +kernel, rfl⟩
theorem dX9_argument_98 : Dc mX9_argument 98 (.getfield 57) 3 101 := ⟨by decide +kernel, rfl⟩
theorem dX9_argument_101 : Dc mX9_argument 101 (.iload_n 1) 1 102 := ⟨by decide +kernel, rfl⟩
theorem dX9_argument_102 : Dc mX9_argument 102 (.iconst 0) 1 103 := ⟨by decide +kernel, rfl⟩
theorem dX9_argument_103 : Dc mX9_argument 103 (.bastore) 1 104 := ⟨by decide +kernel, rfl⟩
theorem dX9_argument_104 : Dc mX9_argument 104 (.aload_n 0) 1 105 := ⟨by decide +kernel, rfl⟩
theorem dX9_argument_105 : Dc mX9_argument 105 (.getfield 24) 3 108 := ⟨by decide +kernel, rfl⟩
theorem dX9_argument_108 : Dc mX9_argument 108 (.iload_n 1) 1 109 := ⟨by decide +kernel, rfl⟩
theorem dX9_argument_109 : Dc mX9_argument 109 (.iaload) 1 110 := ⟨by decide +kernel, rfl⟩
theorem dX9_argument_110 : Dc mX9_argument 110 (.ireturn) 1 111 := ⟨by decide +kernel, rfl⟩
theorem dX9_isOp_0 : Dc mX9_isOp 0 (.iload_n 1) 1 1 := ⟨by decide +kernel, rfl⟩
theorem dX9_isOp_1 : decode mX9_isOp.2.1 1 = .ok (.tableswitch 164 2 19 #[87, 87, 95, 95, 87, 87, 164, 164, 164, 103, 103, 113, 164, 113, 119, 164, 113, 145], 87) := by decide +kernel
theorem dX9_isOp_88 : Dc mX9_isOp 88 (.iload_n 2) 1 89 := ⟨by decide +kernel, rfl⟩
theorem dX9_isOp_89 : Dc mX9_isOp 89 (.iconst 0) 1 90 := ⟨by decide +kernel, rfl⟩
theorem dX9_isOp_90 : Dc mX9_isOp 90 (.bipush 7) 2 92 := ⟨by decide +kernel, rfl⟩
theorem dX9_isOp_92 : Dc mX9_isOp 92 (.invokestatic 99) 3 95 := ⟨by decide +kernel, rfl⟩
theorem dX9_isOp_95 : Dc mX9_isOp 95 (.ireturn) 1 96 := ⟨by decide +kernel, rfl⟩
theorem dX9_isOp_96 : Dc mX9_isOp 96 (.iload_n 2) 1 97 := ⟨by decide +kernel, rfl⟩
theorem dX9_isOp_97 : Dc mX9_isOp 97 (.iconst 0) 1 98 := ⟨by decide +kernel, rfl⟩
theorem dX9_isOp_98 : Dc mX9_isOp 98 (.bipush 6) 2 100 := ⟨by decide +kernel, rfl⟩
theorem dX9_isOp_100 : Dc mX9_isOp 100 (.invokestatic 99) 3 103 := ⟨by decide +kernel, rfl⟩
theorem dX9_isOp_103 : Dc mX9_isOp 103 (.ireturn) 1 104 := ⟨by decide +kernel, rfl⟩
theorem dX9_isOp_104 : Dc mX9_isOp 104 (.iload_n 2) 1 105 := ⟨by decide +kernel, rfl⟩
theorem dX9_isOp_105 : Dj mX9_isOp 105 (.ifCond .lt 7) 3 108 (7) 112 := ⟨by decide +kernel, rfl, by decide⟩
theorem dX9_isOp_108 : Dc mX9_isOp 108 (.iconst 1) 1 109 := ⟨by decide +kernel, rfl⟩
theorem dX9_isOp_109 : Dj mX9_isOp 109 (.goto 4) 3 112 (4) 113 := ⟨by decide +kernel, rfl, by decide⟩
theorem dX9_isOp_112 : Dc mX9_isOp 112 (.iconst 0) 1 113 := ⟨by decide +kernel, rfl⟩
theorem dX9_isOp_113 : Dc mX9_isOp 113 (.ireturn) 1 114 := ⟨by decide +kernel, rfl⟩
theorem dX9_isOp_114 : Dc mX9_isOp 114 (.aload_n 0) 1 115 := ⟨by decide +kernel, rfl⟩
theorem dX9_isOp_115 : Dc mX9_isOp 115 (.iload_n 2) 1 116 := ⟨by decide +kernel, rfl⟩
theorem dX9_isOp_116 : Dc mX9_isOp 116 (.invokevirtual 103) 3 119 := ⟨by decide +kernel, rfl⟩
theorem dX9_isOp_119 : Dc mX9_isOp 119 (.ireturn) 1 120 := ⟨by decide +kernel, rfl⟩
theorem dX9_isOp_120 : Dc mX9_isOp 120 (.aload_n 0) 1 121 := ⟨by decide +kernel, rfl⟩
theorem dX9_isOp_121 : Dc mX9_isOp 121 (.iload_n 2) 1 122 := ⟨by decide +kernel, rfl⟩
theorem dX9_isOp_122 : Dc mX9_isOp 122 (.invokevirtual 103) 3 125 := ⟨by decide +kernel, rfl⟩
theorem dX9_isOp_125 : Dj mX9_isOp 125 (.ifCond .eq 19) 3 128 (19) 144 := ⟨by decide +kernel, rfl, by decide⟩
theorem dX9_isOp_128 : Dc mX9_isOp 128 (.iload_n 3) 1 129 := ⟨by decide +kernel, rfl⟩
theorem dX9_isOp_129 : Dj mX9_isOp 129 (.ifCond .eq 11) 3 132 (11) 140 := ⟨by decide +kernel, rfl, by decide⟩
theorem dX9_isOp_132 : Dc mX9_isOp 132 (.aload_n 0) 1 133 := ⟨by decide +kernel, rfl⟩
theorem dX9_isOp_133 : Dc mX9_isOp 133 (.iload_n 3) 1 134 := ⟨by decide +kernel, rfl⟩
theorem dX9_isOp_134 : Dc mX9_isOp 134 (.invokevirtual 136) 3 137 := ⟨by decide +kernel, rfl⟩
theorem dX9_isOp_137 : Dj mX9_isOp 137 (.ifCond .eq 7) 3 140 (7) 144 := ⟨by decide +kernel, rfl, by decide⟩
theorem dX9_isOp_140 : Dc mX9_isOp 140 (.iconst 1) 1 141 := ⟨by decide +kernel, rfl⟩
theorem dX9_isOp_141 : Dj mX9_isOp 141 (.goto 4) 3 144 (4) 145 := ⟨by decide +kernel, rfl, by decide⟩
theorem dX9_isOp_144 : Dc mX9_isOp 144 (.iconst 0) 1 145 := ⟨by decide +kernel, rfl⟩
theorem dX9_isOp_145 : Dc mX9_isOp 145 (.ireturn) 1 146 := ⟨by decide +kernel, rfl⟩
theorem dX9_isOp_146 : Dc mX9_isOp 146 (.iload_n 2) 1 147 := ⟨by decide +kernel, rfl⟩
theorem dX9_isOp_147 : Dc mX9_isOp 147 (.iconst (-1)) 1 148 := ⟨by decide +kernel, rfl⟩
theorem dX9_isOp_148 : Dj mX9_isOp 148 (.if_icmp .eq 11) 3 151 (11) 159 := ⟨by decide +kernel, rfl, by decide⟩
theorem dX9_isOp_151 : Dc mX9_isOp 151 (.aload_n 0) 1 152 := ⟨by decide +kernel, rfl⟩
theorem dX9_isOp_152 : Dc mX9_isOp 152 (.iload_n 2) 1 153 := ⟨by decide +kernel, rfl⟩
theorem dX9_isOp_153 : Dc mX9_isOp 153 (.invokevirtual 103) 3 156 := ⟨by decide +kernel, rfl⟩
theorem dX9_isOp_156 : Dj mX9_isOp 156 (.ifCond .eq 7) 3 159 (7) 163 := ⟨by decide +kernel, rfl, by decide⟩
theorem dX9_isOp_159 : Dc mX9_isOp 159 (.iconst 1) 1 160 := ⟨by decide +kernel, rfl⟩
theorem dX9_isOp_160 : Dj mX9_isOp 160 (.goto 4) 3 163 (4) 164 := ⟨by decide +kernel, rfl, by decide⟩
theorem dX9_isOp_163 : Dc mX9_isOp 163 (.iconst 0) 1 164 := ⟨by decide +kernel, rfl⟩
theorem dX9_isOp_164 : Dc mX9_isOp 164 (.ireturn) 1 165 := ⟨by decide +kernel, rfl⟩
theorem dX9_isOp_165 : Dc mX9_isOp 165 (.iload_n 1) 1 166 := ⟨by decide +kernel, rfl⟩
theorem dX9_isOp_166 : Dc mX9_isOp 166 (.iconst 0) 1 167 := ⟨by decide +kernel, rfl⟩
theorem dX9_isOp_167 : Dc mX9_isOp 167 (.bipush 25) 2 169 := ⟨by decide +kernel, rfl⟩
theorem dX9_isOp_169 : Dc mX9_isOp 169 (.invokestatic 99) 3 172 := ⟨by decide +kernel, rfl⟩
theorem dX9_isOp_172 : Dc mX9_isOp 172 (.ireturn) 1 173 := ⟨by decide +kernel, rfl⟩
theorem dX9_op_0 : Dc mX9_op 0 (.aload_n 0) 1 1 := ⟨by decide +kernel, rfl⟩
theorem dX9_op_1 : Dc mX9_op 1 (.iload_n 1) 1 2 := ⟨by decide +kernel, rfl⟩
theorem dX9_op_2 : Dc mX9_op 2 (.invokevirtual 139) 3 5 := ⟨by decide +kernel, rfl⟩
theorem dX9_op_5 : Dj mX9_op 5 (.ifCond .eq 14) 3 8 (14) 19 := ⟨by decide +kernel, rfl, by decide⟩
theorem dX9_op_8 : Dc mX9_op 8 (.aload_n 0) 1 9 := ⟨by decide +kernel, rfl⟩
theorem dX9_op_9 : Dc mX9_op 9 (.iload_n 2) 1 10 := ⟨by decide +kernel, rfl⟩
theorem dX9_op_10 : Dc mX9_op 10 (.iload_n 3) 1 11 := ⟨by decide +kernel, rfl⟩
theorem dX9_op_11 : Dc mX9_op 11 (.iload 4) 2 13 := ⟨by decide +kernel, rfl⟩
theorem dX9_op_13 : Dc mX9_op 13 (.invokevirtual 142) 3 16 := ⟨by decide +kernel, rfl⟩
theorem dX9_op_16 : Dj mX9_op 16 (.ifCond .ne 6) 3 19 (6) 22 := ⟨by decide +kernel, rfl, by decide⟩
theorem dX9_op_19 : Dc mX9_op 19 (.bipush (-2)) 2 21 := ⟨by decide +kernel, rfl⟩
theorem dX9_op_21 : Dc mX9_op 21 (.ireturn) 1 22 := ⟨by decide +kernel, rfl⟩
theorem dX9_op_22 : Dc mX9_op 22 (.aload_n 0) 1 23 := ⟨by decide +kernel, rfl⟩
theorem dX9_op_23 : Dc mX9_op 23 (.getfield 30) 3 26 := ⟨by decide +kernel, rfl⟩
theorem dX9_op_26 : Dc mX9_op 26 (.iload_n 1) 1 27 := ⟨by decide +kernel, rfl⟩
theorem dX9_op_27 : Dc mX9_op 27 (.iaload) 1 28 := ⟨by decide +kernel, rfl⟩
theorem dX9_op_28 : Dc mX9_op 28 (.bipush 40) 2 30 := ⟨by decide +kernel, rfl⟩
theorem dX9_op_30 : Dj mX9_op 30 (.if_icmp .ne 6) 3 33 (6) 36 := ⟨by decide +kernel, rfl, by decide⟩
theorem dX9_op_33 : Dc mX9_op 33 (.bipush (-4)) 2 35 := ⟨by decide +kernel, rfl⟩
theorem dX9_op_35 : Dc mX9_op 35 (.ireturn) 1 36 := ⟨by decide +kernel, rfl⟩
theorem dX9_op_36 : Dc mX9_op 36 (.bipush 40) 2 38 := ⟨by decide +kernel, rfl⟩
theorem dX9_op_38 : Dc mX9_op 38 (.iload_n 1) 1 39 := ⟨by decide +kernel, rfl⟩
theorem dX9_op_39 : Dc mX9_op 39 (.imul) 1 40 := ⟨by decide +kernel, rfl⟩
theorem dX9_op_40 : Dc mX9_op 40 (.aload_n 0) 1 41 := ⟨by decide +kernel, rfl⟩
theorem dX9_op_41 : Dc mX9_op 41 (.getfield 30) 3 44 := ⟨by decide +kernel, rfl⟩
theorem dX9_op_44 : Dc mX9_op 44 (.iload_n 1) 1 45 := ⟨by decide +kernel, rfl⟩
theorem dX9_op_45 : Dc mX9_op 45 (.iaload) 1 46 := ⟨by decide +kernel, rfl⟩
theorem dX9_op_46 : Dc mX9_op 46 (.iadd) 1 47 := ⟨by decide +kernel, rfl⟩
theorem dX9_op_47 : Dc mX9_op 47 (.istore 5) 2 49 := ⟨by decide +kernel, rfl⟩
theorem dX9_op_49 : Dc mX9_op 49 (.aload_n 0) 1 50 := ⟨by decide +kernel, rfl⟩
theorem dX9_op_50 : Dc mX9_op 50 (.getfield 33) 3 53 := ⟨by decide +kernel, rfl⟩
theorem dX9_op_53 : Dc mX9_op 53 (.iload 5) 2 55 := ⟨by decide +kernel, rfl⟩
theorem dX9_op_55 : Dc mX9_op 55 (.iload_n 2) 1 56 := ⟨by decide +kernel, rfl⟩
theorem dX9_op_56 : Dc mX9_op 56 (.iastore) 1 57 := ⟨by decide +kernel, rfl⟩
end
section
theorem dX9_op_57 : Dc mX9_op 57 (.aload_n 0) 1 58 := ⟨by decide +kernel, rfl⟩
theorem dX9_op_58 : Dc mX9_op 58 (.getfield 36) 3 61 := ⟨by decide +kernel, rfl⟩
theorem dX9_op_61 : Dc mX9_op 61 (.iload 5) 2 63 := ⟨by decide +kernel, rfl⟩
theorem dX9_op_63 : Dc mX9_op 63 (.iload_n 3) 1 64 := ⟨by decide +kernel, rfl⟩
theorem dX9_op_64 : Dc mX9_op 64 (.iastore) 1 65 := ⟨by decide +kernel, rfl⟩
theorem dX9_op_65 : Dc mX9_op 65 (.aload_n 0) 1 66 := ⟨by decide +kernel, rfl⟩
theorem dX9_op_66 : Dc mX9_op 66 (.getfield 39) 3 69 := ⟨by decide +kernel, rfl⟩
theorem dX9_op_69 : Dc mX9_op 69 (.iload 5) 2 71 := ⟨by decide +kernel, rfl⟩
theorem dX9_op_71 : Dc mX9_op 71 (.iload 4) 2 73 := ⟨by decide +kernel, rfl⟩
theorem dX9_op_73 : Dc mX9_op 73 (.iastore) 1 74 := ⟨by decide +kernel, rfl⟩
theorem dX9_op_74 : Dc mX9_op 74 (.aload_n 0) 1 75 := ⟨by decide +kernel, rfl⟩
theorem dX9_op_75 : Dc mX9_op 75 (.getfield 30) 3 78 := ⟨by decide +kernel, rfl⟩
theorem dX9_op_78 : Dc mX9_op 78 (.iload_n 1) 1 79 := ⟨by decide +kernel, rfl⟩
theorem dX9_op_79 : Dc mX9_op 79 (.dup2) 1 80 := ⟨by decide +kernel, rfl⟩
theorem dX9_op_80 : Dc mX9_op 80 (.iaload) 1 81 := ⟨by decide +kernel, rfl⟩
theorem dX9_op_81 : Dc mX9_op 81 (.iconst 1) 1 82 := ⟨by decide +kernel, rfl⟩
theorem dX9_op_82 : Dc mX9_op 82 (.iadd) 1 83 := ⟨by decide +kernel, rfl⟩
theorem dX9_op_83 : Dc mX9_op 83 (.iastore) 1 84 := ⟨by decide +kernel, rfl⟩
theorem dX9_op_84 : Dc mX9_op 84 (.aload_n 0) 1 85 := ⟨by decide +kernel, rfl⟩
theorem dX9_op_85 : Dc mX9_op 85 (.getfield 57) 3 88 := ⟨by decide +kernel, rfl⟩
theorem dX9_op_88 : Dc mX9_op 88 (.iload_n 1) 1 89 := ⟨by decide +kernel, rfl⟩
theorem dX9_op_89 : Dc mX9_op 89 (.iconst 0) 1 90 := ⟨by decide +kernel, rfl⟩
theorem dX9_op_90 : Dc mX9_op 90 (.bastore) 1 91 := ⟨by decide +kernel, rfl⟩
theorem dX9_op_91 : Dc mX9_op 91 (.aload_n 0) 1 92 := ⟨by decide +kernel, rfl⟩
theorem dX9_op_92 : Dc mX9_op 92 (.getfield 30) 3 95 := ⟨by decide +kernel, rfl⟩
theorem dX9_op_95 : Dc mX9_op 95 (.iload_n 1) 1 96 := ⟨by decide +kernel, rfl⟩
theorem dX9_op_96 : Dc mX9_op 96 (.iaload) 1 97 := ⟨by decide +kernel, rfl⟩
theorem dX9_op_97 : Dc mX9_op 97 (.iconst 1) 1 98 := ⟨by decide +kernel, rfl⟩
theorem dX9_op_98 : Dc mX9_op 98 (.isub) 1 99 := ⟨by decide +kernel, rfl⟩
theorem dX9_op_99 : Dc mX9_op 99 (.ireturn) 1 100 := ⟨by decide +kernel, rfl⟩
theorem dX9_guard_0 : Dc mX9_guard 0 (.aload_n 0) 1 1 := ⟨by decide +kernel, rfl⟩
theorem dX9_guard_1 : Dc mX9_guard 1 (.iload_n 1) 1 2 := ⟨by decide +kernel, rfl⟩
theorem dX9_guard_2 : Dc mX9_guard 2 (.invokevirtual 139) 3 5 := ⟨by decide +kernel, rfl⟩
theorem dX9_guard_5 : Dj mX9_guard 5 (.ifCond .eq 38) 3 8 (38) 43 := ⟨by decide +kernel, rfl, by decide⟩
theorem dX9_guard_8 : Dc mX9_guard 8 (.iload_n 2) 1 9 := ⟨by decide +kernel, rfl⟩
theorem dX9_guard_9 : Dj mX9_guard 9 (.ifCond .lt 34) 3 12 (34) 43 := ⟨by decide +kernel, rfl, by decide⟩
theorem dX9_guard_12 : Dc mX9_guard 12 (.iload_n 2) 1 13 := ⟨by decide +kernel, rfl⟩
theorem dX9_guard_13 : Dc mX9_guard 13 (.iload_n 3) 1 14 := ⟨by decide +kernel, rfl⟩
theorem dX9_guard_14 : Dj mX9_guard 14 (.if_icmp .ge 29) 3 17 (29) 43 := ⟨by decide +kernel, rfl, by decide⟩
theorem dX9_guard_17 : Dc mX9_guard 17 (.iload_n 3) 1 18 := ⟨by decide +kernel, rfl⟩
theorem dX9_guard_18 : Dc mX9_guard 18 (.bipush 40) 2 20 := ⟨by decide +kernel, rfl⟩
theorem dX9_guard_20 : Dj mX9_guard 20 (.if_icmp .gt 23) 3 23 (23) 43 := ⟨by decide +kernel, rfl, by decide⟩
theorem dX9_guard_23 : Dc mX9_guard 23 (.iload 4) 2 25 := ⟨by decide +kernel, rfl⟩
theorem dX9_guard_25 : Dc mX9_guard 25 (.iconst 0) 1 26 := ⟨by decide +kernel, rfl⟩
theorem dX9_guard_26 : Dc mX9_guard 26 (.bipush 39) 2 28 := ⟨by decide +kernel, rfl⟩
theorem dX9_guard_28 : Dc mX9_guard 28 (.invokestatic 99) 3 31 := ⟨by decide +kernel, rfl⟩
theorem dX9_guard_31 : Dj mX9_guard 31 (.ifCond .eq 12) 3 34 (12) 43 := ⟨by decide +kernel, rfl, by decide⟩
theorem dX9_guard_34 : Dc mX9_guard 34 (.aload_n 0) 1 35 := ⟨by decide +kernel, rfl⟩
theorem dX9_guard_35 : Dc mX9_guard 35 (.iload 5) 2 37 := ⟨by decide +kernel, rfl⟩
theorem dX9_guard_37 : Dc mX9_guard 37 (.invokevirtual 103) 3 40 := ⟨by decide +kernel, rfl⟩
theorem dX9_guard_40 : Dj mX9_guard 40 (.ifCond .ne 6) 3 43 (6) 46 := ⟨by decide +kernel, rfl, by decide⟩
theorem dX9_guard_43 : Dc mX9_guard 43 (.bipush (-2)) 2 45 := ⟨by decide +kernel, rfl⟩
theorem dX9_guard_45 : Dc mX9_guard 45 (.ireturn) 1 46 := ⟨by decide +kernel, rfl⟩
theorem dX9_guard_46 : Dc mX9_guard 46 (.aload_n 0) 1 47 := ⟨by decide +kernel, rfl⟩
theorem dX9_guard_47 : Dc mX9_guard 47 (.getfield 42) 3 50 := ⟨by decide +kernel, rfl⟩
theorem dX9_guard_50 : Dc mX9_guard 50 (.iload_n 1) 1 51 := ⟨by decide +kernel, rfl⟩
theorem dX9_guard_51 : Dc mX9_guard 51 (.iaload) 1 52 := ⟨by decide +kernel, rfl⟩
theorem dX9_guard_52 : Dc mX9_guard 52 (.bipush 6) 2 54 := ⟨by decide +kernel, rfl⟩
theorem dX9_guard_54 : Dj mX9_guard 54 (.if_icmp .ne 6) 3 57 (6) 60 := ⟨by decide +kernel, rfl, by decide⟩
theorem dX9_guard_57 : Dc mX9_guard 57 (.bipush (-4)) 2 59 := ⟨by decide +kernel, rfl⟩
theorem dX9_guard_59 : Dc mX9_guard 59 (.ireturn) 1 60 := ⟨by decide +kernel, rfl⟩
theorem dX9_guard_60 : Dc mX9_guard 60 (.bipush 6) 2 62 := ⟨by decide +kernel, rfl⟩
theorem dX9_guard_62 : Dc mX9_guard 62 (.iload_n 1) 1 63 := ⟨by decide +kernel, rfl⟩
theorem dX9_guard_63 : Dc mX9_guard 63 (.imul) 1 64 := ⟨by decide +kernel, rfl⟩
theorem dX9_guard_64 : Dc mX9_guard 64 (.aload_n 0) 1 65 := ⟨by decide +kernel, rfl⟩
theorem dX9_guard_65 : Dc mX9_guard 65 (.getfield 42) 3 68 := ⟨by decide +kernel, rfl⟩
theorem dX9_guard_68 : Dc mX9_guard 68 (.iload_n 1) 1 69 := ⟨by decide +kernel, rfl⟩
theorem dX9_guard_69 : Dc mX9_guard 69 (.iaload) 1 70 := ⟨by decide +kernel, rfl⟩
theorem dX9_guard_70 : Dc mX9_guard 70 (.iadd) 1 71 := ⟨by decide +kernel, rfl⟩
theorem dX9_guard_71 : Dc mX9_guard 71 (.istore 6) 2 73 := ⟨by decide +kernel, rfl⟩
theorem dX9_guard_73 : Dc mX9_guard 73 (.aload_n 0) 1 74 := ⟨by decide +kernel, rfl⟩
theorem dX9_guard_74 : Dc mX9_guard 74 (.getfield 45) 3 77 := ⟨by decide +kernel, rfl⟩
theorem dX9_guard_77 : Dc mX9_guard 77 (.iload 6) 2 79 := ⟨by decide +kernel, rfl⟩
theorem dX9_guard_79 : Dc mX9_guard 79 (.iload_n 2) 1 80 := ⟨by decide +kernel, rfl⟩
theorem dX9_guard_80 : Dc mX9_guard 80 (.iastore) 1 81 := ⟨by decide +kernel, rfl⟩
theorem dX9_guard_81 : Dc mX9_guard 81 (.aload_n 0) 1 82 := ⟨by decide +kernel, rfl⟩
theorem dX9_guard_82 : Dc mX9_guard 82 (.getfield 48) 3 85 := ⟨by decide +kernel, rfl⟩
theorem dX9_guard_85 : Dc mX9_guard 85 (.iload 6) 2 87 := ⟨by decide +kernel, rfl⟩
theorem dX9_guard_87 : Dc mX9_guard 87 (.iload_n 3) 1 88 := ⟨by decide +kernel, rfl⟩
theorem dX9_guard_88 : Dc mX9_guard 88 (.iastore) 1 89 := ⟨by decide +kernel, rfl⟩
theorem dX9_guard_89 : Dc mX9_guard 89 (.aload_n 0) 1 90 := ⟨by decide +kernel, rfl⟩
theorem dX9_guard_90 : Dc mX9_guard 90 (.getfield 51) 3 93 := ⟨by decide +kernel, rfl⟩
theorem dX9_guard_93 : Dc mX9_guard 93 (.iload 6) 2 95 := ⟨by decide +kernel, rfl⟩
theorem dX9_guard_95 : Dc mX9_guard 95 (.iload 4) 2 97 := ⟨by decide +kernel, rfl⟩
theorem dX9_guard_97 : Dc mX9_guard 97 (.iastore) 1 98 := ⟨by decide +kernel, rfl⟩
theorem dX9_guard_98 : Dc mX9_guard 98 (.aload_n 0) 1 99 := ⟨by decide +kernel, rfl⟩
theorem dX9_guard_99 : Dc mX9_guard 99 (.getfield 54) 3 102 := ⟨by decide +kernel, rfl⟩
theorem dX9_guard_102 : Dc mX9_guard 102 (.iload 6) 2 104 := ⟨by decide +kernel, rfl⟩
theorem dX9_guard_104 : Dc mX9_guard 104 (.iload 5) 2 106 := ⟨by decide +kernel, rfl⟩
theorem dX9_guard_106 : Dc mX9_guard 106 (.iastore) 1 107 := ⟨by decide +kernel, rfl⟩
theorem dX9_guard_107 : Dc mX9_guard 107 (.aload_n 0) 1 108 := ⟨by decide +kernel, rfl⟩
theorem dX9_guard_108 : Dc mX9_guard 108 (.getfield 42) 3 111 := ⟨by decide +kernel, rfl⟩
theorem dX9_guard_111 : Dc mX9_guard 111 (.iload_n 1) 1 112 := ⟨by decide +kernel, rfl⟩
theorem dX9_guard_112 : Dc mX9_guard 112 (.dup2) 1 113 := ⟨by decide +kernel, rfl⟩
theorem dX9_guard_113 : Dc mX9_guard 113 (.iaload) 1 114 := ⟨by decide +kernel, rfl⟩
theorem dX9_guard_114 : Dc mX9_guard 114 (.iconst 1) 1 115 := ⟨by decide +kernel, rfl⟩
theorem dX9_guard_115 : Dc mX9_guard 115 (.iadd) 1 116 := ⟨by decide +kernel, rfl⟩
theorem dX9_guard_116 : Dc mX9_guard 116 (.iastore) 1 117 := ⟨by decide +kernel, rfl⟩
theorem dX9_guard_117 : Dc mX9_guard 117 (.aload_n 0) 1 118 := ⟨by decide +kernel, rfl⟩
theorem dX9_guard_118 : Dc mX9_guard 118 (.getfield 57) 3 121 := ⟨by decide +kernel, rfl⟩
theorem dX9_guard_121 : Dc mX9_guard 121 (.iload_n 1) 1 122 := ⟨by decide +kernel, rfl⟩
theorem dX9_guard_122 : Dc mX9_guard 122 (.iconst 0) 1 123 := ⟨by decide +kernel, rfl⟩
theorem dX9_guard_123 : Dc mX9_guard 123 (.bastore) 1 124 := ⟨by decide +kernel, rfl⟩
theorem dX9_guard_124 : Dc mX9_guard 124 (.aload_n 0) 1 125 := ⟨by decide +kernel, rfl⟩
theorem dX9_guard_125 : Dc mX9_guard 125 (.getfield 42) 3 128 := ⟨by decide +kernel, rfl⟩
theorem dX9_guard_128 : Dc mX9_guard 128 (.iload_n 1) 1 129 := ⟨by decide +kernel, rfl⟩
theorem dX9_guard_129 : Dc mX9_guard 129 (.iaload) 1 130 := ⟨by decide +kernel, rfl⟩
theorem dX9_guard_130 : Dc mX9_guard 130 (.iconst 1) 1 131 := ⟨by decide +kernel, rfl⟩
theorem dX9_guard_131 : Dc mX9_guard 131 (.isub) 1 132 := ⟨by decide +kernel, rfl⟩
theorem dX9_guard_132 : Dc mX9_guard 132 (.ireturn) 1 133 := ⟨by decide +kernel, rfl⟩
theorem dX9_breaks_0 : Dc mX9_breaks 0 (.aload_n 0) 1 1 := ⟨by decide +kernel, rfl⟩
theorem dX9_breaks_1 : Dc mX9_breaks 1 (.iload_n 1) 1 2 := ⟨by decide +kernel, rfl⟩
theorem dX9_breaks_2 : Dc mX9_breaks 2 (.putfield 145) 3 5 := ⟨by decide +kernel, rfl⟩
theorem dX9_breaks_5 : Dc mX9_breaks 5 (.iconst 0) 1 6 := ⟨by decide +kernel, rfl⟩
theorem dX9_breaks_6 : Dc mX9_breaks 6 (.ireturn) 1 7 := ⟨by decide +kernel, rfl⟩
theorem dX9_wants_0 : Dc mX9_wants 0 (.aload_n 0) 1 1 := ⟨by decide +kernel, rfl⟩
theorem dX9_wants_1 : Dc mX9_wants 1 (.getfield 148) 3 4 := ⟨by decide +kernel, rfl⟩
theorem dX9_wants_4 : Dc mX9_wants 4 (.iload_n 1) 1 5 := ⟨by decide +kernel, rfl⟩
theorem dX9_wants_5 : Dj mX9_wants 5 (.if_icmp .ge 11) 3 8 (11) 16 := ⟨by decide +kernel, rfl, by decide⟩
theorem dX9_wants_8 : Dc mX9_wants 8 (.aload_n 0) 1 9 := ⟨by decide +kernel, rfl⟩
theorem dX9_wants_9 : Dc mX9_wants 9 (.iconst 2) 1 10 := ⟨by decide +kernel, rfl⟩
theorem dX9_wants_10 : Dc mX9_wants 10 (.invokevirtual 151) 3 13 := ⟨by decide +kernel, rfl⟩
theorem dX9_wants_13 : Dj mX9_wants 13 (.ifCond .eq 7) 3 16 (7) 20 := ⟨by decide +kernel, rfl, by decide⟩
theorem dX9_wants_16 : Dc mX9_wants 16 (.iconst 1) 1 17 := ⟨by decide +kernel, rfl⟩
theorem dX9_wants_17 : Dj mX9_wants 17 (.goto 4) 3 20 (4) 21 := ⟨by decide +kernel, rfl, by decide⟩
theorem dX9_wants_20 : Dc mX9_wants 20 (.iconst 0) 1 21 := ⟨by decide +kernel, rfl⟩
theorem dX9_wants_21 : Dc mX9_wants 21 (.ireturn) 1 22 := ⟨by decide +kernel, rfl⟩
theorem dX9_takes_0 : Dc mX9_takes 0 (.iload_n 1) 1 1 := ⟨by decide +kernel, rfl⟩
theorem dX9_takes_1 : Dc mX9_takes 1 (.iconst 2) 1 2 := ⟨by decide +kernel, rfl⟩
theorem dX9_takes_2 : Dj mX9_takes 2 (.if_icmp .ne 61) 3 5 (61) 63 := ⟨by decide +kernel, rfl, by decide⟩
theorem dX9_takes_5 : Dc mX9_takes 5 (.aload_n 0) 1 6 := ⟨by decide +kernel, rfl⟩
theorem dX9_takes_6 : Dc mX9_takes 6 (.iconst 2) 1 7 := ⟨by decide +kernel, rfl⟩
theorem dX9_takes_7 : Dc mX9_takes 7 (.invokevirtual 154) 3 10 := ⟨by decide +kernel, rfl⟩
theorem dX9_takes_10 : Dj mX9_takes 10 (.ifCond .ne 5) 3 13 (5) 15 := ⟨by decide +kernel, rfl, by decide⟩
theorem dX9_takes_13 : Dc mX9_takes 13 (.iconst 0) 1 14 := ⟨by decide +kernel, rfl⟩
theorem dX9_takes_14 : Dc mX9_takes 14 (.ireturn) 1 15 := ⟨by decide +kernel, rfl⟩
theorem dX9_takes_15 : Dc mX9_takes 15 (.aload_n 0) 1 16 := ⟨by decide +kernel, rfl⟩
theorem dX9_takes_16 : Dc mX9_takes 16 (.getfield 87) 3 19 := ⟨by decide +kernel, rfl⟩
theorem dX9_takes_19 : Dc mX9_takes 19 (.aload_n 0) 1 20 := ⟨by decide +kernel, rfl⟩
theorem dX9_takes_20 : Dc mX9_takes 20 (.getfield 148) 3 23 := ⟨by decide +kernel, rfl⟩
theorem dX9_takes_23 : Dc mX9_takes 23 (.iconst 1) 1 24 := ⟨by decide +kernel, rfl⟩
theorem dX9_takes_24 : Dc mX9_takes 24 (.isub) 1 25 := ⟨by decide +kernel, rfl⟩
theorem dX9_takes_25 : Dc mX9_takes 25 (.iaload) 1 26 := ⟨by decide +kernel, rfl⟩
theorem dX9_takes_26 : Dc mX9_takes 26 (.iconst 3) 1 27 := ⟨by decide +kernel, rfl⟩
theorem dX9_takes_27 : Dj mX9_takes 27 (.if_icmp .ne 18) 3 30 (18) 45 := ⟨by decide +kernel, rfl, by decide⟩
theorem dX9_takes_30 : Dc mX9_takes 30 (.aload_n 0) 1 31 := ⟨by decide +kernel, rfl⟩
theorem dX9_takes_31 : Dc mX9_takes 31 (.getfield 87) 3 34 := ⟨by decide +kernel, rfl⟩
theorem dX9_takes_34 : Dc mX9_takes 34 (.aload_n 0) 1 35 := ⟨by decide +kernel, rfl⟩
theorem dX9_takes_35 : Dc mX9_takes 35 (.getfield 148) 3 38 := ⟨by decide +kernel, rfl⟩
theorem dX9_takes_38 : Dc mX9_takes 38 (.iconst 2) 1 39 := ⟨by decide +kernel, rfl⟩
theorem dX9_takes_39 : Dc mX9_takes 39 (.isub) 1 40 := ⟨by decide +kernel, rfl⟩
theorem dX9_takes_40 : Dc mX9_takes 40 (.iaload) 1 41 := ⟨by decide +kernel, rfl⟩
theorem dX9_takes_41 : Dc mX9_takes 41 (.iconst 2) 1 42 := ⟨by decide +kernel, rfl⟩
theorem dX9_takes_42 : Dj mX9_takes 42 (.if_icmp .eq 9) 3 45 (9) 51 := ⟨by decide +kernel, rfl, by decide⟩
theorem dX9_takes_45 : Dc mX9_takes 45 (.aload_n 0) 1 46 := ⟨by decide +kernel, rfl⟩
theorem dX9_takes_46 : Dc mX9_takes 46 (.iconst 3) 1 47 := ⟨by decide +kernel, rfl⟩
theorem dX9_takes_47 : Dc mX9_takes 47 (.invokevirtual 151) 3 50 := ⟨by decide +kernel, rfl⟩
theorem dX9_takes_50 : Dc mX9_takes 50 (.ireturn) 1 51 := ⟨by decide +kernel, rfl⟩
theorem dX9_takes_51 : Dc mX9_takes 51 (.aload_n 0) 1 52 := ⟨by decide +kernel, rfl⟩
theorem dX9_takes_52 : Dc mX9_takes 52 (.dup) 1 53 := ⟨by decide +kernel, rfl⟩
theorem dX9_takes_53 : Dc mX9_takes 53 (.getfield 148) 3 56 := ⟨by decide +kernel, rfl⟩
theorem dX9_takes_56 : Dc mX9_takes 56 (.iconst 2) 1 57 := ⟨by decide +kernel, rfl⟩
theorem dX9_takes_57 : Dc mX9_takes 57 (.isub) 1 58 := ⟨by decide +kernel, rfl⟩
theorem dX9_takes_58 : Dc mX9_takes 58 (.putfield 148) 3 61 := ⟨by decide +kernel, rfl⟩
theorem dX9_takes_61 : Dc mX9_takes 61 (.iconst 1) 1 62 := ⟨by decide +kernel, rfl⟩
theorem dX9_takes_62 : Dc mX9_takes 62 (.ireturn) 1 63 := ⟨by decide +kernel, rfl⟩
theorem dX9_takes_63 : Dc mX9_takes 63 (.aload_n 0) 1 64 := ⟨by decide +kernel, rfl⟩
theorem dX9_takes_64 : Dc mX9_takes 64 (.iconst 1) 1 65 := ⟨by decide +kernel, rfl⟩
theorem dX9_takes_65 : Dc mX9_takes 65 (.invokevirtual 154) 3 68 := ⟨by decide +kernel, rfl⟩
theorem dX9_takes_68 : Dj mX9_takes 68 (.ifCond .ne 5) 3 71 (5) 73 := ⟨by decide +kernel, rfl, by decide⟩
theorem dX9_takes_71 : Dc mX9_takes 71 (.iconst 0) 1 72 := ⟨by decide +kernel, rfl⟩
theorem dX9_takes_72 : Dc mX9_takes 72 (.ireturn) 1 73 := ⟨by decide +kernel, rfl⟩
theorem dX9_takes_73 : Dc mX9_takes 73 (.aload_n 0) 1 74 := ⟨by decide +kernel, rfl⟩
theorem dX9_takes_74 : Dc mX9_takes 74 (.aload_n 0) 1 75 := ⟨by decide +kernel, rfl⟩
theorem dX9_takes_75 : Dc mX9_takes 75 (.getfield 87) 3 78 := ⟨by decide +kernel, rfl⟩
theorem dX9_takes_78 : Dc mX9_takes 78 (.aload_n 0) 1 79 := ⟨by decide +kernel, rfl⟩
theorem dX9_takes_79 : Dc mX9_takes 79 (.getfield 148) 3 82 := ⟨by decide +kernel, rfl⟩
theorem dX9_takes_82 : Dc mX9_takes 82 (.iconst 1) 1 83 := ⟨by decide +kernel, rfl⟩
theorem dX9_takes_83 : Dc mX9_takes 83 (.isub) 1 84 := ⟨by decide +kernel, rfl⟩
theorem dX9_takes_84 : Dc mX9_takes 84 (.iaload) 1 85 := ⟨by decide +kernel, rfl⟩
theorem dX9_takes_85 : Dc mX9_takes 85 (.iload_n 1) 1 86 := ⟨by decide +kernel, rfl⟩
theorem dX9_takes_86 : Dc mX9_takes 86 (.invokevirtual 157) 3 89 := ⟨by decide +kernel, rfl⟩
theorem dX9_takes_89 : Dj mX9_takes 89 (.ifCond .ne 9) 3 92 (9) 98 := ⟨by decide +kernel, rfl, by decide⟩
theorem dX9_takes_92 : Dc mX9_takes 92 (.aload_n 0) 1 93 := ⟨by decide +kernel, rfl⟩
theorem dX9_takes_93 : Dc mX9_takes 93 (.iconst 3) 1 94 := ⟨by decide +kernel, rfl⟩
theorem dX9_takes_94 : Dc mX9_takes 94 (.invokevirtual 151) 3 97 := ⟨by decide +kernel, rfl⟩
theorem dX9_takes_97 : Dc mX9_takes 97 (.ireturn) 1 98 := ⟨by decide +kernel, rfl⟩
theorem dX9_takes_98 : Dc mX9_takes 98 (.aload_n 0) 1 99 := ⟨by decide +kernel, rfl⟩
theorem dX9_takes_99 : Dc mX9_takes 99 (.dup) 1 100 := ⟨by decide +kernel, rfl⟩
theorem dX9_takes_100 : Dc mX9_takes 100 (.getfield 148) 3 103 := ⟨by decide +kernel, rfl⟩
theorem dX9_takes_103 : Dc mX9_takes 103 (.iconst 1) 1 104 := ⟨by decide +kernel, rfl⟩
theorem dX9_takes_104 : Dc mX9_takes 104 (.isub) 1 105 := ⟨by decide +kernel, rfl⟩
theorem dX9_takes_105 : Dc mX9_takes 105 (.putfield 148) 3 108 := ⟨by decide +kernel, rfl⟩
theorem dX9_takes_108 : Dc mX9_takes 108 (.iconst 1) 1 109 := ⟨by decide +kernel, rfl⟩
theorem dX9_takes_109 : Dc mX9_takes 109 (.ireturn) 1 110 := ⟨by decide +kernel, rfl⟩
theorem dX9_takesTop_0 : Dc mX9_takesTop 0 (.iload_n 1) 1 1 := ⟨by decide +kernel, rfl⟩
theorem dX9_takesTop_1 : Dj mX9_takesTop 1 (.ifCond .ne 9) 3 4 (9) 10 := ⟨by decide +kernel, rfl, by decide⟩
theorem dX9_takesTop_4 : Dc mX9_takesTop 4 (.aload_n 0) 1 5 := ⟨by decide +kernel, rfl⟩
theorem dX9_takesTop_5 : Dc mX9_takesTop 5 (.iconst 3) 1 6 := ⟨by decide +kernel, rfl⟩
theorem dX9_takesTop_6 : Dc mX9_takesTop 6 (.invokevirtual 151) 3 9 := ⟨by decide +kernel, rfl⟩
theorem dX9_takesTop_9 : Dc mX9_takesTop 9 (.ireturn) 1 10 := ⟨by decide +kernel, rfl⟩
theorem dX9_takesTop_10 : Dc mX9_takesTop 10 (.aload_n 0) 1 11 := ⟨by decide +kernel, rfl⟩
theorem dX9_takesTop_11 : Dc mX9_takesTop 11 (.dup) 1 12 := ⟨by decide +kernel, rfl⟩
theorem dX9_takesTop_12 : Dc mX9_takesTop 12 (.getfield 148) 3 15 := ⟨by decide +kernel, rfl⟩
theorem dX9_takesTop_15 : Dc mX9_takesTop 15 (.iconst 1) 1 16 := ⟨by decide +kernel, rfl⟩
theorem dX9_takesTop_16 : Dc mX9_takesTop 16 (.isub) 1 17 := ⟨by decide +kernel, rfl⟩
theorem dX9_takesTop_17 : Dc mX9_takesTop 17 (.putfield 148) 3 20 := ⟨by decide +kernel, rfl⟩
theorem dX9_takesTop_20 : Dc mX9_takesTop 20 (.iconst 1) 1 21 := ⟨by decide +kernel, rfl⟩
theorem dX9_takesTop_21 : Dc mX9_takesTop 21 (.ireturn) 1 22 := ⟨by decide +kernel, rfl⟩
theorem dX9_top_0 : Dc mX9_top 0 (.aload_n 0) 1 1 := ⟨by decide +kernel, rfl⟩
theorem dX9_top_1 : Dc mX9_top 1 (.getfield 87) 3 4 := ⟨by decide +kernel, rfl⟩
theorem dX9_top_4 : Dc mX9_top 4 (.aload_n 0) 1 5 := ⟨by decide +kernel, rfl⟩
theorem dX9_top_5 : Dc mX9_top 5 (.getfield 148) 3 8 := ⟨by decide +kernel, rfl⟩
theorem dX9_top_8 : Dc mX9_top 8 (.iconst 1) 1 9 := ⟨by decide +kernel, rfl⟩
theorem dX9_top_9 : Dc mX9_top 9 (.isub) 1 10 := ⟨by decide +kernel, rfl⟩
theorem dX9_top_10 : Dc mX9_top 10 (.iaload) 1 11 := ⟨by decide +kernel, rfl⟩
theorem dX9_top_11 : Dc mX9_top 11 (.ireturn) 1 12 := ⟨by decide +kernel, rfl⟩
theorem dX9_lays_0 : Dc mX9_lays 0 (.iload_n 1) 1 1 := ⟨by decide +kernel, rfl⟩
theorem dX9_lays_1 : Dc mX9_lays 1 (.iconst 2) 1 2 := ⟨by decide +kernel, rfl⟩
theorem dX9_lays_2 : Dj mX9_lays 2 (.if_icmp .ne 7) 3 5 (7) 9 := ⟨by decide +kernel, rfl, by decide⟩
theorem dX9_lays_5 : Dc mX9_lays 5 (.iconst 2) 1 6 := ⟨by decide +kernel, rfl⟩
theorem dX9_lays_6 : Dj mX9_lays 6 (.goto 4) 3 9 (4) 10 := ⟨by decide +kernel, rfl, by decide⟩
theorem dX9_lays_9 : Dc mX9_lays 9 (.iconst 1) 1 10 := ⟨by decide +kernel, rfl⟩
theorem dX9_lays_10 : Dc mX9_lays 10 (.istore_n 2) 1 11 := ⟨by decide +kernel, rfl⟩
theorem dX9_lays_11 : Dc mX9_lays 11 (.aload_n 0) 1 12 := ⟨by decide +kernel, rfl⟩
theorem dX9_lays_12 : Dc mX9_lays 12 (.getfield 148) 3 15 := ⟨by decide +kernel, rfl⟩
theorem dX9_lays_15 : Dc mX9_lays 15 (.iload_n 2) 1 16 := ⟨by decide +kernel, rfl⟩
theorem dX9_lays_16 : Dc mX9_lays 16 (.iadd) 1 17 := ⟨by decide +kernel, rfl⟩
theorem dX9_lays_17 : Dc mX9_lays 17 (.bipush 8) 2 19 := ⟨by decide +kernel, rfl⟩
theorem dX9_lays_19 : Dj mX9_lays 19 (.if_icmp .le 9) 3 22 (9) 28 := ⟨by decide +kernel, rfl, by decide⟩
theorem dX9_lays_22 : Dc mX9_lays 22 (.aload_n 0) 1 23 := ⟨by decide +kernel, rfl⟩
theorem dX9_lays_23 : Dc mX9_lays 23 (.iconst 1) 1 24 := ⟨by decide +kernel, rfl⟩
theorem dX9_lays_24 : Dc mX9_lays 24 (.invokevirtual 151) 3 27 := ⟨by decide +kernel, rfl⟩
theorem dX9_lays_27 : Dc mX9_lays 27 (.ireturn) 1 28 := ⟨by decide +kernel, rfl⟩
theorem dX9_lays_28 : Dc mX9_lays 28 (.aload_n 0) 1 29 := ⟨by decide +kernel, rfl⟩
theorem dX9_lays_29 : Dc mX9_lays 29 (.getfield 87) 3 32 := ⟨by decide +kernel, rfl⟩
theorem dX9_lays_32 : Dc mX9_lays 32 (.aload_n 0) 1 33 := ⟨by decide +kernel, rfl⟩
theorem dX9_lays_33 : Dc mX9_lays 33 (.getfield 148) 3 36 := ⟨by decide +kernel, rfl⟩
theorem dX9_lays_36 : Dc mX9_lays 36 (.iload_n 1) 1 37 := ⟨by decide +kernel, rfl⟩
theorem dX9_lays_37 : Dc mX9_lays 37 (.iastore) 1 38 := ⟨by decide +kernel, rfl⟩
theorem dX9_lays_38 : Dc mX9_lays 38 (.iload_n 1) 1 39 := ⟨by decide +kernel, rfl⟩
theorem dX9_lays_39 : Dc mX9_lays 39 (.iconst 2) 1 40 := ⟨by decide +kernel, rfl⟩
theorem dX9_lays_40 : Dj mX9_lays 40 (.if_icmp .ne 15) 3 43 (15) 55 := ⟨by decide +kernel, rfl, by decide⟩
theorem dX9_lays_43 : Dc mX9_lays 43 (.aload_n 0) 1 44 := ⟨by decide +kernel, rfl⟩
theorem dX9_lays_44 : Dc mX9_lays 44 (.getfield 87) 3 47 := ⟨by decide +kernel, rfl⟩
theorem dX9_lays_47 : Dc mX9_lays 47 (.aload_n 0) 1 48 := ⟨by decide +kernel, rfl⟩
theorem dX9_lays_48 : Dc mX9_lays 48 (.getfield 148) 3 51 := ⟨by decide +kernel, rfl⟩
theorem dX9_lays_51 : Dc mX9_lays 51 (.iconst 1) 1 52 := ⟨by decide +kernel, rfl⟩
theorem dX9_lays_52 : Dc mX9_lays 52 (.iadd) 1 53 := ⟨by decide +kernel, rfl⟩
theorem dX9_lays_53 : Dc mX9_lays 53 (.iconst 3) 1 54 := ⟨by decide +kernel, rfl⟩
theorem dX9_lays_54 : Dc mX9_lays 54 (.iastore) 1 55 := ⟨by decide +kernel, rfl⟩
theorem dX9_lays_55 : Dc mX9_lays 55 (.aload_n 0) 1 56 := ⟨by decide +kernel, rfl⟩
theorem dX9_lays_56 : Dc mX9_lays 56 (.dup) 1 57 := ⟨by decide +kernel, rfl⟩
theorem dX9_lays_57 : Dc mX9_lays 57 (.getfield 148) 3 60 := ⟨by decide +kernel, rfl⟩
theorem dX9_lays_60 : Dc mX9_lays 60 (.iload_n 2) 1 61 := ⟨by decide +kernel, rfl⟩
theorem dX9_lays_61 : Dc mX9_lays 61 (.iadd) 1 62 := ⟨by decide +kernel, rfl⟩
theorem dX9_lays_62 : Dc mX9_lays 62 (.putfield 148) 3 65 := ⟨by decide +kernel, rfl⟩
theorem dX9_lays_65 : Dc mX9_lays 65 (.iconst 1) 1 66 := ⟨by decide +kernel, rfl⟩
theorem dX9_lays_66 : Dc mX9_lays 66 (.ireturn) 1 67 := ⟨by decide +kernel, rfl⟩
theorem dX9_puts_0 : Dc mX9_puts 0 (.aload_n 0) 1 1 := ⟨by decide +kernel, rfl⟩
theorem dX9_puts_1 : Dc mX9_puts 1 (.getfield 84) 3 4 := ⟨by decide +kernel, rfl⟩
theorem dX9_puts_4 : Dc mX9_puts 4 (.iload_n 1) 1 5 := ⟨by decide +kernel, rfl⟩
theorem dX9_puts_5 : Dc mX9_puts 5 (.iaload) 1 6 := ⟨by decide +kernel, rfl⟩
theorem dX9_puts_6 : Dc mX9_puts 6 (.iconst 2) 1 7 := ⟨by decide +kernel, rfl⟩
theorem dX9_puts_7 : Dj mX9_puts 7 (.if_icmp .ne 15) 3 10 (15) 22 := ⟨by decide +kernel, rfl, by decide⟩
theorem dX9_puts_10 : Dc mX9_puts 10 (.aload_n 0) 1 11 := ⟨by decide +kernel, rfl⟩
theorem dX9_puts_11 : Dc mX9_puts 11 (.getfield 84) 3 14 := ⟨by decide +kernel, rfl⟩
theorem dX9_puts_14 : Dc mX9_puts 14 (.iload_n 1) 1 15 := ⟨by decide +kernel, rfl⟩
theorem dX9_puts_15 : Dc mX9_puts 15 (.iconst 1) 1 16 := ⟨by decide +kernel, rfl⟩
theorem dX9_puts_16 : Dc mX9_puts 16 (.iadd) 1 17 := ⟨by decide +kernel, rfl⟩
theorem dX9_puts_17 : Dc mX9_puts 17 (.iconst 0) 1 18 := ⟨by decide +kernel, rfl⟩
theorem dX9_puts_18 : Dc mX9_puts 18 (.iastore) 1 19 := ⟨by decide +kernel, rfl⟩
theorem dX9_puts_19 : Dj mX9_puts 19 (.goto 22) 3 22 (22) 41 := ⟨by decide +kernel, rfl, by decide⟩
theorem dX9_puts_22 : Dc mX9_puts 22 (.aload_n 0) 1 23 := ⟨by decide +kernel, rfl⟩
theorem dX9_puts_23 : Dc mX9_puts 23 (.getfield 84) 3 26 := ⟨by decide +kernel, rfl⟩
theorem dX9_puts_26 : Dc mX9_puts 26 (.iload_n 1) 1 27 := ⟨by decide +kernel, rfl⟩
theorem dX9_puts_27 : Dc mX9_puts 27 (.iaload) 1 28 := ⟨by decide +kernel, rfl⟩
theorem dX9_puts_28 : Dc mX9_puts 28 (.iconst 3) 1 29 := ⟨by decide +kernel, rfl⟩
theorem dX9_puts_29 : Dj mX9_puts 29 (.if_icmp .ne 12) 3 32 (12) 41 := ⟨by decide +kernel, rfl, by decide⟩
theorem dX9_puts_32 : Dc mX9_puts 32 (.aload_n 0) 1 33 := ⟨by decide +kernel, rfl⟩
theorem dX9_puts_33 : Dc mX9_puts 33 (.getfield 84) 3 36 := ⟨by decide +kernel, rfl⟩
theorem dX9_puts_36 : Dc mX9_puts 36 (.iload_n 1) 1 37 := ⟨by decide +kernel, rfl⟩
theorem dX9_puts_37 : Dc mX9_puts 37 (.iconst 1) 1 38 := ⟨by decide +kernel, rfl⟩
theorem dX9_puts_38 : Dc mX9_puts 38 (.isub) 1 39 := ⟨by decide +kernel, rfl⟩
theorem dX9_puts_39 : Dc mX9_puts 39 (.iconst 0) 1 40 := ⟨by decide +kernel, rfl⟩
theorem dX9_puts_40 : Dc mX9_puts 40 (.iastore) 1 41 := ⟨by decide +kernel, rfl⟩
theorem dX9_puts_41 : Dc mX9_puts 41 (.aload_n 0) 1 42 := ⟨by decide +kernel, rfl⟩
theorem dX9_puts_42 : Dc mX9_puts 42 (.getfield 84) 3 45 := ⟨by decide +kernel, rfl⟩
theorem dX9_puts_45 : Dc mX9_puts 45 (.iload_n 1) 1 46 := ⟨by decide +kernel, rfl⟩
theorem dX9_puts_46 : Dc mX9_puts 46 (.iload_n 2) 1 47 := ⟨by decide +kernel, rfl⟩
theorem dX9_puts_47 : Dc mX9_puts 47 (.iastore) 1 48 := ⟨by decide +kernel, rfl⟩
theorem dX9_puts_48 : Dc mX9_puts 48 (.return_) 1 49 := ⟨by decide +kernel, rfl⟩
theorem dX9_isHeld_0 : Dc mX9_isHeld 0 (.iload_n 0) 1 1 := ⟨by decide +kernel, rfl⟩
theorem dX9_isHeld_1 : Dc mX9_isHeld 1 (.invokestatic 114) 3 4 := ⟨by decide +kernel, rfl⟩
theorem dX9_isHeld_4 : Dj mX9_isHeld 4 (.ifCond .ne 9) 3 7 (9) 13 := ⟨by decide +kernel, rfl, by decide⟩
theorem dX9_isHeld_7 : Dc mX9_isHeld 7 (.iload_n 0) 1 8 := ⟨by decide +kernel, rfl⟩
theorem dX9_isHeld_8 : Dc mX9_isHeld 8 (.bipush 100) 2 10 := ⟨by decide +kernel, rfl⟩
theorem dX9_isHeld_10 : Dj mX9_isHeld 10 (.if_icmp .lt 7) 3 13 (7) 17 := ⟨by decide +kernel, rfl, by decide⟩
theorem dX9_isHeld_13 : Dc mX9_isHeld 13 (.iconst 1) 1 14 := ⟨by decide +kernel, rfl⟩
theorem dX9_isHeld_14 : Dj mX9_isHeld 14 (.goto 4) 3 17 (4) 18 := ⟨by decide +kernel, rfl, by decide⟩
theorem dX9_isHeld_17 : Dc mX9_isHeld 17 (.iconst 0) 1 18 := ⟨by decide +kernel, rfl⟩
theorem dX9_isHeld_18 : Dc mX9_isHeld 18 (.ireturn) 1 19 := ⟨by decide +kernel, rfl⟩
theorem dX9_moves_0 : Dc mX9_moves 0 (.iload_n 1) 1 1 := ⟨by decide +kernel, rfl⟩
theorem dX9_moves_1 : decode mX9_moves.2.1 1 = .ok (.tableswitch 221 0 6 #[43, 49, 55, 87, 105, 149, 182], 43) := by decide +kernel
theorem dX9_moves_44 : Dc mX9_moves 44 (.aload_n 0) 1 45 := ⟨by decide +kernel, rfl⟩
theorem dX9_moves_45 : Dc mX9_moves 45 (.iconst 1) 1 46 := ⟨by decide +kernel, rfl⟩
theorem dX9_moves_46 : Dc mX9_moves 46 (.invokevirtual 160) 3 49 := ⟨by decide +kernel, rfl⟩
theorem dX9_moves_49 : Dc mX9_moves 49 (.ireturn) 1 50 := ⟨by decide +kernel, rfl⟩
theorem dX9_moves_50 : Dc mX9_moves 50 (.aload_n 0) 1 51 := ⟨by decide +kernel, rfl⟩
theorem dX9_moves_51 : Dc mX9_moves 51 (.iconst 2) 1 52 := ⟨by decide +kernel, rfl⟩
theorem dX9_moves_52 : Dc mX9_moves 52 (.invokevirtual 160) 3 55 := ⟨by decide +kernel, rfl⟩
theorem dX9_moves_55 : Dc mX9_moves 55 (.ireturn) 1 56 := ⟨by decide +kernel, rfl⟩
theorem dX9_moves_56 : Dc mX9_moves 56 (.aload_n 0) 1 57 := ⟨by decide +kernel, rfl⟩
theorem dX9_moves_57 : Dc mX9_moves 57 (.getfield 84) 3 60 := ⟨by decide +kernel, rfl⟩
theorem dX9_moves_60 : Dc mX9_moves 60 (.iload_n 2) 1 61 := ⟨by decide +kernel, rfl⟩
theorem dX9_moves_61 : Dc mX9_moves 61 (.iaload) 1 62 := ⟨by decide +kernel, rfl⟩
theorem dX9_moves_62 : Dc mX9_moves 62 (.iconst 1) 1 63 := ⟨by decide +kernel, rfl⟩
theorem dX9_moves_63 : Dj mX9_moves 63 (.if_icmp .eq 11) 3 66 (11) 74 := ⟨by decide +kernel, rfl, by decide⟩
theorem dX9_moves_66 : Dc mX9_moves 66 (.aload_n 0) 1 67 := ⟨by decide +kernel, rfl⟩
theorem dX9_moves_67 : Dc mX9_moves 67 (.iconst 4) 1 68 := ⟨by decide +kernel, rfl⟩
theorem dX9_moves_68 : Dc mX9_moves 68 (.invokevirtual 151) 3 71 := ⟨by decide +kernel, rfl⟩
theorem dX9_moves_71 : Dj mX9_moves 71 (.ifCond .eq 15) 3 74 (15) 86 := ⟨by decide +kernel, rfl, by decide⟩
theorem dX9_moves_74 : Dc mX9_moves 74 (.aload_n 0) 1 75 := ⟨by decide +kernel, rfl⟩
theorem dX9_moves_75 : Dc mX9_moves 75 (.iconst 1) 1 76 := ⟨by decide +kernel, rfl⟩
theorem dX9_moves_76 : Dc mX9_moves 76 (.invokevirtual 160) 3 79 := ⟨by decide +kernel, rfl⟩
theorem dX9_moves_79 : Dj mX9_moves 79 (.ifCond .eq 7) 3 82 (7) 86 := ⟨by decide +kernel, rfl, by decide⟩
theorem dX9_moves_82 : Dc mX9_moves 82 (.iconst 1) 1 83 := ⟨by decide +kernel, rfl⟩
theorem dX9_moves_83 : Dj mX9_moves 83 (.goto 4) 3 86 (4) 87 := ⟨by decide +kernel, rfl, by decide⟩
theorem dX9_moves_86 : Dc mX9_moves 86 (.iconst 0) 1 87 := ⟨by decide +kernel, rfl⟩
theorem dX9_moves_87 : Dc mX9_moves 87 (.ireturn) 1 88 := ⟨by decide +kernel, rfl⟩
theorem dX9_moves_88 : Dc mX9_moves 88 (.aload_n 0) 1 89 := ⟨by decide +kernel, rfl⟩
theorem dX9_moves_89 : Dc mX9_moves 89 (.iconst 1) 1 90 := ⟨by decide +kernel, rfl⟩
theorem dX9_moves_90 : Dc mX9_moves 90 (.invokevirtual 163) 3 93 := ⟨by decide +kernel, rfl⟩
theorem dX9_moves_93 : Dj mX9_moves 93 (.ifCond .ne 5) 3 96 (5) 98 := ⟨by decide +kernel, rfl, by decide⟩
theorem dX9_moves_96 : Dc mX9_moves 96 (.iconst 0) 1 97 := ⟨by decide +kernel, rfl⟩
theorem dX9_moves_97 : Dc mX9_moves 97 (.ireturn) 1 98 := ⟨by decide +kernel, rfl⟩
theorem dX9_moves_98 : Dc mX9_moves 98 (.aload_n 0) 1 99 := ⟨by decide +kernel, rfl⟩
theorem dX9_moves_99 : Dc mX9_moves 99 (.iload_n 2) 1 100 := ⟨by decide +kernel, rfl⟩
theorem dX9_moves_100 : Dc mX9_moves 100 (.iconst 1) 1 101 := ⟨by decide +kernel, rfl⟩
theorem dX9_moves_101 : Dc mX9_moves 101 (.invokevirtual 166) 3 104 := ⟨by decide +kernel, rfl⟩
theorem dX9_moves_104 : Dc mX9_moves 104 (.iconst 1) 1 105 := ⟨by decide +kernel, rfl⟩
theorem dX9_moves_105 : Dc mX9_moves 105 (.ireturn) 1 106 := ⟨by decide +kernel, rfl⟩
theorem dX9_moves_106 : Dc mX9_moves 106 (.aload_n 0) 1 107 := ⟨by decide +kernel, rfl⟩
theorem dX9_moves_107 : Dc mX9_moves 107 (.getfield 84) 3 110 := ⟨by decide +kernel, rfl⟩
theorem dX9_moves_110 : Dc mX9_moves 110 (.iload_n 2) 1 111 := ⟨by decide +kernel, rfl⟩
theorem dX9_moves_111 : Dc mX9_moves 111 (.iaload) 1 112 := ⟨by decide +kernel, rfl⟩
theorem dX9_moves_112 : Dc mX9_moves 112 (.iconst 2) 1 113 := ⟨by decide +kernel, rfl⟩
theorem dX9_moves_113 : Dj mX9_moves 113 (.if_icmp .ne 15) 3 116 (15) 128 := ⟨by decide +kernel, rfl, by decide⟩
theorem dX9_moves_116 : Dc mX9_moves 116 (.aload_n 0) 1 117 := ⟨by decide +kernel, rfl⟩
theorem dX9_moves_117 : Dc mX9_moves 117 (.getfield 84) 3 120 := ⟨by decide +kernel, rfl⟩
theorem dX9_moves_120 : Dc mX9_moves 120 (.iload_n 2) 1 121 := ⟨by decide +kernel, rfl⟩
theorem dX9_moves_121 : Dc mX9_moves 121 (.iconst 1) 1 122 := ⟨by decide +kernel, rfl⟩
theorem dX9_moves_122 : Dc mX9_moves 122 (.iadd) 1 123 := ⟨by decide +kernel, rfl⟩
theorem dX9_moves_123 : Dc mX9_moves 123 (.iaload) 1 124 := ⟨by decide +kernel, rfl⟩
theorem dX9_moves_124 : Dc mX9_moves 124 (.iconst 3) 1 125 := ⟨by decide +kernel, rfl⟩
theorem dX9_moves_125 : Dj mX9_moves 125 (.if_icmp .eq 11) 3 128 (11) 136 := ⟨by decide +kernel, rfl, by decide⟩
theorem dX9_moves_128 : Dc mX9_moves 128 (.aload_n 0) 1 129 := ⟨by decide +kernel, rfl⟩
theorem dX9_moves_129 : Dc mX9_moves 129 (.iconst 4) 1 130 := ⟨by decide +kernel, rfl⟩
theorem dX9_moves_130 : Dc mX9_moves 130 (.invokevirtual 151) 3 133 := ⟨by decide +kernel, rfl⟩
theorem dX9_moves_133 : Dj mX9_moves 133 (.ifCond .eq 15) 3 136 (15) 148 := ⟨by decide +kernel, rfl, by decide⟩
theorem dX9_moves_136 : Dc mX9_moves 136 (.aload_n 0) 1 137 := ⟨by decide +kernel, rfl⟩
theorem dX9_moves_137 : Dc mX9_moves 137 (.iconst 2) 1 138 := ⟨by decide +kernel, rfl⟩
theorem dX9_moves_138 : Dc mX9_moves 138 (.invokevirtual 160) 3 141 := ⟨by decide +kernel, rfl⟩
theorem dX9_moves_141 : Dj mX9_moves 141 (.ifCond .eq 7) 3 144 (7) 148 := ⟨by decide +kernel, rfl, by decide⟩
theorem dX9_moves_144 : Dc mX9_moves 144 (.iconst 1) 1 145 := ⟨by decide +kernel, rfl⟩
theorem dX9_moves_145 : Dj mX9_moves 145 (.goto 4) 3 148 (4) 149 := ⟨by decide +kernel, rfl, by decide⟩
theorem dX9_moves_148 : Dc mX9_moves 148 (.iconst 0) 1 149 := ⟨by decide +kernel, rfl⟩
theorem dX9_moves_149 : Dc mX9_moves 149 (.ireturn) 1 150 := ⟨by decide +kernel, rfl⟩
theorem dX9_moves_150 : Dc mX9_moves 150 (.aload_n 0) 1 151 := ⟨by decide +kernel, rfl⟩
theorem dX9_moves_151 : Dc mX9_moves 151 (.iconst 2) 1 152 := ⟨by decide +kernel, rfl⟩
theorem dX9_moves_152 : Dc mX9_moves 152 (.invokevirtual 163) 3 155 := ⟨by decide +kernel, rfl⟩
theorem dX9_moves_155 : Dj mX9_moves 155 (.ifCond .ne 5) 3 158 (5) 160 := ⟨by decide +kernel, rfl, by decide⟩
theorem dX9_moves_158 : Dc mX9_moves 158 (.iconst 0) 1 159 := ⟨by decide +kernel, rfl⟩
theorem dX9_moves_159 : Dc mX9_moves 159 (.ireturn) 1 160 := ⟨by decide +kernel, rfl⟩
theorem dX9_moves_160 : Dc mX9_moves 160 (.aload_n 0) 1 161 := ⟨by decide +kernel, rfl⟩
theorem dX9_moves_161 : Dc mX9_moves 161 (.iload_n 2) 1 162 := ⟨by decide +kernel, rfl⟩
theorem dX9_moves_162 : Dc mX9_moves 162 (.iconst 2) 1 163 := ⟨by decide +kernel, rfl⟩
theorem dX9_moves_163 : Dc mX9_moves 163 (.invokevirtual 166) 3 166 := ⟨by decide +kernel, rfl⟩
theorem dX9_moves_166 : Dc mX9_moves 166 (.aload_n 0) 1 167 := ⟨by decide +kernel, rfl⟩
theorem dX9_moves_167 : Dc mX9_moves 167 (.iload_n 2) 1 168 := ⟨by decide +kernel, rfl⟩
theorem dX9_moves_168 : Dc mX9_moves 168 (.iconst 1) 1 169 := ⟨by decide +kernel, rfl⟩
theorem dX9_moves_169 : Dc mX9_moves 169 (.iadd) 1 170 := ⟨by decide +kernel, rfl⟩
theorem dX9_moves_170 : Dc mX9_moves 170 (.iconst 3) 1 171 := ⟨by decide +kernel, rfl⟩
theorem dX9_moves_171 : Dc mX9_moves 171 (.invokevirtual 166) 3 174 := ⟨by decide +kernel, rfl⟩
theorem dX9_moves_174 : Dc mX9_moves 174 (.aload_n 0) 1 175 := ⟨by decide +kernel, rfl⟩
theorem dX9_moves_175 : Dc mX9_moves 175 (.getfield 84) 3 178 := ⟨by decide +kernel, rfl⟩
theorem dX9_moves_178 : Dc mX9_moves 178 (.iload_n 2) 1 179 := ⟨by decide +kernel, rfl⟩
theorem dX9_moves_179 : Dc mX9_moves 179 (.iconst 2) 1 180 := ⟨by decide +kernel, rfl⟩
theorem dX9_moves_180 : Dc mX9_moves 180 (.iastore) 1 181 := ⟨by decide +kernel, rfl⟩
theorem dX9_moves_181 : Dc mX9_moves 181 (.iconst 1) 1 182 := ⟨by decide +kernel, rfl⟩
theorem dX9_moves_182 : Dc mX9_moves 182 (.ireturn) 1 183 := ⟨by decide +kernel, rfl⟩
theorem dX9_moves_183 : Dc mX9_moves 183 (.aload_n 0) 1 184 := ⟨by decide +kernel, rfl⟩
theorem dX9_moves_184 : Dc mX9_moves 184 (.getfield 84) 3 187 := ⟨by decide +kernel, rfl⟩
theorem dX9_moves_187 : Dc mX9_moves 187 (.iload_n 2) 1 188 := ⟨by decide +kernel, rfl⟩
theorem dX9_moves_188 : Dc mX9_moves 188 (.iaload) 1 189 := ⟨by decide +kernel, rfl⟩
theorem dX9_moves_189 : Dc mX9_moves 189 (.invokestatic 170) 3 192 := ⟨by decide +kernel, rfl⟩
theorem dX9_moves_192 : Dj mX9_moves 192 (.ifCond .ne 11) 3 195 (11) 203 := ⟨by decide +kernel, rfl, by decide⟩
theorem dX9_moves_195 : Dc mX9_moves 195 (.aload_n 0) 1 196 := ⟨by decide +kernel, rfl⟩
theorem dX9_moves_196 : Dc mX9_moves 196 (.iconst 4) 1 197 := ⟨by decide +kernel, rfl⟩
theorem dX9_moves_197 : Dc mX9_moves 197 (.invokevirtual 151) 3 200 := ⟨by decide +kernel, rfl⟩
theorem dX9_moves_200 : Dj mX9_moves 200 (.ifCond .eq 20) 3 203 (20) 220 := ⟨by decide +kernel, rfl, by decide⟩
theorem dX9_moves_203 : Dc mX9_moves 203 (.aload_n 0) 1 204 := ⟨by decide +kernel, rfl⟩
theorem dX9_moves_204 : Dc mX9_moves 204 (.aload_n 0) 1 205 := ⟨by decide +kernel, rfl⟩
theorem dX9_moves_205 : Dc mX9_moves 205 (.getfield 84) 3 208 := ⟨by decide +kernel, rfl⟩
theorem dX9_moves_208 : Dc mX9_moves 208 (.iload_n 2) 1 209 := ⟨by decide +kernel, rfl⟩
theorem dX9_moves_209 : Dc mX9_moves 209 (.iaload) 1 210 := ⟨by decide +kernel, rfl⟩
theorem dX9_moves_210 : Dc mX9_moves 210 (.invokevirtual 160) 3 213 := ⟨by decide +kernel, rfl⟩
theorem dX9_moves_213 : Dj mX9_moves 213 (.ifCond .eq 7) 3 216 (7) 220 := ⟨by decide +kernel, rfl, by decide⟩
theorem dX9_moves_216 : Dc mX9_moves 216 (.iconst 1) 1 217 := ⟨by decide +kernel, rfl⟩
theorem dX9_moves_217 : Dj mX9_moves 217 (.goto 4) 3 220 (4) 221 := ⟨by decide +kernel, rfl, by decide⟩
theorem dX9_moves_220 : Dc mX9_moves 220 (.iconst 0) 1 221 := ⟨by decide +kernel, rfl⟩
theorem dX9_moves_221 : Dc mX9_moves 221 (.ireturn) 1 222 := ⟨by decide +kernel, rfl⟩
theorem dX9_moves_222 : Dc mX9_moves 222 (.aload_n 0) 1 223 := ⟨by decide +kernel, rfl⟩
theorem dX9_moves_223 : Dc mX9_moves 223 (.iconst 1) 1 224 := ⟨by decide +kernel, rfl⟩
theorem dX9_moves_224 : Dc mX9_moves 224 (.invokevirtual 154) 3 227 := ⟨by decide +kernel, rfl⟩
theorem dX9_moves_227 : Dj mX9_moves 227 (.ifCond .ne 5) 3 230 (5) 232 := ⟨by decide +kernel, rfl, by decide⟩
theorem dX9_moves_230 : Dc mX9_moves 230 (.iconst 0) 1 231 := ⟨by decide +kernel, rfl⟩
theorem dX9_moves_231 : Dc mX9_moves 231 (.ireturn) 1 232 := ⟨by decide +kernel, rfl⟩
theorem dX9_moves_232 : Dc mX9_moves 232 (.aload_n 0) 1 233 := ⟨by decide +kernel, rfl⟩
theorem dX9_moves_233 : Dc mX9_moves 233 (.invokevirtual 173) 3 236 := ⟨by decide +kernel, rfl⟩
theorem dX9_moves_236 : Dc mX9_moves 236 (.istore_n 3) 1 237 := ⟨by decide +kernel, rfl⟩
theorem dX9_moves_237 : Dc mX9_moves 237 (.aload_n 0) 1 238 := ⟨by decide +kernel, rfl⟩
theorem dX9_moves_238 : Dc mX9_moves 238 (.iload_n 3) 1 239 := ⟨by decide +kernel, rfl⟩
theorem dX9_moves_239 : Dc mX9_moves 239 (.invokestatic 170) 3 242 := ⟨by decide +kernel, rfl⟩
theorem dX9_moves_242 : Dc mX9_moves 242 (.invokevirtual 177) 3 245 := ⟨by decide +kernel, rfl⟩
theorem dX9_moves_245 : Dj mX9_moves 245 (.ifCond .ne 5) 3 248 (5) 250 := ⟨by decide +kernel, rfl, by decide⟩
theorem dX9_moves_248 : Dc mX9_moves 248 (.iconst 0) 1 249 := ⟨by decide +kernel, rfl⟩
theorem dX9_moves_249 : Dc mX9_moves 249 (.ireturn) 1 250 := ⟨by decide +kernel, rfl⟩
theorem dX9_moves_250 : Dc mX9_moves 250 (.aload_n 0) 1 251 := ⟨by decide +kernel, rfl⟩
theorem dX9_moves_251 : Dc mX9_moves 251 (.iload_n 2) 1 252 := ⟨by decide +kernel, rfl⟩
theorem dX9_moves_252 : Dc mX9_moves 252 (.iload_n 3) 1 253 := ⟨by decide +kernel, rfl⟩
theorem dX9_moves_253 : Dc mX9_moves 253 (.invokevirtual 166) 3 256 := ⟨by decide +kernel, rfl⟩
theorem dX9_moves_256 : Dc mX9_moves 256 (.iconst 1) 1 257 := ⟨by decide +kernel, rfl⟩
theorem dX9_moves_257 : Dc mX9_moves 257 (.ireturn) 1 258 := ⟨by decide +kernel, rfl⟩
theorem dX9_makes_0 : Dc mX9_makes 0 (.aload_n 0) 1 1 := ⟨by decide +kernel, rfl⟩
theorem dX9_makes_1 : Dc mX9_makes 1 (.iconst 1) 1 2 := ⟨by decide +kernel, rfl⟩
theorem dX9_makes_2 : Dc mX9_makes 2 (.invokevirtual 154) 3 5 := ⟨by decide +kernel, rfl⟩
theorem dX9_makes_5 : Dj mX9_makes 5 (.ifCond .ne 5) 3 8 (5) 10 := ⟨by decide +kernel, rfl, by decide⟩
theorem dX9_makes_8 : Dc mX9_makes 8 (.iconst 0) 1 9 := ⟨by decide +kernel, rfl⟩
theorem dX9_makes_9 : Dc mX9_makes 9 (.ireturn) 1 10 := ⟨by decide +kernel, rfl⟩
theorem dX9_makes_10 : Dc mX9_makes 10 (.aload_n 0) 1 11 := ⟨by decide +kernel, rfl⟩
theorem dX9_makes_11 : Dc mX9_makes 11 (.invokevirtual 173) 3 14 := ⟨by decide +kernel, rfl⟩
theorem dX9_makes_14 : Dc mX9_makes 14 (.istore_n 2) 1 15 := ⟨by decide +kernel, rfl⟩
theorem dX9_makes_15 : Dc mX9_makes 15 (.iload_n 2) 1 16 := ⟨by decide +kernel, rfl⟩
theorem dX9_makes_16 : Dc mX9_makes 16 (.bipush 100) 2 18 := ⟨by decide +kernel, rfl⟩
theorem dX9_makes_18 : Dj mX9_makes 18 (.if_icmp .lt 50) 3 21 (50) 68 := ⟨by decide +kernel, rfl, by decide⟩
theorem dX9_makes_21 : Dc mX9_makes 21 (.aload_n 0) 1 22 := ⟨by decide +kernel, rfl⟩
theorem dX9_makes_22 : Dc mX9_makes 22 (.getfield 33) 3 25 := ⟨by decide +kernel, rfl⟩
theorem dX9_makes_25 : Dc mX9_makes 25 (.bipush 40) 2 27 := ⟨by decide +kernel, rfl⟩
theorem dX9_makes_27 : Dc mX9_makes 27 (.aload_n 0) 1 28 := ⟨by decide +kernel, rfl⟩
theorem dX9_makes_28 : Dc mX9_makes 28 (.getfield 181) 3 31 := ⟨by decide +kernel, rfl⟩
theorem dX9_makes_31 : Dc mX9_makes 31 (.imul) 1 32 := ⟨by decide +kernel, rfl⟩
theorem dX9_makes_32 : Dc mX9_makes 32 (.iload_n 2) 1 33 := ⟨by decide +kernel, rfl⟩
theorem dX9_makes_33 : Dc mX9_makes 33 (.iadd) 1 34 := ⟨by decide +kernel, rfl⟩
theorem dX9_makes_34 : Dc mX9_makes 34 (.bipush 100) 2 36 := ⟨by decide +kernel, rfl⟩
theorem dX9_makes_36 : Dc mX9_makes 36 (.isub) 1 37 := ⟨by decide +kernel, rfl⟩
theorem dX9_makes_37 : Dc mX9_makes 37 (.iaload) 1 38 := ⟨by decide +kernel, rfl⟩
theorem dX9_makes_38 : Dc mX9_makes 38 (.bipush 13) 2 40 := ⟨by decide +kernel, rfl⟩
theorem dX9_makes_40 : Dj mX9_makes 40 (.if_icmp .ne 28) 3 43 (28) 68 := ⟨by decide +kernel, rfl, by decide⟩
theorem dX9_makes_43 : Dc mX9_makes 43 (.aload_n 0) 1 44 := ⟨by decide +kernel, rfl⟩
theorem dX9_makes_44 : Dc mX9_makes 44 (.getfield 36) 3 47 := ⟨by decide +kernel, rfl⟩
theorem dX9_makes_47 : Dc mX9_makes 47 (.bipush 40) 2 49 := ⟨by decide +kernel, rfl⟩
theorem dX9_makes_49 : Dc mX9_makes 49 (.aload_n 0) 1 50 := ⟨by decide +kernel, rfl⟩
theorem dX9_makes_50 : Dc mX9_makes 50 (.getfield 181) 3 53 := ⟨by decide +kernel, rfl⟩
theorem dX9_makes_53 : Dc mX9_makes 53 (.imul) 1 54 := ⟨by decide +kernel, rfl⟩
theorem dX9_makes_54 : Dc mX9_makes 54 (.iload_n 2) 1 55 := ⟨by decide +kernel, rfl⟩
theorem dX9_makes_55 : Dc mX9_makes 55 (.iadd) 1 56 := ⟨by decide +kernel, rfl⟩
theorem dX9_makes_56 : Dc mX9_makes 56 (.bipush 100) 2 58 := ⟨by decide +kernel, rfl⟩
theorem dX9_makes_58 : Dc mX9_makes 58 (.isub) 1 59 := ⟨by decide +kernel, rfl⟩
theorem dX9_makes_59 : Dc mX9_makes 59 (.iaload) 1 60 := ⟨by decide +kernel, rfl⟩
theorem dX9_makes_60 : Dc mX9_makes 60 (.iload_n 1) 1 61 := ⟨by decide +kernel, rfl⟩
theorem dX9_makes_61 : Dj mX9_makes 61 (.if_icmp .ne 7) 3 64 (7) 68 := ⟨by decide +kernel, rfl, by decide⟩
theorem dX9_makes_64 : Dc mX9_makes 64 (.iconst 1) 1 65 := ⟨by decide +kernel, rfl⟩
theorem dX9_makes_65 : Dj mX9_makes 65 (.goto 4) 3 68 (4) 69 := ⟨by decide +kernel, rfl, by decide⟩
theorem dX9_makes_68 : Dc mX9_makes 68 (.iconst 0) 1 69 := ⟨by decide +kernel, rfl⟩
theorem dX9_makes_69 : Dc mX9_makes 69 (.istore_n 3) 1 70 := ⟨by decide +kernel, rfl⟩
theorem dX9_makes_70 : Dc mX9_makes 70 (.aload_n 0) 1 71 := ⟨by decide +kernel, rfl⟩
theorem dX9_makes_71 : Dc mX9_makes 71 (.iload_n 3) 1 72 := ⟨by decide +kernel, rfl⟩
theorem dX9_makes_72 : Dc mX9_makes 72 (.invokevirtual 177) 3 75 := ⟨by decide +kernel, rfl⟩
theorem dX9_makes_75 : Dj mX9_makes 75 (.ifCond .ne 5) 3 78 (5) 80 := ⟨by decide +kernel, rfl, by decide⟩
theorem dX9_makes_78 : Dc mX9_makes 78 (.iconst 0) 1 79 := ⟨by decide +kernel, rfl⟩
theorem dX9_makes_79 : Dc mX9_makes 79 (.ireturn) 1 80 := ⟨by decide +kernel, rfl⟩
theorem dX9_makes_80 : Dc mX9_makes 80 (.iconst 0) 1 81 := ⟨by decide +kernel, rfl⟩
theorem dX9_makes_81 : Dc mX9_makes 81 (.istore 4) 2 83 := ⟨by decide +kernel, rfl⟩
theorem dX9_makes_83 : Dc mX9_makes 83 (.iload 4) 2 85 := ⟨by decide +kernel, rfl⟩
theorem dX9_makes_85 : Dc mX9_makes 85 (.bipush 8) 2 87 := ⟨by decide +kernel, rfl⟩
theorem dX9_makes_87 : Dj mX9_makes 87 (.if_icmp .ge 41) 3 90 (41) 128 := ⟨by decide +kernel, rfl, by decide⟩
theorem dX9_makes_90 : Dc mX9_makes 90 (.aload_n 0) 1 91 := ⟨by decide +kernel, rfl⟩
theorem dX9_makes_91 : Dc mX9_makes 91 (.getfield 84) 3 94 := ⟨by decide +kernel, rfl⟩
theorem dX9_makes_94 : Dc mX9_makes 94 (.iload 4) 2 96 := ⟨by decide +kernel, rfl⟩
theorem dX9_makes_96 : Dc mX9_makes 96 (.aload_n 0) 1 97 := ⟨by decide +kernel, rfl⟩
theorem dX9_makes_97 : Dc mX9_makes 97 (.getfield 84) 3 100 := ⟨by decide +kernel, rfl⟩
theorem dX9_makes_100 : Dc mX9_makes 100 (.iload 4) 2 102 := ⟨by decide +kernel, rfl⟩
theorem dX9_makes_102 : Dc mX9_makes 102 (.iaload) 1 103 := ⟨by decide +kernel, rfl⟩
theorem dX9_makes_103 : Dc mX9_makes 103 (.iload_n 2) 1 104 := ⟨by decide +kernel, rfl⟩
theorem dX9_makes_104 : Dj mX9_makes 104 (.if_icmp .ne 10) 3 107 (10) 114 := ⟨by decide +kernel, rfl, by decide⟩
theorem dX9_makes_107 : Dc mX9_makes 107 (.bipush 10) 2 109 := ⟨by decide +kernel, rfl⟩
theorem dX9_makes_109 : Dc mX9_makes 109 (.iload_n 1) 1 110 := ⟨by decide +kernel, rfl⟩
theorem dX9_makes_110 : Dc mX9_makes 110 (.iadd) 1 111 := ⟨by decide +kernel, rfl⟩
theorem dX9_makes_111 : Dj mX9_makes 111 (.goto 10) 3 114 (10) 121 := ⟨by decide +kernel, rfl, by decide⟩
theorem dX9_makes_114 : Dc mX9_makes 114 (.aload_n 0) 1 115 := ⟨by decide +kernel, rfl⟩
theorem dX9_makes_115 : Dc mX9_makes 115 (.getfield 84) 3 118 := ⟨by decide +kernel, rfl⟩
theorem dX9_makes_118 : Dc mX9_makes 118 (.iload 4) 2 120 := ⟨by decide +kernel, rfl⟩
theorem dX9_makes_120 : Dc mX9_makes 120 (.iaload) 1 121 := ⟨by decide +kernel, rfl⟩
theorem dX9_makes_121 : Dc mX9_makes 121 (.iastore) 1 122 := ⟨by decide +kernel, rfl⟩
theorem dX9_makes_122 : Dc mX9_makes 122 (.iinc 4 1) 3 125 := ⟨by decide +kernel, rfl⟩
theorem dX9_makes_125 : Dj mX9_makes 125 (.goto (-42)) 3 128 (-42) 83 := ⟨by decide +kernel, rfl, by decide⟩
theorem dX9_makes_128 : Dc mX9_makes 128 (.iconst 0) 1 129 := ⟨by decide +kernel, rfl⟩
theorem dX9_makes_129 : Dc mX9_makes 129 (.istore 4) 2 131 := ⟨by decide +kernel, rfl⟩
theorem dX9_makes_131 : Dc mX9_makes 131 (.iload 4) 2 133 := ⟨by decide +kernel, rfl⟩
theorem dX9_makes_133 : Dc mX9_makes 133 (.aload_n 0) 1 134 := ⟨by decide +kernel, rfl⟩
theorem dX9_makes_134 : Dc mX9_makes 134 (.getfield 148) 3 137 := ⟨by decide +kernel, rfl⟩
theorem dX9_makes_137 : Dj mX9_makes 137 (.if_icmp .ge 41) 3 140 (41) 178 := ⟨by decide +kernel, rfl, by decide⟩
theorem dX9_makes_140 : Dc mX9_makes 140 (.aload_n 0) 1 141 := ⟨by decide +kernel, rfl⟩
theorem dX9_makes_141 : Dc mX9_makes 141 (.getfield 87) 3 144 := ⟨by decide +kernel, rfl⟩
theorem dX9_makes_144 : Dc mX9_makes 144 (.iload 4) 2 146 := ⟨by decide +kernel, rfl⟩
theorem dX9_makes_146 : Dc mX9_makes 146 (.aload_n 0) 1 147 := ⟨by decide +kernel, rfl⟩
theorem dX9_makes_147 : Dc mX9_makes 147 (.getfield 87) 3 150 := ⟨by decide +kernel, rfl⟩
theorem dX9_makes_150 : Dc mX9_makes 150 (.iload 4) 2 152 := ⟨by decide +kernel, rfl⟩
theorem dX9_makes_152 : Dc mX9_makes 152 (.iaload) 1 153 := ⟨by decide +kernel, rfl⟩
theorem dX9_makes_153 : Dc mX9_makes 153 (.iload_n 2) 1 154 := ⟨by decide +kernel, rfl⟩
theorem dX9_makes_154 : Dj mX9_makes 154 (.if_icmp .ne 10) 3 157 (10) 164 := ⟨by decide +kernel, rfl, by decide⟩
theorem dX9_makes_157 : Dc mX9_makes 157 (.bipush 10) 2 159 := ⟨by decide +kernel, rfl⟩
theorem dX9_makes_159 : Dc mX9_makes 159 (.iload_n 1) 1 160 := ⟨by decide +kernel, rfl⟩
theorem dX9_makes_160 : Dc mX9_makes 160 (.iadd) 1 161 := ⟨by decide +kernel, rfl⟩
theorem dX9_makes_161 : Dj mX9_makes 161 (.goto 10) 3 164 (10) 171 := ⟨by decide +kernel, rfl, by decide⟩
theorem dX9_makes_164 : Dc mX9_makes 164 (.aload_n 0) 1 165 := ⟨by decide +kernel, rfl⟩
theorem dX9_makes_165 : Dc mX9_makes 165 (.getfield 87) 3 168 := ⟨by decide +kernel, rfl⟩
theorem dX9_makes_168 : Dc mX9_makes 168 (.iload 4) 2 170 := ⟨by decide +kernel, rfl⟩
theorem dX9_makes_170 : Dc mX9_makes 170 (.iaload) 1 171 := ⟨by decide +kernel, rfl⟩
theorem dX9_makes_171 : Dc mX9_makes 171 (.iastore) 1 172 := ⟨by decide +kernel, rfl⟩
theorem dX9_makes_172 : Dc mX9_makes 172 (.iinc 4 1) 3 175 := ⟨by decide +kernel, rfl⟩
theorem dX9_makes_175 : Dj mX9_makes 175 (.goto (-44)) 3 178 (-44) 131 := ⟨by decide +kernel, rfl, by decide⟩
theorem dX9_makes_178 : Dc mX9_makes 178 (.iconst 1) 1 179 := ⟨by decide +kernel, rfl⟩
theorem dX9_makes_179 : Dc mX9_makes 179 (.ireturn) 1 180 := ⟨by decide +kernel, rfl⟩
theorem dX9_reads_0 : Dc mX9_reads 0 (.aload_n 0) 1 1 := ⟨by decide +kernel, rfl⟩
theorem dX9_reads_1 : Dc mX9_reads 1 (.iconst 1) 1 2 := ⟨by decide +kernel, rfl⟩
theorem dX9_reads_2 : Dc mX9_reads 2 (.invokevirtual 163) 3 5 := ⟨by decide +kernel, rfl⟩
theorem dX9_reads_5 : Dj mX9_reads 5 (.ifCond .eq 11) 3 8 (11) 16 := ⟨by decide +kernel, rfl, by decide⟩
theorem dX9_reads_8 : Dc mX9_reads 8 (.aload_n 0) 1 9 := ⟨by decide +kernel, rfl⟩
theorem dX9_reads_9 : Dc mX9_reads 9 (.iconst 1) 1 10 := ⟨by decide +kernel, rfl⟩
theorem dX9_reads_10 : Dc mX9_reads 10 (.invokevirtual 154) 3 13 := ⟨by decide +kernel, rfl⟩
theorem dX9_reads_13 : Dj mX9_reads 13 (.ifCond .ne 5) 3 16 (5) 18 := ⟨by decide +kernel, rfl, by decide⟩
theorem dX9_reads_16 : Dc mX9_reads 16 (.iconst 0) 1 17 := ⟨by decide +kernel, rfl⟩
theorem dX9_reads_17 : Dc mX9_reads 17 (.ireturn) 1 18 := ⟨by decide +kernel, rfl⟩
theorem dX9_reads_18 : Dc mX9_reads 18 (.aload_n 0) 1 19 := ⟨by decide +kernel, rfl⟩
theorem dX9_reads_19 : Dc mX9_reads 19 (.invokevirtual 173) 3 22 := ⟨by decide +kernel, rfl⟩
theorem dX9_reads_22 : Dc mX9_reads 22 (.istore_n 1) 1 23 := ⟨by decide +kernel, rfl⟩
theorem dX9_reads_23 : Dc mX9_reads 23 (.aload_n 0) 1 24 := ⟨by decide +kernel, rfl⟩
theorem dX9_reads_24 : Dc mX9_reads 24 (.iload_n 1) 1 25 := ⟨by decide +kernel, rfl⟩
theorem dX9_reads_25 : Dc mX9_reads 25 (.iconst 5) 1 26 := ⟨by decide +kernel, rfl⟩
theorem dX9_reads_26 : Dj mX9_reads 26 (.if_icmp .eq 16) 3 29 (16) 42 := ⟨by decide +kernel, rfl, by decide⟩
theorem dX9_reads_29 : Dc mX9_reads 29 (.iload_n 1) 1 30 := ⟨by decide +kernel, rfl⟩
theorem dX9_reads_30 : Dc mX9_reads 30 (.iconst 4) 1 31 := ⟨by decide +kernel, rfl⟩
theorem dX9_reads_31 : Dj mX9_reads 31 (.if_icmp .eq 11) 3 34 (11) 42 := ⟨by decide +kernel, rfl, by decide⟩
theorem dX9_reads_34 : Dc mX9_reads 34 (.aload_n 0) 1 35 := ⟨by decide +kernel, rfl⟩
theorem dX9_reads_35 : Dc mX9_reads 35 (.iload_n 1) 1 36 := ⟨by decide +kernel, rfl⟩
theorem dX9_reads_36 : Dc mX9_reads 36 (.invokevirtual 120) 3 39 := ⟨by decide +kernel, rfl⟩
theorem dX9_reads_39 : Dj mX9_reads 39 (.ifCond .eq 7) 3 42 (7) 46 := ⟨by decide +kernel, rfl, by decide⟩
theorem dX9_reads_42 : Dc mX9_reads 42 (.iconst 1) 1 43 := ⟨by decide +kernel, rfl⟩
theorem dX9_reads_43 : Dj mX9_reads 43 (.goto 4) 3 46 (4) 47 := ⟨by decide +kernel, rfl, by decide⟩
theorem dX9_reads_46 : Dc mX9_reads 46 (.iconst 0) 1 47 := ⟨by decide +kernel, rfl⟩
theorem dX9_reads_47 : Dc mX9_reads 47 (.invokevirtual 177) 3 50 := ⟨by decide +kernel, rfl⟩
theorem dX9_reads_50 : Dj mX9_reads 50 (.ifCond .ne 5) 3 53 (5) 55 := ⟨by decide +kernel, rfl, by decide⟩
theorem dX9_reads_53 : Dc mX9_reads 53 (.iconst 0) 1 54 := ⟨by decide +kernel, rfl⟩
theorem dX9_reads_54 : Dc mX9_reads 54 (.ireturn) 1 55 := ⟨by decide +kernel, rfl⟩
theorem dX9_reads_55 : Dc mX9_reads 55 (.aload_n 0) 1 56 := ⟨by decide +kernel, rfl⟩
theorem dX9_reads_56 : Dc mX9_reads 56 (.iload_n 1) 1 57 := ⟨by decide +kernel, rfl⟩
theorem dX9_reads_57 : Dc mX9_reads 57 (.iconst 5) 1 58 := ⟨by decide +kernel, rfl⟩
theorem dX9_reads_58 : Dj mX9_reads 58 (.if_icmp .ne 7) 3 61 (7) 65 := ⟨by decide +kernel, rfl, by decide⟩
theorem dX9_reads_61 : Dc mX9_reads 61 (.iconst 1) 1 62 := ⟨by decide +kernel, rfl⟩
theorem dX9_reads_62 : Dj mX9_reads 62 (.goto 19) 3 65 (19) 81 := ⟨by decide +kernel, rfl, by decide⟩
theorem dX9_reads_65 : Dc mX9_reads 65 (.iload_n 1) 1 66 := ⟨by decide +kernel, rfl⟩
theorem dX9_reads_66 : Dc mX9_reads 66 (.iconst 4) 1 67 := ⟨by decide +kernel, rfl⟩
theorem dX9_reads_67 : Dj mX9_reads 67 (.if_icmp .ne 7) 3 70 (7) 74 := ⟨by decide +kernel, rfl, by decide⟩
theorem dX9_reads_70 : Dc mX9_reads 70 (.iconst 4) 1 71 := ⟨by decide +kernel, rfl⟩
theorem dX9_reads_71 : Dj mX9_reads 71 (.goto 10) 3 74 (10) 81 := ⟨by decide +kernel, rfl, by decide⟩
theorem dX9_reads_74 : Dc mX9_reads 74 (.bipush 10) 2 76 := ⟨by decide +kernel, rfl⟩
theorem dX9_reads_76 : Dc mX9_reads 76 (.iload_n 1) 1 77 := ⟨by decide +kernel, rfl⟩
theorem dX9_reads_77 : Dc mX9_reads 77 (.iadd) 1 78 := ⟨by decide +kernel, rfl⟩
theorem dX9_reads_78 : Dc mX9_reads 78 (.bipush 40) 2 80 := ⟨by decide +kernel, rfl⟩
theorem dX9_reads_80 : Dc mX9_reads 80 (.isub) 1 81 := ⟨by decide +kernel, rfl⟩
theorem dX9_reads_81 : Dc mX9_reads 81 (.invokevirtual 160) 3 84 := ⟨by decide +kernel, rfl⟩
theorem dX9_reads_84 : Dc mX9_reads 84 (.ireturn) 1 85 := ⟨by decide +kernel, rfl⟩
theorem dX9_writes_0 : Dc mX9_writes 0 (.aload_n 0) 1 1 := ⟨by decide +kernel, rfl⟩
theorem dX9_writes_1 : Dc mX9_writes 1 (.iconst 1) 1 2 := ⟨by decide +kernel, rfl⟩
theorem dX9_writes_2 : Dc mX9_writes 2 (.invokevirtual 154) 3 5 := ⟨by decide +kernel, rfl⟩
theorem dX9_writes_5 : Dj mX9_writes 5 (.ifCond .ne 5) 3 8 (5) 10 := ⟨by decide +kernel, rfl, by decide⟩
theorem dX9_writes_8 : Dc mX9_writes 8 (.iconst 0) 1 9 := ⟨by decide +kernel, rfl⟩
theorem dX9_writes_9 : Dc mX9_writes 9 (.ireturn) 1 10 := ⟨by decide +kernel, rfl⟩
theorem dX9_writes_10 : Dc mX9_writes 10 (.aload_n 0) 1 11 := ⟨by decide +kernel, rfl⟩
theorem dX9_writes_11 : Dc mX9_writes 11 (.invokevirtual 173) 3 14 := ⟨by decide +kernel, rfl⟩
theorem dX9_writes_14 : Dc mX9_writes 14 (.istore_n 1) 1 15 := ⟨by decide +kernel, rfl⟩
theorem dX9_writes_15 : Dc mX9_writes 15 (.aload_n 0) 1 16 := ⟨by decide +kernel, rfl⟩
theorem dX9_writes_16 : Dc mX9_writes 16 (.iload_n 1) 1 17 := ⟨by decide +kernel, rfl⟩
theorem dX9_writes_17 : Dc mX9_writes 17 (.iconst 1) 1 18 := ⟨by decide +kernel, rfl⟩
theorem dX9_writes_18 : Dj mX9_writes 18 (.if_icmp .eq 10) 3 21 (10) 28 := ⟨by decide +kernel, rfl, by decide⟩
theorem dX9_writes_21 : Dc mX9_writes 21 (.iload_n 1) 1 22 := ⟨by decide +kernel, rfl⟩
theorem dX9_writes_22 : Dc mX9_writes 22 (.invokestatic 114) 3 25 := ⟨by decide +kernel, rfl⟩
theorem dX9_writes_25 : Dj mX9_writes 25 (.ifCond .eq 7) 3 28 (7) 32 := ⟨by decide +kernel, rfl, by decide⟩
theorem dX9_writes_28 : Dc mX9_writes 28 (.iconst 1) 1 29 := ⟨by decide +kernel, rfl⟩
theorem dX9_writes_29 : Dj mX9_writes 29 (.goto 4) 3 32 (4) 33 := ⟨by decide +kernel, rfl, by decide⟩
theorem dX9_writes_32 : Dc mX9_writes 32 (.iconst 0) 1 33 := ⟨by decide +kernel, rfl⟩
theorem dX9_writes_33 : Dc mX9_writes 33 (.invokevirtual 177) 3 36 := ⟨by decide +kernel, rfl⟩
theorem dX9_writes_36 : Dj mX9_writes 36 (.ifCond .eq 19) 3 39 (19) 55 := ⟨by decide +kernel, rfl, by decide⟩
theorem dX9_writes_39 : Dc mX9_writes 39 (.aload_n 0) 1 40 := ⟨by decide +kernel, rfl⟩
theorem dX9_writes_40 : Dc mX9_writes 40 (.iconst 1) 1 41 := ⟨by decide +kernel, rfl⟩
theorem dX9_writes_41 : Dc mX9_writes 41 (.invokevirtual 163) 3 44 := ⟨by decide +kernel, rfl⟩
theorem dX9_writes_44 : Dj mX9_writes 44 (.ifCond .eq 11) 3 47 (11) 55 := ⟨by decide +kernel, rfl, by decide⟩
theorem dX9_writes_47 : Dc mX9_writes 47 (.aload_n 0) 1 48 := ⟨by decide +kernel, rfl⟩
theorem dX9_writes_48 : Dc mX9_writes 48 (.iconst 1) 1 49 := ⟨by decide +kernel, rfl⟩
theorem dX9_writes_49 : Dc mX9_writes 49 (.invokevirtual 154) 3 52 := ⟨by decide +kernel, rfl⟩
theorem dX9_writes_52 : Dj mX9_writes 52 (.ifCond .ne 5) 3 55 (5) 57 := ⟨by decide +kernel, rfl, by decide⟩
theorem dX9_writes_55 : Dc mX9_writes 55 (.iconst 0) 1 56 := ⟨by decide +kernel, rfl⟩
theorem dX9_writes_56 : Dc mX9_writes 56 (.ireturn) 1 57 := ⟨by decide +kernel, rfl⟩
theorem dX9_writes_57 : Dc mX9_writes 57 (.aload_n 0) 1 58 := ⟨by decide +kernel, rfl⟩
theorem dX9_writes_58 : Dc mX9_writes 58 (.invokevirtual 173) 3 61 := ⟨by decide +kernel, rfl⟩
theorem dX9_writes_61 : Dc mX9_writes 61 (.istore_n 2) 1 62 := ⟨by decide +kernel, rfl⟩
theorem dX9_writes_62 : Dc mX9_writes 62 (.aload_n 0) 1 63 := ⟨by decide +kernel, rfl⟩
theorem dX9_writes_63 : Dc mX9_writes 63 (.iload_n 2) 1 64 := ⟨by decide +kernel, rfl⟩
theorem dX9_writes_64 : Dc mX9_writes 64 (.iconst 4) 1 65 := ⟨by decide +kernel, rfl⟩
theorem dX9_writes_65 : Dj mX9_writes 65 (.if_icmp .eq 24) 3 68 (24) 89 := ⟨by decide +kernel, rfl, by decide⟩
theorem dX9_writes_68 : Dc mX9_writes 68 (.iload_n 1) 1 69 := ⟨by decide +kernel, rfl⟩
theorem dX9_writes_69 : Dc mX9_writes 69 (.iconst 1) 1 70 := ⟨by decide +kernel, rfl⟩
theorem dX9_writes_70 : Dj mX9_writes 70 (.if_icmp .ne 11) 3 73 (11) 81 := ⟨by decide +kernel, rfl, by decide⟩
theorem dX9_writes_73 : Dc mX9_writes 73 (.iload_n 2) 1 74 := ⟨by decide +kernel, rfl⟩
theorem dX9_writes_74 : Dc mX9_writes 74 (.iconst 5) 1 75 := ⟨by decide +kernel, rfl⟩
theorem dX9_writes_75 : Dj mX9_writes 75 (.if_icmp .ne 18) 3 78 (18) 93 := ⟨by decide +kernel, rfl, by decide⟩
theorem dX9_writes_78 : Dj mX9_writes 78 (.goto 11) 3 81 (11) 89 := ⟨by decide +kernel, rfl, by decide⟩
theorem dX9_writes_81 : Dc mX9_writes 81 (.aload_n 0) 1 82 := ⟨by decide +kernel, rfl⟩
theorem dX9_writes_82 : Dc mX9_writes 82 (.iload_n 2) 1 83 := ⟨by decide +kernel, rfl⟩
theorem dX9_writes_83 : Dc mX9_writes 83 (.invokevirtual 120) 3 86 := ⟨by decide +kernel, rfl⟩
theorem dX9_writes_86 : Dj mX9_writes 86 (.ifCond .eq 7) 3 89 (7) 93 := ⟨by decide +kernel, rfl, by decide⟩
theorem dX9_writes_89 : Dc mX9_writes 89 (.iconst 1) 1 90 := ⟨by decide +kernel, rfl⟩
theorem dX9_writes_90 : Dj mX9_writes 90 (.goto 4) 3 93 (4) 94 := ⟨by decide +kernel, rfl, by decide⟩
theorem dX9_writes_93 : Dc mX9_writes 93 (.iconst 0) 1 94 := ⟨by decide +kernel, rfl⟩
theorem dX9_writes_94 : Dc mX9_writes 94 (.invokevirtual 177) 3 97 := ⟨by decide +kernel, rfl⟩
theorem dX9_writes_97 : Dc mX9_writes 97 (.ireturn) 1 98 := ⟨by decide +kernel, rfl⟩
theorem dX9_does_0 : Dc mX9_does 0 (.iload_n 1) 1 1 := ⟨by decide +kernel, rfl⟩
theorem dX9_does_1 : decode mX9_does.2.1 1 = .ok (.tableswitch 435 8 25 #[87, 117, 147, 169, 175, 177, 189, 230, 236, 265, 271, 310, 344, 349, 354, 361, 395, 429], 87) := by decide +kernel
theorem dX9_does_88 : Dc mX9_does 88 (.aload_n 0) 1 89 := ⟨by decide +kernel, rfl⟩
theorem dX9_does_89 : Dc mX9_does 89 (.iconst 1) 1 90 := ⟨by decide +kernel, rfl⟩
theorem dX9_does_90 : Dc mX9_does 90 (.invokevirtual 163) 3 93 := ⟨by decide +kernel, rfl⟩
theorem dX9_does_93 : Dj mX9_does 93 (.ifCond .eq 23) 3 96 (23) 116 := ⟨by decide +kernel, rfl, by decide⟩
theorem dX9_does_96 : Dc mX9_does 96 (.aload_n 0) 1 97 := ⟨by decide +kernel, rfl⟩
theorem dX9_does_97 : Dc mX9_does 97 (.iconst 1) 1 98 := ⟨by decide +kernel, rfl⟩
theorem dX9_does_98 : Dc mX9_does 98 (.invokevirtual 163) 3 101 := ⟨by decide +kernel, rfl⟩
theorem dX9_does_101 : Dj mX9_does 101 (.ifCond .eq 15) 3 104 (15) 116 := ⟨by decide +kernel, rfl, by decide⟩
theorem dX9_does_104 : Dc mX9_does 104 (.aload_n 0) 1 105 := ⟨by decide +kernel, rfl⟩
theorem dX9_does_105 : Dc mX9_does 105 (.iconst 1) 1 106 := ⟨by decide +kernel, rfl⟩
theorem dX9_does_106 : Dc mX9_does 106 (.invokevirtual 160) 3 109 := ⟨by decide +kernel, rfl⟩
theorem dX9_does_109 : Dj mX9_does 109 (.ifCond .eq 7) 3 112 (7) 116 := ⟨by decide +kernel, rfl, by decide⟩
theorem dX9_does_112 : Dc mX9_does 112 (.iconst 1) 1 113 := ⟨by decide +kernel, rfl⟩
theorem dX9_does_113 : Dj mX9_does 113 (.goto 4) 3 116 (4) 117 := ⟨by decide +kernel, rfl, by decide⟩
theorem dX9_does_116 : Dc mX9_does 116 (.iconst 0) 1 117 := ⟨by decide +kernel, rfl⟩
theorem dX9_does_117 : Dc mX9_does 117 (.ireturn) 1 118 := ⟨by decide +kernel, rfl⟩
theorem dX9_does_118 : Dc mX9_does 118 (.aload_n 0) 1 119 := ⟨by decide +kernel, rfl⟩
theorem dX9_does_119 : Dc mX9_does 119 (.iconst 2) 1 120 := ⟨by decide +kernel, rfl⟩
theorem dX9_does_120 : Dc mX9_does 120 (.invokevirtual 163) 3 123 := ⟨by decide +kernel, rfl⟩
theorem dX9_does_123 : Dj mX9_does 123 (.ifCond .eq 23) 3 126 (23) 146 := ⟨by decide +kernel, rfl, by decide⟩
theorem dX9_does_126 : Dc mX9_does 126 (.aload_n 0) 1 127 := ⟨by decide +kernel, rfl⟩
theorem dX9_does_127 : Dc mX9_does 127 (.iconst 2) 1 128 := ⟨by decide +kernel, rfl⟩
theorem dX9_does_128 : Dc mX9_does 128 (.invokevirtual 163) 3 131 := ⟨by decide +kernel, rfl⟩
theorem dX9_does_131 : Dj mX9_does 131 (.ifCond .eq 15) 3 134 (15) 146 := ⟨by decide +kernel, rfl, by decide⟩
theorem dX9_does_134 : Dc mX9_does 134 (.aload_n 0) 1 135 := ⟨by decide +kernel, rfl⟩
theorem dX9_does_135 : Dc mX9_does 135 (.iconst 2) 1 136 := ⟨by decide +kernel, rfl⟩
theorem dX9_does_136 : Dc mX9_does 136 (.invokevirtual 160) 3 139 := ⟨by decide +kernel, rfl⟩
theorem dX9_does_139 : Dj mX9_does 139 (.ifCond .eq 7) 3 142 (7) 146 := ⟨by decide +kernel, rfl, by decide⟩
theorem dX9_does_142 : Dc mX9_does 142 (.iconst 1) 1 143 := ⟨by decide +kernel, rfl⟩
theorem dX9_does_143 : Dj mX9_does 143 (.goto 4) 3 146 (4) 147 := ⟨by decide +kernel, rfl, by decide⟩
theorem dX9_does_146 : Dc mX9_does 146 (.iconst 0) 1 147 := ⟨by decide +kernel, rfl⟩
theorem dX9_does_147 : Dc mX9_does 147 (.ireturn) 1 148 := ⟨by decide +kernel, rfl⟩
theorem dX9_does_148 : Dc mX9_does 148 (.aload_n 0) 1 149 := ⟨by decide +kernel, rfl⟩
theorem dX9_does_149 : Dc mX9_does 149 (.iconst 1) 1 150 := ⟨by decide +kernel, rfl⟩
theorem dX9_does_150 : Dc mX9_does 150 (.invokevirtual 163) 3 153 := ⟨by decide +kernel, rfl⟩
theorem dX9_does_153 : Dj mX9_does 153 (.ifCond .eq 15) 3 156 (15) 168 := ⟨by decide +kernel, rfl, by decide⟩
theorem dX9_does_156 : Dc mX9_does 156 (.aload_n 0) 1 157 := ⟨by decide +kernel, rfl⟩
theorem dX9_does_157 : Dc mX9_does 157 (.iconst 2) 1 158 := ⟨by decide +kernel, rfl⟩
theorem dX9_does_158 : Dc mX9_does 158 (.invokevirtual 160) 3 161 := ⟨by decide +kernel, rfl⟩
theorem dX9_does_161 : Dj mX9_does 161 (.ifCond .eq 7) 3 164 (7) 168 := ⟨by decide +kernel, rfl, by decide⟩
theorem dX9_does_164 : Dc mX9_does 164 (.iconst 1) 1 165 := ⟨by decide +kernel, rfl⟩
theorem dX9_does_165 : Dj mX9_does 165 (.goto 4) 3 168 (4) 169 := ⟨by decide +kernel, rfl, by decide⟩
theorem dX9_does_168 : Dc mX9_does 168 (.iconst 0) 1 169 := ⟨by decide +kernel, rfl⟩
theorem dX9_does_169 : Dc mX9_does 169 (.ireturn) 1 170 := ⟨by decide +kernel, rfl⟩
theorem dX9_does_170 : Dc mX9_does 170 (.aload_n 0) 1 171 := ⟨by decide +kernel, rfl⟩
theorem dX9_does_171 : Dc mX9_does 171 (.iconst 1) 1 172 := ⟨by decide +kernel, rfl⟩
theorem dX9_does_172 : Dc mX9_does 172 (.invokevirtual 163) 3 175 := ⟨by decide +kernel, rfl⟩
theorem dX9_does_175 : Dc mX9_does 175 (.ireturn) 1 176 := ⟨by decide +kernel, rfl⟩
theorem dX9_does_176 : Dc mX9_does 176 (.iconst 1) 1 177 := ⟨by decide +kernel, rfl⟩
theorem dX9_does_177 : Dc mX9_does 177 (.ireturn) 1 178 := ⟨by decide +kernel, rfl⟩
theorem dX9_does_178 : Dc mX9_does 178 (.aload_n 0) 1 179 := ⟨by decide +kernel, rfl⟩
theorem dX9_does_179 : Dc mX9_does 179 (.bipush 100) 2 181 := ⟨by decide +kernel, rfl⟩
theorem dX9_does_181 : Dc mX9_does 181 (.aload_n 0) 1 182 := ⟨by decide +kernel, rfl⟩
theorem dX9_does_182 : Dc mX9_does 182 (.getfield 184) 3 185 := ⟨by decide +kernel, rfl⟩
theorem dX9_does_185 : Dc mX9_does 185 (.iadd) 1 186 := ⟨by decide +kernel, rfl⟩
theorem dX9_does_186 : Dc mX9_does 186 (.invokevirtual 160) 3 189 := ⟨by decide +kernel, rfl⟩
theorem dX9_does_189 : Dc mX9_does 189 (.ireturn) 1 190 := ⟨by decide +kernel, rfl⟩
theorem dX9_does_190 : Dc mX9_does 190 (.aload_n 0) 1 191 := ⟨by decide +kernel, rfl⟩
theorem dX9_does_191 : Dc mX9_does 191 (.iconst 1) 1 192 := ⟨by decide +kernel, rfl⟩
theorem dX9_does_192 : Dc mX9_does 192 (.invokevirtual 154) 3 195 := ⟨by decide +kernel, rfl⟩
end
section
theorem dX9_does_195 : Dj mX9_does 195 (.ifCond .eq 34) 3 198 (34) 229 := ⟨by decide +kernel, rfl, by decide⟩
theorem dX9_does_198 : Dc mX9_does 198 (.aload_n 0) 1 199 := ⟨by decide +kernel, rfl⟩
theorem dX9_does_199 : Dc mX9_does 199 (.invokevirtual 173) 3 202 := ⟨by decide +kernel, rfl⟩
theorem dX9_does_202 : Dc mX9_does 202 (.iconst 3) 1 203 := ⟨by decide +kernel, rfl⟩
theorem dX9_does_203 : Dj mX9_does 203 (.if_icmp .ne 11) 3 206 (11) 214 := ⟨by decide +kernel, rfl, by decide⟩
theorem dX9_does_206 : Dc mX9_does 206 (.aload_n 0) 1 207 := ⟨by decide +kernel, rfl⟩
theorem dX9_does_207 : Dc mX9_does 207 (.iconst 3) 1 208 := ⟨by decide +kernel, rfl⟩
theorem dX9_does_208 : Dc mX9_does 208 (.invokevirtual 151) 3 211 := ⟨by decide +kernel, rfl⟩
theorem dX9_does_211 : Dj mX9_does 211 (.ifCond .eq 18) 3 214 (18) 229 := ⟨by decide +kernel, rfl, by decide⟩
theorem dX9_does_214 : Dc mX9_does 214 (.aload_n 0) 1 215 := ⟨by decide +kernel, rfl⟩
theorem dX9_does_215 : Dc mX9_does 215 (.aload_n 0) 1 216 := ⟨by decide +kernel, rfl⟩
theorem dX9_does_216 : Dc mX9_does 216 (.invokevirtual 173) 3 219 := ⟨by decide +kernel, rfl⟩
theorem dX9_does_219 : Dc mX9_does 219 (.invokevirtual 160) 3 222 := ⟨by decide +kernel, rfl⟩
theorem dX9_does_222 : Dj mX9_does 222 (.ifCond .eq 7) 3 225 (7) 229 := ⟨by decide +kernel, rfl, by decide⟩
theorem dX9_does_225 : Dc mX9_does 225 (.iconst 1) 1 226 := ⟨by decide +kernel, rfl⟩
theorem dX9_does_226 : Dj mX9_does 226 (.goto 4) 3 229 (4) 230 := ⟨by decide +kernel, rfl, by decide⟩
theorem dX9_does_229 : Dc mX9_does 229 (.iconst 0) 1 230 := ⟨by decide +kernel, rfl⟩
theorem dX9_does_230 : Dc mX9_does 230 (.ireturn) 1 231 := ⟨by decide +kernel, rfl⟩
theorem dX9_does_231 : Dc mX9_does 231 (.aload_n 0) 1 232 := ⟨by decide +kernel, rfl⟩
theorem dX9_does_232 : Dc mX9_does 232 (.iload_n 2) 1 233 := ⟨by decide +kernel, rfl⟩
theorem dX9_does_233 : Dc mX9_does 233 (.invokevirtual 187) 3 236 := ⟨by decide +kernel, rfl⟩
theorem dX9_does_236 : Dc mX9_does 236 (.ireturn) 1 237 := ⟨by decide +kernel, rfl⟩
theorem dX9_does_237 : Dc mX9_does 237 (.aload_n 0) 1 238 := ⟨by decide +kernel, rfl⟩
theorem dX9_does_238 : Dc mX9_does 238 (.bipush 10) 2 240 := ⟨by decide +kernel, rfl⟩
theorem dX9_does_240 : Dc mX9_does 240 (.iload_n 2) 1 241 := ⟨by decide +kernel, rfl⟩
theorem dX9_does_241 : Dc mX9_does 241 (.iadd) 1 242 := ⟨by decide +kernel, rfl⟩
theorem dX9_does_242 : Dc mX9_does 242 (.invokevirtual 163) 3 245 := ⟨by decide +kernel, rfl⟩
theorem dX9_does_245 : Dj mX9_does 245 (.ifCond .eq 19) 3 248 (19) 264 := ⟨by decide +kernel, rfl, by decide⟩
theorem dX9_does_248 : Dc mX9_does 248 (.iload_n 3) 1 249 := ⟨by decide +kernel, rfl⟩
theorem dX9_does_249 : Dj mX9_does 249 (.ifCond .eq 11) 3 252 (11) 260 := ⟨by decide +kernel, rfl, by decide⟩
theorem dX9_does_252 : Dc mX9_does 252 (.aload_n 0) 1 253 := ⟨by decide +kernel, rfl⟩
theorem dX9_does_253 : Dc mX9_does 253 (.iload_n 3) 1 254 := ⟨by decide +kernel, rfl⟩
theorem dX9_does_254 : Dc mX9_does 254 (.invokevirtual 160) 3 257 := ⟨by decide +kernel, rfl⟩
theorem dX9_does_257 : Dj mX9_does 257 (.ifCond .eq 7) 3 260 (7) 264 := ⟨by decide +kernel, rfl, by decide⟩
theorem dX9_does_260 : Dc mX9_does 260 (.iconst 1) 1 261 := ⟨by decide +kernel, rfl⟩
theorem dX9_does_261 : Dj mX9_does 261 (.goto 4) 3 264 (4) 265 := ⟨by decide +kernel, rfl, by decide⟩
theorem dX9_does_264 : Dc mX9_does 264 (.iconst 0) 1 265 := ⟨by decide +kernel, rfl⟩
theorem dX9_does_265 : Dc mX9_does 265 (.ireturn) 1 266 := ⟨by decide +kernel, rfl⟩
theorem dX9_does_266 : Dc mX9_does 266 (.aload_n 0) 1 267 := ⟨by decide +kernel, rfl⟩
theorem dX9_does_267 : Dc mX9_does 267 (.iconst 4) 1 268 := ⟨by decide +kernel, rfl⟩
theorem dX9_does_268 : Dc mX9_does 268 (.invokevirtual 160) 3 271 := ⟨by decide +kernel, rfl⟩
theorem dX9_does_271 : Dc mX9_does 271 (.ireturn) 1 272 := ⟨by decide +kernel, rfl⟩
theorem dX9_does_272 : Dc mX9_does 272 (.aload_n 0) 1 273 := ⟨by decide +kernel, rfl⟩
theorem dX9_does_273 : Dc mX9_does 273 (.iconst 1) 1 274 := ⟨by decide +kernel, rfl⟩
theorem dX9_does_274 : Dc mX9_does 274 (.invokevirtual 154) 3 277 := ⟨by decide +kernel, rfl⟩
theorem dX9_does_277 : Dj mX9_does 277 (.ifCond .eq 32) 3 280 (32) 309 := ⟨by decide +kernel, rfl, by decide⟩
theorem dX9_does_280 : Dc mX9_does 280 (.aload_n 0) 1 281 := ⟨by decide +kernel, rfl⟩
theorem dX9_does_281 : Dc mX9_does 281 (.aload_n 0) 1 282 := ⟨by decide +kernel, rfl⟩
theorem dX9_does_282 : Dc mX9_does 282 (.invokevirtual 173) 3 285 := ⟨by decide +kernel, rfl⟩
theorem dX9_does_285 : Dc mX9_does 285 (.invokestatic 114) 3 288 := ⟨by decide +kernel, rfl⟩
theorem dX9_does_288 : Dc mX9_does 288 (.invokevirtual 177) 3 291 := ⟨by decide +kernel, rfl⟩
theorem dX9_does_291 : Dj mX9_does 291 (.ifCond .eq 18) 3 294 (18) 309 := ⟨by decide +kernel, rfl, by decide⟩
theorem dX9_does_294 : Dc mX9_does 294 (.aload_n 0) 1 295 := ⟨by decide +kernel, rfl⟩
theorem dX9_does_295 : Dc mX9_does 295 (.bipush 10) 2 297 := ⟨by decide +kernel, rfl⟩
theorem dX9_does_297 : Dc mX9_does 297 (.iload_n 2) 1 298 := ⟨by decide +kernel, rfl⟩
theorem dX9_does_298 : Dc mX9_does 298 (.iadd) 1 299 := ⟨by decide +kernel, rfl⟩
theorem dX9_does_299 : Dc mX9_does 299 (.invokevirtual 160) 3 302 := ⟨by decide +kernel, rfl⟩
theorem dX9_does_302 : Dj mX9_does 302 (.ifCond .eq 7) 3 305 (7) 309 := ⟨by decide +kernel, rfl, by decide⟩
theorem dX9_does_305 : Dc mX9_does 305 (.iconst 1) 1 306 := ⟨by decide +kernel, rfl⟩
theorem dX9_does_306 : Dj mX9_does 306 (.goto 4) 3 309 (4) 310 := ⟨by decide +kernel, rfl, by decide⟩
theorem dX9_does_309 : Dc mX9_does 309 (.iconst 0) 1 310 := ⟨by decide +kernel, rfl⟩
theorem dX9_does_310 : Dc mX9_does 310 (.ireturn) 1 311 := ⟨by decide +kernel, rfl⟩
theorem dX9_does_311 : Dc mX9_does 311 (.aload_n 0) 1 312 := ⟨by decide +kernel, rfl⟩
theorem dX9_does_312 : Dc mX9_does 312 (.iconst 1) 1 313 := ⟨by decide +kernel, rfl⟩
theorem dX9_does_313 : Dc mX9_does 313 (.invokevirtual 163) 3 316 := ⟨by decide +kernel, rfl⟩
theorem dX9_does_316 : Dj mX9_does 316 (.ifCond .eq 27) 3 319 (27) 343 := ⟨by decide +kernel, rfl, by decide⟩
theorem dX9_does_319 : Dc mX9_does 319 (.aload_n 0) 1 320 := ⟨by decide +kernel, rfl⟩
theorem dX9_does_320 : Dc mX9_does 320 (.iload_n 2) 1 321 := ⟨by decide +kernel, rfl⟩
theorem dX9_does_321 : Dc mX9_does 321 (.iconst (-1)) 1 322 := ⟨by decide +kernel, rfl⟩
theorem dX9_does_322 : Dj mX9_does 322 (.if_icmp .ne 7) 3 325 (7) 329 := ⟨by decide +kernel, rfl, by decide⟩
theorem dX9_does_325 : Dc mX9_does 325 (.iconst 5) 1 326 := ⟨by decide +kernel, rfl⟩
theorem dX9_does_326 : Dj mX9_does 326 (.goto 7) 3 329 (7) 333 := ⟨by decide +kernel, rfl, by decide⟩
theorem dX9_does_329 : Dc mX9_does 329 (.bipush 40) 2 331 := ⟨by decide +kernel, rfl⟩
theorem dX9_does_331 : Dc mX9_does 331 (.iload_n 2) 1 332 := ⟨by decide +kernel, rfl⟩
theorem dX9_does_332 : Dc mX9_does 332 (.iadd) 1 333 := ⟨by decide +kernel, rfl⟩
theorem dX9_does_333 : Dc mX9_does 333 (.invokevirtual 160) 3 336 := ⟨by decide +kernel, rfl⟩
theorem dX9_does_336 : Dj mX9_does 336 (.ifCond .eq 7) 3 339 (7) 343 := ⟨by decide +kernel, rfl, by decide⟩
theorem dX9_does_339 : Dc mX9_does 339 (.iconst 1) 1 340 := ⟨by decide +kernel, rfl⟩
theorem dX9_does_340 : Dj mX9_does 340 (.goto 4) 3 343 (4) 344 := ⟨by decide +kernel, rfl, by decide⟩
theorem dX9_does_343 : Dc mX9_does 343 (.iconst 0) 1 344 := ⟨by decide +kernel, rfl⟩
theorem dX9_does_344 : Dc mX9_does 344 (.ireturn) 1 345 := ⟨by decide +kernel, rfl⟩
theorem dX9_does_345 : Dc mX9_does 345 (.aload_n 0) 1 346 := ⟨by decide +kernel, rfl⟩
theorem dX9_does_346 : Dc mX9_does 346 (.invokevirtual 190) 3 349 := ⟨by decide +kernel, rfl⟩
theorem dX9_does_349 : Dc mX9_does 349 (.ireturn) 1 350 := ⟨by decide +kernel, rfl⟩
theorem dX9_does_350 : Dc mX9_does 350 (.aload_n 0) 1 351 := ⟨by decide +kernel, rfl⟩
theorem dX9_does_351 : Dc mX9_does 351 (.invokevirtual 194) 3 354 := ⟨by decide +kernel, rfl⟩
theorem dX9_does_354 : Dc mX9_does 354 (.ireturn) 1 355 := ⟨by decide +kernel, rfl⟩
theorem dX9_does_355 : Dc mX9_does 355 (.aload_n 0) 1 356 := ⟨by decide +kernel, rfl⟩
theorem dX9_does_356 : Dc mX9_does 356 (.bipush 11) 2 358 := ⟨by decide +kernel, rfl⟩
theorem dX9_does_358 : Dc mX9_does 358 (.invokevirtual 163) 3 361 := ⟨by decide +kernel, rfl⟩
theorem dX9_does_361 : Dc mX9_does 361 (.ireturn) 1 362 := ⟨by decide +kernel, rfl⟩
theorem dX9_does_362 : Dc mX9_does 362 (.aload_n 0) 1 363 := ⟨by decide +kernel, rfl⟩
theorem dX9_does_363 : Dc mX9_does 363 (.getfield 21) 3 366 := ⟨by decide +kernel, rfl⟩
theorem dX9_does_366 : Dc mX9_does 366 (.aload_n 0) 1 367 := ⟨by decide +kernel, rfl⟩
theorem dX9_does_367 : Dc mX9_does 367 (.getfield 181) 3 370 := ⟨by decide +kernel, rfl⟩
theorem dX9_does_370 : Dc mX9_does 370 (.iaload) 1 371 := ⟨by decide +kernel, rfl⟩
theorem dX9_does_371 : Dj mX9_does 371 (.ifCond .eq 19) 3 374 (19) 390 := ⟨by decide +kernel, rfl, by decide⟩
theorem dX9_does_374 : Dc mX9_does 374 (.aload_n 0) 1 375 := ⟨by decide +kernel, rfl⟩
theorem dX9_does_375 : Dc mX9_does 375 (.aload_n 0) 1 376 := ⟨by decide +kernel, rfl⟩
theorem dX9_does_376 : Dc mX9_does 376 (.getfield 21) 3 379 := ⟨by decide +kernel, rfl⟩
theorem dX9_does_379 : Dc mX9_does 379 (.aload_n 0) 1 380 := ⟨by decide +kernel, rfl⟩
theorem dX9_does_380 : Dc mX9_does 380 (.getfield 181) 3 383 := ⟨by decide +kernel, rfl⟩
theorem dX9_does_383 : Dc mX9_does 383 (.iaload) 1 384 := ⟨by decide +kernel, rfl⟩
theorem dX9_does_384 : Dc mX9_does 384 (.invokevirtual 163) 3 387 := ⟨by decide +kernel, rfl⟩
theorem dX9_does_387 : Dj mX9_does 387 (.ifCond .eq 7) 3 390 (7) 394 := ⟨by decide +kernel, rfl, by decide⟩
theorem dX9_does_390 : Dc mX9_does 390 (.iconst 1) 1 391 := ⟨by decide +kernel, rfl⟩
theorem dX9_does_391 : Dj mX9_does 391 (.goto 4) 3 394 (4) 395 := ⟨by decide +kernel, rfl, by decide⟩
theorem dX9_does_394 : Dc mX9_does 394 (.iconst 0) 1 395 := ⟨by decide +kernel, rfl⟩
theorem dX9_does_395 : Dc mX9_does 395 (.ireturn) 1 396 := ⟨by decide +kernel, rfl⟩
theorem dX9_does_396 : Dc mX9_does 396 (.aload_n 0) 1 397 := ⟨by decide +kernel, rfl⟩
theorem dX9_does_397 : Dc mX9_does 397 (.iconst 1) 1 398 := ⟨by decide +kernel, rfl⟩
theorem dX9_does_398 : Dc mX9_does 398 (.invokevirtual 154) 3 401 := ⟨by decide +kernel, rfl⟩
theorem dX9_does_401 : Dj mX9_does 401 (.ifCond .eq 27) 3 404 (27) 428 := ⟨by decide +kernel, rfl, by decide⟩
theorem dX9_does_404 : Dc mX9_does 404 (.aload_n 0) 1 405 := ⟨by decide +kernel, rfl⟩
theorem dX9_does_405 : Dc mX9_does 405 (.aload_n 0) 1 406 := ⟨by decide +kernel, rfl⟩
theorem dX9_does_406 : Dc mX9_does 406 (.invokevirtual 173) 3 409 := ⟨by decide +kernel, rfl⟩
theorem dX9_does_409 : Dc mX9_does 409 (.iconst 3) 1 410 := ⟨by decide +kernel, rfl⟩
theorem dX9_does_410 : Dj mX9_does 410 (.if_icmp .eq 7) 3 413 (7) 417 := ⟨by decide +kernel, rfl, by decide⟩
theorem dX9_does_413 : Dc mX9_does 413 (.iconst 1) 1 414 := ⟨by decide +kernel, rfl⟩
theorem dX9_does_414 : Dj mX9_does 414 (.goto 4) 3 417 (4) 418 := ⟨by decide +kernel, rfl, by decide⟩
theorem dX9_does_417 : Dc mX9_does 417 (.iconst 0) 1 418 := ⟨by decide +kernel, rfl⟩
theorem dX9_does_418 : Dc mX9_does 418 (.invokevirtual 177) 3 421 := ⟨by decide +kernel, rfl⟩
theorem dX9_does_421 : Dj mX9_does 421 (.ifCond .eq 7) 3 424 (7) 428 := ⟨by decide +kernel, rfl, by decide⟩
theorem dX9_does_424 : Dc mX9_does 424 (.iconst 1) 1 425 := ⟨by decide +kernel, rfl⟩
theorem dX9_does_425 : Dj mX9_does 425 (.goto 4) 3 428 (4) 429 := ⟨by decide +kernel, rfl, by decide⟩
theorem dX9_does_428 : Dc mX9_does 428 (.iconst 0) 1 429 := ⟨by decide +kernel, rfl⟩
theorem dX9_does_429 : Dc mX9_does 429 (.ireturn) 1 430 := ⟨by decide +kernel, rfl⟩
theorem dX9_does_430 : Dc mX9_does 430 (.aload_n 0) 1 431 := ⟨by decide +kernel, rfl⟩
theorem dX9_does_431 : Dc mX9_does 431 (.iconst 2) 1 432 := ⟨by decide +kernel, rfl⟩
theorem dX9_does_432 : Dc mX9_does 432 (.invokevirtual 163) 3 435 := ⟨by decide +kernel, rfl⟩
theorem dX9_does_435 : Dc mX9_does 435 (.ireturn) 1 436 := ⟨by decide +kernel, rfl⟩
theorem dX9_does_436 : Dc mX9_does 436 (.aload_n 0) 1 437 := ⟨by decide +kernel, rfl⟩
theorem dX9_does_437 : Dc mX9_does 437 (.iload_n 1) 1 438 := ⟨by decide +kernel, rfl⟩
theorem dX9_does_438 : Dc mX9_does 438 (.iload_n 2) 1 439 := ⟨by decide +kernel, rfl⟩
theorem dX9_does_439 : Dc mX9_does 439 (.invokevirtual 197) 3 442 := ⟨by decide +kernel, rfl⟩
theorem dX9_does_442 : Dc mX9_does 442 (.ireturn) 1 443 := ⟨by decide +kernel, rfl⟩
theorem dX9_keepMost_0 : Dc mX9_keepMost 0 (.aload_n 0) 1 1 := ⟨by decide +kernel, rfl⟩
theorem dX9_keepMost_1 : Dc mX9_keepMost 1 (.getfield 69) 3 4 := ⟨by decide +kernel, rfl⟩
theorem dX9_keepMost_4 : Dc mX9_keepMost 4 (.aload_n 0) 1 5 := ⟨by decide +kernel, rfl⟩
theorem dX9_keepMost_5 : Dc mX9_keepMost 5 (.getfield 181) 3 8 := ⟨by decide +kernel, rfl⟩
theorem dX9_keepMost_8 : Dc mX9_keepMost 8 (.iload_n 1) 1 9 := ⟨by decide +kernel, rfl⟩
theorem dX9_keepMost_9 : Dc mX9_keepMost 9 (.aload_n 0) 1 10 := ⟨by decide +kernel, rfl⟩
theorem dX9_keepMost_10 : Dc mX9_keepMost 10 (.getfield 69) 3 13 := ⟨by decide +kernel, rfl⟩
theorem dX9_keepMost_13 : Dc mX9_keepMost 13 (.aload_n 0) 1 14 := ⟨by decide +kernel, rfl⟩
theorem dX9_keepMost_14 : Dc mX9_keepMost 14 (.getfield 181) 3 17 := ⟨by decide +kernel, rfl⟩
theorem dX9_keepMost_17 : Dc mX9_keepMost 17 (.iaload) 1 18 := ⟨by decide +kernel, rfl⟩
theorem dX9_keepMost_18 : Dj mX9_keepMost 18 (.if_icmp .le 7) 3 21 (7) 25 := ⟨by decide +kernel, rfl, by decide⟩
theorem dX9_keepMost_21 : Dc mX9_keepMost 21 (.iload_n 1) 1 22 := ⟨by decide +kernel, rfl⟩
theorem dX9_keepMost_22 : Dj mX9_keepMost 22 (.goto 12) 3 25 (12) 34 := ⟨by decide +kernel, rfl, by decide⟩
theorem dX9_keepMost_25 : Dc mX9_keepMost 25 (.aload_n 0) 1 26 := ⟨by decide +kernel, rfl⟩
theorem dX9_keepMost_26 : Dc mX9_keepMost 26 (.getfield 69) 3 29 := ⟨by decide +kernel, rfl⟩
theorem dX9_keepMost_29 : Dc mX9_keepMost 29 (.aload_n 0) 1 30 := ⟨by decide +kernel, rfl⟩
theorem dX9_keepMost_30 : Dc mX9_keepMost 30 (.getfield 181) 3 33 := ⟨by decide +kernel, rfl⟩
theorem dX9_keepMost_33 : Dc mX9_keepMost 33 (.iaload) 1 34 := ⟨by decide +kernel, rfl⟩
theorem dX9_keepMost_34 : Dc mX9_keepMost 34 (.iastore) 1 35 := ⟨by decide +kernel, rfl⟩
theorem dX9_keepMost_35 : Dc mX9_keepMost 35 (.return_) 1 36 := ⟨by decide +kernel, rfl⟩
theorem dX9_meetsFirst_0 : Dc mX9_meetsFirst 0 (.aload_n 0) 1 1 := ⟨by decide +kernel, rfl⟩
theorem dX9_meetsFirst_1 : Dc mX9_meetsFirst 1 (.getfield 72) 3 4 := ⟨by decide +kernel, rfl⟩
theorem dX9_meetsFirst_4 : Dc mX9_meetsFirst 4 (.iload_n 1) 1 5 := ⟨by decide +kernel, rfl⟩
theorem dX9_meetsFirst_5 : Dc mX9_meetsFirst 5 (.iconst 1) 1 6 := ⟨by decide +kernel, rfl⟩
theorem dX9_meetsFirst_6 : Dc mX9_meetsFirst 6 (.bastore) 1 7 := ⟨by decide +kernel, rfl⟩
theorem dX9_meetsFirst_7 : Dc mX9_meetsFirst 7 (.aload_n 0) 1 8 := ⟨by decide +kernel, rfl⟩
theorem dX9_meetsFirst_8 : Dc mX9_meetsFirst 8 (.getfield 75) 3 11 := ⟨by decide +kernel, rfl⟩
theorem dX9_meetsFirst_11 : Dc mX9_meetsFirst 11 (.iload_n 1) 1 12 := ⟨by decide +kernel, rfl⟩
theorem dX9_meetsFirst_12 : Dc mX9_meetsFirst 12 (.iconst 1) 1 13 := ⟨by decide +kernel, rfl⟩
theorem dX9_meetsFirst_13 : Dc mX9_meetsFirst 13 (.bastore) 1 14 := ⟨by decide +kernel, rfl⟩
theorem dX9_meetsFirst_14 : Dc mX9_meetsFirst 14 (.aload_n 0) 1 15 := ⟨by decide +kernel, rfl⟩
theorem dX9_meetsFirst_15 : Dc mX9_meetsFirst 15 (.getfield 78) 3 18 := ⟨by decide +kernel, rfl⟩
theorem dX9_meetsFirst_18 : Dc mX9_meetsFirst 18 (.iload_n 1) 1 19 := ⟨by decide +kernel, rfl⟩
theorem dX9_meetsFirst_19 : Dc mX9_meetsFirst 19 (.aload_n 0) 1 20 := ⟨by decide +kernel, rfl⟩
theorem dX9_meetsFirst_20 : Dc mX9_meetsFirst 20 (.getfield 148) 3 23 := ⟨by decide +kernel, rfl⟩
theorem dX9_meetsFirst_23 : Dc mX9_meetsFirst 23 (.iastore) 1 24 := ⟨by decide +kernel, rfl⟩
theorem dX9_meetsFirst_24 : Dc mX9_meetsFirst 24 (.iconst 0) 1 25 := ⟨by decide +kernel, rfl⟩
theorem dX9_meetsFirst_25 : Dc mX9_meetsFirst 25 (.istore_n 2) 1 26 := ⟨by decide +kernel, rfl⟩
theorem dX9_meetsFirst_26 : Dc mX9_meetsFirst 26 (.iload_n 2) 1 27 := ⟨by decide +kernel, rfl⟩
theorem dX9_meetsFirst_27 : Dc mX9_meetsFirst 27 (.bipush 8) 2 29 := ⟨by decide +kernel, rfl⟩
theorem dX9_meetsFirst_29 : Dj mX9_meetsFirst 29 (.if_icmp .ge 58) 3 32 (58) 87 := ⟨by decide +kernel, rfl, by decide⟩
theorem dX9_meetsFirst_32 : Dc mX9_meetsFirst 32 (.aload_n 0) 1 33 := ⟨by decide +kernel, rfl⟩
theorem dX9_meetsFirst_33 : Dc mX9_meetsFirst 33 (.getfield 81) 3 36 := ⟨by decide +kernel, rfl⟩
theorem dX9_meetsFirst_36 : Dc mX9_meetsFirst 36 (.bipush 16) 2 38 := ⟨by decide +kernel, rfl⟩
theorem dX9_meetsFirst_38 : Dc mX9_meetsFirst 38 (.iload_n 1) 1 39 := ⟨by decide +kernel, rfl⟩
theorem dX9_meetsFirst_39 : Dc mX9_meetsFirst 39 (.imul) 1 40 := ⟨by decide +kernel, rfl⟩
theorem dX9_meetsFirst_40 : Dc mX9_meetsFirst 40 (.iload_n 2) 1 41 := ⟨by decide +kernel, rfl⟩
theorem dX9_meetsFirst_41 : Dc mX9_meetsFirst 41 (.iadd) 1 42 := ⟨by decide +kernel, rfl⟩
theorem dX9_meetsFirst_42 : Dc mX9_meetsFirst 42 (.aload_n 0) 1 43 := ⟨by decide +kernel, rfl⟩
theorem dX9_meetsFirst_43 : Dc mX9_meetsFirst 43 (.getfield 84) 3 46 := ⟨by decide +kernel, rfl⟩
theorem dX9_meetsFirst_46 : Dc mX9_meetsFirst 46 (.iload_n 2) 1 47 := ⟨by decide +kernel, rfl⟩
theorem dX9_meetsFirst_47 : Dc mX9_meetsFirst 47 (.iaload) 1 48 := ⟨by decide +kernel, rfl⟩
theorem dX9_meetsFirst_48 : Dc mX9_meetsFirst 48 (.iastore) 1 49 := ⟨by decide +kernel, rfl⟩
theorem dX9_meetsFirst_49 : Dc mX9_meetsFirst 49 (.aload_n 0) 1 50 := ⟨by decide +kernel, rfl⟩
theorem dX9_meetsFirst_50 : Dc mX9_meetsFirst 50 (.getfield 81) 3 53 := ⟨by decide +kernel, rfl⟩
theorem dX9_meetsFirst_53 : Dc mX9_meetsFirst 53 (.bipush 16) 2 55 := ⟨by decide +kernel, rfl⟩
theorem dX9_meetsFirst_55 : Dc mX9_meetsFirst 55 (.iload_n 1) 1 56 := ⟨by decide +kernel, rfl⟩
theorem dX9_meetsFirst_56 : Dc mX9_meetsFirst 56 (.imul) 1 57 := ⟨by decide +kernel, rfl⟩
theorem dX9_meetsFirst_57 : Dc mX9_meetsFirst 57 (.bipush 8) 2 59 := ⟨by decide +kernel, rfl⟩
theorem dX9_meetsFirst_59 : Dc mX9_meetsFirst 59 (.iadd) 1 60 := ⟨by decide +kernel, rfl⟩
theorem dX9_meetsFirst_60 : Dc mX9_meetsFirst 60 (.iload_n 2) 1 61 := ⟨by decide +kernel, rfl⟩
theorem dX9_meetsFirst_61 : Dc mX9_meetsFirst 61 (.iadd) 1 62 := ⟨by decide +kernel, rfl⟩
theorem dX9_meetsFirst_62 : Dc mX9_meetsFirst 62 (.iload_n 2) 1 63 := ⟨by decide +kernel, rfl⟩
theorem dX9_meetsFirst_63 : Dc mX9_meetsFirst 63 (.aload_n 0) 1 64 := ⟨by decide +kernel, rfl⟩
theorem dX9_meetsFirst_64 : Dc mX9_meetsFirst 64 (.getfield 148) 3 67 := ⟨by decide +kernel, rfl⟩
theorem dX9_meetsFirst_67 : Dj mX9_meetsFirst 67 (.if_icmp .ge 12) 3 70 (12) 79 := ⟨by decide +kernel, rfl, by decide⟩
theorem dX9_meetsFirst_70 : Dc mX9_meetsFirst 70 (.aload_n 0) 1 71 := ⟨by decide +kernel, rfl⟩
theorem dX9_meetsFirst_71 : Dc mX9_meetsFirst 71 (.getfield 87) 3 74 := ⟨by decide +kernel, rfl⟩
theorem dX9_meetsFirst_74 : Dc mX9_meetsFirst 74 (.iload_n 2) 1 75 := ⟨by decide +kernel, rfl⟩
theorem dX9_meetsFirst_75 : Dc mX9_meetsFirst 75 (.iaload) 1 76 := ⟨by decide +kernel, rfl⟩
theorem dX9_meetsFirst_76 : Dj mX9_meetsFirst 76 (.goto 4) 3 79 (4) 80 := ⟨by decide +kernel, rfl, by decide⟩
theorem dX9_meetsFirst_79 : Dc mX9_meetsFirst 79 (.iconst 0) 1 80 := ⟨by decide +kernel, rfl⟩
theorem dX9_meetsFirst_80 : Dc mX9_meetsFirst 80 (.iastore) 1 81 := ⟨by decide +kernel, rfl⟩
theorem dX9_meetsFirst_81 : Dc mX9_meetsFirst 81 (.iinc 2 1) 3 84 := ⟨by decide +kernel, rfl⟩
theorem dX9_meetsFirst_84 : Dj mX9_meetsFirst 84 (.goto (-58)) 3 87 (-58) 26 := ⟨by decide +kernel, rfl, by decide⟩
theorem dX9_meetsFirst_87 : Dc mX9_meetsFirst 87 (.aload_n 0) 1 88 := ⟨by decide +kernel, rfl⟩
theorem dX9_meetsFirst_88 : Dc mX9_meetsFirst 88 (.aload_n 0) 1 89 := ⟨by decide +kernel, rfl⟩
theorem dX9_meetsFirst_89 : Dc mX9_meetsFirst 89 (.getfield 148) 3 92 := ⟨by decide +kernel, rfl⟩
theorem dX9_meetsFirst_92 : Dc mX9_meetsFirst 92 (.invokevirtual 200) 3 95 := ⟨by decide +kernel, rfl⟩
theorem dX9_meetsFirst_95 : Dc mX9_meetsFirst 95 (.iconst 1) 1 96 := ⟨by decide +kernel, rfl⟩
theorem dX9_meetsFirst_96 : Dc mX9_meetsFirst 96 (.ireturn) 1 97 := ⟨by decide +kernel, rfl⟩
theorem dX9_meets_0 : Dc mX9_meets 0 (.bipush 40) 2 2 := ⟨by decide +kernel, rfl⟩
theorem dX9_meets_2 : Dc mX9_meets 2 (.aload_n 0) 1 3 := ⟨by decide +kernel, rfl⟩
theorem dX9_meets_3 : Dc mX9_meets 3 (.getfield 181) 3 6 := ⟨by decide +kernel, rfl⟩
theorem dX9_meets_6 : Dc mX9_meets 6 (.imul) 1 7 := ⟨by decide +kernel, rfl⟩
theorem dX9_meets_7 : Dc mX9_meets 7 (.iload_n 1) 1 8 := ⟨by decide +kernel, rfl⟩
theorem dX9_meets_8 : Dc mX9_meets 8 (.iadd) 1 9 := ⟨by decide +kernel, rfl⟩
theorem dX9_meets_9 : Dc mX9_meets 9 (.istore_n 2) 1 10 := ⟨by decide +kernel, rfl⟩
theorem dX9_meets_10 : Dc mX9_meets 10 (.aload_n 0) 1 11 := ⟨by decide +kernel, rfl⟩
theorem dX9_meets_11 : Dc mX9_meets 11 (.getfield 72) 3 14 := ⟨by decide +kernel, rfl⟩
theorem dX9_meets_14 : Dc mX9_meets 14 (.iload_n 2) 1 15 := ⟨by decide +kernel, rfl⟩
theorem dX9_meets_15 : Dc mX9_meets 15 (.baload) 1 16 := ⟨by decide +kernel, rfl⟩
theorem dX9_meets_16 : Dj mX9_meets 16 (.ifCond .ne 9) 3 19 (9) 25 := ⟨by decide +kernel, rfl, by decide⟩
theorem dX9_meets_19 : Dc mX9_meets 19 (.aload_n 0) 1 20 := ⟨by decide +kernel, rfl⟩
theorem dX9_meets_20 : Dc mX9_meets 20 (.iload_n 2) 1 21 := ⟨by decide +kernel, rfl⟩
theorem dX9_meets_21 : Dc mX9_meets 21 (.invokevirtual 204) 3 24 := ⟨by decide +kernel, rfl⟩
theorem dX9_meets_24 : Dc mX9_meets 24 (.ireturn) 1 25 := ⟨by decide +kernel, rfl⟩
theorem dX9_meets_25 : Dc mX9_meets 25 (.aload_n 0) 1 26 := ⟨by decide +kernel, rfl⟩
theorem dX9_meets_26 : Dc mX9_meets 26 (.getfield 78) 3 29 := ⟨by decide +kernel, rfl⟩
theorem dX9_meets_29 : Dc mX9_meets 29 (.iload_n 2) 1 30 := ⟨by decide +kernel, rfl⟩
theorem dX9_meets_30 : Dc mX9_meets 30 (.iaload) 1 31 := ⟨by decide +kernel, rfl⟩
theorem dX9_meets_31 : Dc mX9_meets 31 (.aload_n 0) 1 32 := ⟨by decide +kernel, rfl⟩
theorem dX9_meets_32 : Dc mX9_meets 32 (.getfield 148) 3 35 := ⟨by decide +kernel, rfl⟩
theorem dX9_meets_35 : Dj mX9_meets 35 (.if_icmp .eq 10) 3 38 (10) 45 := ⟨by decide +kernel, rfl, by decide⟩
theorem dX9_meets_38 : Dc mX9_meets 38 (.aload_n 0) 1 39 := ⟨by decide +kernel, rfl⟩
theorem dX9_meets_39 : Dc mX9_meets 39 (.bipush 8) 2 41 := ⟨by decide +kernel, rfl⟩
theorem dX9_meets_41 : Dc mX9_meets 41 (.invokevirtual 151) 3 44 := ⟨by decide +kernel, rfl⟩
theorem dX9_meets_44 : Dc mX9_meets 44 (.ireturn) 1 45 := ⟨by decide +kernel, rfl⟩
theorem dX9_meets_45 : Dc mX9_meets 45 (.iconst 0) 1 46 := ⟨by decide +kernel, rfl⟩
theorem dX9_meets_46 : Dc mX9_meets 46 (.istore_n 3) 1 47 := ⟨by decide +kernel, rfl⟩
theorem dX9_meets_47 : Dc mX9_meets 47 (.iload_n 3) 1 48 := ⟨by decide +kernel, rfl⟩
theorem dX9_meets_48 : Dc mX9_meets 48 (.aload_n 0) 1 49 := ⟨by decide +kernel, rfl⟩
theorem dX9_meets_49 : Dc mX9_meets 49 (.getfield 148) 3 52 := ⟨by decide +kernel, rfl⟩
theorem dX9_meets_52 : Dj mX9_meets 52 (.if_icmp .ge 61) 3 55 (61) 113 := ⟨by decide +kernel, rfl, by decide⟩
theorem dX9_meets_55 : Dc mX9_meets 55 (.aload_n 0) 1 56 := ⟨by decide +kernel, rfl⟩
theorem dX9_meets_56 : Dc mX9_meets 56 (.getfield 90) 3 59 := ⟨by decide +kernel, rfl⟩
theorem dX9_meets_59 : Dc mX9_meets 59 (.bipush 8) 2 61 := ⟨by decide +kernel, rfl⟩
theorem dX9_meets_61 : Dc mX9_meets 61 (.iload_n 3) 1 62 := ⟨by decide +kernel, rfl⟩
theorem dX9_meets_62 : Dc mX9_meets 62 (.iadd) 1 63 := ⟨by decide +kernel, rfl⟩
theorem dX9_meets_63 : Dc mX9_meets 63 (.aload_n 0) 1 64 := ⟨by decide +kernel, rfl⟩
theorem dX9_meets_64 : Dc mX9_meets 64 (.aload_n 0) 1 65 := ⟨by decide +kernel, rfl⟩
theorem dX9_meets_65 : Dc mX9_meets 65 (.getfield 81) 3 68 := ⟨by decide +kernel, rfl⟩
theorem dX9_meets_68 : Dc mX9_meets 68 (.bipush 16) 2 70 := ⟨by decide +kernel, rfl⟩
theorem dX9_meets_70 : Dc mX9_meets 70 (.iload_n 2) 1 71 := ⟨by decide +kernel, rfl⟩
theorem dX9_meets_71 : Dc mX9_meets 71 (.imul) 1 72 := ⟨by decide +kernel, rfl⟩
theorem dX9_meets_72 : Dc mX9_meets 72 (.bipush 8) 2 74 := ⟨by decide +kernel, rfl⟩
theorem dX9_meets_74 : Dc mX9_meets 74 (.iadd) 1 75 := ⟨by decide +kernel, rfl⟩
theorem dX9_meets_75 : Dc mX9_meets 75 (.iload_n 3) 1 76 := ⟨by decide +kernel, rfl⟩
theorem dX9_meets_76 : Dc mX9_meets 76 (.iadd) 1 77 := ⟨by decide +kernel, rfl⟩
theorem dX9_meets_77 : Dc mX9_meets 77 (.iaload) 1 78 := ⟨by decide +kernel, rfl⟩
theorem dX9_meets_78 : Dc mX9_meets 78 (.aload_n 0) 1 79 := ⟨by decide +kernel, rfl⟩
theorem dX9_meets_79 : Dc mX9_meets 79 (.getfield 87) 3 82 := ⟨by decide +kernel, rfl⟩
theorem dX9_meets_82 : Dc mX9_meets 82 (.iload_n 3) 1 83 := ⟨by decide +kernel, rfl⟩
theorem dX9_meets_83 : Dc mX9_meets 83 (.iaload) 1 84 := ⟨by decide +kernel, rfl⟩
theorem dX9_meets_84 : Dc mX9_meets 84 (.invokevirtual 130) 3 87 := ⟨by decide +kernel, rfl⟩
theorem dX9_meets_87 : Dc mX9_meets 87 (.iastore) 1 88 := ⟨by decide +kernel, rfl⟩
theorem dX9_meets_88 : Dc mX9_meets 88 (.aload_n 0) 1 89 := ⟨by decide +kernel, rfl⟩
theorem dX9_meets_89 : Dc mX9_meets 89 (.getfield 90) 3 92 := ⟨by decide +kernel, rfl⟩
theorem dX9_meets_92 : Dc mX9_meets 92 (.bipush 8) 2 94 := ⟨by decide +kernel, rfl⟩
theorem dX9_meets_94 : Dc mX9_meets 94 (.iload_n 3) 1 95 := ⟨by decide +kernel, rfl⟩
theorem dX9_meets_95 : Dc mX9_meets 95 (.iadd) 1 96 := ⟨by decide +kernel, rfl⟩
theorem dX9_meets_96 : Dc mX9_meets 96 (.iaload) 1 97 := ⟨by decide +kernel, rfl⟩
theorem dX9_meets_97 : Dj mX9_meets 97 (.ifCond .ne 10) 3 100 (10) 107 := ⟨by decide +kernel, rfl, by decide⟩
theorem dX9_meets_100 : Dc mX9_meets 100 (.aload_n 0) 1 101 := ⟨by decide +kernel, rfl⟩
theorem dX9_meets_101 : Dc mX9_meets 101 (.bipush 8) 2 103 := ⟨by decide +kernel, rfl⟩
theorem dX9_meets_103 : Dc mX9_meets 103 (.invokevirtual 151) 3 106 := ⟨by decide +kernel, rfl⟩
theorem dX9_meets_106 : Dc mX9_meets 106 (.ireturn) 1 107 := ⟨by decide +kernel, rfl⟩
theorem dX9_meets_107 : Dc mX9_meets 107 (.iinc 3 1) 3 110 := ⟨by decide +kernel, rfl⟩
theorem dX9_meets_110 : Dj mX9_meets 110 (.goto (-63)) 3 113 (-63) 47 := ⟨by decide +kernel, rfl, by decide⟩
theorem dX9_meets_113 : Dc mX9_meets 113 (.iconst 0) 1 114 := ⟨by decide +kernel, rfl⟩
theorem dX9_meets_114 : Dc mX9_meets 114 (.istore_n 3) 1 115 := ⟨by decide +kernel, rfl⟩
theorem dX9_meets_115 : Dc mX9_meets 115 (.iload_n 3) 1 116 := ⟨by decide +kernel, rfl⟩
theorem dX9_meets_116 : Dc mX9_meets 116 (.bipush 8) 2 118 := ⟨by decide +kernel, rfl⟩
theorem dX9_meets_118 : Dj mX9_meets 118 (.if_icmp .ge 36) 3 121 (36) 154 := ⟨by decide +kernel, rfl, by decide⟩
theorem dX9_meets_121 : Dc mX9_meets 121 (.aload_n 0) 1 122 := ⟨by decide +kernel, rfl⟩
theorem dX9_meets_122 : Dc mX9_meets 122 (.getfield 90) 3 125 := ⟨by decide +kernel, rfl⟩
theorem dX9_meets_125 : Dc mX9_meets 125 (.iload_n 3) 1 126 := ⟨by decide +kernel, rfl⟩
theorem dX9_meets_126 : Dc mX9_meets 126 (.aload_n 0) 1 127 := ⟨by decide +kernel, rfl⟩
theorem dX9_meets_127 : Dc mX9_meets 127 (.aload_n 0) 1 128 := ⟨by decide +kernel, rfl⟩
theorem dX9_meets_128 : Dc mX9_meets 128 (.getfield 81) 3 131 := ⟨by decide +kernel, rfl⟩
theorem dX9_meets_131 : Dc mX9_meets 131 (.bipush 16) 2 133 := ⟨by decide +kernel, rfl⟩
theorem dX9_meets_133 : Dc mX9_meets 133 (.iload_n 2) 1 134 := ⟨by decide +kernel, rfl⟩
theorem dX9_meets_134 : Dc mX9_meets 134 (.imul) 1 135 := ⟨by decide +kernel, rfl⟩
theorem dX9_meets_135 : Dc mX9_meets 135 (.iload_n 3) 1 136 := ⟨by decide +kernel, rfl⟩
theorem dX9_meets_136 : Dc mX9_meets 136 (.iadd) 1 137 := ⟨by decide +kernel, rfl⟩
theorem dX9_meets_137 : Dc mX9_meets 137 (.iaload) 1 138 := ⟨by decide +kernel, rfl⟩
theorem dX9_meets_138 : Dc mX9_meets 138 (.aload_n 0) 1 139 := ⟨by decide +kernel, rfl⟩
theorem dX9_meets_139 : Dc mX9_meets 139 (.getfield 84) 3 142 := ⟨by decide +kernel, rfl⟩
theorem dX9_meets_142 : Dc mX9_meets 142 (.iload_n 3) 1 143 := ⟨by decide +kernel, rfl⟩
theorem dX9_meets_143 : Dc mX9_meets 143 (.iaload) 1 144 := ⟨by decide +kernel, rfl⟩
theorem dX9_meets_144 : Dc mX9_meets 144 (.invokevirtual 130) 3 147 := ⟨by decide +kernel, rfl⟩
theorem dX9_meets_147 : Dc mX9_meets 147 (.iastore) 1 148 := ⟨by decide +kernel, rfl⟩
theorem dX9_meets_148 : Dc mX9_meets 148 (.iinc 3 1) 3 151 := ⟨by decide +kernel, rfl⟩
theorem dX9_meets_151 : Dj mX9_meets 151 (.goto (-36)) 3 154 (-36) 115 := ⟨by decide +kernel, rfl, by decide⟩
theorem dX9_meets_154 : Dc mX9_meets 154 (.iconst 0) 1 155 := ⟨by decide +kernel, rfl⟩
theorem dX9_meets_155 : Dc mX9_meets 155 (.istore_n 3) 1 156 := ⟨by decide +kernel, rfl⟩
theorem dX9_meets_156 : Dc mX9_meets 156 (.iload_n 3) 1 157 := ⟨by decide +kernel, rfl⟩
theorem dX9_meets_157 : Dc mX9_meets 157 (.bipush 8) 2 159 := ⟨by decide +kernel, rfl⟩
theorem dX9_meets_159 : Dj mX9_meets 159 (.if_icmp .ge 91) 3 162 (91) 250 := ⟨by decide +kernel, rfl, by decide⟩
theorem dX9_meets_162 : Dc mX9_meets 162 (.aload_n 0) 1 163 := ⟨by decide +kernel, rfl⟩
theorem dX9_meets_163 : Dc mX9_meets 163 (.getfield 90) 3 166 := ⟨by decide +kernel, rfl⟩
theorem dX9_meets_166 : Dc mX9_meets 166 (.iload_n 3) 1 167 := ⟨by decide +kernel, rfl⟩
theorem dX9_meets_167 : Dc mX9_meets 167 (.iaload) 1 168 := ⟨by decide +kernel, rfl⟩
theorem dX9_meets_168 : Dc mX9_meets 168 (.iconst 2) 1 169 := ⟨by decide +kernel, rfl⟩
theorem dX9_meets_169 : Dj mX9_meets 169 (.if_icmp .ne 21) 3 172 (21) 190 := ⟨by decide +kernel, rfl, by decide⟩
theorem dX9_meets_172 : Dc mX9_meets 172 (.iload_n 3) 1 173 := ⟨by decide +kernel, rfl⟩
theorem dX9_meets_173 : Dc mX9_meets 173 (.bipush 7) 2 175 := ⟨by decide +kernel, rfl⟩
theorem dX9_meets_175 : Dj mX9_meets 175 (.if_icmp .eq 41) 3 178 (41) 216 := ⟨by decide +kernel, rfl, by decide⟩
theorem dX9_meets_178 : Dc mX9_meets 178 (.aload_n 0) 1 179 := ⟨by decide +kernel, rfl⟩
theorem dX9_meets_179 : Dc mX9_meets 179 (.getfield 90) 3 182 := ⟨by decide +kernel, rfl⟩
theorem dX9_meets_182 : Dc mX9_meets 182 (.iload_n 3) 1 183 := ⟨by decide +kernel, rfl⟩
theorem dX9_meets_183 : Dc mX9_meets 183 (.iconst 1) 1 184 := ⟨by decide +kernel, rfl⟩
theorem dX9_meets_184 : Dc mX9_meets 184 (.iadd) 1 185 := ⟨by decide +kernel, rfl⟩
theorem dX9_meets_185 : Dc mX9_meets 185 (.iaload) 1 186 := ⟨by decide +kernel, rfl⟩
theorem dX9_meets_186 : Dc mX9_meets 186 (.iconst 3) 1 187 := ⟨by decide +kernel, rfl⟩
theorem dX9_meets_187 : Dj mX9_meets 187 (.if_icmp .ne 29) 3 190 (29) 216 := ⟨by decide +kernel, rfl, by decide⟩
theorem dX9_meets_190 : Dc mX9_meets 190 (.aload_n 0) 1 191 := ⟨by decide +kernel, rfl⟩
theorem dX9_meets_191 : Dc mX9_meets 191 (.getfield 90) 3 194 := ⟨by decide +kernel, rfl⟩
theorem dX9_meets_194 : Dc mX9_meets 194 (.iload_n 3) 1 195 := ⟨by decide +kernel, rfl⟩
theorem dX9_meets_195 : Dc mX9_meets 195 (.iaload) 1 196 := ⟨by decide +kernel, rfl⟩
theorem dX9_meets_196 : Dc mX9_meets 196 (.iconst 3) 1 197 := ⟨by decide +kernel, rfl⟩
theorem dX9_meets_197 : Dj mX9_meets 197 (.if_icmp .ne 23) 3 200 (23) 220 := ⟨by decide +kernel, rfl, by decide⟩
theorem dX9_meets_200 : Dc mX9_meets 200 (.iload_n 3) 1 201 := ⟨by decide +kernel, rfl⟩
theorem dX9_meets_201 : Dj mX9_meets 201 (.ifCond .eq 15) 3 204 (15) 216 := ⟨by decide +kernel, rfl, by decide⟩
theorem dX9_meets_204 : Dc mX9_meets 204 (.aload_n 0) 1 205 := ⟨by decide +kernel, rfl⟩
theorem dX9_meets_205 : Dc mX9_meets 205 (.getfield 90) 3 208 := ⟨by decide +kernel, rfl⟩
theorem dX9_meets_208 : Dc mX9_meets 208 (.iload_n 3) 1 209 := ⟨by decide +kernel, rfl⟩
theorem dX9_meets_209 : Dc mX9_meets 209 (.iconst 1) 1 210 := ⟨by decide +kernel, rfl⟩
theorem dX9_meets_210 : Dc mX9_meets 210 (.isub) 1 211 := ⟨by decide +kernel, rfl⟩
theorem dX9_meets_211 : Dc mX9_meets 211 (.iaload) 1 212 := ⟨by decide +kernel, rfl⟩
theorem dX9_meets_212 : Dc mX9_meets 212 (.iconst 2) 1 213 := ⟨by decide +kernel, rfl⟩
theorem dX9_meets_213 : Dj mX9_meets 213 (.if_icmp .eq 7) 3 216 (7) 220 := ⟨by decide +kernel, rfl, by decide⟩
theorem dX9_meets_216 : Dc mX9_meets 216 (.iconst 1) 1 217 := ⟨by decide +kernel, rfl⟩
theorem dX9_meets_217 : Dj mX9_meets 217 (.goto 4) 3 220 (4) 221 := ⟨by decide +kernel, rfl, by decide⟩
theorem dX9_meets_220 : Dc mX9_meets 220 (.iconst 0) 1 221 := ⟨by decide +kernel, rfl⟩
theorem dX9_meets_221 : Dc mX9_meets 221 (.istore 4) 2 223 := ⟨by decide +kernel, rfl⟩
theorem dX9_meets_223 : Dc mX9_meets 223 (.aload_n 0) 1 224 := ⟨by decide +kernel, rfl⟩
theorem dX9_meets_224 : Dc mX9_meets 224 (.getfield 90) 3 227 := ⟨by decide +kernel, rfl⟩
theorem dX9_meets_227 : Dc mX9_meets 227 (.iload_n 3) 1 228 := ⟨by decide +kernel, rfl⟩
theorem dX9_meets_228 : Dc mX9_meets 228 (.iload 4) 2 230 := ⟨by decide +kernel, rfl⟩
theorem dX9_meets_230 : Dj mX9_meets 230 (.ifCond .eq 7) 3 233 (7) 237 := ⟨by decide +kernel, rfl, by decide⟩
theorem dX9_meets_233 : Dc mX9_meets 233 (.iconst 0) 1 234 := ⟨by decide +kernel, rfl⟩
theorem dX9_meets_234 : Dj mX9_meets 234 (.goto 9) 3 237 (9) 243 := ⟨by decide +kernel, rfl, by decide⟩
theorem dX9_meets_237 : Dc mX9_meets 237 (.aload_n 0) 1 238 := ⟨by decide +kernel, rfl⟩
theorem dX9_meets_238 : Dc mX9_meets 238 (.getfield 90) 3 241 := ⟨by decide +kernel, rfl⟩
theorem dX9_meets_241 : Dc mX9_meets 241 (.iload_n 3) 1 242 := ⟨by decide +kernel, rfl⟩
theorem dX9_meets_242 : Dc mX9_meets 242 (.iaload) 1 243 := ⟨by decide +kernel, rfl⟩
theorem dX9_meets_243 : Dc mX9_meets 243 (.iastore) 1 244 := ⟨by decide +kernel, rfl⟩
theorem dX9_meets_244 : Dc mX9_meets 244 (.iinc 3 1) 3 247 := ⟨by decide +kernel, rfl⟩
theorem dX9_meets_247 : Dj mX9_meets 247 (.goto (-91)) 3 250 (-91) 156 := ⟨by decide +kernel, rfl, by decide⟩
theorem dX9_meets_250 : Dc mX9_meets 250 (.iconst 0) 1 251 := ⟨by decide +kernel, rfl⟩
theorem dX9_meets_251 : Dc mX9_meets 251 (.istore_n 3) 1 252 := ⟨by decide +kernel, rfl⟩
theorem dX9_meets_252 : Dc mX9_meets 252 (.iload_n 3) 1 253 := ⟨by decide +kernel, rfl⟩
theorem dX9_meets_253 : Dc mX9_meets 253 (.bipush 8) 2 255 := ⟨by decide +kernel, rfl⟩
theorem dX9_meets_255 : Dc mX9_meets 255 (.aload_n 0) 1 256 := ⟨by decide +kernel, rfl⟩
theorem dX9_meets_256 : Dc mX9_meets 256 (.getfield 148) 3 259 := ⟨by decide +kernel, rfl⟩
theorem dX9_meets_259 : Dc mX9_meets 259 (.iadd) 1 260 := ⟨by decide +kernel, rfl⟩
theorem dX9_meets_260 : Dj mX9_meets 260 (.if_icmp .ge 66) 3 263 (66) 326 := ⟨by decide +kernel, rfl, by decide⟩
theorem dX9_meets_263 : Dc mX9_meets 263 (.aload_n 0) 1 264 := ⟨by decide +kernel, rfl⟩
theorem dX9_meets_264 : Dc mX9_meets 264 (.getfield 75) 3 267 := ⟨by decide +kernel, rfl⟩
theorem dX9_meets_267 : Dc mX9_meets 267 (.iload_n 2) 1 268 := ⟨by decide +kernel, rfl⟩
theorem dX9_meets_268 : Dc mX9_meets 268 (.aload_n 0) 1 269 := ⟨by decide +kernel, rfl⟩
theorem dX9_meets_269 : Dc mX9_meets 269 (.getfield 75) 3 272 := ⟨by decide +kernel, rfl⟩
theorem dX9_meets_272 : Dc mX9_meets 272 (.iload_n 2) 1 273 := ⟨by decide +kernel, rfl⟩
theorem dX9_meets_273 : Dc mX9_meets 273 (.baload) 1 274 := ⟨by decide +kernel, rfl⟩
theorem dX9_meets_274 : Dj mX9_meets 274 (.ifCond .ne 23) 3 277 (23) 297 := ⟨by decide +kernel, rfl, by decide⟩
theorem dX9_meets_277 : Dc mX9_meets 277 (.aload_n 0) 1 278 := ⟨by decide +kernel, rfl⟩
theorem dX9_meets_278 : Dc mX9_meets 278 (.getfield 81) 3 281 := ⟨by decide +kernel, rfl⟩
theorem dX9_meets_281 : Dc mX9_meets 281 (.bipush 16) 2 283 := ⟨by decide +kernel, rfl⟩
theorem dX9_meets_283 : Dc mX9_meets 283 (.iload_n 2) 1 284 := ⟨by decide +kernel, rfl⟩
theorem dX9_meets_284 : Dc mX9_meets 284 (.imul) 1 285 := ⟨by decide +kernel, rfl⟩
theorem dX9_meets_285 : Dc mX9_meets 285 (.iload_n 3) 1 286 := ⟨by decide +kernel, rfl⟩
theorem dX9_meets_286 : Dc mX9_meets 286 (.iadd) 1 287 := ⟨by decide +kernel, rfl⟩
theorem dX9_meets_287 : Dc mX9_meets 287 (.iaload) 1 288 := ⟨by decide +kernel, rfl⟩
theorem dX9_meets_288 : Dc mX9_meets 288 (.aload_n 0) 1 289 := ⟨by decide +kernel, rfl⟩
theorem dX9_meets_289 : Dc mX9_meets 289 (.getfield 90) 3 292 := ⟨by decide +kernel, rfl⟩
theorem dX9_meets_292 : Dc mX9_meets 292 (.iload_n 3) 1 293 := ⟨by decide +kernel, rfl⟩
theorem dX9_meets_293 : Dc mX9_meets 293 (.iaload) 1 294 := ⟨by decide +kernel, rfl⟩
theorem dX9_meets_294 : Dj mX9_meets 294 (.if_icmp .eq 7) 3 297 (7) 301 := ⟨by decide +kernel, rfl, by decide⟩
theorem dX9_meets_297 : Dc mX9_meets 297 (.iconst 1) 1 298 := ⟨by decide +kernel, rfl⟩
theorem dX9_meets_298 : Dj mX9_meets 298 (.goto 4) 3 301 (4) 302 := ⟨by decide +kernel, rfl, by decide⟩
theorem dX9_meets_301 : Dc mX9_meets 301 (.iconst 0) 1 302 := ⟨by decide +kernel, rfl⟩
theorem dX9_meets_302 : Dc mX9_meets 302 (.bastore) 1 303 := ⟨by decide +kernel, rfl⟩
theorem dX9_meets_303 : Dc mX9_meets 303 (.aload_n 0) 1 304 := ⟨by decide +kernel, rfl⟩
theorem dX9_meets_304 : Dc mX9_meets 304 (.getfield 81) 3 307 := ⟨by decide +kernel, rfl⟩
theorem dX9_meets_307 : Dc mX9_meets 307 (.bipush 16) 2 309 := ⟨by decide +kernel, rfl⟩
theorem dX9_meets_309 : Dc mX9_meets 309 (.iload_n 2) 1 310 := ⟨by decide +kernel, rfl⟩
theorem dX9_meets_310 : Dc mX9_meets 310 (.imul) 1 311 := ⟨by decide +kernel, rfl⟩
theorem dX9_meets_311 : Dc mX9_meets 311 (.iload_n 3) 1 312 := ⟨by decide +kernel, rfl⟩
theorem dX9_meets_312 : Dc mX9_meets 312 (.iadd) 1 313 := ⟨by decide +kernel, rfl⟩
theorem dX9_meets_313 : Dc mX9_meets 313 (.aload_n 0) 1 314 := ⟨by decide +kernel, rfl⟩
theorem dX9_meets_314 : Dc mX9_meets 314 (.getfield 90) 3 317 := ⟨by decide +kernel, rfl⟩
theorem dX9_meets_317 : Dc mX9_meets 317 (.iload_n 3) 1 318 := ⟨by decide +kernel, rfl⟩
theorem dX9_meets_318 : Dc mX9_meets 318 (.iaload) 1 319 := ⟨by decide +kernel, rfl⟩
theorem dX9_meets_319 : Dc mX9_meets 319 (.iastore) 1 320 := ⟨by decide +kernel, rfl⟩
theorem dX9_meets_320 : Dc mX9_meets 320 (.iinc 3 1) 3 323 := ⟨by decide +kernel, rfl⟩
theorem dX9_meets_323 : Dj mX9_meets 323 (.goto (-71)) 3 326 (-71) 252 := ⟨by decide +kernel, rfl, by decide⟩
theorem dX9_meets_326 : Dc mX9_meets 326 (.iconst 1) 1 327 := ⟨by decide +kernel, rfl⟩
theorem dX9_meets_327 : Dc mX9_meets 327 (.ireturn) 1 328 := ⟨by decide +kernel, rfl⟩
theorem dX9_load_0 : Dc mX9_load 0 (.aload_n 0) 1 1 := ⟨by decide +kernel, rfl⟩
theorem dX9_load_1 : Dc mX9_load 1 (.aload_n 0) 1 2 := ⟨by decide +kernel, rfl⟩
theorem dX9_load_2 : Dc mX9_load 2 (.getfield 78) 3 5 := ⟨by decide +kernel, rfl⟩
theorem dX9_load_5 : Dc mX9_load 5 (.iload_n 1) 1 6 := ⟨by decide +kernel, rfl⟩
theorem dX9_load_6 : Dc mX9_load 6 (.iaload) 1 7 := ⟨by decide +kernel, rfl⟩
theorem dX9_load_7 : Dc mX9_load 7 (.putfield 148) 3 10 := ⟨by decide +kernel, rfl⟩
theorem dX9_load_10 : Dc mX9_load 10 (.iconst 0) 1 11 := ⟨by decide +kernel, rfl⟩
theorem dX9_load_11 : Dc mX9_load 11 (.istore_n 2) 1 12 := ⟨by decide +kernel, rfl⟩
theorem dX9_load_12 : Dc mX9_load 12 (.iload_n 2) 1 13 := ⟨by decide +kernel, rfl⟩
theorem dX9_load_13 : Dc mX9_load 13 (.bipush 8) 2 15 := ⟨by decide +kernel, rfl⟩
theorem dX9_load_15 : Dj mX9_load 15 (.if_icmp .ge 46) 3 18 (46) 61 := ⟨by decide +kernel, rfl, by decide⟩
theorem dX9_load_18 : Dc mX9_load 18 (.aload_n 0) 1 19 := ⟨by decide +kernel, rfl⟩
theorem dX9_load_19 : Dc mX9_load 19 (.getfield 84) 3 22 := ⟨by decide +kernel, rfl⟩
theorem dX9_load_22 : Dc mX9_load 22 (.iload_n 2) 1 23 := ⟨by decide +kernel, rfl⟩
theorem dX9_load_23 : Dc mX9_load 23 (.aload_n 0) 1 24 := ⟨by decide +kernel, rfl⟩
theorem dX9_load_24 : Dc mX9_load 24 (.getfield 81) 3 27 := ⟨by decide +kernel, rfl⟩
theorem dX9_load_27 : Dc mX9_load 27 (.bipush 16) 2 29 := ⟨by decide +kernel, rfl⟩
theorem dX9_load_29 : Dc mX9_load 29 (.iload_n 1) 1 30 := ⟨by decide +kernel, rfl⟩
theorem dX9_load_30 : Dc mX9_load 30 (.imul) 1 31 := ⟨by decide +kernel, rfl⟩
theorem dX9_load_31 : Dc mX9_load 31 (.iload_n 2) 1 32 := ⟨by decide +kernel, rfl⟩
theorem dX9_load_32 : Dc mX9_load 32 (.iadd) 1 33 := ⟨by decide +kernel, rfl⟩
theorem dX9_load_33 : Dc mX9_load 33 (.iaload) 1 34 := ⟨by decide +kernel, rfl⟩
theorem dX9_load_34 : Dc mX9_load 34 (.iastore) 1 35 := ⟨by decide +kernel, rfl⟩
theorem dX9_load_35 : Dc mX9_load 35 (.aload_n 0) 1 36 := ⟨by decide +kernel, rfl⟩
theorem dX9_load_36 : Dc mX9_load 36 (.getfield 87) 3 39 := ⟨by decide +kernel, rfl⟩
theorem dX9_load_39 : Dc mX9_load 39 (.iload_n 2) 1 40 := ⟨by decide +kernel, rfl⟩
theorem dX9_load_40 : Dc mX9_load 40 (.aload_n 0) 1 41 := ⟨by decide +kernel, rfl⟩
theorem dX9_load_41 : Dc mX9_load 41 (.getfield 81) 3 44 := ⟨by decide +kernel, rfl⟩
theorem dX9_load_44 : Dc mX9_load 44 (.bipush 16) 2 46 := ⟨by decide +kernel, rfl⟩
theorem dX9_load_46 : Dc mX9_load 46 (.iload_n 1) 1 47 := ⟨by decide +kernel, rfl⟩
theorem dX9_load_47 : Dc mX9_load 47 (.imul) 1 48 := ⟨by decide +kernel, rfl⟩
theorem dX9_load_48 : Dc mX9_load 48 (.bipush 8) 2 50 := ⟨by decide +kernel, rfl⟩
theorem dX9_load_50 : Dc mX9_load 50 (.iadd) 1 51 := ⟨by decide +kernel, rfl⟩
theorem dX9_load_51 : Dc mX9_load 51 (.iload_n 2) 1 52 := ⟨by decide +kernel, rfl⟩
theorem dX9_load_52 : Dc mX9_load 52 (.iadd) 1 53 := ⟨by decide +kernel, rfl⟩
theorem dX9_load_53 : Dc mX9_load 53 (.iaload) 1 54 := ⟨by decide +kernel, rfl⟩
theorem dX9_load_54 : Dc mX9_load 54 (.iastore) 1 55 := ⟨by decide +kernel, rfl⟩
theorem dX9_load_55 : Dc mX9_load 55 (.iinc 2 1) 3 58 := ⟨by decide +kernel, rfl⟩
theorem dX9_load_58 : Dj mX9_load 58 (.goto (-46)) 3 61 (-46) 12 := ⟨by decide +kernel, rfl, by decide⟩
theorem dX9_load_61 : Dc mX9_load 61 (.return_) 1 62 := ⟨by decide +kernel, rfl⟩
theorem dX9_hands_0 : Dc mX9_hands 0 (.aload_n 0) 1 1 := ⟨by decide +kernel, rfl⟩
theorem dX9_hands_1 : Dc mX9_hands 1 (.getfield 51) 3 4 := ⟨by decide +kernel, rfl⟩
theorem dX9_hands_4 : Dc mX9_hands 4 (.iload_n 1) 1 5 := ⟨by decide +kernel, rfl⟩
theorem dX9_hands_5 : Dc mX9_hands 5 (.iaload) 1 6 := ⟨by decide +kernel, rfl⟩
theorem dX9_hands_6 : Dc mX9_hands 6 (.aload_n 0) 1 7 := ⟨by decide +kernel, rfl⟩
theorem dX9_hands_7 : Dc mX9_hands 7 (.getfield 30) 3 10 := ⟨by decide +kernel, rfl⟩
theorem dX9_hands_10 : Dc mX9_hands 10 (.aload_n 0) 1 11 := ⟨by decide +kernel, rfl⟩
theorem dX9_hands_11 : Dc mX9_hands 11 (.getfield 181) 3 14 := ⟨by decide +kernel, rfl⟩
theorem dX9_hands_14 : Dc mX9_hands 14 (.iaload) 1 15 := ⟨by decide +kernel, rfl⟩
theorem dX9_hands_15 : Dj mX9_hands 15 (.if_icmp .lt 10) 3 18 (10) 25 := ⟨by decide +kernel, rfl, by decide⟩
theorem dX9_hands_18 : Dc mX9_hands 18 (.aload_n 0) 1 19 := ⟨by decide +kernel, rfl⟩
theorem dX9_hands_19 : Dc mX9_hands 19 (.bipush 6) 2 21 := ⟨by decide +kernel, rfl⟩
theorem dX9_hands_21 : Dc mX9_hands 21 (.invokevirtual 151) 3 24 := ⟨by decide +kernel, rfl⟩
theorem dX9_hands_24 : Dc mX9_hands 24 (.ireturn) 1 25 := ⟨by decide +kernel, rfl⟩
theorem dX9_hands_25 : Dc mX9_hands 25 (.aload_n 0) 1 26 := ⟨by decide +kernel, rfl⟩
theorem dX9_hands_26 : Dc mX9_hands 26 (.bipush 40) 2 28 := ⟨by decide +kernel, rfl⟩
theorem dX9_hands_28 : Dc mX9_hands 28 (.aload_n 0) 1 29 := ⟨by decide +kernel, rfl⟩
theorem dX9_hands_29 : Dc mX9_hands 29 (.getfield 181) 3 32 := ⟨by decide +kernel, rfl⟩
theorem dX9_hands_32 : Dc mX9_hands 32 (.imul) 1 33 := ⟨by decide +kernel, rfl⟩
theorem dX9_hands_33 : Dc mX9_hands 33 (.aload_n 0) 1 34 := ⟨by decide +kernel, rfl⟩
theorem dX9_hands_34 : Dc mX9_hands 34 (.getfield 184) 3 37 := ⟨by decide +kernel, rfl⟩
theorem dX9_hands_37 : Dc mX9_hands 37 (.iadd) 1 38 := ⟨by decide +kernel, rfl⟩
theorem dX9_hands_38 : Dc mX9_hands 38 (.invokevirtual 207) 3 41 := ⟨by decide +kernel, rfl⟩
theorem dX9_hands_41 : Dc mX9_hands 41 (.iconst 0) 1 42 := ⟨by decide +kernel, rfl⟩
theorem dX9_hands_42 : Dc mX9_hands 42 (.istore_n 2) 1 43 := ⟨by decide +kernel, rfl⟩
theorem dX9_hands_43 : Dc mX9_hands 43 (.iload_n 2) 1 44 := ⟨by decide +kernel, rfl⟩
theorem dX9_hands_44 : Dc mX9_hands 44 (.bipush 8) 2 46 := ⟨by decide +kernel, rfl⟩
theorem dX9_hands_46 : Dj mX9_hands 46 (.if_icmp .ge 36) 3 49 (36) 82 := ⟨by decide +kernel, rfl, by decide⟩
theorem dX9_hands_49 : Dc mX9_hands 49 (.aload_n 0) 1 50 := ⟨by decide +kernel, rfl⟩
theorem dX9_hands_50 : Dc mX9_hands 50 (.getfield 84) 3 53 := ⟨by decide +kernel, rfl⟩
theorem dX9_hands_53 : Dc mX9_hands 53 (.iload_n 2) 1 54 := ⟨by decide +kernel, rfl⟩
theorem dX9_hands_54 : Dc mX9_hands 54 (.aload_n 0) 1 55 := ⟨by decide +kernel, rfl⟩
theorem dX9_hands_55 : Dc mX9_hands 55 (.getfield 84) 3 58 := ⟨by decide +kernel, rfl⟩
theorem dX9_hands_58 : Dc mX9_hands 58 (.iload_n 2) 1 59 := ⟨by decide +kernel, rfl⟩
theorem dX9_hands_59 : Dc mX9_hands 59 (.iaload) 1 60 := ⟨by decide +kernel, rfl⟩
theorem dX9_hands_60 : Dc mX9_hands 60 (.bipush 100) 2 62 := ⟨by decide +kernel, rfl⟩
theorem dX9_hands_62 : Dj mX9_hands 62 (.if_icmp .lt 7) 3 65 (7) 69 := ⟨by decide +kernel, rfl, by decide⟩
theorem dX9_hands_65 : Dc mX9_hands 65 (.iconst 0) 1 66 := ⟨by decide +kernel, rfl⟩
theorem dX9_hands_66 : Dj mX9_hands 66 (.goto 9) 3 69 (9) 75 := ⟨by decide +kernel, rfl, by decide⟩
theorem dX9_hands_69 : Dc mX9_hands 69 (.aload_n 0) 1 70 := ⟨by decide +kernel, rfl⟩
theorem dX9_hands_70 : Dc mX9_hands 70 (.getfield 84) 3 73 := ⟨by decide +kernel, rfl⟩
theorem dX9_hands_73 : Dc mX9_hands 73 (.iload_n 2) 1 74 := ⟨by decide +kernel, rfl⟩
theorem dX9_hands_74 : Dc mX9_hands 74 (.iaload) 1 75 := ⟨by decide +kernel, rfl⟩
theorem dX9_hands_75 : Dc mX9_hands 75 (.iastore) 1 76 := ⟨by decide +kernel, rfl⟩
theorem dX9_hands_76 : Dc mX9_hands 76 (.iinc 2 1) 3 79 := ⟨by decide +kernel, rfl⟩
theorem dX9_hands_79 : Dj mX9_hands 79 (.goto (-36)) 3 82 (-36) 43 := ⟨by decide +kernel, rfl, by decide⟩
theorem dX9_hands_82 : Dc mX9_hands 82 (.aload_n 0) 1 83 := ⟨by decide +kernel, rfl⟩
theorem dX9_hands_83 : Dc mX9_hands 83 (.iconst 1) 1 84 := ⟨by decide +kernel, rfl⟩
theorem dX9_hands_84 : Dc mX9_hands 84 (.putfield 148) 3 87 := ⟨by decide +kernel, rfl⟩
theorem dX9_hands_87 : Dc mX9_hands 87 (.aload_n 0) 1 88 := ⟨by decide +kernel, rfl⟩
theorem dX9_hands_88 : Dc mX9_hands 88 (.getfield 87) 3 91 := ⟨by decide +kernel, rfl⟩
theorem dX9_hands_91 : Dc mX9_hands 91 (.iconst 0) 1 92 := ⟨by decide +kernel, rfl⟩
theorem dX9_hands_92 : Dc mX9_hands 92 (.bipush 10) 2 94 := ⟨by decide +kernel, rfl⟩
theorem dX9_hands_94 : Dc mX9_hands 94 (.aload_n 0) 1 95 := ⟨by decide +kernel, rfl⟩
theorem dX9_hands_95 : Dc mX9_hands 95 (.getfield 54) 3 98 := ⟨by decide +kernel, rfl⟩
theorem dX9_hands_98 : Dc mX9_hands 98 (.iload_n 1) 1 99 := ⟨by decide +kernel, rfl⟩
theorem dX9_hands_99 : Dc mX9_hands 99 (.iaload) 1 100 := ⟨by decide +kernel, rfl⟩
theorem dX9_hands_100 : Dc mX9_hands 100 (.iadd) 1 101 := ⟨by decide +kernel, rfl⟩
theorem dX9_hands_101 : Dc mX9_hands 101 (.iastore) 1 102 := ⟨by decide +kernel, rfl⟩
theorem dX9_hands_102 : Dc mX9_hands 102 (.aload_n 0) 1 103 := ⟨by decide +kernel, rfl⟩
theorem dX9_hands_103 : Dc mX9_hands 103 (.aload_n 0) 1 104 := ⟨by decide +kernel, rfl⟩
theorem dX9_hands_104 : Dc mX9_hands 104 (.getfield 51) 3 107 := ⟨by decide +kernel, rfl⟩
theorem dX9_hands_107 : Dc mX9_hands 107 (.iload_n 1) 1 108 := ⟨by decide +kernel, rfl⟩
theorem dX9_hands_108 : Dc mX9_hands 108 (.iaload) 1 109 := ⟨by decide +kernel, rfl⟩
theorem dX9_hands_109 : Dc mX9_hands 109 (.invokevirtual 210) 3 112 := ⟨by decide +kernel, rfl⟩
theorem dX9_hands_112 : Dc mX9_hands 112 (.ireturn) 1 113 := ⟨by decide +kernel, rfl⟩
theorem dX9_hasUnmade_0 : Dc mX9_hasUnmade 0 (.iconst 0) 1 1 := ⟨by decide +kernel, rfl⟩
theorem dX9_hasUnmade_1 : Dc mX9_hasUnmade 1 (.istore_n 1) 1 2 := ⟨by decide +kernel, rfl⟩
theorem dX9_hasUnmade_2 : Dc mX9_hasUnmade 2 (.iconst 0) 1 3 := ⟨by decide +kernel, rfl⟩
theorem dX9_hasUnmade_3 : Dc mX9_hasUnmade 3 (.istore_n 2) 1 4 := ⟨by decide +kernel, rfl⟩
theorem dX9_hasUnmade_4 : Dc mX9_hasUnmade 4 (.iload_n 2) 1 5 := ⟨by decide +kernel, rfl⟩
theorem dX9_hasUnmade_5 : Dc mX9_hasUnmade 5 (.bipush 8) 2 7 := ⟨by decide +kernel, rfl⟩
theorem dX9_hasUnmade_7 : Dj mX9_hasUnmade 7 (.if_icmp .ge 49) 3 10 (49) 56 := ⟨by decide +kernel, rfl, by decide⟩
theorem dX9_hasUnmade_10 : Dc mX9_hasUnmade 10 (.iload_n 1) 1 11 := ⟨by decide +kernel, rfl⟩
theorem dX9_hasUnmade_11 : Dj mX9_hasUnmade 11 (.ifCond .ne 33) 3 14 (33) 44 := ⟨by decide +kernel, rfl, by decide⟩
theorem dX9_hasUnmade_14 : Dc mX9_hasUnmade 14 (.aload_n 0) 1 15 := ⟨by decide +kernel, rfl⟩
theorem dX9_hasUnmade_15 : Dc mX9_hasUnmade 15 (.getfield 84) 3 18 := ⟨by decide +kernel, rfl⟩
theorem dX9_hasUnmade_18 : Dc mX9_hasUnmade 18 (.iload_n 2) 1 19 := ⟨by decide +kernel, rfl⟩
theorem dX9_hasUnmade_19 : Dc mX9_hasUnmade 19 (.iaload) 1 20 := ⟨by decide +kernel, rfl⟩
theorem dX9_hasUnmade_20 : Dc mX9_hasUnmade 20 (.bipush 100) 2 22 := ⟨by decide +kernel, rfl⟩
theorem dX9_hasUnmade_22 : Dj mX9_hasUnmade 22 (.if_icmp .ge 22) 3 25 (22) 44 := ⟨by decide +kernel, rfl, by decide⟩
theorem dX9_hasUnmade_25 : Dc mX9_hasUnmade 25 (.iload_n 2) 1 26 := ⟨by decide +kernel, rfl⟩
theorem dX9_hasUnmade_26 : Dc mX9_hasUnmade 26 (.aload_n 0) 1 27 := ⟨by decide +kernel, rfl⟩
theorem dX9_hasUnmade_27 : Dc mX9_hasUnmade 27 (.getfield 148) 3 30 := ⟨by decide +kernel, rfl⟩
theorem dX9_hasUnmade_30 : Dj mX9_hasUnmade 30 (.if_icmp .ge 18) 3 33 (18) 48 := ⟨by decide +kernel, rfl, by decide⟩
theorem dX9_hasUnmade_33 : Dc mX9_hasUnmade 33 (.aload_n 0) 1 34 := ⟨by decide +kernel, rfl⟩
theorem dX9_hasUnmade_34 : Dc mX9_hasUnmade 34 (.getfield 87) 3 37 := ⟨by decide +kernel, rfl⟩
theorem dX9_hasUnmade_37 : Dc mX9_hasUnmade 37 (.iload_n 2) 1 38 := ⟨by decide +kernel, rfl⟩
theorem dX9_hasUnmade_38 : Dc mX9_hasUnmade 38 (.iaload) 1 39 := ⟨by decide +kernel, rfl⟩
theorem dX9_hasUnmade_39 : Dc mX9_hasUnmade 39 (.bipush 100) 2 41 := ⟨by decide +kernel, rfl⟩
theorem dX9_hasUnmade_41 : Dj mX9_hasUnmade 41 (.if_icmp .lt 7) 3 44 (7) 48 := ⟨by decide +kernel, rfl, by decide⟩
theorem dX9_hasUnmade_44 : Dc mX9_hasUnmade 44 (.iconst 1) 1 45 := ⟨by decide +kernel, rfl⟩
theorem dX9_hasUnmade_45 : Dj mX9_hasUnmade 45 (.goto 4) 3 48 (4) 49 := ⟨by decide +kernel, rfl, by decide⟩
theorem dX9_hasUnmade_48 : Dc mX9_hasUnmade 48 (.iconst 0) 1 49 := ⟨by decide +kernel, rfl⟩
theorem dX9_hasUnmade_49 : Dc mX9_hasUnmade 49 (.istore_n 1) 1 50 := ⟨by decide +kernel, rfl⟩
theorem dX9_hasUnmade_50 : Dc mX9_hasUnmade 50 (.iinc 2 1) 3 53 := ⟨by decide +kernel, rfl⟩
theorem dX9_hasUnmade_53 : Dj mX9_hasUnmade 53 (.goto (-49)) 3 56 (-49) 4 := ⟨by decide +kernel, rfl, by decide⟩
theorem dX9_hasUnmade_56 : Dc mX9_hasUnmade 56 (.iload_n 1) 1 57 := ⟨by decide +kernel, rfl⟩
theorem dX9_hasUnmade_57 : Dc mX9_hasUnmade 57 (.ireturn) 1 58 := ⟨by decide +kernel, rfl⟩
theorem dX9_jumps_0 : Dc mX9_jumps 0 (.iload_n 1) 1 1 := ⟨by decide +kernel, rfl⟩
theorem dX9_jumps_1 : Dc mX9_jumps 1 (.aload_n 0) 1 2 := ⟨by decide +kernel, rfl⟩
theorem dX9_jumps_2 : Dc mX9_jumps 2 (.getfield 30) 3 5 := ⟨by decide +kernel, rfl⟩
theorem dX9_jumps_5 : Dc mX9_jumps 5 (.aload_n 0) 1 6 := ⟨by decide +kernel, rfl⟩
theorem dX9_jumps_6 : Dc mX9_jumps 6 (.getfield 181) 3 9 := ⟨by decide +kernel, rfl⟩
theorem dX9_jumps_9 : Dc mX9_jumps 9 (.iaload) 1 10 := ⟨by decide +kernel, rfl⟩
theorem dX9_jumps_10 : Dj mX9_jumps 10 (.if_icmp .lt 10) 3 13 (10) 20 := ⟨by decide +kernel, rfl, by decide⟩
theorem dX9_jumps_13 : Dc mX9_jumps 13 (.aload_n 0) 1 14 := ⟨by decide +kernel, rfl⟩
theorem dX9_jumps_14 : Dc mX9_jumps 14 (.bipush 6) 2 16 := ⟨by decide +kernel, rfl⟩
theorem dX9_jumps_16 : Dc mX9_jumps 16 (.invokevirtual 151) 3 19 := ⟨by decide +kernel, rfl⟩
theorem dX9_jumps_19 : Dc mX9_jumps 19 (.ireturn) 1 20 := ⟨by decide +kernel, rfl⟩
theorem dX9_jumps_20 : Dc mX9_jumps 20 (.iload_n 1) 1 21 := ⟨by decide +kernel, rfl⟩
theorem dX9_jumps_21 : Dc mX9_jumps 21 (.aload_n 0) 1 22 := ⟨by decide +kernel, rfl⟩
theorem dX9_jumps_22 : Dc mX9_jumps 22 (.getfield 184) 3 25 := ⟨by decide +kernel, rfl⟩
theorem dX9_jumps_25 : Dj mX9_jumps 25 (.if_icmp .gt 17) 3 28 (17) 42 := ⟨by decide +kernel, rfl, by decide⟩
theorem dX9_jumps_28 : Dc mX9_jumps 28 (.aload_n 0) 1 29 := ⟨by decide +kernel, rfl⟩
theorem dX9_jumps_29 : Dc mX9_jumps 29 (.invokevirtual 213) 3 32 := ⟨by decide +kernel, rfl⟩
theorem dX9_jumps_32 : Dj mX9_jumps 32 (.ifCond .eq 10) 3 35 (10) 42 := ⟨by decide +kernel, rfl, by decide⟩
theorem dX9_jumps_35 : Dc mX9_jumps 35 (.aload_n 0) 1 36 := ⟨by decide +kernel, rfl⟩
theorem dX9_jumps_36 : Dc mX9_jumps 36 (.bipush 7) 2 38 := ⟨by decide +kernel, rfl⟩
theorem dX9_jumps_38 : Dc mX9_jumps 38 (.invokevirtual 151) 3 41 := ⟨by decide +kernel, rfl⟩
theorem dX9_jumps_41 : Dc mX9_jumps 41 (.ireturn) 1 42 := ⟨by decide +kernel, rfl⟩
theorem dX9_jumps_42 : Dc mX9_jumps 42 (.aload_n 0) 1 43 := ⟨by decide +kernel, rfl⟩
theorem dX9_jumps_43 : Dc mX9_jumps 43 (.iload_n 1) 1 44 := ⟨by decide +kernel, rfl⟩
theorem dX9_jumps_44 : Dc mX9_jumps 44 (.invokevirtual 210) 3 47 := ⟨by decide +kernel, rfl⟩
theorem dX9_jumps_47 : Dc mX9_jumps 47 (.ireturn) 1 48 := ⟨by decide +kernel, rfl⟩
theorem dX9_goesOn_0 : Dc mX9_goesOn 0 (.aload_n 0) 1 1 := ⟨by decide +kernel, rfl⟩
theorem dX9_goesOn_1 : Dc mX9_goesOn 1 (.getfield 184) 3 4 := ⟨by decide +kernel, rfl⟩
theorem dX9_goesOn_4 : Dc mX9_goesOn 4 (.iconst 1) 1 5 := ⟨by decide +kernel, rfl⟩
theorem dX9_goesOn_5 : Dc mX9_goesOn 5 (.iadd) 1 6 := ⟨by decide +kernel, rfl⟩
theorem dX9_goesOn_6 : Dc mX9_goesOn 6 (.aload_n 0) 1 7 := ⟨by decide +kernel, rfl⟩
theorem dX9_goesOn_7 : Dc mX9_goesOn 7 (.getfield 30) 3 10 := ⟨by decide +kernel, rfl⟩
theorem dX9_goesOn_10 : Dc mX9_goesOn 10 (.aload_n 0) 1 11 := ⟨by decide +kernel, rfl⟩
theorem dX9_goesOn_11 : Dc mX9_goesOn 11 (.getfield 181) 3 14 := ⟨by decide +kernel, rfl⟩
theorem dX9_goesOn_14 : Dc mX9_goesOn 14 (.iaload) 1 15 := ⟨by decide +kernel, rfl⟩
theorem dX9_goesOn_15 : Dj mX9_goesOn 15 (.if_icmp .ge 16) 3 18 (16) 31 := ⟨by decide +kernel, rfl, by decide⟩
theorem dX9_goesOn_18 : Dc mX9_goesOn 18 (.aload_n 0) 1 19 := ⟨by decide +kernel, rfl⟩
theorem dX9_goesOn_19 : Dc mX9_goesOn 19 (.aload_n 0) 1 20 := ⟨by decide +kernel, rfl⟩
theorem dX9_goesOn_20 : Dc mX9_goesOn 20 (.getfield 184) 3 23 := ⟨by decide +kernel, rfl⟩
theorem dX9_goesOn_23 : Dc mX9_goesOn 23 (.iconst 1) 1 24 := ⟨by decide +kernel, rfl⟩
theorem dX9_goesOn_24 : Dc mX9_goesOn 24 (.iadd) 1 25 := ⟨by decide +kernel, rfl⟩
theorem dX9_goesOn_25 : Dc mX9_goesOn 25 (.invokevirtual 210) 3 28 := ⟨by decide +kernel, rfl⟩
theorem dX9_goesOn_28 : Dj mX9_goesOn 28 (.goto 8) 3 31 (8) 36 := ⟨by decide +kernel, rfl, by decide⟩
theorem dX9_goesOn_31 : Dc mX9_goesOn 31 (.aload_n 0) 1 32 := ⟨by decide +kernel, rfl⟩
theorem dX9_goesOn_32 : Dc mX9_goesOn 32 (.iconst 5) 1 33 := ⟨by decide +kernel, rfl⟩
theorem dX9_goesOn_33 : Dc mX9_goesOn 33 (.invokevirtual 151) 3 36 := ⟨by decide +kernel, rfl⟩
theorem dX9_goesOn_36 : Dc mX9_goesOn 36 (.ireturn) 1 37 := ⟨by decide +kernel, rfl⟩
theorem dX9_goes_0 : Dc mX9_goes 0 (.iconst 0) 1 1 := ⟨by decide +kernel, rfl⟩
theorem dX9_goes_1 : Dc mX9_goes 1 (.istore_n 1) 1 2 := ⟨by decide +kernel, rfl⟩
theorem dX9_goes_2 : Dc mX9_goes 2 (.iload_n 1) 1 3 := ⟨by decide +kernel, rfl⟩
theorem dX9_goes_3 : Dc mX9_goes 3 (.aload_n 0) 1 4 := ⟨by decide +kernel, rfl⟩
theorem dX9_goes_4 : Dc mX9_goes 4 (.getfield 42) 3 7 := ⟨by decide +kernel, rfl⟩
theorem dX9_goes_7 : Dc mX9_goes 7 (.aload_n 0) 1 8 := ⟨by decide +kernel, rfl⟩
theorem dX9_goes_8 : Dc mX9_goes 8 (.getfield 181) 3 11 := ⟨by decide +kernel, rfl⟩
theorem dX9_goes_11 : Dc mX9_goes 11 (.iaload) 1 12 := ⟨by decide +kernel, rfl⟩
theorem dX9_goes_12 : Dj mX9_goes 12 (.if_icmp .ge 53) 3 15 (53) 65 := ⟨by decide +kernel, rfl, by decide⟩
theorem dX9_goes_15 : Dc mX9_goes 15 (.bipush 6) 2 17 := ⟨by decide +kernel, rfl⟩
theorem dX9_goes_17 : Dc mX9_goes 17 (.aload_n 0) 1 18 := ⟨by decide +kernel, rfl⟩
theorem dX9_goes_18 : Dc mX9_goes 18 (.getfield 181) 3 21 := ⟨by decide +kernel, rfl⟩
theorem dX9_goes_21 : Dc mX9_goes 21 (.imul) 1 22 := ⟨by decide +kernel, rfl⟩
theorem dX9_goes_22 : Dc mX9_goes 22 (.iload_n 1) 1 23 := ⟨by decide +kernel, rfl⟩
theorem dX9_goes_23 : Dc mX9_goes 23 (.iadd) 1 24 := ⟨by decide +kernel, rfl⟩
theorem dX9_goes_24 : Dc mX9_goes 24 (.istore_n 2) 1 25 := ⟨by decide +kernel, rfl⟩
theorem dX9_goes_25 : Dc mX9_goes 25 (.aload_n 0) 1 26 := ⟨by decide +kernel, rfl⟩
theorem dX9_goes_26 : Dc mX9_goes 26 (.getfield 184) 3 29 := ⟨by decide +kernel, rfl⟩
theorem dX9_goes_29 : Dc mX9_goes 29 (.aload_n 0) 1 30 := ⟨by decide +kernel, rfl⟩
theorem dX9_goes_30 : Dc mX9_goes 30 (.getfield 45) 3 33 := ⟨by decide +kernel, rfl⟩
theorem dX9_goes_33 : Dc mX9_goes 33 (.iload_n 2) 1 34 := ⟨by decide +kernel, rfl⟩
theorem dX9_goes_34 : Dc mX9_goes 34 (.iaload) 1 35 := ⟨by decide +kernel, rfl⟩
theorem dX9_goes_35 : Dc mX9_goes 35 (.aload_n 0) 1 36 := ⟨by decide +kernel, rfl⟩
theorem dX9_goes_36 : Dc mX9_goes 36 (.getfield 48) 3 39 := ⟨by decide +kernel, rfl⟩
theorem dX9_goes_39 : Dc mX9_goes 39 (.iload_n 2) 1 40 := ⟨by decide +kernel, rfl⟩
theorem dX9_goes_40 : Dc mX9_goes 40 (.iaload) 1 41 := ⟨by decide +kernel, rfl⟩
theorem dX9_goes_41 : Dc mX9_goes 41 (.iconst 1) 1 42 := ⟨by decide +kernel, rfl⟩
theorem dX9_goes_42 : Dc mX9_goes 42 (.isub) 1 43 := ⟨by decide +kernel, rfl⟩
theorem dX9_goes_43 : Dc mX9_goes 43 (.invokestatic 99) 3 46 := ⟨by decide +kernel, rfl⟩
theorem dX9_goes_46 : Dj mX9_goes 46 (.ifCond .eq 13) 3 49 (13) 59 := ⟨by decide +kernel, rfl, by decide⟩
theorem dX9_goes_49 : Dc mX9_goes 49 (.aload_n 0) 1 50 := ⟨by decide +kernel, rfl⟩
theorem dX9_goes_50 : Dc mX9_goes 50 (.iload_n 2) 1 51 := ⟨by decide +kernel, rfl⟩
theorem dX9_goes_51 : Dc mX9_goes 51 (.invokevirtual 216) 3 54 := ⟨by decide +kernel, rfl⟩
theorem dX9_goes_54 : Dj mX9_goes 54 (.ifCond .ne 5) 3 57 (5) 59 := ⟨by decide +kernel, rfl, by decide⟩
theorem dX9_goes_57 : Dc mX9_goes 57 (.iconst 0) 1 58 := ⟨by decide +kernel, rfl⟩
theorem dX9_goes_58 : Dc mX9_goes 58 (.ireturn) 1 59 := ⟨by decide +kernel, rfl⟩
theorem dX9_goes_59 : Dc mX9_goes 59 (.iinc 1 1) 3 62 := ⟨by decide +kernel, rfl⟩
theorem dX9_goes_62 : Dj mX9_goes 62 (.goto (-60)) 3 65 (-60) 2 := ⟨by decide +kernel, rfl, by decide⟩
theorem dX9_goes_65 : Dc mX9_goes 65 (.bipush 40) 2 67 := ⟨by decide +kernel, rfl⟩
theorem dX9_goes_67 : Dc mX9_goes 67 (.aload_n 0) 1 68 := ⟨by decide +kernel, rfl⟩
theorem dX9_goes_68 : Dc mX9_goes 68 (.getfield 181) 3 71 := ⟨by decide +kernel, rfl⟩
theorem dX9_goes_71 : Dc mX9_goes 71 (.imul) 1 72 := ⟨by decide +kernel, rfl⟩
theorem dX9_goes_72 : Dc mX9_goes 72 (.aload_n 0) 1 73 := ⟨by decide +kernel, rfl⟩
theorem dX9_goes_73 : Dc mX9_goes 73 (.getfield 184) 3 76 := ⟨by decide +kernel, rfl⟩
theorem dX9_goes_76 : Dc mX9_goes 76 (.iadd) 1 77 := ⟨by decide +kernel, rfl⟩
theorem dX9_goes_77 : Dc mX9_goes 77 (.istore_n 1) 1 78 := ⟨by decide +kernel, rfl⟩
theorem dX9_goes_78 : Dc mX9_goes 78 (.aload_n 0) 1 79 := ⟨by decide +kernel, rfl⟩
theorem dX9_goes_79 : Dc mX9_goes 79 (.iload_n 1) 1 80 := ⟨by decide +kernel, rfl⟩
theorem dX9_goes_80 : Dc mX9_goes 80 (.invokevirtual 207) 3 83 := ⟨by decide +kernel, rfl⟩
theorem dX9_goes_83 : Dc mX9_goes 83 (.aload_n 0) 1 84 := ⟨by decide +kernel, rfl⟩
theorem dX9_goes_84 : Dc mX9_goes 84 (.aload_n 0) 1 85 := ⟨by decide +kernel, rfl⟩
theorem dX9_goes_85 : Dc mX9_goes 85 (.getfield 33) 3 88 := ⟨by decide +kernel, rfl⟩
theorem dX9_goes_88 : Dc mX9_goes 88 (.iload_n 1) 1 89 := ⟨by decide +kernel, rfl⟩
theorem dX9_goes_89 : Dc mX9_goes 89 (.iaload) 1 90 := ⟨by decide +kernel, rfl⟩
theorem dX9_goes_90 : Dc mX9_goes 90 (.aload_n 0) 1 91 := ⟨by decide +kernel, rfl⟩
theorem dX9_goes_91 : Dc mX9_goes 91 (.getfield 36) 3 94 := ⟨by decide +kernel, rfl⟩
theorem dX9_goes_94 : Dc mX9_goes 94 (.iload_n 1) 1 95 := ⟨by decide +kernel, rfl⟩
theorem dX9_goes_95 : Dc mX9_goes 95 (.iaload) 1 96 := ⟨by decide +kernel, rfl⟩
theorem dX9_goes_96 : Dc mX9_goes 96 (.aload_n 0) 1 97 := ⟨by decide +kernel, rfl⟩
theorem dX9_goes_97 : Dc mX9_goes 97 (.getfield 39) 3 100 := ⟨by decide +kernel, rfl⟩
theorem dX9_goes_100 : Dc mX9_goes 100 (.iload_n 1) 1 101 := ⟨by decide +kernel, rfl⟩
theorem dX9_goes_101 : Dc mX9_goes 101 (.iaload) 1 102 := ⟨by decide +kernel, rfl⟩
theorem dX9_goes_102 : Dc mX9_goes 102 (.invokevirtual 219) 3 105 := ⟨by decide +kernel, rfl⟩
theorem dX9_goes_105 : Dj mX9_goes 105 (.ifCond .ne 5) 3 108 (5) 110 := ⟨by decide +kernel, rfl, by decide⟩
theorem dX9_goes_108 : Dc mX9_goes 108 (.iconst 0) 1 109 := ⟨by decide +kernel, rfl⟩
theorem dX9_goes_109 : Dc mX9_goes 109 (.ireturn) 1 110 := ⟨by decide +kernel, rfl⟩
theorem dX9_goes_110 : Dc mX9_goes 110 (.aload_n 0) 1 111 := ⟨by decide +kernel, rfl⟩
theorem dX9_goes_111 : Dc mX9_goes 111 (.aload_n 0) 1 112 := ⟨by decide +kernel, rfl⟩
theorem dX9_goes_112 : Dc mX9_goes 112 (.getfield 148) 3 115 := ⟨by decide +kernel, rfl⟩
theorem dX9_goes_115 : Dc mX9_goes 115 (.invokevirtual 200) 3 118 := ⟨by decide +kernel, rfl⟩
theorem dX9_goes_118 : Dc mX9_goes 118 (.aload_n 0) 1 119 := ⟨by decide +kernel, rfl⟩
theorem dX9_goes_119 : Dc mX9_goes 119 (.getfield 33) 3 122 := ⟨by decide +kernel, rfl⟩
theorem dX9_goes_122 : Dc mX9_goes 122 (.iload_n 1) 1 123 := ⟨by decide +kernel, rfl⟩
theorem dX9_goes_123 : Dc mX9_goes 123 (.iaload) 1 124 := ⟨by decide +kernel, rfl⟩
theorem dX9_goes_124 : decode mX9_goes.2.1 124 = .ok (.lookupswitch 83 #[(11, 44), (12, 70), (22, 81), (23, 81)], 44) := by decide +kernel
theorem dX9_goes_168 : Dc mX9_goes 168 (.aload_n 0) 1 169 := ⟨by decide +kernel, rfl⟩
theorem dX9_goes_169 : Dc mX9_goes 169 (.aload_n 0) 1 170 := ⟨by decide +kernel, rfl⟩
theorem dX9_goes_170 : Dc mX9_goes 170 (.getfield 36) 3 173 := ⟨by decide +kernel, rfl⟩
theorem dX9_goes_173 : Dc mX9_goes 173 (.iload_n 1) 1 174 := ⟨by decide +kernel, rfl⟩
theorem dX9_goes_174 : Dc mX9_goes 174 (.iaload) 1 175 := ⟨by decide +kernel, rfl⟩
theorem dX9_goes_175 : Dc mX9_goes 175 (.invokevirtual 222) 3 178 := ⟨by decide +kernel, rfl⟩
theorem dX9_goes_178 : Dj mX9_goes 178 (.ifCond .eq 14) 3 181 (14) 192 := ⟨by decide +kernel, rfl, by decide⟩
theorem dX9_goes_181 : Dc mX9_goes 181 (.aload_n 0) 1 182 := ⟨by decide +kernel, rfl⟩
theorem dX9_goes_182 : Dc mX9_goes 182 (.invokevirtual 225) 3 185 := ⟨by decide +kernel, rfl⟩
theorem dX9_goes_185 : Dj mX9_goes 185 (.ifCond .eq 7) 3 188 (7) 192 := ⟨by decide +kernel, rfl, by decide⟩
theorem dX9_goes_188 : Dc mX9_goes 188 (.iconst 1) 1 189 := ⟨by decide +kernel, rfl⟩
theorem dX9_goes_189 : Dj mX9_goes 189 (.goto 4) 3 192 (4) 193 := ⟨by decide +kernel, rfl, by decide⟩
theorem dX9_goes_192 : Dc mX9_goes 192 (.iconst 0) 1 193 := ⟨by decide +kernel, rfl⟩
theorem dX9_goes_193 : Dc mX9_goes 193 (.ireturn) 1 194 := ⟨by decide +kernel, rfl⟩
theorem dX9_goes_194 : Dc mX9_goes 194 (.aload_n 0) 1 195 := ⟨by decide +kernel, rfl⟩
theorem dX9_goes_195 : Dc mX9_goes 195 (.aload_n 0) 1 196 := ⟨by decide +kernel, rfl⟩
theorem dX9_goes_196 : Dc mX9_goes 196 (.getfield 36) 3 199 := ⟨by decide +kernel, rfl⟩
theorem dX9_goes_199 : Dc mX9_goes 199 (.iload_n 1) 1 200 := ⟨by decide +kernel, rfl⟩
theorem dX9_goes_200 : Dc mX9_goes 200 (.iaload) 1 201 := ⟨by decide +kernel, rfl⟩
theorem dX9_goes_201 : Dc mX9_goes 201 (.invokevirtual 222) 3 204 := ⟨by decide +kernel, rfl⟩
theorem dX9_goes_204 : Dc mX9_goes 204 (.ireturn) 1 205 := ⟨by decide +kernel, rfl⟩
theorem dX9_goes_205 : Dc mX9_goes 205 (.iconst 1) 1 206 := ⟨by decide +kernel, rfl⟩
theorem dX9_goes_206 : Dc mX9_goes 206 (.ireturn) 1 207 := ⟨by decide +kernel, rfl⟩
theorem dX9_goes_207 : Dc mX9_goes 207 (.aload_n 0) 1 208 := ⟨by decide +kernel, rfl⟩
end
section
theorem dX9_goes_208 : Dc mX9_goes 208 (.invokevirtual 225) 3 211 := ⟨by decide +kernel, rfl⟩
theorem dX9_goes_211 : Dc mX9_goes 211 (.ireturn) 1 212 := ⟨by decide +kernel, rfl⟩
theorem dX9_leastLooked_0 : Dc mX9_leastLooked 0 (.iconst 0) 1 1 := ⟨by decide +kernel, rfl⟩
theorem dX9_leastLooked_1 : Dc mX9_leastLooked 1 (.istore_n 1) 1 2 := ⟨by decide +kernel, rfl⟩
theorem dX9_leastLooked_2 : Dc mX9_leastLooked 2 (.iload_n 1) 1 3 := ⟨by decide +kernel, rfl⟩
theorem dX9_leastLooked_3 : Dc mX9_leastLooked 3 (.aload_n 0) 1 4 := ⟨by decide +kernel, rfl⟩
theorem dX9_leastLooked_4 : Dc mX9_leastLooked 4 (.getfield 30) 3 7 := ⟨by decide +kernel, rfl⟩
theorem dX9_leastLooked_7 : Dc mX9_leastLooked 7 (.aload_n 0) 1 8 := ⟨by decide +kernel, rfl⟩
theorem dX9_leastLooked_8 : Dc mX9_leastLooked 8 (.getfield 181) 3 11 := ⟨by decide +kernel, rfl⟩
theorem dX9_leastLooked_11 : Dc mX9_leastLooked 11 (.iaload) 1 12 := ⟨by decide +kernel, rfl⟩
theorem dX9_leastLooked_12 : Dj mX9_leastLooked 12 (.if_icmp .ge 26) 3 15 (26) 38 := ⟨by decide +kernel, rfl, by decide⟩
theorem dX9_leastLooked_15 : Dc mX9_leastLooked 15 (.aload_n 0) 1 16 := ⟨by decide +kernel, rfl⟩
theorem dX9_leastLooked_16 : Dc mX9_leastLooked 16 (.getfield 75) 3 19 := ⟨by decide +kernel, rfl⟩
theorem dX9_leastLooked_19 : Dc mX9_leastLooked 19 (.bipush 40) 2 21 := ⟨by decide +kernel, rfl⟩
theorem dX9_leastLooked_21 : Dc mX9_leastLooked 21 (.aload_n 0) 1 22 := ⟨by decide +kernel, rfl⟩
theorem dX9_leastLooked_22 : Dc mX9_leastLooked 22 (.getfield 181) 3 25 := ⟨by decide +kernel, rfl⟩
theorem dX9_leastLooked_25 : Dc mX9_leastLooked 25 (.imul) 1 26 := ⟨by decide +kernel, rfl⟩
theorem dX9_leastLooked_26 : Dc mX9_leastLooked 26 (.iload_n 1) 1 27 := ⟨by decide +kernel, rfl⟩
theorem dX9_leastLooked_27 : Dc mX9_leastLooked 27 (.iadd) 1 28 := ⟨by decide +kernel, rfl⟩
theorem dX9_leastLooked_28 : Dc mX9_leastLooked 28 (.baload) 1 29 := ⟨by decide +kernel, rfl⟩
theorem dX9_leastLooked_29 : Dj mX9_leastLooked 29 (.ifCond .ne 9) 3 32 (9) 38 := ⟨by decide +kernel, rfl, by decide⟩
theorem dX9_leastLooked_32 : Dc mX9_leastLooked 32 (.iinc 1 1) 3 35 := ⟨by decide +kernel, rfl⟩
theorem dX9_leastLooked_35 : Dj mX9_leastLooked 35 (.goto (-33)) 3 38 (-33) 2 := ⟨by decide +kernel, rfl, by decide⟩
theorem dX9_leastLooked_38 : Dc mX9_leastLooked 38 (.iload_n 1) 1 39 := ⟨by decide +kernel, rfl⟩
theorem dX9_leastLooked_39 : Dc mX9_leastLooked 39 (.aload_n 0) 1 40 := ⟨by decide +kernel, rfl⟩
theorem dX9_leastLooked_40 : Dc mX9_leastLooked 40 (.getfield 30) 3 43 := ⟨by decide +kernel, rfl⟩
theorem dX9_leastLooked_43 : Dc mX9_leastLooked 43 (.aload_n 0) 1 44 := ⟨by decide +kernel, rfl⟩
theorem dX9_leastLooked_44 : Dc mX9_leastLooked 44 (.getfield 181) 3 47 := ⟨by decide +kernel, rfl⟩
theorem dX9_leastLooked_47 : Dc mX9_leastLooked 47 (.iaload) 1 48 := ⟨by decide +kernel, rfl⟩
theorem dX9_leastLooked_48 : Dj mX9_leastLooked 48 (.if_icmp .ge 7) 3 51 (7) 55 := ⟨by decide +kernel, rfl, by decide⟩
theorem dX9_leastLooked_51 : Dc mX9_leastLooked 51 (.iload_n 1) 1 52 := ⟨by decide +kernel, rfl⟩
theorem dX9_leastLooked_52 : Dj mX9_leastLooked 52 (.goto 4) 3 55 (4) 56 := ⟨by decide +kernel, rfl, by decide⟩
theorem dX9_leastLooked_55 : Dc mX9_leastLooked 55 (.iconst (-1)) 1 56 := ⟨by decide +kernel, rfl⟩
theorem dX9_leastLooked_56 : Dc mX9_leastLooked 56 (.ireturn) 1 57 := ⟨by decide +kernel, rfl⟩
theorem dX9_compute_0 : Dc mX9_compute 0 (.aload_n 0) 1 1 := ⟨by decide +kernel, rfl⟩
theorem dX9_compute_1 : Dc mX9_compute 1 (.iload_n 1) 1 2 := ⟨by decide +kernel, rfl⟩
theorem dX9_compute_2 : Dc mX9_compute 2 (.invokevirtual 139) 3 5 := ⟨by decide +kernel, rfl⟩
theorem dX9_compute_5 : Dj mX9_compute 5 (.ifCond .ne 6) 3 8 (6) 11 := ⟨by decide +kernel, rfl, by decide⟩
theorem dX9_compute_8 : Dc mX9_compute 8 (.bipush (-2)) 2 10 := ⟨by decide +kernel, rfl⟩
theorem dX9_compute_10 : Dc mX9_compute 10 (.ireturn) 1 11 := ⟨by decide +kernel, rfl⟩
theorem dX9_compute_11 : Dc mX9_compute 11 (.aload_n 0) 1 12 := ⟨by decide +kernel, rfl⟩
theorem dX9_compute_12 : Dc mX9_compute 12 (.getfield 30) 3 15 := ⟨by decide +kernel, rfl⟩
theorem dX9_compute_15 : Dc mX9_compute 15 (.iload_n 1) 1 16 := ⟨by decide +kernel, rfl⟩
theorem dX9_compute_16 : Dc mX9_compute 16 (.iaload) 1 17 := ⟨by decide +kernel, rfl⟩
theorem dX9_compute_17 : Dj mX9_compute 17 (.ifCond .ne 6) 3 20 (6) 23 := ⟨by decide +kernel, rfl, by decide⟩
theorem dX9_compute_20 : Dc mX9_compute 20 (.bipush (-3)) 2 22 := ⟨by decide +kernel, rfl⟩
theorem dX9_compute_22 : Dc mX9_compute 22 (.ireturn) 1 23 := ⟨by decide +kernel, rfl⟩
theorem dX9_compute_23 : Dc mX9_compute 23 (.aload_n 0) 1 24 := ⟨by decide +kernel, rfl⟩
theorem dX9_compute_24 : Dc mX9_compute 24 (.iload_n 1) 1 25 := ⟨by decide +kernel, rfl⟩
theorem dX9_compute_25 : Dc mX9_compute 25 (.putfield 181) 3 28 := ⟨by decide +kernel, rfl⟩
theorem dX9_compute_28 : Dc mX9_compute 28 (.aload_n 0) 1 29 := ⟨by decide +kernel, rfl⟩
theorem dX9_compute_29 : Dc mX9_compute 29 (.getfield 57) 3 32 := ⟨by decide +kernel, rfl⟩
theorem dX9_compute_32 : Dc mX9_compute 32 (.iload_n 1) 1 33 := ⟨by decide +kernel, rfl⟩
theorem dX9_compute_33 : Dc mX9_compute 33 (.iconst 1) 1 34 := ⟨by decide +kernel, rfl⟩
theorem dX9_compute_34 : Dc mX9_compute 34 (.bastore) 1 35 := ⟨by decide +kernel, rfl⟩
theorem dX9_compute_35 : Dc mX9_compute 35 (.aload_n 0) 1 36 := ⟨by decide +kernel, rfl⟩
theorem dX9_compute_36 : Dc mX9_compute 36 (.getfield 60) 3 39 := ⟨by decide +kernel, rfl⟩
theorem dX9_compute_39 : Dc mX9_compute 39 (.iload_n 1) 1 40 := ⟨by decide +kernel, rfl⟩
theorem dX9_compute_40 : Dc mX9_compute 40 (.iconst 0) 1 41 := ⟨by decide +kernel, rfl⟩
theorem dX9_compute_41 : Dc mX9_compute 41 (.iastore) 1 42 := ⟨by decide +kernel, rfl⟩
theorem dX9_compute_42 : Dc mX9_compute 42 (.aload_n 0) 1 43 := ⟨by decide +kernel, rfl⟩
theorem dX9_compute_43 : Dc mX9_compute 43 (.getfield 63) 3 46 := ⟨by decide +kernel, rfl⟩
theorem dX9_compute_46 : Dc mX9_compute 46 (.iload_n 1) 1 47 := ⟨by decide +kernel, rfl⟩
theorem dX9_compute_47 : Dc mX9_compute 47 (.iconst (-1)) 1 48 := ⟨by decide +kernel, rfl⟩
theorem dX9_compute_48 : Dc mX9_compute 48 (.iastore) 1 49 := ⟨by decide +kernel, rfl⟩
theorem dX9_compute_49 : Dc mX9_compute 49 (.aload_n 0) 1 50 := ⟨by decide +kernel, rfl⟩
theorem dX9_compute_50 : Dc mX9_compute 50 (.getfield 66) 3 53 := ⟨by decide +kernel, rfl⟩
theorem dX9_compute_53 : Dc mX9_compute 53 (.iload_n 1) 1 54 := ⟨by decide +kernel, rfl⟩
theorem dX9_compute_54 : Dc mX9_compute 54 (.iconst 0) 1 55 := ⟨by decide +kernel, rfl⟩
theorem dX9_compute_55 : Dc mX9_compute 55 (.iastore) 1 56 := ⟨by decide +kernel, rfl⟩
theorem dX9_compute_56 : Dc mX9_compute 56 (.aload_n 0) 1 57 := ⟨by decide +kernel, rfl⟩
theorem dX9_compute_57 : Dc mX9_compute 57 (.getfield 69) 3 60 := ⟨by decide +kernel, rfl⟩
theorem dX9_compute_60 : Dc mX9_compute 60 (.iload_n 1) 1 61 := ⟨by decide +kernel, rfl⟩
theorem dX9_compute_61 : Dc mX9_compute 61 (.iconst 0) 1 62 := ⟨by decide +kernel, rfl⟩
theorem dX9_compute_62 : Dc mX9_compute 62 (.iastore) 1 63 := ⟨by decide +kernel, rfl⟩
theorem dX9_compute_63 : Dc mX9_compute 63 (.aload_n 0) 1 64 := ⟨by decide +kernel, rfl⟩
theorem dX9_compute_64 : Dc mX9_compute 64 (.iconst 0) 1 65 := ⟨by decide +kernel, rfl⟩
theorem dX9_compute_65 : Dc mX9_compute 65 (.putfield 145) 3 68 := ⟨by decide +kernel, rfl⟩
theorem dX9_compute_68 : Dc mX9_compute 68 (.iconst 0) 1 69 := ⟨by decide +kernel, rfl⟩
theorem dX9_compute_69 : Dc mX9_compute 69 (.istore_n 2) 1 70 := ⟨by decide +kernel, rfl⟩
theorem dX9_compute_70 : Dc mX9_compute 70 (.iload_n 2) 1 71 := ⟨by decide +kernel, rfl⟩
theorem dX9_compute_71 : Dc mX9_compute 71 (.bipush 40) 2 73 := ⟨by decide +kernel, rfl⟩
theorem dX9_compute_73 : Dj mX9_compute 73 (.if_icmp .ge 33) 3 76 (33) 106 := ⟨by decide +kernel, rfl, by decide⟩
theorem dX9_compute_76 : Dc mX9_compute 76 (.aload_n 0) 1 77 := ⟨by decide +kernel, rfl⟩
theorem dX9_compute_77 : Dc mX9_compute 77 (.getfield 72) 3 80 := ⟨by decide +kernel, rfl⟩
theorem dX9_compute_80 : Dc mX9_compute 80 (.bipush 40) 2 82 := ⟨by decide +kernel, rfl⟩
theorem dX9_compute_82 : Dc mX9_compute 82 (.iload_n 1) 1 83 := ⟨by decide +kernel, rfl⟩
theorem dX9_compute_83 : Dc mX9_compute 83 (.imul) 1 84 := ⟨by decide +kernel, rfl⟩
theorem dX9_compute_84 : Dc mX9_compute 84 (.iload_n 2) 1 85 := ⟨by decide +kernel, rfl⟩
theorem dX9_compute_85 : Dc mX9_compute 85 (.iadd) 1 86 := ⟨by decide +kernel, rfl⟩
theorem dX9_compute_86 : Dc mX9_compute 86 (.iconst 0) 1 87 := ⟨by decide +kernel, rfl⟩
theorem dX9_compute_87 : Dc mX9_compute 87 (.bastore) 1 88 := ⟨by decide +kernel, rfl⟩
theorem dX9_compute_88 : Dc mX9_compute 88 (.aload_n 0) 1 89 := ⟨by decide +kernel, rfl⟩
theorem dX9_compute_89 : Dc mX9_compute 89 (.getfield 75) 3 92 := ⟨by decide +kernel, rfl⟩
theorem dX9_compute_92 : Dc mX9_compute 92 (.bipush 40) 2 94 := ⟨by decide +kernel, rfl⟩
theorem dX9_compute_94 : Dc mX9_compute 94 (.iload_n 1) 1 95 := ⟨by decide +kernel, rfl⟩
theorem dX9_compute_95 : Dc mX9_compute 95 (.imul) 1 96 := ⟨by decide +kernel, rfl⟩
theorem dX9_compute_96 : Dc mX9_compute 96 (.iload_n 2) 1 97 := ⟨by decide +kernel, rfl⟩
theorem dX9_compute_97 : Dc mX9_compute 97 (.iadd) 1 98 := ⟨by decide +kernel, rfl⟩
theorem dX9_compute_98 : Dc mX9_compute 98 (.iconst 0) 1 99 := ⟨by decide +kernel, rfl⟩
theorem dX9_compute_99 : Dc mX9_compute 99 (.bastore) 1 100 := ⟨by decide +kernel, rfl⟩
theorem dX9_compute_100 : Dc mX9_compute 100 (.iinc 2 1) 3 103 := ⟨by decide +kernel, rfl⟩
theorem dX9_compute_103 : Dj mX9_compute 103 (.goto (-33)) 3 106 (-33) 70 := ⟨by decide +kernel, rfl, by decide⟩
theorem dX9_compute_106 : Dc mX9_compute 106 (.aload_n 0) 1 107 := ⟨by decide +kernel, rfl⟩
theorem dX9_compute_107 : Dc mX9_compute 107 (.iconst 0) 1 108 := ⟨by decide +kernel, rfl⟩
theorem dX9_compute_108 : Dc mX9_compute 108 (.putfield 148) 3 111 := ⟨by decide +kernel, rfl⟩
theorem dX9_compute_111 : Dc mX9_compute 111 (.iconst 0) 1 112 := ⟨by decide +kernel, rfl⟩
theorem dX9_compute_112 : Dc mX9_compute 112 (.istore_n 2) 1 113 := ⟨by decide +kernel, rfl⟩
theorem dX9_compute_113 : Dc mX9_compute 113 (.iload_n 2) 1 114 := ⟨by decide +kernel, rfl⟩
theorem dX9_compute_114 : Dc mX9_compute 114 (.bipush 8) 2 116 := ⟨by decide +kernel, rfl⟩
theorem dX9_compute_116 : Dj mX9_compute 116 (.if_icmp .ge 26) 3 119 (26) 142 := ⟨by decide +kernel, rfl, by decide⟩
theorem dX9_compute_119 : Dc mX9_compute 119 (.aload_n 0) 1 120 := ⟨by decide +kernel, rfl⟩
theorem dX9_compute_120 : Dc mX9_compute 120 (.getfield 84) 3 123 := ⟨by decide +kernel, rfl⟩
theorem dX9_compute_123 : Dc mX9_compute 123 (.iload_n 2) 1 124 := ⟨by decide +kernel, rfl⟩
theorem dX9_compute_124 : Dc mX9_compute 124 (.aload_n 0) 1 125 := ⟨by decide +kernel, rfl⟩
theorem dX9_compute_125 : Dc mX9_compute 125 (.getfield 27) 3 128 := ⟨by decide +kernel, rfl⟩
theorem dX9_compute_128 : Dc mX9_compute 128 (.bipush 8) 2 130 := ⟨by decide +kernel, rfl⟩
theorem dX9_compute_130 : Dc mX9_compute 130 (.iload_n 1) 1 131 := ⟨by decide +kernel, rfl⟩
theorem dX9_compute_131 : Dc mX9_compute 131 (.imul) 1 132 := ⟨by decide +kernel, rfl⟩
theorem dX9_compute_132 : Dc mX9_compute 132 (.iload_n 2) 1 133 := ⟨by decide +kernel, rfl⟩
theorem dX9_compute_133 : Dc mX9_compute 133 (.iadd) 1 134 := ⟨by decide +kernel, rfl⟩
theorem dX9_compute_134 : Dc mX9_compute 134 (.iaload) 1 135 := ⟨by decide +kernel, rfl⟩
theorem dX9_compute_135 : Dc mX9_compute 135 (.iastore) 1 136 := ⟨by decide +kernel, rfl⟩
theorem dX9_compute_136 : Dc mX9_compute 136 (.iinc 2 1) 3 139 := ⟨by decide +kernel, rfl⟩
theorem dX9_compute_139 : Dj mX9_compute 139 (.goto (-26)) 3 142 (-26) 113 := ⟨by decide +kernel, rfl, by decide⟩
theorem dX9_compute_142 : Dc mX9_compute 142 (.aload_n 0) 1 143 := ⟨by decide +kernel, rfl⟩
theorem dX9_compute_143 : Dc mX9_compute 143 (.iconst 0) 1 144 := ⟨by decide +kernel, rfl⟩
theorem dX9_compute_144 : Dc mX9_compute 144 (.invokevirtual 210) 3 147 := ⟨by decide +kernel, rfl⟩
theorem dX9_compute_147 : Dc mX9_compute 147 (.istore_n 2) 1 148 := ⟨by decide +kernel, rfl⟩
theorem dX9_compute_148 : Dc mX9_compute 148 (.aload_n 0) 1 149 := ⟨by decide +kernel, rfl⟩
theorem dX9_compute_149 : Dc mX9_compute 149 (.aload_n 0) 1 150 := ⟨by decide +kernel, rfl⟩
theorem dX9_compute_150 : Dc mX9_compute 150 (.invokevirtual 228) 3 153 := ⟨by decide +kernel, rfl⟩
theorem dX9_compute_153 : Dc mX9_compute 153 (.putfield 184) 3 156 := ⟨by decide +kernel, rfl⟩
theorem dX9_compute_156 : Dc mX9_compute 156 (.iload_n 2) 1 157 := ⟨by decide +kernel, rfl⟩
theorem dX9_compute_157 : Dj mX9_compute 157 (.ifCond .eq 70) 3 160 (70) 227 := ⟨by decide +kernel, rfl, by decide⟩
theorem dX9_compute_160 : Dc mX9_compute 160 (.aload_n 0) 1 161 := ⟨by decide +kernel, rfl⟩
theorem dX9_compute_161 : Dc mX9_compute 161 (.getfield 184) 3 164 := ⟨by decide +kernel, rfl⟩
theorem dX9_compute_164 : Dc mX9_compute 164 (.iconst (-1)) 1 165 := ⟨by decide +kernel, rfl⟩
theorem dX9_compute_165 : Dj mX9_compute 165 (.if_icmp .eq 62) 3 168 (62) 227 := ⟨by decide +kernel, rfl, by decide⟩
theorem dX9_compute_168 : Dc mX9_compute 168 (.aload_n 0) 1 169 := ⟨by decide +kernel, rfl⟩
theorem dX9_compute_169 : Dc mX9_compute 169 (.getfield 75) 3 172 := ⟨by decide +kernel, rfl⟩
theorem dX9_compute_172 : Dc mX9_compute 172 (.bipush 40) 2 174 := ⟨by decide +kernel, rfl⟩
theorem dX9_compute_174 : Dc mX9_compute 174 (.iload_n 1) 1 175 := ⟨by decide +kernel, rfl⟩
theorem dX9_compute_175 : Dc mX9_compute 175 (.imul) 1 176 := ⟨by decide +kernel, rfl⟩
theorem dX9_compute_176 : Dc mX9_compute 176 (.aload_n 0) 1 177 := ⟨by decide +kernel, rfl⟩
theorem dX9_compute_177 : Dc mX9_compute 177 (.getfield 184) 3 180 := ⟨by decide +kernel, rfl⟩
theorem dX9_compute_180 : Dc mX9_compute 180 (.iadd) 1 181 := ⟨by decide +kernel, rfl⟩
theorem dX9_compute_181 : Dc mX9_compute 181 (.iconst 0) 1 182 := ⟨by decide +kernel, rfl⟩
theorem dX9_compute_182 : Dc mX9_compute 182 (.bastore) 1 183 := ⟨by decide +kernel, rfl⟩
theorem dX9_compute_183 : Dc mX9_compute 183 (.aload_n 0) 1 184 := ⟨by decide +kernel, rfl⟩
theorem dX9_compute_184 : Dc mX9_compute 184 (.getfield 66) 3 187 := ⟨by decide +kernel, rfl⟩
theorem dX9_compute_187 : Dc mX9_compute 187 (.iload_n 1) 1 188 := ⟨by decide +kernel, rfl⟩
theorem dX9_compute_188 : Dc mX9_compute 188 (.dup2) 1 189 := ⟨by decide +kernel, rfl⟩
theorem dX9_compute_189 : Dc mX9_compute 189 (.iaload) 1 190 := ⟨by decide +kernel, rfl⟩
theorem dX9_compute_190 : Dc mX9_compute 190 (.iconst 1) 1 191 := ⟨by decide +kernel, rfl⟩
theorem dX9_compute_191 : Dc mX9_compute 191 (.iadd) 1 192 := ⟨by decide +kernel, rfl⟩
theorem dX9_compute_192 : Dc mX9_compute 192 (.iastore) 1 193 := ⟨by decide +kernel, rfl⟩
theorem dX9_compute_193 : Dc mX9_compute 193 (.aload_n 0) 1 194 := ⟨by decide +kernel, rfl⟩
theorem dX9_compute_194 : Dc mX9_compute 194 (.invokevirtual 231) 3 197 := ⟨by decide +kernel, rfl⟩
theorem dX9_compute_197 : Dc mX9_compute 197 (.istore_n 2) 1 198 := ⟨by decide +kernel, rfl⟩
theorem dX9_compute_198 : Dc mX9_compute 198 (.aload_n 0) 1 199 := ⟨by decide +kernel, rfl⟩
theorem dX9_compute_199 : Dc mX9_compute 199 (.getfield 63) 3 202 := ⟨by decide +kernel, rfl⟩
theorem dX9_compute_202 : Dc mX9_compute 202 (.iload_n 1) 1 203 := ⟨by decide +kernel, rfl⟩
theorem dX9_compute_203 : Dc mX9_compute 203 (.iload_n 2) 1 204 := ⟨by decide +kernel, rfl⟩
theorem dX9_compute_204 : Dj mX9_compute 204 (.ifCond .eq 7) 3 207 (7) 211 := ⟨by decide +kernel, rfl, by decide⟩
theorem dX9_compute_207 : Dc mX9_compute 207 (.iconst (-1)) 1 208 := ⟨by decide +kernel, rfl⟩
theorem dX9_compute_208 : Dj mX9_compute 208 (.goto 7) 3 211 (7) 215 := ⟨by decide +kernel, rfl, by decide⟩
theorem dX9_compute_211 : Dc mX9_compute 211 (.aload_n 0) 1 212 := ⟨by decide +kernel, rfl⟩
theorem dX9_compute_212 : Dc mX9_compute 212 (.getfield 184) 3 215 := ⟨by decide +kernel, rfl⟩
theorem dX9_compute_215 : Dc mX9_compute 215 (.iastore) 1 216 := ⟨by decide +kernel, rfl⟩
theorem dX9_compute_216 : Dc mX9_compute 216 (.aload_n 0) 1 217 := ⟨by decide +kernel, rfl⟩
theorem dX9_compute_217 : Dc mX9_compute 217 (.aload_n 0) 1 218 := ⟨by decide +kernel, rfl⟩
theorem dX9_compute_218 : Dc mX9_compute 218 (.invokevirtual 228) 3 221 := ⟨by decide +kernel, rfl⟩
theorem dX9_compute_221 : Dc mX9_compute 221 (.putfield 184) 3 224 := ⟨by decide +kernel, rfl⟩
theorem dX9_compute_224 : Dj mX9_compute 224 (.goto (-68)) 3 227 (-68) 156 := ⟨by decide +kernel, rfl, by decide⟩
theorem dX9_compute_227 : Dc mX9_compute 227 (.aload_n 0) 1 228 := ⟨by decide +kernel, rfl⟩
theorem dX9_compute_228 : Dc mX9_compute 228 (.getfield 60) 3 231 := ⟨by decide +kernel, rfl⟩
theorem dX9_compute_231 : Dc mX9_compute 231 (.iload_n 1) 1 232 := ⟨by decide +kernel, rfl⟩
theorem dX9_compute_232 : Dc mX9_compute 232 (.aload_n 0) 1 233 := ⟨by decide +kernel, rfl⟩
theorem dX9_compute_233 : Dc mX9_compute 233 (.getfield 145) 3 236 := ⟨by decide +kernel, rfl⟩
theorem dX9_compute_236 : Dc mX9_compute 236 (.iastore) 1 237 := ⟨by decide +kernel, rfl⟩
theorem dX9_compute_237 : Dc mX9_compute 237 (.aload_n 0) 1 238 := ⟨by decide +kernel, rfl⟩
theorem dX9_compute_238 : Dc mX9_compute 238 (.getfield 145) 3 241 := ⟨by decide +kernel, rfl⟩
theorem dX9_compute_241 : Dc mX9_compute 241 (.ireturn) 1 242 := ⟨by decide +kernel, rfl⟩
theorem dX9_wanted_0 : Dc mX9_wanted 0 (.aload_n 0) 1 1 := ⟨by decide +kernel, rfl⟩
theorem dX9_wanted_1 : Dc mX9_wanted 1 (.getfield 24) 3 4 := ⟨by decide +kernel, rfl⟩
theorem dX9_wanted_4 : Dc mX9_wanted 4 (.iload_n 1) 1 5 := ⟨by decide +kernel, rfl⟩
theorem dX9_wanted_5 : Dc mX9_wanted 5 (.iaload) 1 6 := ⟨by decide +kernel, rfl⟩
theorem dX9_wanted_6 : Dc mX9_wanted 6 (.istore_n 2) 1 7 := ⟨by decide +kernel, rfl⟩
theorem dX9_wanted_7 : Dc mX9_wanted 7 (.iconst 0) 1 8 := ⟨by decide +kernel, rfl⟩
theorem dX9_wanted_8 : Dc mX9_wanted 8 (.istore_n 3) 1 9 := ⟨by decide +kernel, rfl⟩
theorem dX9_wanted_9 : Dc mX9_wanted 9 (.iload_n 3) 1 10 := ⟨by decide +kernel, rfl⟩
theorem dX9_wanted_10 : Dc mX9_wanted 10 (.aload_n 0) 1 11 := ⟨by decide +kernel, rfl⟩
theorem dX9_wanted_11 : Dc mX9_wanted 11 (.getfield 30) 3 14 := ⟨by decide +kernel, rfl⟩
theorem dX9_wanted_14 : Dc mX9_wanted 14 (.iload_n 1) 1 15 := ⟨by decide +kernel, rfl⟩
theorem dX9_wanted_15 : Dc mX9_wanted 15 (.iaload) 1 16 := ⟨by decide +kernel, rfl⟩
theorem dX9_wanted_16 : Dj mX9_wanted 16 (.if_icmp .ge 93) 3 19 (93) 109 := ⟨by decide +kernel, rfl, by decide⟩
theorem dX9_wanted_19 : Dc mX9_wanted 19 (.bipush 40) 2 21 := ⟨by decide +kernel, rfl⟩
theorem dX9_wanted_21 : Dc mX9_wanted 21 (.iload_n 1) 1 22 := ⟨by decide +kernel, rfl⟩
theorem dX9_wanted_22 : Dc mX9_wanted 22 (.imul) 1 23 := ⟨by decide +kernel, rfl⟩
theorem dX9_wanted_23 : Dc mX9_wanted 23 (.iload_n 3) 1 24 := ⟨by decide +kernel, rfl⟩
theorem dX9_wanted_24 : Dc mX9_wanted 24 (.iadd) 1 25 := ⟨by decide +kernel, rfl⟩
theorem dX9_wanted_25 : Dc mX9_wanted 25 (.istore 4) 2 27 := ⟨by decide +kernel, rfl⟩
theorem dX9_wanted_27 : Dc mX9_wanted 27 (.aload_n 0) 1 28 := ⟨by decide +kernel, rfl⟩
theorem dX9_wanted_28 : Dc mX9_wanted 28 (.getfield 72) 3 31 := ⟨by decide +kernel, rfl⟩
theorem dX9_wanted_31 : Dc mX9_wanted 31 (.iload 4) 2 33 := ⟨by decide +kernel, rfl⟩
theorem dX9_wanted_33 : Dc mX9_wanted 33 (.baload) 1 34 := ⟨by decide +kernel, rfl⟩
theorem dX9_wanted_34 : Dj mX9_wanted 34 (.ifCond .eq 69) 3 37 (69) 103 := ⟨by decide +kernel, rfl, by decide⟩
theorem dX9_wanted_37 : Dc mX9_wanted 37 (.aload_n 0) 1 38 := ⟨by decide +kernel, rfl⟩
theorem dX9_wanted_38 : Dc mX9_wanted 38 (.getfield 33) 3 41 := ⟨by decide +kernel, rfl⟩
theorem dX9_wanted_41 : Dc mX9_wanted 41 (.iload 4) 2 43 := ⟨by decide +kernel, rfl⟩
theorem dX9_wanted_43 : Dc mX9_wanted 43 (.iaload) 1 44 := ⟨by decide +kernel, rfl⟩
theorem dX9_wanted_44 : Dc mX9_wanted 44 (.iconst 2) 1 45 := ⟨by decide +kernel, rfl⟩
theorem dX9_wanted_45 : Dc mX9_wanted 45 (.bipush 7) 2 47 := ⟨by decide +kernel, rfl⟩
theorem dX9_wanted_47 : Dc mX9_wanted 47 (.invokestatic 99) 3 50 := ⟨by decide +kernel, rfl⟩
theorem dX9_wanted_50 : Dj mX9_wanted 50 (.ifCond .eq 53) 3 53 (53) 103 := ⟨by decide +kernel, rfl, by decide⟩
theorem dX9_wanted_53 : Dc mX9_wanted 53 (.aload_n 0) 1 54 := ⟨by decide +kernel, rfl⟩
theorem dX9_wanted_54 : Dc mX9_wanted 54 (.getfield 36) 3 57 := ⟨by decide +kernel, rfl⟩
theorem dX9_wanted_57 : Dc mX9_wanted 57 (.iload 4) 2 59 := ⟨by decide +kernel, rfl⟩
theorem dX9_wanted_59 : Dc mX9_wanted 59 (.iaload) 1 60 := ⟨by decide +kernel, rfl⟩
theorem dX9_wanted_60 : Dc mX9_wanted 60 (.aload_n 0) 1 61 := ⟨by decide +kernel, rfl⟩
theorem dX9_wanted_61 : Dc mX9_wanted 61 (.getfield 33) 3 64 := ⟨by decide +kernel, rfl⟩
theorem dX9_wanted_64 : Dc mX9_wanted 64 (.iload 4) 2 66 := ⟨by decide +kernel, rfl⟩
theorem dX9_wanted_66 : Dc mX9_wanted 66 (.iaload) 1 67 := ⟨by decide +kernel, rfl⟩
theorem dX9_wanted_67 : Dc mX9_wanted 67 (.iconst 4) 1 68 := ⟨by decide +kernel, rfl⟩
theorem dX9_wanted_68 : Dj mX9_wanted 68 (.if_icmp .eq 14) 3 71 (14) 82 := ⟨by decide +kernel, rfl, by decide⟩
theorem dX9_wanted_71 : Dc mX9_wanted 71 (.aload_n 0) 1 72 := ⟨by decide +kernel, rfl⟩
theorem dX9_wanted_72 : Dc mX9_wanted 72 (.getfield 33) 3 75 := ⟨by decide +kernel, rfl⟩
theorem dX9_wanted_75 : Dc mX9_wanted 75 (.iload 4) 2 77 := ⟨by decide +kernel, rfl⟩
theorem dX9_wanted_77 : Dc mX9_wanted 77 (.iaload) 1 78 := ⟨by decide +kernel, rfl⟩
theorem dX9_wanted_78 : Dc mX9_wanted 78 (.iconst 5) 1 79 := ⟨by decide +kernel, rfl⟩
theorem dX9_wanted_79 : Dj mX9_wanted 79 (.if_icmp .ne 7) 3 82 (7) 86 := ⟨by decide +kernel, rfl, by decide⟩
theorem dX9_wanted_82 : Dc mX9_wanted 82 (.iconst 2) 1 83 := ⟨by decide +kernel, rfl⟩
theorem dX9_wanted_83 : Dj mX9_wanted 83 (.goto 4) 3 86 (4) 87 := ⟨by decide +kernel, rfl, by decide⟩
theorem dX9_wanted_86 : Dc mX9_wanted 86 (.iconst 1) 1 87 := ⟨by decide +kernel, rfl⟩
theorem dX9_wanted_87 : Dc mX9_wanted 87 (.iadd) 1 88 := ⟨by decide +kernel, rfl⟩
theorem dX9_wanted_88 : Dc mX9_wanted 88 (.istore 5) 2 90 := ⟨by decide +kernel, rfl⟩
theorem dX9_wanted_90 : Dc mX9_wanted 90 (.iload 5) 2 92 := ⟨by decide +kernel, rfl⟩
theorem dX9_wanted_92 : Dc mX9_wanted 92 (.iload_n 2) 1 93 := ⟨by decide +kernel, rfl⟩
theorem dX9_wanted_93 : Dj mX9_wanted 93 (.if_icmp .le 8) 3 96 (8) 101 := ⟨by decide +kernel, rfl, by decide⟩
theorem dX9_wanted_96 : Dc mX9_wanted 96 (.iload 5) 2 98 := ⟨by decide +kernel, rfl⟩
theorem dX9_wanted_98 : Dj mX9_wanted 98 (.goto 4) 3 101 (4) 102 := ⟨by decide +kernel, rfl, by decide⟩
theorem dX9_wanted_101 : Dc mX9_wanted 101 (.iload_n 2) 1 102 := ⟨by decide +kernel, rfl⟩
theorem dX9_wanted_102 : Dc mX9_wanted 102 (.istore_n 2) 1 103 := ⟨by decide +kernel, rfl⟩
theorem dX9_wanted_103 : Dc mX9_wanted 103 (.iinc 3 1) 3 106 := ⟨by decide +kernel, rfl⟩
theorem dX9_wanted_106 : Dj mX9_wanted 106 (.goto (-97)) 3 109 (-97) 9 := ⟨by decide +kernel, rfl, by decide⟩
theorem dX9_wanted_109 : Dc mX9_wanted 109 (.iload_n 2) 1 110 := ⟨by decide +kernel, rfl⟩
theorem dX9_wanted_110 : Dc mX9_wanted 110 (.ireturn) 1 111 := ⟨by decide +kernel, rfl⟩
theorem dX9_told_0 : Dc mX9_told 0 (.aload_n 0) 1 1 := ⟨by decide +kernel, rfl⟩
theorem dX9_told_1 : Dc mX9_told 1 (.iload_n 1) 1 2 := ⟨by decide +kernel, rfl⟩
theorem dX9_told_2 : Dc mX9_told 2 (.invokevirtual 139) 3 5 := ⟨by decide +kernel, rfl⟩
theorem dX9_told_5 : Dj mX9_told 5 (.ifCond .eq 12) 3 8 (12) 17 := ⟨by decide +kernel, rfl, by decide⟩
theorem dX9_told_8 : Dc mX9_told 8 (.iload_n 2) 1 9 := ⟨by decide +kernel, rfl⟩
theorem dX9_told_9 : Dc mX9_told 9 (.iconst 0) 1 10 := ⟨by decide +kernel, rfl⟩
theorem dX9_told_10 : Dc mX9_told 10 (.iconst 3) 1 11 := ⟨by decide +kernel, rfl⟩
theorem dX9_told_11 : Dc mX9_told 11 (.invokestatic 99) 3 14 := ⟨by decide +kernel, rfl⟩
theorem dX9_told_14 : Dj mX9_told 14 (.ifCond .ne 6) 3 17 (6) 20 := ⟨by decide +kernel, rfl, by decide⟩
theorem dX9_told_17 : Dc mX9_told 17 (.bipush (-2)) 2 19 := ⟨by decide +kernel, rfl⟩
theorem dX9_told_19 : Dc mX9_told 19 (.ireturn) 1 20 := ⟨by decide +kernel, rfl⟩
theorem dX9_told_20 : Dc mX9_told 20 (.aload_n 0) 1 21 := ⟨by decide +kernel, rfl⟩
theorem dX9_told_21 : Dc mX9_told 21 (.getfield 57) 3 24 := ⟨by decide +kernel, rfl⟩
theorem dX9_told_24 : Dc mX9_told 24 (.iload_n 1) 1 25 := ⟨by decide +kernel, rfl⟩
theorem dX9_told_25 : Dc mX9_told 25 (.baload) 1 26 := ⟨by decide +kernel, rfl⟩
theorem dX9_told_26 : Dj mX9_told 26 (.ifCond .ne 6) 3 29 (6) 32 := ⟨by decide +kernel, rfl, by decide⟩
theorem dX9_told_29 : Dc mX9_told 29 (.bipush (-3)) 2 31 := ⟨by decide +kernel, rfl⟩
theorem dX9_told_31 : Dc mX9_told 31 (.ireturn) 1 32 := ⟨by decide +kernel, rfl⟩
theorem dX9_told_32 : Dc mX9_told 32 (.iload_n 2) 1 33 := ⟨by decide +kernel, rfl⟩
theorem dX9_told_33 : Dj mX9_told 33 (.ifCond .ne 12) 3 36 (12) 45 := ⟨by decide +kernel, rfl, by decide⟩
theorem dX9_told_36 : Dc mX9_told 36 (.aload_n 0) 1 37 := ⟨by decide +kernel, rfl⟩
theorem dX9_told_37 : Dc mX9_told 37 (.getfield 63) 3 40 := ⟨by decide +kernel, rfl⟩
theorem dX9_told_40 : Dc mX9_told 40 (.iload_n 1) 1 41 := ⟨by decide +kernel, rfl⟩
theorem dX9_told_41 : Dc mX9_told 41 (.iaload) 1 42 := ⟨by decide +kernel, rfl⟩
theorem dX9_told_42 : Dj mX9_told 42 (.goto 36) 3 45 (36) 78 := ⟨by decide +kernel, rfl, by decide⟩
theorem dX9_told_45 : Dc mX9_told 45 (.iload_n 2) 1 46 := ⟨by decide +kernel, rfl⟩
theorem dX9_told_46 : Dc mX9_told 46 (.iconst 1) 1 47 := ⟨by decide +kernel, rfl⟩
theorem dX9_told_47 : Dj mX9_told 47 (.if_icmp .ne 12) 3 50 (12) 59 := ⟨by decide +kernel, rfl, by decide⟩
theorem dX9_told_50 : Dc mX9_told 50 (.aload_n 0) 1 51 := ⟨by decide +kernel, rfl⟩
theorem dX9_told_51 : Dc mX9_told 51 (.getfield 66) 3 54 := ⟨by decide +kernel, rfl⟩
theorem dX9_told_54 : Dc mX9_told 54 (.iload_n 1) 1 55 := ⟨by decide +kernel, rfl⟩
theorem dX9_told_55 : Dc mX9_told 55 (.iaload) 1 56 := ⟨by decide +kernel, rfl⟩
theorem dX9_told_56 : Dj mX9_told 56 (.goto 22) 3 59 (22) 78 := ⟨by decide +kernel, rfl, by decide⟩
theorem dX9_told_59 : Dc mX9_told 59 (.iload_n 2) 1 60 := ⟨by decide +kernel, rfl⟩
theorem dX9_told_60 : Dc mX9_told 60 (.iconst 2) 1 61 := ⟨by decide +kernel, rfl⟩
theorem dX9_told_61 : Dj mX9_told 61 (.if_icmp .ne 12) 3 64 (12) 73 := ⟨by decide +kernel, rfl, by decide⟩
theorem dX9_told_64 : Dc mX9_told 64 (.aload_n 0) 1 65 := ⟨by decide +kernel, rfl⟩
theorem dX9_told_65 : Dc mX9_told 65 (.getfield 69) 3 68 := ⟨by decide +kernel, rfl⟩
theorem dX9_told_68 : Dc mX9_told 68 (.iload_n 1) 1 69 := ⟨by decide +kernel, rfl⟩
theorem dX9_told_69 : Dc mX9_told 69 (.iaload) 1 70 := ⟨by decide +kernel, rfl⟩
theorem dX9_told_70 : Dj mX9_told 70 (.goto 8) 3 73 (8) 78 := ⟨by decide +kernel, rfl, by decide⟩
theorem dX9_told_73 : Dc mX9_told 73 (.aload_n 0) 1 74 := ⟨by decide +kernel, rfl⟩
theorem dX9_told_74 : Dc mX9_told 74 (.iload_n 1) 1 75 := ⟨by decide +kernel, rfl⟩
theorem dX9_told_75 : Dc mX9_told 75 (.invokevirtual 234) 3 78 := ⟨by decide +kernel, rfl⟩
theorem dX9_told_78 : Dc mX9_told 78 (.ireturn) 1 79 := ⟨by decide +kernel, rfl⟩
theorem dX9_isPlace_0 : Dc mX9_isPlace 0 (.aload_n 0) 1 1 := ⟨by decide +kernel, rfl⟩
theorem dX9_isPlace_1 : Dc mX9_isPlace 1 (.iload_n 1) 1 2 := ⟨by decide +kernel, rfl⟩
theorem dX9_isPlace_2 : Dc mX9_isPlace 2 (.invokevirtual 139) 3 5 := ⟨by decide +kernel, rfl⟩
theorem dX9_isPlace_5 : Dj mX9_isPlace 5 (.ifCond .eq 23) 3 8 (23) 28 := ⟨by decide +kernel, rfl, by decide⟩
theorem dX9_isPlace_8 : Dc mX9_isPlace 8 (.iload_n 2) 1 9 := ⟨by decide +kernel, rfl⟩
theorem dX9_isPlace_9 : Dc mX9_isPlace 9 (.iconst 0) 1 10 := ⟨by decide +kernel, rfl⟩
theorem dX9_isPlace_10 : Dc mX9_isPlace 10 (.aload_n 0) 1 11 := ⟨by decide +kernel, rfl⟩
theorem dX9_isPlace_11 : Dc mX9_isPlace 11 (.getfield 30) 3 14 := ⟨by decide +kernel, rfl⟩
theorem dX9_isPlace_14 : Dc mX9_isPlace 14 (.iload_n 1) 1 15 := ⟨by decide +kernel, rfl⟩
theorem dX9_isPlace_15 : Dc mX9_isPlace 15 (.iaload) 1 16 := ⟨by decide +kernel, rfl⟩
theorem dX9_isPlace_16 : Dc mX9_isPlace 16 (.iconst 1) 1 17 := ⟨by decide +kernel, rfl⟩
theorem dX9_isPlace_17 : Dc mX9_isPlace 17 (.isub) 1 18 := ⟨by decide +kernel, rfl⟩
theorem dX9_isPlace_18 : Dc mX9_isPlace 18 (.invokestatic 99) 3 21 := ⟨by decide +kernel, rfl⟩
theorem dX9_isPlace_21 : Dj mX9_isPlace 21 (.ifCond .eq 7) 3 24 (7) 28 := ⟨by decide +kernel, rfl, by decide⟩
theorem dX9_isPlace_24 : Dc mX9_isPlace 24 (.iconst 1) 1 25 := ⟨by decide +kernel, rfl⟩
theorem dX9_isPlace_25 : Dj mX9_isPlace 25 (.goto 4) 3 28 (4) 29 := ⟨by decide +kernel, rfl, by decide⟩
theorem dX9_isPlace_28 : Dc mX9_isPlace 28 (.iconst 0) 1 29 := ⟨by decide +kernel, rfl⟩
theorem dX9_isPlace_29 : Dc mX9_isPlace 29 (.ireturn) 1 30 := ⟨by decide +kernel, rfl⟩
theorem dX9_frame_0 : Dc mX9_frame 0 (.aload_n 0) 1 1 := ⟨by decide +kernel, rfl⟩
theorem dX9_frame_1 : Dc mX9_frame 1 (.iload_n 1) 1 2 := ⟨by decide +kernel, rfl⟩
theorem dX9_frame_2 : Dc mX9_frame 2 (.iload_n 2) 1 3 := ⟨by decide +kernel, rfl⟩
theorem dX9_frame_3 : Dc mX9_frame 3 (.invokevirtual 238) 3 6 := ⟨by decide +kernel, rfl⟩
theorem dX9_frame_6 : Dj mX9_frame 6 (.ifCond .eq 13) 3 9 (13) 19 := ⟨by decide +kernel, rfl, by decide⟩
theorem dX9_frame_9 : Dc mX9_frame 9 (.iload_n 3) 1 10 := ⟨by decide +kernel, rfl⟩
theorem dX9_frame_10 : Dc mX9_frame 10 (.iconst 0) 1 11 := ⟨by decide +kernel, rfl⟩
theorem dX9_frame_11 : Dc mX9_frame 11 (.bipush 15) 2 13 := ⟨by decide +kernel, rfl⟩
theorem dX9_frame_13 : Dc mX9_frame 13 (.invokestatic 99) 3 16 := ⟨by decide +kernel, rfl⟩
theorem dX9_frame_16 : Dj mX9_frame 16 (.ifCond .ne 6) 3 19 (6) 22 := ⟨by decide +kernel, rfl, by decide⟩
theorem dX9_frame_19 : Dc mX9_frame 19 (.bipush (-2)) 2 21 := ⟨by decide +kernel, rfl⟩
theorem dX9_frame_21 : Dc mX9_frame 21 (.ireturn) 1 22 := ⟨by decide +kernel, rfl⟩
theorem dX9_frame_22 : Dc mX9_frame 22 (.aload_n 0) 1 23 := ⟨by decide +kernel, rfl⟩
theorem dX9_frame_23 : Dc mX9_frame 23 (.getfield 57) 3 26 := ⟨by decide +kernel, rfl⟩
theorem dX9_frame_26 : Dc mX9_frame 26 (.iload_n 1) 1 27 := ⟨by decide +kernel, rfl⟩
theorem dX9_frame_27 : Dc mX9_frame 27 (.baload) 1 28 := ⟨by decide +kernel, rfl⟩
theorem dX9_frame_28 : Dj mX9_frame 28 (.ifCond .ne 6) 3 31 (6) 34 := ⟨by decide +kernel, rfl, by decide⟩
theorem dX9_frame_31 : Dc mX9_frame 31 (.bipush (-3)) 2 33 := ⟨by decide +kernel, rfl⟩
theorem dX9_frame_33 : Dc mX9_frame 33 (.ireturn) 1 34 := ⟨by decide +kernel, rfl⟩
theorem dX9_frame_34 : Dc mX9_frame 34 (.bipush 40) 2 36 := ⟨by decide +kernel, rfl⟩
theorem dX9_frame_36 : Dc mX9_frame 36 (.iload_n 1) 1 37 := ⟨by decide +kernel, rfl⟩
theorem dX9_frame_37 : Dc mX9_frame 37 (.imul) 1 38 := ⟨by decide +kernel, rfl⟩
theorem dX9_frame_38 : Dc mX9_frame 38 (.iload_n 2) 1 39 := ⟨by decide +kernel, rfl⟩
theorem dX9_frame_39 : Dc mX9_frame 39 (.iadd) 1 40 := ⟨by decide +kernel, rfl⟩
theorem dX9_frame_40 : Dc mX9_frame 40 (.istore 4) 2 42 := ⟨by decide +kernel, rfl⟩
theorem dX9_frame_42 : Dc mX9_frame 42 (.aload_n 0) 1 43 := ⟨by decide +kernel, rfl⟩
theorem dX9_frame_43 : Dc mX9_frame 43 (.getfield 72) 3 46 := ⟨by decide +kernel, rfl⟩
theorem dX9_frame_46 : Dc mX9_frame 46 (.iload 4) 2 48 := ⟨by decide +kernel, rfl⟩
theorem dX9_frame_48 : Dc mX9_frame 48 (.baload) 1 49 := ⟨by decide +kernel, rfl⟩
theorem dX9_frame_49 : Dj mX9_frame 49 (.ifCond .eq 38) 3 52 (38) 87 := ⟨by decide +kernel, rfl, by decide⟩
theorem dX9_frame_52 : Dc mX9_frame 52 (.iload_n 3) 1 53 := ⟨by decide +kernel, rfl⟩
theorem dX9_frame_53 : Dc mX9_frame 53 (.bipush 8) 2 55 := ⟨by decide +kernel, rfl⟩
theorem dX9_frame_55 : Dj mX9_frame 55 (.if_icmp .lt 17) 3 58 (17) 72 := ⟨by decide +kernel, rfl, by decide⟩
theorem dX9_frame_58 : Dc mX9_frame 58 (.iload_n 3) 1 59 := ⟨by decide +kernel, rfl⟩
theorem dX9_frame_59 : Dc mX9_frame 59 (.bipush 8) 2 61 := ⟨by decide +kernel, rfl⟩
theorem dX9_frame_61 : Dc mX9_frame 61 (.isub) 1 62 := ⟨by decide +kernel, rfl⟩
theorem dX9_frame_62 : Dc mX9_frame 62 (.aload_n 0) 1 63 := ⟨by decide +kernel, rfl⟩
theorem dX9_frame_63 : Dc mX9_frame 63 (.getfield 78) 3 66 := ⟨by decide +kernel, rfl⟩
theorem dX9_frame_66 : Dc mX9_frame 66 (.iload 4) 2 68 := ⟨by decide +kernel, rfl⟩
theorem dX9_frame_68 : Dc mX9_frame 68 (.iaload) 1 69 := ⟨by decide +kernel, rfl⟩
theorem dX9_frame_69 : Dj mX9_frame 69 (.if_icmp .ge 18) 3 72 (18) 87 := ⟨by decide +kernel, rfl, by decide⟩
theorem dX9_frame_72 : Dc mX9_frame 72 (.aload_n 0) 1 73 := ⟨by decide +kernel, rfl⟩
theorem dX9_frame_73 : Dc mX9_frame 73 (.getfield 81) 3 76 := ⟨by decide +kernel, rfl⟩
theorem dX9_frame_76 : Dc mX9_frame 76 (.bipush 16) 2 78 := ⟨by decide +kernel, rfl⟩
theorem dX9_frame_78 : Dc mX9_frame 78 (.iload 4) 2 80 := ⟨by decide +kernel, rfl⟩
theorem dX9_frame_80 : Dc mX9_frame 80 (.imul) 1 81 := ⟨by decide +kernel, rfl⟩
theorem dX9_frame_81 : Dc mX9_frame 81 (.iload_n 3) 1 82 := ⟨by decide +kernel, rfl⟩
theorem dX9_frame_82 : Dc mX9_frame 82 (.iadd) 1 83 := ⟨by decide +kernel, rfl⟩
theorem dX9_frame_83 : Dc mX9_frame 83 (.iaload) 1 84 := ⟨by decide +kernel, rfl⟩
theorem dX9_frame_84 : Dj mX9_frame 84 (.goto 4) 3 87 (4) 88 := ⟨by decide +kernel, rfl, by decide⟩
theorem dX9_frame_87 : Dc mX9_frame 87 (.iconst (-1)) 1 88 := ⟨by decide +kernel, rfl⟩
theorem dX9_frame_88 : Dc mX9_frame 88 (.ireturn) 1 89 := ⟨by decide +kernel, rfl⟩
theorem dX9_height_0 : Dc mX9_height 0 (.aload_n 0) 1 1 := ⟨by decide +kernel, rfl⟩
theorem dX9_height_1 : Dc mX9_height 1 (.iload_n 1) 1 2 := ⟨by decide +kernel, rfl⟩
theorem dX9_height_2 : Dc mX9_height 2 (.iload_n 2) 1 3 := ⟨by decide +kernel, rfl⟩
theorem dX9_height_3 : Dc mX9_height 3 (.invokevirtual 238) 3 6 := ⟨by decide +kernel, rfl⟩
theorem dX9_height_6 : Dj mX9_height 6 (.ifCond .ne 6) 3 9 (6) 12 := ⟨by decide +kernel, rfl, by decide⟩
theorem dX9_height_9 : Dc mX9_height 9 (.bipush (-2)) 2 11 := ⟨by decide +kernel, rfl⟩
theorem dX9_height_11 : Dc mX9_height 11 (.ireturn) 1 12 := ⟨by decide +kernel, rfl⟩
theorem dX9_height_12 : Dc mX9_height 12 (.aload_n 0) 1 13 := ⟨by decide +kernel, rfl⟩
theorem dX9_height_13 : Dc mX9_height 13 (.getfield 57) 3 16 := ⟨by decide +kernel, rfl⟩
theorem dX9_height_16 : Dc mX9_height 16 (.iload_n 1) 1 17 := ⟨by decide +kernel, rfl⟩
theorem dX9_height_17 : Dc mX9_height 17 (.baload) 1 18 := ⟨by decide +kernel, rfl⟩
theorem dX9_height_18 : Dj mX9_height 18 (.ifCond .ne 6) 3 21 (6) 24 := ⟨by decide +kernel, rfl, by decide⟩
theorem dX9_height_21 : Dc mX9_height 21 (.bipush (-3)) 2 23 := ⟨by decide +kernel, rfl⟩
theorem dX9_height_23 : Dc mX9_height 23 (.ireturn) 1 24 := ⟨by decide +kernel, rfl⟩
theorem dX9_height_24 : Dc mX9_height 24 (.aload_n 0) 1 25 := ⟨by decide +kernel, rfl⟩
theorem dX9_height_25 : Dc mX9_height 25 (.getfield 72) 3 28 := ⟨by decide +kernel, rfl⟩
theorem dX9_height_28 : Dc mX9_height 28 (.bipush 40) 2 30 := ⟨by decide +kernel, rfl⟩
theorem dX9_height_30 : Dc mX9_height 30 (.iload_n 1) 1 31 := ⟨by decide +kernel, rfl⟩
theorem dX9_height_31 : Dc mX9_height 31 (.imul) 1 32 := ⟨by decide +kernel, rfl⟩
theorem dX9_height_32 : Dc mX9_height 32 (.iload_n 2) 1 33 := ⟨by decide +kernel, rfl⟩
theorem dX9_height_33 : Dc mX9_height 33 (.iadd) 1 34 := ⟨by decide +kernel, rfl⟩
theorem dX9_height_34 : Dc mX9_height 34 (.baload) 1 35 := ⟨by decide +kernel, rfl⟩
theorem dX9_height_35 : Dj mX9_height 35 (.ifCond .eq 17) 3 38 (17) 52 := ⟨by decide +kernel, rfl, by decide⟩
theorem dX9_height_38 : Dc mX9_height 38 (.aload_n 0) 1 39 := ⟨by decide +kernel, rfl⟩
theorem dX9_height_39 : Dc mX9_height 39 (.getfield 78) 3 42 := ⟨by decide +kernel, rfl⟩
theorem dX9_height_42 : Dc mX9_height 42 (.bipush 40) 2 44 := ⟨by decide +kernel, rfl⟩
theorem dX9_height_44 : Dc mX9_height 44 (.iload_n 1) 1 45 := ⟨by decide +kernel, rfl⟩
theorem dX9_height_45 : Dc mX9_height 45 (.imul) 1 46 := ⟨by decide +kernel, rfl⟩
theorem dX9_height_46 : Dc mX9_height 46 (.iload_n 2) 1 47 := ⟨by decide +kernel, rfl⟩
theorem dX9_height_47 : Dc mX9_height 47 (.iadd) 1 48 := ⟨by decide +kernel, rfl⟩
theorem dX9_height_48 : Dc mX9_height 48 (.iaload) 1 49 := ⟨by decide +kernel, rfl⟩
theorem dX9_height_49 : Dj mX9_height 49 (.goto 4) 3 52 (4) 53 := ⟨by decide +kernel, rfl, by decide⟩
theorem dX9_height_52 : Dc mX9_height 52 (.iconst (-1)) 1 53 := ⟨by decide +kernel, rfl⟩
theorem dX9_height_53 : Dc mX9_height 53 (.ireturn) 1 54 := ⟨by decide +kernel, rfl⟩
theorem dX9_isTold_0 : Dc mX9_isTold 0 (.iconst 0) 1 1 := ⟨by decide +kernel, rfl⟩
theorem dX9_isTold_1 : Dc mX9_isTold 1 (.istore_n 3) 1 2 := ⟨by decide +kernel, rfl⟩
theorem dX9_isTold_2 : Dc mX9_isTold 2 (.iconst 0) 1 3 := ⟨by decide +kernel, rfl⟩
theorem dX9_isTold_3 : Dc mX9_isTold 3 (.istore 4) 2 5 := ⟨by decide +kernel, rfl⟩
theorem dX9_isTold_5 : Dc mX9_isTold 5 (.iload 4) 2 7 := ⟨by decide +kernel, rfl⟩
theorem dX9_isTold_7 : Dc mX9_isTold 7 (.aload_n 0) 1 8 := ⟨by decide +kernel, rfl⟩
theorem dX9_isTold_8 : Dc mX9_isTold 8 (.getfield 30) 3 11 := ⟨by decide +kernel, rfl⟩
theorem dX9_isTold_11 : Dc mX9_isTold 11 (.iload_n 1) 1 12 := ⟨by decide +kernel, rfl⟩
theorem dX9_isTold_12 : Dc mX9_isTold 12 (.iaload) 1 13 := ⟨by decide +kernel, rfl⟩
theorem dX9_isTold_13 : Dj mX9_isTold 13 (.if_icmp .ge 149) 3 16 (149) 162 := ⟨by decide +kernel, rfl, by decide⟩
theorem dX9_isTold_16 : Dc mX9_isTold 16 (.bipush 40) 2 18 := ⟨by decide +kernel, rfl⟩
theorem dX9_isTold_18 : Dc mX9_isTold 18 (.iload_n 1) 1 19 := ⟨by decide +kernel, rfl⟩
theorem dX9_isTold_19 : Dc mX9_isTold 19 (.imul) 1 20 := ⟨by decide +kernel, rfl⟩
theorem dX9_isTold_20 : Dc mX9_isTold 20 (.iload 4) 2 22 := ⟨by decide +kernel, rfl⟩
theorem dX9_isTold_22 : Dc mX9_isTold 22 (.iadd) 1 23 := ⟨by decide +kernel, rfl⟩
theorem dX9_isTold_23 : Dc mX9_isTold 23 (.istore 5) 2 25 := ⟨by decide +kernel, rfl⟩
theorem dX9_isTold_25 : Dc mX9_isTold 25 (.iload_n 3) 1 26 := ⟨by decide +kernel, rfl⟩
theorem dX9_isTold_26 : Dj mX9_isTold 26 (.ifCond .ne 41) 3 29 (41) 67 := ⟨by decide +kernel, rfl, by decide⟩
theorem dX9_isTold_29 : Dc mX9_isTold 29 (.aload_n 0) 1 30 := ⟨by decide +kernel, rfl⟩
theorem dX9_isTold_30 : Dc mX9_isTold 30 (.getfield 72) 3 33 := ⟨by decide +kernel, rfl⟩
theorem dX9_isTold_33 : Dc mX9_isTold 33 (.iload 5) 2 35 := ⟨by decide +kernel, rfl⟩
theorem dX9_isTold_35 : Dc mX9_isTold 35 (.baload) 1 36 := ⟨by decide +kernel, rfl⟩
theorem dX9_isTold_36 : Dj mX9_isTold 36 (.ifCond .eq 35) 3 39 (35) 71 := ⟨by decide +kernel, rfl, by decide⟩
theorem dX9_isTold_39 : Dc mX9_isTold 39 (.aload_n 0) 1 40 := ⟨by decide +kernel, rfl⟩
theorem dX9_isTold_40 : Dc mX9_isTold 40 (.getfield 33) 3 43 := ⟨by decide +kernel, rfl⟩
theorem dX9_isTold_43 : Dc mX9_isTold 43 (.iload 5) 2 45 := ⟨by decide +kernel, rfl⟩
theorem dX9_isTold_45 : Dc mX9_isTold 45 (.iaload) 1 46 := ⟨by decide +kernel, rfl⟩
theorem dX9_isTold_46 : Dc mX9_isTold 46 (.bipush 11) 2 48 := ⟨by decide +kernel, rfl⟩
theorem dX9_isTold_48 : Dc mX9_isTold 48 (.bipush 12) 2 50 := ⟨by decide +kernel, rfl⟩
theorem dX9_isTold_50 : Dc mX9_isTold 50 (.invokestatic 99) 3 53 := ⟨by decide +kernel, rfl⟩
theorem dX9_isTold_53 : Dj mX9_isTold 53 (.ifCond .eq 18) 3 56 (18) 71 := ⟨by decide +kernel, rfl, by decide⟩
theorem dX9_isTold_56 : Dc mX9_isTold 56 (.aload_n 0) 1 57 := ⟨by decide +kernel, rfl⟩
theorem dX9_isTold_57 : Dc mX9_isTold 57 (.getfield 36) 3 60 := ⟨by decide +kernel, rfl⟩
theorem dX9_isTold_60 : Dc mX9_isTold 60 (.iload 5) 2 62 := ⟨by decide +kernel, rfl⟩
theorem dX9_isTold_62 : Dc mX9_isTold 62 (.iaload) 1 63 := ⟨by decide +kernel, rfl⟩
theorem dX9_isTold_63 : Dc mX9_isTold 63 (.iload_n 2) 1 64 := ⟨by decide +kernel, rfl⟩
theorem dX9_isTold_64 : Dj mX9_isTold 64 (.if_icmp .ne 7) 3 67 (7) 71 := ⟨by decide +kernel, rfl, by decide⟩
theorem dX9_isTold_67 : Dc mX9_isTold 67 (.iconst 1) 1 68 := ⟨by decide +kernel, rfl⟩
theorem dX9_isTold_68 : Dj mX9_isTold 68 (.goto 4) 3 71 (4) 72 := ⟨by decide +kernel, rfl, by decide⟩
theorem dX9_isTold_71 : Dc mX9_isTold 71 (.iconst 0) 1 72 := ⟨by decide +kernel, rfl⟩
theorem dX9_isTold_72 : Dc mX9_isTold 72 (.istore_n 3) 1 73 := ⟨by decide +kernel, rfl⟩
theorem dX9_isTold_73 : Dc mX9_isTold 73 (.bipush 6) 2 75 := ⟨by decide +kernel, rfl⟩
theorem dX9_isTold_75 : Dc mX9_isTold 75 (.iload_n 1) 1 76 := ⟨by decide +kernel, rfl⟩
theorem dX9_isTold_76 : Dc mX9_isTold 76 (.imul) 1 77 := ⟨by decide +kernel, rfl⟩
theorem dX9_isTold_77 : Dc mX9_isTold 77 (.istore 6) 2 79 := ⟨by decide +kernel, rfl⟩
theorem dX9_isTold_79 : Dc mX9_isTold 79 (.iload 6) 2 81 := ⟨by decide +kernel, rfl⟩
theorem dX9_isTold_81 : Dc mX9_isTold 81 (.bipush 6) 2 83 := ⟨by decide +kernel, rfl⟩
theorem dX9_isTold_83 : Dc mX9_isTold 83 (.iload_n 1) 1 84 := ⟨by decide +kernel, rfl⟩
theorem dX9_isTold_84 : Dc mX9_isTold 84 (.imul) 1 85 := ⟨by decide +kernel, rfl⟩
theorem dX9_isTold_85 : Dc mX9_isTold 85 (.aload_n 0) 1 86 := ⟨by decide +kernel, rfl⟩
theorem dX9_isTold_86 : Dc mX9_isTold 86 (.getfield 42) 3 89 := ⟨by decide +kernel, rfl⟩
theorem dX9_isTold_89 : Dc mX9_isTold 89 (.iload_n 1) 1 90 := ⟨by decide +kernel, rfl⟩
theorem dX9_isTold_90 : Dc mX9_isTold 90 (.iaload) 1 91 := ⟨by decide +kernel, rfl⟩
theorem dX9_isTold_91 : Dc mX9_isTold 91 (.iadd) 1 92 := ⟨by decide +kernel, rfl⟩
theorem dX9_isTold_92 : Dj mX9_isTold 92 (.if_icmp .ge 64) 3 95 (64) 156 := ⟨by decide +kernel, rfl, by decide⟩
theorem dX9_isTold_95 : Dc mX9_isTold 95 (.iload_n 3) 1 96 := ⟨by decide +kernel, rfl⟩
theorem dX9_isTold_96 : Dj mX9_isTold 96 (.ifCond .ne 48) 3 99 (48) 144 := ⟨by decide +kernel, rfl, by decide⟩
theorem dX9_isTold_99 : Dc mX9_isTold 99 (.aload_n 0) 1 100 := ⟨by decide +kernel, rfl⟩
theorem dX9_isTold_100 : Dc mX9_isTold 100 (.getfield 72) 3 103 := ⟨by decide +kernel, rfl⟩
theorem dX9_isTold_103 : Dc mX9_isTold 103 (.iload 5) 2 105 := ⟨by decide +kernel, rfl⟩
theorem dX9_isTold_105 : Dc mX9_isTold 105 (.baload) 1 106 := ⟨by decide +kernel, rfl⟩
theorem dX9_isTold_106 : Dj mX9_isTold 106 (.ifCond .eq 42) 3 109 (42) 148 := ⟨by decide +kernel, rfl, by decide⟩
theorem dX9_isTold_109 : Dc mX9_isTold 109 (.iload 4) 2 111 := ⟨by decide +kernel, rfl⟩
theorem dX9_isTold_111 : Dc mX9_isTold 111 (.aload_n 0) 1 112 := ⟨by decide +kernel, rfl⟩
theorem dX9_isTold_112 : Dc mX9_isTold 112 (.getfield 45) 3 115 := ⟨by decide +kernel, rfl⟩
theorem dX9_isTold_115 : Dc mX9_isTold 115 (.iload 6) 2 117 := ⟨by decide +kernel, rfl⟩
theorem dX9_isTold_117 : Dc mX9_isTold 117 (.iaload) 1 118 := ⟨by decide +kernel, rfl⟩
theorem dX9_isTold_118 : Dc mX9_isTold 118 (.aload_n 0) 1 119 := ⟨by decide +kernel, rfl⟩
theorem dX9_isTold_119 : Dc mX9_isTold 119 (.getfield 48) 3 122 := ⟨by decide +kernel, rfl⟩
theorem dX9_isTold_122 : Dc mX9_isTold 122 (.iload 6) 2 124 := ⟨by decide +kernel, rfl⟩
theorem dX9_isTold_124 : Dc mX9_isTold 124 (.iaload) 1 125 := ⟨by decide +kernel, rfl⟩
theorem dX9_isTold_125 : Dc mX9_isTold 125 (.iconst 1) 1 126 := ⟨by decide +kernel, rfl⟩
theorem dX9_isTold_126 : Dc mX9_isTold 126 (.isub) 1 127 := ⟨by decide +kernel, rfl⟩
theorem dX9_isTold_127 : Dc mX9_isTold 127 (.invokestatic 99) 3 130 := ⟨by decide +kernel, rfl⟩
theorem dX9_isTold_130 : Dj mX9_isTold 130 (.ifCond .eq 18) 3 133 (18) 148 := ⟨by decide +kernel, rfl, by decide⟩
theorem dX9_isTold_133 : Dc mX9_isTold 133 (.aload_n 0) 1 134 := ⟨by decide +kernel, rfl⟩
theorem dX9_isTold_134 : Dc mX9_isTold 134 (.getfield 51) 3 137 := ⟨by decide +kernel, rfl⟩
theorem dX9_isTold_137 : Dc mX9_isTold 137 (.iload 6) 2 139 := ⟨by decide +kernel, rfl⟩
theorem dX9_isTold_139 : Dc mX9_isTold 139 (.iaload) 1 140 := ⟨by decide +kernel, rfl⟩
theorem dX9_isTold_140 : Dc mX9_isTold 140 (.iload_n 2) 1 141 := ⟨by decide +kernel, rfl⟩
theorem dX9_isTold_141 : Dj mX9_isTold 141 (.if_icmp .ne 7) 3 144 (7) 148 := ⟨by decide +kernel, rfl, by decide⟩
theorem dX9_isTold_144 : Dc mX9_isTold 144 (.iconst 1) 1 145 := ⟨by decide +kernel, rfl⟩
theorem dX9_isTold_145 : Dj mX9_isTold 145 (.goto 4) 3 148 (4) 149 := ⟨by decide +kernel, rfl, by decide⟩
theorem dX9_isTold_148 : Dc mX9_isTold 148 (.iconst 0) 1 149 := ⟨by decide +kernel, rfl⟩
theorem dX9_isTold_149 : Dc mX9_isTold 149 (.istore_n 3) 1 150 := ⟨by decide +kernel, rfl⟩
theorem dX9_isTold_150 : Dc mX9_isTold 150 (.iinc 6 1) 3 153 := ⟨by decide +kernel, rfl⟩
theorem dX9_isTold_153 : Dj mX9_isTold 153 (.goto (-74)) 3 156 (-74) 79 := ⟨by decide +kernel, rfl, by decide⟩
theorem dX9_isTold_156 : Dc mX9_isTold 156 (.iinc 4 1) 3 159 := ⟨by decide +kernel, rfl⟩
theorem dX9_isTold_159 : Dj mX9_isTold 159 (.goto (-154)) 3 162 (-154) 5 := ⟨by decide +kernel, rfl, by decide⟩
theorem dX9_isTold_162 : Dc mX9_isTold 162 (.iload_n 3) 1 163 := ⟨by decide +kernel, rfl⟩
theorem dX9_isTold_163 : Dc mX9_isTold 163 (.ireturn) 1 164 := ⟨by decide +kernel, rfl⟩
theorem dX9_written_0 : Dc mX9_written 0 (.iconst 0) 1 1 := ⟨by decide +kernel, rfl⟩
theorem dX9_written_1 : Dc mX9_written 1 (.istore_n 3) 1 2 := ⟨by decide +kernel, rfl⟩
theorem dX9_written_2 : Dc mX9_written 2 (.iconst 0) 1 3 := ⟨by decide +kernel, rfl⟩
theorem dX9_written_3 : Dc mX9_written 3 (.istore 4) 2 5 := ⟨by decide +kernel, rfl⟩
theorem dX9_written_5 : Dc mX9_written 5 (.iconst 0) 1 6 := ⟨by decide +kernel, rfl⟩
theorem dX9_written_6 : Dc mX9_written 6 (.istore 5) 2 8 := ⟨by decide +kernel, rfl⟩
theorem dX9_written_8 : Dc mX9_written 8 (.iload 5) 2 10 := ⟨by decide +kernel, rfl⟩
theorem dX9_written_10 : Dc mX9_written 10 (.bipush 8) 2 12 := ⟨by decide +kernel, rfl⟩
theorem dX9_written_12 : Dj mX9_written 12 (.if_icmp .ge 51) 3 15 (51) 63 := ⟨by decide +kernel, rfl, by decide⟩
theorem dX9_written_15 : Dc mX9_written 15 (.aload_n 0) 1 16 := ⟨by decide +kernel, rfl⟩
theorem dX9_written_16 : Dc mX9_written 16 (.iload_n 1) 1 17 := ⟨by decide +kernel, rfl⟩
theorem dX9_written_17 : Dc mX9_written 17 (.iload 5) 2 19 := ⟨by decide +kernel, rfl⟩
theorem dX9_written_19 : Dc mX9_written 19 (.iadd) 1 20 := ⟨by decide +kernel, rfl⟩
theorem dX9_written_20 : Dc mX9_written 20 (.iaload) 1 21 := ⟨by decide +kernel, rfl⟩
theorem dX9_written_21 : Dc mX9_written 21 (.iconst 3) 1 22 := ⟨by decide +kernel, rfl⟩
theorem dX9_written_22 : Dj mX9_written 22 (.if_icmp .ne 6) 3 25 (6) 28 := ⟨by decide +kernel, rfl, by decide⟩
theorem dX9_written_25 : Dj mX9_written 25 (.goto 32) 3 28 (32) 57 := ⟨by decide +kernel, rfl, by decide⟩
theorem dX9_written_28 : Dc mX9_written 28 (.aload_n 2) 1 29 := ⟨by decide +kernel, rfl⟩
theorem dX9_written_29 : Dc mX9_written 29 (.iload_n 3) 1 30 := ⟨by decide +kernel, rfl⟩
theorem dX9_written_30 : Dc mX9_written 30 (.aload_n 0) 1 31 := ⟨by decide +kernel, rfl⟩
theorem dX9_written_31 : Dc mX9_written 31 (.iload_n 1) 1 32 := ⟨by decide +kernel, rfl⟩
theorem dX9_written_32 : Dc mX9_written 32 (.iload 5) 2 34 := ⟨by decide +kernel, rfl⟩
theorem dX9_written_34 : Dc mX9_written 34 (.iadd) 1 35 := ⟨by decide +kernel, rfl⟩
theorem dX9_written_35 : Dc mX9_written 35 (.iaload) 1 36 := ⟨by decide +kernel, rfl⟩
theorem dX9_written_36 : Dc mX9_written 36 (.iastore) 1 37 := ⟨by decide +kernel, rfl⟩
theorem dX9_written_37 : Dc mX9_written 37 (.iinc 3 1) 3 40 := ⟨by decide +kernel, rfl⟩
theorem dX9_written_40 : Dc mX9_written 40 (.aload_n 0) 1 41 := ⟨by decide +kernel, rfl⟩
theorem dX9_written_41 : Dc mX9_written 41 (.iload_n 1) 1 42 := ⟨by decide +kernel, rfl⟩
theorem dX9_written_42 : Dc mX9_written 42 (.iload 5) 2 44 := ⟨by decide +kernel, rfl⟩
theorem dX9_written_44 : Dc mX9_written 44 (.iadd) 1 45 := ⟨by decide +kernel, rfl⟩
theorem dX9_written_45 : Dc mX9_written 45 (.iaload) 1 46 := ⟨by decide +kernel, rfl⟩
theorem dX9_written_46 : Dj mX9_written 46 (.ifCond .eq 7) 3 49 (7) 53 := ⟨by decide +kernel, rfl, by decide⟩
theorem dX9_written_49 : Dc mX9_written 49 (.iload_n 3) 1 50 := ⟨by decide +kernel, rfl⟩
theorem dX9_written_50 : Dj mX9_written 50 (.goto 5) 3 53 (5) 55 := ⟨by decide +kernel, rfl, by decide⟩
theorem dX9_written_53 : Dc mX9_written 53 (.iload 4) 2 55 := ⟨by decide +kernel, rfl⟩
theorem dX9_written_55 : Dc mX9_written 55 (.istore 4) 2 57 := ⟨by decide +kernel, rfl⟩
theorem dX9_written_57 : Dc mX9_written 57 (.iinc 5 1) 3 60 := ⟨by decide +kernel, rfl⟩
theorem dX9_written_60 : Dj mX9_written 60 (.goto (-52)) 3 63 (-52) 8 := ⟨by decide +kernel, rfl, by decide⟩
theorem dX9_written_63 : Dc mX9_written 63 (.iload 4) 2 65 := ⟨by decide +kernel, rfl⟩
theorem dX9_written_65 : Dc mX9_written 65 (.ireturn) 1 66 := ⟨by decide +kernel, rfl⟩
theorem dX9_form_0 : Dc mX9_form 0 (.aload_n 0) 1 1 := ⟨by decide +kernel, rfl⟩
theorem dX9_form_1 : Dc mX9_form 1 (.iload_n 1) 1 2 := ⟨by decide +kernel, rfl⟩
theorem dX9_form_2 : Dc mX9_form 2 (.iload_n 2) 1 3 := ⟨by decide +kernel, rfl⟩
theorem dX9_form_3 : Dc mX9_form 3 (.invokevirtual 238) 3 6 := ⟨by decide +kernel, rfl⟩
theorem dX9_form_6 : Dj mX9_form 6 (.ifCond .ne 6) 3 9 (6) 12 := ⟨by decide +kernel, rfl, by decide⟩
theorem dX9_form_9 : Dc mX9_form 9 (.bipush (-2)) 2 11 := ⟨by decide +kernel, rfl⟩
theorem dX9_form_11 : Dc mX9_form 11 (.ireturn) 1 12 := ⟨by decide +kernel, rfl⟩
theorem dX9_form_12 : Dc mX9_form 12 (.aload_n 0) 1 13 := ⟨by decide +kernel, rfl⟩
theorem dX9_form_13 : Dc mX9_form 13 (.getfield 57) 3 16 := ⟨by decide +kernel, rfl⟩
theorem dX9_form_16 : Dc mX9_form 16 (.iload_n 1) 1 17 := ⟨by decide +kernel, rfl⟩
theorem dX9_form_17 : Dc mX9_form 17 (.baload) 1 18 := ⟨by decide +kernel, rfl⟩
theorem dX9_form_18 : Dj mX9_form 18 (.ifCond .eq 12) 3 21 (12) 30 := ⟨by decide +kernel, rfl, by decide⟩
theorem dX9_form_21 : Dc mX9_form 21 (.aload_n 0) 1 22 := ⟨by decide +kernel, rfl⟩
theorem dX9_form_22 : Dc mX9_form 22 (.getfield 60) 3 25 := ⟨by decide +kernel, rfl⟩
theorem dX9_form_25 : Dc mX9_form 25 (.iload_n 1) 1 26 := ⟨by decide +kernel, rfl⟩
theorem dX9_form_26 : Dc mX9_form 26 (.iaload) 1 27 := ⟨by decide +kernel, rfl⟩
theorem dX9_form_27 : Dj mX9_form 27 (.ifCond .eq 6) 3 30 (6) 33 := ⟨by decide +kernel, rfl, by decide⟩
theorem dX9_form_30 : Dc mX9_form 30 (.bipush (-3)) 2 32 := ⟨by decide +kernel, rfl⟩
theorem dX9_form_32 : Dc mX9_form 32 (.ireturn) 1 33 := ⟨by decide +kernel, rfl⟩
theorem dX9_form_33 : Dc mX9_form 33 (.aload_n 0) 1 34 := ⟨by decide +kernel, rfl⟩
theorem dX9_form_34 : Dc mX9_form 34 (.iload_n 1) 1 35 := ⟨by decide +kernel, rfl⟩
theorem dX9_form_35 : Dc mX9_form 35 (.iload_n 2) 1 36 := ⟨by decide +kernel, rfl⟩
theorem dX9_form_36 : Dc mX9_form 36 (.invokevirtual 241) 3 39 := ⟨by decide +kernel, rfl⟩
theorem dX9_form_39 : Dj mX9_form 39 (.ifCond .ne 5) 3 42 (5) 44 := ⟨by decide +kernel, rfl, by decide⟩
theorem dX9_form_42 : Dc mX9_form 42 (.iconst (-1)) 1 43 := ⟨by decide +kernel, rfl⟩
theorem dX9_form_43 : Dc mX9_form 43 (.ireturn) 1 44 := ⟨by decide +kernel, rfl⟩
theorem dX9_form_44 : Dc mX9_form 44 (.iconst (-1)) 1 45 := ⟨by decide +kernel, rfl⟩
theorem dX9_form_45 : Dc mX9_form 45 (.istore_n 3) 1 46 := ⟨by decide +kernel, rfl⟩
theorem dX9_form_46 : Dc mX9_form 46 (.iconst 0) 1 47 := ⟨by decide +kernel, rfl⟩
theorem dX9_form_47 : Dc mX9_form 47 (.istore 4) 2 49 := ⟨by decide +kernel, rfl⟩
theorem dX9_form_49 : Dc mX9_form 49 (.iload 4) 2 51 := ⟨by decide +kernel, rfl⟩
theorem dX9_form_51 : Dc mX9_form 51 (.iload_n 2) 1 52 := ⟨by decide +kernel, rfl⟩
theorem dX9_form_52 : Dj mX9_form 52 (.if_icmp .ge 26) 3 55 (26) 78 := ⟨by decide +kernel, rfl, by decide⟩
theorem dX9_form_55 : Dc mX9_form 55 (.aload_n 0) 1 56 := ⟨by decide +kernel, rfl⟩
theorem dX9_form_56 : Dc mX9_form 56 (.iload_n 1) 1 57 := ⟨by decide +kernel, rfl⟩
theorem dX9_form_57 : Dc mX9_form 57 (.iload 4) 2 59 := ⟨by decide +kernel, rfl⟩
theorem dX9_form_59 : Dc mX9_form 59 (.invokevirtual 241) 3 62 := ⟨by decide +kernel, rfl⟩
theorem dX9_form_62 : Dj mX9_form 62 (.ifCond .eq 8) 3 65 (8) 70 := ⟨by decide +kernel, rfl, by decide⟩
theorem dX9_form_65 : Dc mX9_form 65 (.iload 4) 2 67 := ⟨by decide +kernel, rfl⟩
theorem dX9_form_67 : Dj mX9_form 67 (.goto 4) 3 70 (4) 71 := ⟨by decide +kernel, rfl, by decide⟩
theorem dX9_form_70 : Dc mX9_form 70 (.iload_n 3) 1 71 := ⟨by decide +kernel, rfl⟩
theorem dX9_form_71 : Dc mX9_form 71 (.istore_n 3) 1 72 := ⟨by decide +kernel, rfl⟩
theorem dX9_form_72 : Dc mX9_form 72 (.iinc 4 1) 3 75 := ⟨by decide +kernel, rfl⟩
theorem dX9_form_75 : Dj mX9_form 75 (.goto (-26)) 3 78 (-26) 49 := ⟨by decide +kernel, rfl, by decide⟩
theorem dX9_form_78 : Dc mX9_form 78 (.iload_n 3) 1 79 := ⟨by decide +kernel, rfl⟩
theorem dX9_form_79 : Dc mX9_form 79 (.iconst (-1)) 1 80 := ⟨by decide +kernel, rfl⟩
theorem dX9_form_80 : Dj mX9_form 80 (.if_icmp .ne 21) 3 83 (21) 101 := ⟨by decide +kernel, rfl, by decide⟩
theorem dX9_form_83 : Dc mX9_form 83 (.aload_n 0) 1 84 := ⟨by decide +kernel, rfl⟩
theorem dX9_form_84 : Dc mX9_form 84 (.getfield 27) 3 87 := ⟨by decide +kernel, rfl⟩
theorem dX9_form_87 : Dc mX9_form 87 (.bipush 8) 2 89 := ⟨by decide +kernel, rfl⟩
theorem dX9_form_89 : Dc mX9_form 89 (.iload_n 1) 1 90 := ⟨by decide +kernel, rfl⟩
theorem dX9_form_90 : Dc mX9_form 90 (.imul) 1 91 := ⟨by decide +kernel, rfl⟩
theorem dX9_form_91 : Dc mX9_form 91 (.aload_n 0) 1 92 := ⟨by decide +kernel, rfl⟩
theorem dX9_form_92 : Dc mX9_form 92 (.getfield 93) 3 95 := ⟨by decide +kernel, rfl⟩
theorem dX9_form_95 : Dc mX9_form 95 (.invokestatic 244) 3 98 := ⟨by decide +kernel, rfl⟩
theorem dX9_form_98 : Dj mX9_form 98 (.goto 23) 3 101 (23) 121 := ⟨by decide +kernel, rfl, by decide⟩
theorem dX9_form_101 : Dc mX9_form 101 (.aload_n 0) 1 102 := ⟨by decide +kernel, rfl⟩
theorem dX9_form_102 : Dc mX9_form 102 (.getfield 81) 3 105 := ⟨by decide +kernel, rfl⟩
theorem dX9_form_105 : Dc mX9_form 105 (.bipush 16) 2 107 := ⟨by decide +kernel, rfl⟩
theorem dX9_form_107 : Dc mX9_form 107 (.bipush 40) 2 109 := ⟨by decide +kernel, rfl⟩
theorem dX9_form_109 : Dc mX9_form 109 (.iload_n 1) 1 110 := ⟨by decide +kernel, rfl⟩
theorem dX9_form_110 : Dc mX9_form 110 (.imul) 1 111 := ⟨by decide +kernel, rfl⟩
theorem dX9_form_111 : Dc mX9_form 111 (.iload_n 3) 1 112 := ⟨by decide +kernel, rfl⟩
theorem dX9_form_112 : Dc mX9_form 112 (.iadd) 1 113 := ⟨by decide +kernel, rfl⟩
theorem dX9_form_113 : Dc mX9_form 113 (.imul) 1 114 := ⟨by decide +kernel, rfl⟩
theorem dX9_form_114 : Dc mX9_form 114 (.aload_n 0) 1 115 := ⟨by decide +kernel, rfl⟩
theorem dX9_form_115 : Dc mX9_form 115 (.getfield 93) 3 118 := ⟨by decide +kernel, rfl⟩
theorem dX9_form_118 : Dc mX9_form 118 (.invokestatic 244) 3 121 := ⟨by decide +kernel, rfl⟩
theorem dX9_form_121 : Dc mX9_form 121 (.istore 4) 2 123 := ⟨by decide +kernel, rfl⟩
theorem dX9_form_123 : Dc mX9_form 123 (.bipush 40) 2 125 := ⟨by decide +kernel, rfl⟩
theorem dX9_form_125 : Dc mX9_form 125 (.iload_n 1) 1 126 := ⟨by decide +kernel, rfl⟩
theorem dX9_form_126 : Dc mX9_form 126 (.imul) 1 127 := ⟨by decide +kernel, rfl⟩
theorem dX9_form_127 : Dc mX9_form 127 (.iload_n 2) 1 128 := ⟨by decide +kernel, rfl⟩
theorem dX9_form_128 : Dc mX9_form 128 (.iadd) 1 129 := ⟨by decide +kernel, rfl⟩
theorem dX9_form_129 : Dc mX9_form 129 (.istore 5) 2 131 := ⟨by decide +kernel, rfl⟩
theorem dX9_form_131 : Dc mX9_form 131 (.aload_n 0) 1 132 := ⟨by decide +kernel, rfl⟩
theorem dX9_form_132 : Dc mX9_form 132 (.getfield 81) 3 135 := ⟨by decide +kernel, rfl⟩
theorem dX9_form_135 : Dc mX9_form 135 (.bipush 16) 2 137 := ⟨by decide +kernel, rfl⟩
theorem dX9_form_137 : Dc mX9_form 137 (.iload 5) 2 139 := ⟨by decide +kernel, rfl⟩
theorem dX9_form_139 : Dc mX9_form 139 (.imul) 1 140 := ⟨by decide +kernel, rfl⟩
theorem dX9_form_140 : Dc mX9_form 140 (.aload_n 0) 1 141 := ⟨by decide +kernel, rfl⟩
theorem dX9_form_141 : Dc mX9_form 141 (.getfield 96) 3 144 := ⟨by decide +kernel, rfl⟩
theorem dX9_form_144 : Dc mX9_form 144 (.invokestatic 244) 3 147 := ⟨by decide +kernel, rfl⟩
theorem dX9_form_147 : Dc mX9_form 147 (.istore 6) 2 149 := ⟨by decide +kernel, rfl⟩
theorem dX9_form_149 : Dc mX9_form 149 (.iconst 1) 1 150 := ⟨by decide +kernel, rfl⟩
theorem dX9_form_150 : Dc mX9_form 150 (.istore 7) 2 152 := ⟨by decide +kernel, rfl⟩
theorem dX9_form_152 : Dc mX9_form 152 (.iconst 0) 1 153 := ⟨by decide +kernel, rfl⟩
theorem dX9_form_153 : Dc mX9_form 153 (.istore 8) 2 155 := ⟨by decide +kernel, rfl⟩
theorem dX9_form_155 : Dc mX9_form 155 (.iload 8) 2 157 := ⟨by decide +kernel, rfl⟩
theorem dX9_form_157 : Dc mX9_form 157 (.iload 4) 2 159 := ⟨by decide +kernel, rfl⟩
theorem dX9_form_159 : Dj mX9_form 159 (.if_icmp .ge 45) 3 162 (45) 204 := ⟨by decide +kernel, rfl, by decide⟩
theorem dX9_form_162 : Dc mX9_form 162 (.iload 8) 2 164 := ⟨by decide +kernel, rfl⟩
theorem dX9_form_164 : Dc mX9_form 164 (.iload 6) 2 166 := ⟨by decide +kernel, rfl⟩
theorem dX9_form_166 : Dj mX9_form 166 (.if_icmp .ge 38) 3 169 (38) 204 := ⟨by decide +kernel, rfl, by decide⟩
theorem dX9_form_169 : Dc mX9_form 169 (.iload 7) 2 171 := ⟨by decide +kernel, rfl⟩
theorem dX9_form_171 : Dj mX9_form 171 (.ifCond .eq 24) 3 174 (24) 195 := ⟨by decide +kernel, rfl, by decide⟩
theorem dX9_form_174 : Dc mX9_form 174 (.aload_n 0) 1 175 := ⟨by decide +kernel, rfl⟩
theorem dX9_form_175 : Dc mX9_form 175 (.getfield 93) 3 178 := ⟨by decide +kernel, rfl⟩
theorem dX9_form_178 : Dc mX9_form 178 (.iload 8) 2 180 := ⟨by decide +kernel, rfl⟩
theorem dX9_form_180 : Dc mX9_form 180 (.iaload) 1 181 := ⟨by decide +kernel, rfl⟩
theorem dX9_form_181 : Dc mX9_form 181 (.aload_n 0) 1 182 := ⟨by decide +kernel, rfl⟩
theorem dX9_form_182 : Dc mX9_form 182 (.getfield 96) 3 185 := ⟨by decide +kernel, rfl⟩
theorem dX9_form_185 : Dc mX9_form 185 (.iload 8) 2 187 := ⟨by decide +kernel, rfl⟩
theorem dX9_form_187 : Dc mX9_form 187 (.iaload) 1 188 := ⟨by decide +kernel, rfl⟩
theorem dX9_form_188 : Dj mX9_form 188 (.if_icmp .ne 7) 3 191 (7) 195 := ⟨by decide +kernel, rfl, by decide⟩
theorem dX9_form_191 : Dc mX9_form 191 (.iconst 1) 1 192 := ⟨by decide +kernel, rfl⟩
theorem dX9_form_192 : Dj mX9_form 192 (.goto 4) 3 195 (4) 196 := ⟨by decide +kernel, rfl, by decide⟩
theorem dX9_form_195 : Dc mX9_form 195 (.iconst 0) 1 196 := ⟨by decide +kernel, rfl⟩
theorem dX9_form_196 : Dc mX9_form 196 (.istore 7) 2 198 := ⟨by decide +kernel, rfl⟩
theorem dX9_form_198 : Dc mX9_form 198 (.iinc 8 1) 3 201 := ⟨by decide +kernel, rfl⟩
theorem dX9_form_201 : Dj mX9_form 201 (.goto (-46)) 3 204 (-46) 155 := ⟨by decide +kernel, rfl, by decide⟩
theorem dX9_form_204 : Dc mX9_form 204 (.aload_n 0) 1 205 := ⟨by decide +kernel, rfl⟩
theorem dX9_form_205 : Dc mX9_form 205 (.getfield 78) 3 208 := ⟨by decide +kernel, rfl⟩
theorem dX9_form_208 : Dc mX9_form 208 (.iload 5) 2 210 := ⟨by decide +kernel, rfl⟩
theorem dX9_form_210 : Dc mX9_form 210 (.iaload) 1 211 := ⟨by decide +kernel, rfl⟩
theorem dX9_form_211 : Dc mX9_form 211 (.istore 8) 2 213 := ⟨by decide +kernel, rfl⟩
theorem dX9_form_213 : Dc mX9_form 213 (.iload 7) 2 215 := ⟨by decide +kernel, rfl⟩
theorem dX9_form_215 : Dj mX9_form 215 (.ifCond .ne 6) 3 218 (6) 221 := ⟨by decide +kernel, rfl, by decide⟩
theorem dX9_form_218 : Dc mX9_form 218 (.bipush 8) 2 220 := ⟨by decide +kernel, rfl⟩
theorem dX9_form_220 : Dc mX9_form 220 (.ireturn) 1 221 := ⟨by decide +kernel, rfl⟩
theorem dX9_form_221 : Dc mX9_form 221 (.iload 4) 2 223 := ⟨by decide +kernel, rfl⟩
theorem dX9_form_223 : Dc mX9_form 223 (.iload 6) 2 225 := ⟨by decide +kernel, rfl⟩
theorem dX9_form_225 : Dj mX9_form 225 (.if_icmp .ne 60) 3 228 (60) 285 := ⟨by decide +kernel, rfl, by decide⟩
theorem dX9_form_228 : Dc mX9_form 228 (.iload 8) 2 230 := ⟨by decide +kernel, rfl⟩
theorem dX9_form_230 : Dc mX9_form 230 (.iconst 1) 1 231 := ⟨by decide +kernel, rfl⟩
theorem dX9_form_231 : Dj mX9_form 231 (.if_icmp .eq 26) 3 234 (26) 257 := ⟨by decide +kernel, rfl, by decide⟩
theorem dX9_form_234 : Dc mX9_form 234 (.iload 8) 2 236 := ⟨by decide +kernel, rfl⟩
theorem dX9_form_236 : Dc mX9_form 236 (.iconst 2) 1 237 := ⟨by decide +kernel, rfl⟩
theorem dX9_form_237 : Dj mX9_form 237 (.if_icmp .ne 24) 3 240 (24) 261 := ⟨by decide +kernel, rfl, by decide⟩
theorem dX9_form_240 : Dc mX9_form 240 (.aload_n 0) 1 241 := ⟨by decide +kernel, rfl⟩
theorem dX9_form_241 : Dc mX9_form 241 (.getfield 81) 3 244 := ⟨by decide +kernel, rfl⟩
theorem dX9_form_244 : Dc mX9_form 244 (.bipush 16) 2 246 := ⟨by decide +kernel, rfl⟩
theorem dX9_form_246 : Dc mX9_form 246 (.iload 5) 2 248 := ⟨by decide +kernel, rfl⟩
theorem dX9_form_248 : Dc mX9_form 248 (.imul) 1 249 := ⟨by decide +kernel, rfl⟩
theorem dX9_form_249 : Dc mX9_form 249 (.bipush 8) 2 251 := ⟨by decide +kernel, rfl⟩
theorem dX9_form_251 : Dc mX9_form 251 (.iadd) 1 252 := ⟨by decide +kernel, rfl⟩
theorem dX9_form_252 : Dc mX9_form 252 (.iaload) 1 253 := ⟨by decide +kernel, rfl⟩
theorem dX9_form_253 : Dc mX9_form 253 (.iconst 2) 1 254 := ⟨by decide +kernel, rfl⟩
theorem dX9_form_254 : Dj mX9_form 254 (.if_icmp .ne 7) 3 257 (7) 261 := ⟨by decide +kernel, rfl, by decide⟩
theorem dX9_form_257 : Dc mX9_form 257 (.iconst 1) 1 258 := ⟨by decide +kernel, rfl⟩
theorem dX9_form_258 : Dj mX9_form 258 (.goto 4) 3 261 (4) 262 := ⟨by decide +kernel, rfl, by decide⟩
theorem dX9_form_261 : Dc mX9_form 261 (.iconst 0) 1 262 := ⟨by decide +kernel, rfl⟩
theorem dX9_form_262 : Dc mX9_form 262 (.istore 9) 2 264 := ⟨by decide +kernel, rfl⟩
theorem dX9_form_264 : Dc mX9_form 264 (.iload 8) 2 266 := ⟨by decide +kernel, rfl⟩
theorem dX9_form_266 : Dj mX9_form 266 (.ifCond .ne 7) 3 269 (7) 273 := ⟨by decide +kernel, rfl, by decide⟩
theorem dX9_form_269 : Dc mX9_form 269 (.iconst 0) 1 270 := ⟨by decide +kernel, rfl⟩
theorem dX9_form_270 : Dj mX9_form 270 (.goto 14) 3 273 (14) 284 := ⟨by decide +kernel, rfl, by decide⟩
theorem dX9_form_273 : Dc mX9_form 273 (.iload 9) 2 275 := ⟨by decide +kernel, rfl⟩
theorem dX9_form_275 : Dj mX9_form 275 (.ifCond .eq 7) 3 278 (7) 282 := ⟨by decide +kernel, rfl, by decide⟩
theorem dX9_form_278 : Dc mX9_form 278 (.iconst 1) 1 279 := ⟨by decide +kernel, rfl⟩
theorem dX9_form_279 : Dj mX9_form 279 (.goto 5) 3 282 (5) 284 := ⟨by decide +kernel, rfl, by decide⟩
theorem dX9_form_282 : Dc mX9_form 282 (.bipush 8) 2 284 := ⟨by decide +kernel, rfl⟩
theorem dX9_form_284 : Dc mX9_form 284 (.ireturn) 1 285 := ⟨by decide +kernel, rfl⟩
theorem dX9_form_285 : Dc mX9_form 285 (.iload 8) 2 287 := ⟨by decide +kernel, rfl⟩
theorem dX9_form_287 : Dj mX9_form 287 (.ifCond .gt 21) 3 290 (21) 308 := ⟨by decide +kernel, rfl, by decide⟩
theorem dX9_form_290 : Dc mX9_form 290 (.iload 6) 2 292 := ⟨by decide +kernel, rfl⟩
theorem dX9_form_292 : Dc mX9_form 292 (.iload 4) 2 294 := ⟨by decide +kernel, rfl⟩
theorem dX9_form_294 : Dc mX9_form 294 (.isub) 1 295 := ⟨by decide +kernel, rfl⟩
theorem dX9_form_295 : Dc mX9_form 295 (.iconst 3) 1 296 := ⟨by decide +kernel, rfl⟩
theorem dX9_form_296 : Dj mX9_form 296 (.if_icmp .gt 12) 3 299 (12) 308 := ⟨by decide +kernel, rfl, by decide⟩
theorem dX9_form_299 : Dc mX9_form 299 (.iload 4) 2 301 := ⟨by decide +kernel, rfl⟩
theorem dX9_form_301 : Dc mX9_form 301 (.iload 6) 2 303 := ⟨by decide +kernel, rfl⟩
theorem dX9_form_303 : Dc mX9_form 303 (.isub) 1 304 := ⟨by decide +kernel, rfl⟩
theorem dX9_form_304 : Dc mX9_form 304 (.iconst 3) 1 305 := ⟨by decide +kernel, rfl⟩
theorem dX9_form_305 : Dj mX9_form 305 (.if_icmp .le 6) 3 308 (6) 311 := ⟨by decide +kernel, rfl, by decide⟩
theorem dX9_form_308 : Dc mX9_form 308 (.bipush 8) 2 310 := ⟨by decide +kernel, rfl⟩
theorem dX9_form_310 : Dc mX9_form 310 (.ireturn) 1 311 := ⟨by decide +kernel, rfl⟩
theorem dX9_form_311 : Dc mX9_form 311 (.iload 6) 2 313 := ⟨by decide +kernel, rfl⟩
theorem dX9_form_313 : Dc mX9_form 313 (.iload 4) 2 315 := ⟨by decide +kernel, rfl⟩
theorem dX9_form_315 : Dj mX9_form 315 (.if_icmp .ge 13) 3 318 (13) 328 := ⟨by decide +kernel, rfl, by decide⟩
theorem dX9_form_318 : Dc mX9_form 318 (.iconst 1) 1 319 := ⟨by decide +kernel, rfl⟩
theorem dX9_form_319 : Dc mX9_form 319 (.iload 4) 2 321 := ⟨by decide +kernel, rfl⟩
end
section
theorem dX9_form_321 : Dc mX9_form 321 (.iadd) 1 322 := ⟨by decide +kernel, rfl⟩
theorem dX9_form_322 : Dc mX9_form 322 (.iload 6) 2 324 := ⟨by decide +kernel, rfl⟩
theorem dX9_form_324 : Dc mX9_form 324 (.isub) 1 325 := ⟨by decide +kernel, rfl⟩
theorem dX9_form_325 : Dj mX9_form 325 (.goto 10) 3 328 (10) 335 := ⟨by decide +kernel, rfl, by decide⟩
theorem dX9_form_328 : Dc mX9_form 328 (.iconst 4) 1 329 := ⟨by decide +kernel, rfl⟩
theorem dX9_form_329 : Dc mX9_form 329 (.iload 6) 2 331 := ⟨by decide +kernel, rfl⟩
theorem dX9_form_331 : Dc mX9_form 331 (.iadd) 1 332 := ⟨by decide +kernel, rfl⟩
theorem dX9_form_332 : Dc mX9_form 332 (.iload 4) 2 334 := ⟨by decide +kernel, rfl⟩
theorem dX9_form_334 : Dc mX9_form 334 (.isub) 1 335 := ⟨by decide +kernel, rfl⟩
theorem dX9_form_335 : Dc mX9_form 335 (.ireturn) 1 336 := ⟨by decide +kernel, rfl⟩
theorem dX9_count_0 : Dc mX9_count 0 (.iload_n 1) 1 1 := ⟨by decide +kernel, rfl⟩
theorem dX9_count_1 : decode mX9_count.2.1 1 = .ok (.tableswitch 81 0 3 #[31, 36, 41, 61], 31) := by decide +kernel
theorem dX9_count_32 : Dc mX9_count 32 (.aload_n 0) 1 33 := ⟨by decide +kernel, rfl⟩
theorem dX9_count_33 : Dc mX9_count 33 (.getfield 7) 3 36 := ⟨by decide +kernel, rfl⟩
theorem dX9_count_36 : Dc mX9_count 36 (.ireturn) 1 37 := ⟨by decide +kernel, rfl⟩
theorem dX9_count_37 : Dc mX9_count 37 (.aload_n 0) 1 38 := ⟨by decide +kernel, rfl⟩
theorem dX9_count_38 : Dc mX9_count 38 (.getfield 133) 3 41 := ⟨by decide +kernel, rfl⟩
theorem dX9_count_41 : Dc mX9_count 41 (.ireturn) 1 42 := ⟨by decide +kernel, rfl⟩
theorem dX9_count_42 : Dc mX9_count 42 (.aload_n 0) 1 43 := ⟨by decide +kernel, rfl⟩
theorem dX9_count_43 : Dc mX9_count 43 (.iload_n 2) 1 44 := ⟨by decide +kernel, rfl⟩
theorem dX9_count_44 : Dc mX9_count 44 (.invokevirtual 139) 3 47 := ⟨by decide +kernel, rfl⟩
theorem dX9_count_47 : Dj mX9_count 47 (.ifCond .eq 12) 3 50 (12) 59 := ⟨by decide +kernel, rfl, by decide⟩
theorem dX9_count_50 : Dc mX9_count 50 (.aload_n 0) 1 51 := ⟨by decide +kernel, rfl⟩
theorem dX9_count_51 : Dc mX9_count 51 (.getfield 30) 3 54 := ⟨by decide +kernel, rfl⟩
theorem dX9_count_54 : Dc mX9_count 54 (.iload_n 2) 1 55 := ⟨by decide +kernel, rfl⟩
theorem dX9_count_55 : Dc mX9_count 55 (.iaload) 1 56 := ⟨by decide +kernel, rfl⟩
theorem dX9_count_56 : Dj mX9_count 56 (.goto 5) 3 59 (5) 61 := ⟨by decide +kernel, rfl, by decide⟩
theorem dX9_count_59 : Dc mX9_count 59 (.bipush (-2)) 2 61 := ⟨by decide +kernel, rfl⟩
theorem dX9_count_61 : Dc mX9_count 61 (.ireturn) 1 62 := ⟨by decide +kernel, rfl⟩
theorem dX9_count_62 : Dc mX9_count 62 (.aload_n 0) 1 63 := ⟨by decide +kernel, rfl⟩
theorem dX9_count_63 : Dc mX9_count 63 (.iload_n 2) 1 64 := ⟨by decide +kernel, rfl⟩
theorem dX9_count_64 : Dc mX9_count 64 (.invokevirtual 139) 3 67 := ⟨by decide +kernel, rfl⟩
theorem dX9_count_67 : Dj mX9_count 67 (.ifCond .eq 12) 3 70 (12) 79 := ⟨by decide +kernel, rfl, by decide⟩
theorem dX9_count_70 : Dc mX9_count 70 (.aload_n 0) 1 71 := ⟨by decide +kernel, rfl⟩
theorem dX9_count_71 : Dc mX9_count 71 (.getfield 42) 3 74 := ⟨by decide +kernel, rfl⟩
theorem dX9_count_74 : Dc mX9_count 74 (.iload_n 2) 1 75 := ⟨by decide +kernel, rfl⟩
theorem dX9_count_75 : Dc mX9_count 75 (.iaload) 1 76 := ⟨by decide +kernel, rfl⟩
theorem dX9_count_76 : Dj mX9_count 76 (.goto 5) 3 79 (5) 81 := ⟨by decide +kernel, rfl, by decide⟩
theorem dX9_count_79 : Dc mX9_count 79 (.bipush (-2)) 2 81 := ⟨by decide +kernel, rfl⟩
theorem dX9_count_81 : Dc mX9_count 81 (.ireturn) 1 82 := ⟨by decide +kernel, rfl⟩
theorem dX9_count_82 : Dc mX9_count 82 (.bipush (-2)) 2 84 := ⟨by decide +kernel, rfl⟩
theorem dX9_count_84 : Dc mX9_count 84 (.ireturn) 1 85 := ⟨by decide +kernel, rfl⟩
end
section
theorem dL_law_0 : Dc mL_law 0 (.new 7) 3 3 := ⟨by decide +kernel, rfl⟩
theorem dL_law_3 : Dc mL_law 3 (.dup) 1 4 := ⟨by decide +kernel, rfl⟩
theorem dL_law_4 : Dc mL_law 4 (.invokespecial 9) 3 7 := ⟨by decide +kernel, rfl⟩
theorem dL_law_7 : Dc mL_law 7 (.astore_n 1) 1 8 := ⟨by decide +kernel, rfl⟩
theorem dL_law_8 : Dc mL_law 8 (.new 10) 3 11 := ⟨by decide +kernel, rfl⟩
theorem dL_law_11 : Dc mL_law 11 (.dup) 1 12 := ⟨by decide +kernel, rfl⟩
theorem dL_law_12 : Dc mL_law 12 (.invokespecial 12) 3 15 := ⟨by decide +kernel, rfl⟩
theorem dL_law_15 : Dc mL_law 15 (.astore_n 2) 1 16 := ⟨by decide +kernel, rfl⟩
theorem dL_law_16 : Dc mL_law 16 (.iconst 0) 1 17 := ⟨by decide +kernel, rfl⟩
theorem dL_law_17 : Dc mL_law 17 (.istore_n 3) 1 18 := ⟨by decide +kernel, rfl⟩
theorem dL_law_18 : Dc mL_law 18 (.iload_n 3) 1 19 := ⟨by decide +kernel, rfl⟩
theorem dL_law_19 : Dc mL_law 19 (.aload_n 0) 1 20 := ⟨by decide +kernel, rfl⟩
theorem dL_law_20 : Dc mL_law 20 (.arraylength) 1 21 := ⟨by decide +kernel, rfl⟩
theorem dL_law_21 : Dc mL_law 21 (.bipush 6) 2 23 := ⟨by decide +kernel, rfl⟩
theorem dL_law_23 : Dc mL_law 23 (.isub) 1 24 := ⟨by decide +kernel, rfl⟩
theorem dL_law_24 : Dj mL_law 24 (.if_icmp .gt 541) 3 27 (541) 565 := ⟨by decide +kernel, rfl, by decide⟩
theorem dL_law_27 : Dc mL_law 27 (.aload_n 0) 1 28 := ⟨by decide +kernel, rfl⟩
theorem dL_law_28 : Dc mL_law 28 (.iload_n 3) 1 29 := ⟨by decide +kernel, rfl⟩
theorem dL_law_29 : Dc mL_law 29 (.iaload) 1 30 := ⟨by decide +kernel, rfl⟩
theorem dL_law_30 : Dc mL_law 30 (.bipush 15) 2 32 := ⟨by decide +kernel, rfl⟩
theorem dL_law_32 : Dc mL_law 32 (.iand) 1 33 := ⟨by decide +kernel, rfl⟩
theorem dL_law_33 : decode mL_law.2.1 33 = .ok (.tableswitch 526 0 12 #[67, 90, 123, 156, 179, 212, 265, 328, 351, 384, 427, 460, 493], 67) := by decide +kernel
theorem dL_law_100 : Dc mL_law 100 (.aload_n 1) 1 101 := ⟨by decide +kernel, rfl⟩
theorem dL_law_101 : Dc mL_law 101 (.aload_n 0) 1 102 := ⟨by decide +kernel, rfl⟩
theorem dL_law_102 : Dc mL_law 102 (.iload_n 3) 1 103 := ⟨by decide +kernel, rfl⟩
theorem dL_law_103 : Dc mL_law 103 (.iconst 1) 1 104 := ⟨by decide +kernel, rfl⟩
theorem dL_law_104 : Dc mL_law 104 (.iadd) 1 105 := ⟨by decide +kernel, rfl⟩
theorem dL_law_105 : Dc mL_law 105 (.iaload) 1 106 := ⟨by decide +kernel, rfl⟩
theorem dL_law_106 : Dc mL_law 106 (.invokevirtual 13) 3 109 := ⟨by decide +kernel, rfl⟩
theorem dL_law_109 : Dc mL_law 109 (.aload_n 2) 1 110 := ⟨by decide +kernel, rfl⟩
theorem dL_law_110 : Dc mL_law 110 (.aload_n 0) 1 111 := ⟨by decide +kernel, rfl⟩
theorem dL_law_111 : Dc mL_law 111 (.iload_n 3) 1 112 := ⟨by decide +kernel, rfl⟩
theorem dL_law_112 : Dc mL_law 112 (.iconst 1) 1 113 := ⟨by decide +kernel, rfl⟩
theorem dL_law_113 : Dc mL_law 113 (.iadd) 1 114 := ⟨by decide +kernel, rfl⟩
theorem dL_law_114 : Dc mL_law 114 (.iaload) 1 115 := ⟨by decide +kernel, rfl⟩
theorem dL_law_115 : Dc mL_law 115 (.invokevirtual 17) 3 118 := ⟨by decide +kernel, rfl⟩
theorem dL_law_118 : Dj mL_law 118 (.if_icmp .eq 441) 3 121 (441) 559 := ⟨by decide +kernel, rfl, by decide⟩
theorem dL_law_121 : Dc mL_law 121 (.iconst 0) 1 122 := ⟨by decide +kernel, rfl⟩
theorem dL_law_122 : Dc mL_law 122 (.ireturn) 1 123 := ⟨by decide +kernel, rfl⟩
theorem dL_law_123 : Dc mL_law 123 (.aload_n 1) 1 124 := ⟨by decide +kernel, rfl⟩
theorem dL_law_124 : Dc mL_law 124 (.aload_n 0) 1 125 := ⟨by decide +kernel, rfl⟩
theorem dL_law_125 : Dc mL_law 125 (.iload_n 3) 1 126 := ⟨by decide +kernel, rfl⟩
theorem dL_law_126 : Dc mL_law 126 (.iconst 1) 1 127 := ⟨by decide +kernel, rfl⟩
theorem dL_law_127 : Dc mL_law 127 (.iadd) 1 128 := ⟨by decide +kernel, rfl⟩
theorem dL_law_128 : Dc mL_law 128 (.iaload) 1 129 := ⟨by decide +kernel, rfl⟩
theorem dL_law_129 : Dc mL_law 129 (.aload_n 0) 1 130 := ⟨by decide +kernel, rfl⟩
theorem dL_law_130 : Dc mL_law 130 (.iload_n 3) 1 131 := ⟨by decide +kernel, rfl⟩
theorem dL_law_131 : Dc mL_law 131 (.iconst 2) 1 132 := ⟨by decide +kernel, rfl⟩
theorem dL_law_132 : Dc mL_law 132 (.iadd) 1 133 := ⟨by decide +kernel, rfl⟩
theorem dL_law_133 : Dc mL_law 133 (.iaload) 1 134 := ⟨by decide +kernel, rfl⟩
theorem dL_law_134 : Dc mL_law 134 (.invokevirtual 18) 3 137 := ⟨by decide +kernel, rfl⟩
theorem dL_law_137 : Dc mL_law 137 (.aload_n 2) 1 138 := ⟨by decide +kernel, rfl⟩
theorem dL_law_138 : Dc mL_law 138 (.aload_n 0) 1 139 := ⟨by decide +kernel, rfl⟩
theorem dL_law_139 : Dc mL_law 139 (.iload_n 3) 1 140 := ⟨by decide +kernel, rfl⟩
theorem dL_law_140 : Dc mL_law 140 (.iconst 1) 1 141 := ⟨by decide +kernel, rfl⟩
theorem dL_law_141 : Dc mL_law 141 (.iadd) 1 142 := ⟨by decide +kernel, rfl⟩
theorem dL_law_142 : Dc mL_law 142 (.iaload) 1 143 := ⟨by decide +kernel, rfl⟩
theorem dL_law_143 : Dc mL_law 143 (.aload_n 0) 1 144 := ⟨by decide +kernel, rfl⟩
theorem dL_law_144 : Dc mL_law 144 (.iload_n 3) 1 145 := ⟨by decide +kernel, rfl⟩
theorem dL_law_145 : Dc mL_law 145 (.iconst 2) 1 146 := ⟨by decide +kernel, rfl⟩
theorem dL_law_146 : Dc mL_law 146 (.iadd) 1 147 := ⟨by decide +kernel, rfl⟩
theorem dL_law_147 : Dc mL_law 147 (.iaload) 1 148 := ⟨by decide +kernel, rfl⟩
theorem dL_law_148 : Dc mL_law 148 (.invokevirtual 22) 3 151 := ⟨by decide +kernel, rfl⟩
theorem dL_law_151 : Dj mL_law 151 (.if_icmp .eq 408) 3 154 (408) 559 := ⟨by decide +kernel, rfl, by decide⟩
theorem dL_law_154 : Dc mL_law 154 (.iconst 0) 1 155 := ⟨by decide +kernel, rfl⟩
theorem dL_law_155 : Dc mL_law 155 (.ireturn) 1 156 := ⟨by decide +kernel, rfl⟩
theorem dL_law_156 : Dc mL_law 156 (.aload_n 1) 1 157 := ⟨by decide +kernel, rfl⟩
theorem dL_law_157 : Dc mL_law 157 (.aload_n 0) 1 158 := ⟨by decide +kernel, rfl⟩
theorem dL_law_158 : Dc mL_law 158 (.iload_n 3) 1 159 := ⟨by decide +kernel, rfl⟩
theorem dL_law_159 : Dc mL_law 159 (.iconst 1) 1 160 := ⟨by decide +kernel, rfl⟩
theorem dL_law_160 : Dc mL_law 160 (.iadd) 1 161 := ⟨by decide +kernel, rfl⟩
theorem dL_law_161 : Dc mL_law 161 (.iaload) 1 162 := ⟨by decide +kernel, rfl⟩
theorem dL_law_162 : Dc mL_law 162 (.aload_n 0) 1 163 := ⟨by decide +kernel, rfl⟩
theorem dL_law_163 : Dc mL_law 163 (.iload_n 3) 1 164 := ⟨by decide +kernel, rfl⟩
theorem dL_law_164 : Dc mL_law 164 (.iconst 2) 1 165 := ⟨by decide +kernel, rfl⟩
theorem dL_law_165 : Dc mL_law 165 (.iadd) 1 166 := ⟨by decide +kernel, rfl⟩
theorem dL_law_166 : Dc mL_law 166 (.iaload) 1 167 := ⟨by decide +kernel, rfl⟩
theorem dL_law_167 : Dc mL_law 167 (.invokevirtual 23) 3 170 := ⟨by decide +kernel, rfl⟩
theorem dL_law_170 : Dc mL_law 170 (.aload_n 2) 1 171 := ⟨by decide +kernel, rfl⟩
theorem dL_law_171 : Dc mL_law 171 (.aload_n 0) 1 172 := ⟨by decide +kernel, rfl⟩
theorem dL_law_172 : Dc mL_law 172 (.iload_n 3) 1 173 := ⟨by decide +kernel, rfl⟩
theorem dL_law_173 : Dc mL_law 173 (.iconst 1) 1 174 := ⟨by decide +kernel, rfl⟩
theorem dL_law_174 : Dc mL_law 174 (.iadd) 1 175 := ⟨by decide +kernel, rfl⟩
theorem dL_law_175 : Dc mL_law 175 (.iaload) 1 176 := ⟨by decide +kernel, rfl⟩
theorem dL_law_176 : Dc mL_law 176 (.aload_n 0) 1 177 := ⟨by decide +kernel, rfl⟩
theorem dL_law_177 : Dc mL_law 177 (.iload_n 3) 1 178 := ⟨by decide +kernel, rfl⟩
theorem dL_law_178 : Dc mL_law 178 (.iconst 2) 1 179 := ⟨by decide +kernel, rfl⟩
theorem dL_law_179 : Dc mL_law 179 (.iadd) 1 180 := ⟨by decide +kernel, rfl⟩
theorem dL_law_180 : Dc mL_law 180 (.iaload) 1 181 := ⟨by decide +kernel, rfl⟩
theorem dL_law_181 : Dc mL_law 181 (.invokevirtual 26) 3 184 := ⟨by decide +kernel, rfl⟩
theorem dL_law_184 : Dj mL_law 184 (.if_icmp .eq 375) 3 187 (375) 559 := ⟨by decide +kernel, rfl, by decide⟩
theorem dL_law_187 : Dc mL_law 187 (.iconst 0) 1 188 := ⟨by decide +kernel, rfl⟩
theorem dL_law_188 : Dc mL_law 188 (.ireturn) 1 189 := ⟨by decide +kernel, rfl⟩
theorem dL_law_189 : Dc mL_law 189 (.aload_n 1) 1 190 := ⟨by decide +kernel, rfl⟩
theorem dL_law_190 : Dc mL_law 190 (.aload_n 0) 1 191 := ⟨by decide +kernel, rfl⟩
theorem dL_law_191 : Dc mL_law 191 (.iload_n 3) 1 192 := ⟨by decide +kernel, rfl⟩
theorem dL_law_192 : Dc mL_law 192 (.iconst 1) 1 193 := ⟨by decide +kernel, rfl⟩
theorem dL_law_193 : Dc mL_law 193 (.iadd) 1 194 := ⟨by decide +kernel, rfl⟩
theorem dL_law_194 : Dc mL_law 194 (.iaload) 1 195 := ⟨by decide +kernel, rfl⟩
theorem dL_law_195 : Dc mL_law 195 (.invokevirtual 27) 3 198 := ⟨by decide +kernel, rfl⟩
theorem dL_law_198 : Dc mL_law 198 (.aload_n 2) 1 199 := ⟨by decide +kernel, rfl⟩
theorem dL_law_199 : Dc mL_law 199 (.aload_n 0) 1 200 := ⟨by decide +kernel, rfl⟩
theorem dL_law_200 : Dc mL_law 200 (.iload_n 3) 1 201 := ⟨by decide +kernel, rfl⟩
theorem dL_law_201 : Dc mL_law 201 (.iconst 1) 1 202 := ⟨by decide +kernel, rfl⟩
theorem dL_law_202 : Dc mL_law 202 (.iadd) 1 203 := ⟨by decide +kernel, rfl⟩
theorem dL_law_203 : Dc mL_law 203 (.iaload) 1 204 := ⟨by decide +kernel, rfl⟩
theorem dL_law_204 : Dc mL_law 204 (.invokevirtual 30) 3 207 := ⟨by decide +kernel, rfl⟩
theorem dL_law_207 : Dj mL_law 207 (.if_icmp .eq 352) 3 210 (352) 559 := ⟨by decide +kernel, rfl, by decide⟩
theorem dL_law_210 : Dc mL_law 210 (.iconst 0) 1 211 := ⟨by decide +kernel, rfl⟩
theorem dL_law_211 : Dc mL_law 211 (.ireturn) 1 212 := ⟨by decide +kernel, rfl⟩
theorem dL_law_212 : Dc mL_law 212 (.aload_n 1) 1 213 := ⟨by decide +kernel, rfl⟩
theorem dL_law_213 : Dc mL_law 213 (.aload_n 0) 1 214 := ⟨by decide +kernel, rfl⟩
theorem dL_law_214 : Dc mL_law 214 (.iload_n 3) 1 215 := ⟨by decide +kernel, rfl⟩
theorem dL_law_215 : Dc mL_law 215 (.iconst 1) 1 216 := ⟨by decide +kernel, rfl⟩
theorem dL_law_216 : Dc mL_law 216 (.iadd) 1 217 := ⟨by decide +kernel, rfl⟩
theorem dL_law_217 : Dc mL_law 217 (.iaload) 1 218 := ⟨by decide +kernel, rfl⟩
theorem dL_law_218 : Dc mL_law 218 (.aload_n 0) 1 219 := ⟨by decide +kernel, rfl⟩
theorem dL_law_219 : Dc mL_law 219 (.iload_n 3) 1 220 := ⟨by decide +kernel, rfl⟩
theorem dL_law_220 : Dc mL_law 220 (.iconst 2) 1 221 := ⟨by decide +kernel, rfl⟩
theorem dL_law_221 : Dc mL_law 221 (.iadd) 1 222 := ⟨by decide +kernel, rfl⟩
theorem dL_law_222 : Dc mL_law 222 (.iaload) 1 223 := ⟨by decide +kernel, rfl⟩
theorem dL_law_223 : Dc mL_law 223 (.invokevirtual 31) 3 226 := ⟨by decide +kernel, rfl⟩
theorem dL_law_226 : Dc mL_law 226 (.aload_n 2) 1 227 := ⟨by decide +kernel, rfl⟩
theorem dL_law_227 : Dc mL_law 227 (.aload_n 0) 1 228 := ⟨by decide +kernel, rfl⟩
theorem dL_law_228 : Dc mL_law 228 (.iload_n 3) 1 229 := ⟨by decide +kernel, rfl⟩
theorem dL_law_229 : Dc mL_law 229 (.iconst 1) 1 230 := ⟨by decide +kernel, rfl⟩
theorem dL_law_230 : Dc mL_law 230 (.iadd) 1 231 := ⟨by decide +kernel, rfl⟩
theorem dL_law_231 : Dc mL_law 231 (.iaload) 1 232 := ⟨by decide +kernel, rfl⟩
theorem dL_law_232 : Dc mL_law 232 (.aload_n 0) 1 233 := ⟨by decide +kernel, rfl⟩
theorem dL_law_233 : Dc mL_law 233 (.iload_n 3) 1 234 := ⟨by decide +kernel, rfl⟩
theorem dL_law_234 : Dc mL_law 234 (.iconst 2) 1 235 := ⟨by decide +kernel, rfl⟩
theorem dL_law_235 : Dc mL_law 235 (.iadd) 1 236 := ⟨by decide +kernel, rfl⟩
theorem dL_law_236 : Dc mL_law 236 (.iaload) 1 237 := ⟨by decide +kernel, rfl⟩
theorem dL_law_237 : Dc mL_law 237 (.invokevirtual 34) 3 240 := ⟨by decide +kernel, rfl⟩
theorem dL_law_240 : Dj mL_law 240 (.if_icmp .eq 319) 3 243 (319) 559 := ⟨by decide +kernel, rfl, by decide⟩
theorem dL_law_243 : Dc mL_law 243 (.iconst 0) 1 244 := ⟨by decide +kernel, rfl⟩
theorem dL_law_244 : Dc mL_law 244 (.ireturn) 1 245 := ⟨by decide +kernel, rfl⟩
theorem dL_law_245 : Dc mL_law 245 (.aload_n 1) 1 246 := ⟨by decide +kernel, rfl⟩
theorem dL_law_246 : Dc mL_law 246 (.aload_n 0) 1 247 := ⟨by decide +kernel, rfl⟩
theorem dL_law_247 : Dc mL_law 247 (.iload_n 3) 1 248 := ⟨by decide +kernel, rfl⟩
theorem dL_law_248 : Dc mL_law 248 (.iconst 1) 1 249 := ⟨by decide +kernel, rfl⟩
theorem dL_law_249 : Dc mL_law 249 (.iadd) 1 250 := ⟨by decide +kernel, rfl⟩
theorem dL_law_250 : Dc mL_law 250 (.iaload) 1 251 := ⟨by decide +kernel, rfl⟩
theorem dL_law_251 : Dc mL_law 251 (.aload_n 0) 1 252 := ⟨by decide +kernel, rfl⟩
theorem dL_law_252 : Dc mL_law 252 (.iload_n 3) 1 253 := ⟨by decide +kernel, rfl⟩
theorem dL_law_253 : Dc mL_law 253 (.iconst 2) 1 254 := ⟨by decide +kernel, rfl⟩
theorem dL_law_254 : Dc mL_law 254 (.iadd) 1 255 := ⟨by decide +kernel, rfl⟩
theorem dL_law_255 : Dc mL_law 255 (.iaload) 1 256 := ⟨by decide +kernel, rfl⟩
theorem dL_law_256 : Dc mL_law 256 (.aload_n 0) 1 257 := ⟨by decide +kernel, rfl⟩
theorem dL_law_257 : Dc mL_law 257 (.iload_n 3) 1 258 := ⟨by decide +kernel, rfl⟩
theorem dL_law_258 : Dc mL_law 258 (.iconst 3) 1 259 := ⟨by decide +kernel, rfl⟩
theorem dL_law_259 : Dc mL_law 259 (.iadd) 1 260 := ⟨by decide +kernel, rfl⟩
theorem dL_law_260 : Dc mL_law 260 (.iaload) 1 261 := ⟨by decide +kernel, rfl⟩
theorem dL_law_261 : Dc mL_law 261 (.aload_n 0) 1 262 := ⟨by decide +kernel, rfl⟩
theorem dL_law_262 : Dc mL_law 262 (.iload_n 3) 1 263 := ⟨by decide +kernel, rfl⟩
theorem dL_law_263 : Dc mL_law 263 (.iconst 4) 1 264 := ⟨by decide +kernel, rfl⟩
theorem dL_law_264 : Dc mL_law 264 (.iadd) 1 265 := ⟨by decide +kernel, rfl⟩
theorem dL_law_265 : Dc mL_law 265 (.iaload) 1 266 := ⟨by decide +kernel, rfl⟩
theorem dL_law_266 : Dc mL_law 266 (.invokevirtual 35) 3 269 := ⟨by decide +kernel, rfl⟩
theorem dL_law_269 : Dc mL_law 269 (.aload_n 2) 1 270 := ⟨by decide +kernel, rfl⟩
theorem dL_law_270 : Dc mL_law 270 (.aload_n 0) 1 271 := ⟨by decide +kernel, rfl⟩
theorem dL_law_271 : Dc mL_law 271 (.iload_n 3) 1 272 := ⟨by decide +kernel, rfl⟩
theorem dL_law_272 : Dc mL_law 272 (.iconst 1) 1 273 := ⟨by decide +kernel, rfl⟩
theorem dL_law_273 : Dc mL_law 273 (.iadd) 1 274 := ⟨by decide +kernel, rfl⟩
theorem dL_law_274 : Dc mL_law 274 (.iaload) 1 275 := ⟨by decide +kernel, rfl⟩
theorem dL_law_275 : Dc mL_law 275 (.aload_n 0) 1 276 := ⟨by decide +kernel, rfl⟩
theorem dL_law_276 : Dc mL_law 276 (.iload_n 3) 1 277 := ⟨by decide +kernel, rfl⟩
theorem dL_law_277 : Dc mL_law 277 (.iconst 2) 1 278 := ⟨by decide +kernel, rfl⟩
theorem dL_law_278 : Dc mL_law 278 (.iadd) 1 279 := ⟨by decide +kernel, rfl⟩
theorem dL_law_279 : Dc mL_law 279 (.iaload) 1 280 := ⟨by decide +kernel, rfl⟩
theorem dL_law_280 : Dc mL_law 280 (.aload_n 0) 1 281 := ⟨by decide +kernel, rfl⟩
theorem dL_law_281 : Dc mL_law 281 (.iload_n 3) 1 282 := ⟨by decide +kernel, rfl⟩
theorem dL_law_282 : Dc mL_law 282 (.iconst 3) 1 283 := ⟨by decide +kernel, rfl⟩
theorem dL_law_283 : Dc mL_law 283 (.iadd) 1 284 := ⟨by decide +kernel, rfl⟩
theorem dL_law_284 : Dc mL_law 284 (.iaload) 1 285 := ⟨by decide +kernel, rfl⟩
theorem dL_law_285 : Dc mL_law 285 (.aload_n 0) 1 286 := ⟨by decide +kernel, rfl⟩
theorem dL_law_286 : Dc mL_law 286 (.iload_n 3) 1 287 := ⟨by decide +kernel, rfl⟩
theorem dL_law_287 : Dc mL_law 287 (.iconst 4) 1 288 := ⟨by decide +kernel, rfl⟩
theorem dL_law_288 : Dc mL_law 288 (.iadd) 1 289 := ⟨by decide +kernel, rfl⟩
theorem dL_law_289 : Dc mL_law 289 (.iaload) 1 290 := ⟨by decide +kernel, rfl⟩
theorem dL_law_290 : Dc mL_law 290 (.invokevirtual 39) 3 293 := ⟨by decide +kernel, rfl⟩
theorem dL_law_293 : Dj mL_law 293 (.if_icmp .eq 266) 3 296 (266) 559 := ⟨by decide +kernel, rfl, by decide⟩
theorem dL_law_296 : Dc mL_law 296 (.iconst 0) 1 297 := ⟨by decide +kernel, rfl⟩
theorem dL_law_297 : Dc mL_law 297 (.ireturn) 1 298 := ⟨by decide +kernel, rfl⟩
theorem dL_law_298 : Dc mL_law 298 (.aload_n 1) 1 299 := ⟨by decide +kernel, rfl⟩
theorem dL_law_299 : Dc mL_law 299 (.aload_n 0) 1 300 := ⟨by decide +kernel, rfl⟩
theorem dL_law_300 : Dc mL_law 300 (.iload_n 3) 1 301 := ⟨by decide +kernel, rfl⟩
theorem dL_law_301 : Dc mL_law 301 (.iconst 1) 1 302 := ⟨by decide +kernel, rfl⟩
theorem dL_law_302 : Dc mL_law 302 (.iadd) 1 303 := ⟨by decide +kernel, rfl⟩
theorem dL_law_303 : Dc mL_law 303 (.iaload) 1 304 := ⟨by decide +kernel, rfl⟩
theorem dL_law_304 : Dc mL_law 304 (.aload_n 0) 1 305 := ⟨by decide +kernel, rfl⟩
theorem dL_law_305 : Dc mL_law 305 (.iload_n 3) 1 306 := ⟨by decide +kernel, rfl⟩
theorem dL_law_306 : Dc mL_law 306 (.iconst 2) 1 307 := ⟨by decide +kernel, rfl⟩
theorem dL_law_307 : Dc mL_law 307 (.iadd) 1 308 := ⟨by decide +kernel, rfl⟩
theorem dL_law_308 : Dc mL_law 308 (.iaload) 1 309 := ⟨by decide +kernel, rfl⟩
theorem dL_law_309 : Dc mL_law 309 (.aload_n 0) 1 310 := ⟨by decide +kernel, rfl⟩
theorem dL_law_310 : Dc mL_law 310 (.iload_n 3) 1 311 := ⟨by decide +kernel, rfl⟩
theorem dL_law_311 : Dc mL_law 311 (.iconst 3) 1 312 := ⟨by decide +kernel, rfl⟩
theorem dL_law_312 : Dc mL_law 312 (.iadd) 1 313 := ⟨by decide +kernel, rfl⟩
theorem dL_law_313 : Dc mL_law 313 (.iaload) 1 314 := ⟨by decide +kernel, rfl⟩
theorem dL_law_314 : Dc mL_law 314 (.aload_n 0) 1 315 := ⟨by decide +kernel, rfl⟩
theorem dL_law_315 : Dc mL_law 315 (.iload_n 3) 1 316 := ⟨by decide +kernel, rfl⟩
theorem dL_law_316 : Dc mL_law 316 (.iconst 4) 1 317 := ⟨by decide +kernel, rfl⟩
theorem dL_law_317 : Dc mL_law 317 (.iadd) 1 318 := ⟨by decide +kernel, rfl⟩
theorem dL_law_318 : Dc mL_law 318 (.iaload) 1 319 := ⟨by decide +kernel, rfl⟩
theorem dL_law_319 : Dc mL_law 319 (.aload_n 0) 1 320 := ⟨by decide +kernel, rfl⟩
theorem dL_law_320 : Dc mL_law 320 (.iload_n 3) 1 321 := ⟨by decide +kernel, rfl⟩
theorem dL_law_321 : Dc mL_law 321 (.iconst 5) 1 322 := ⟨by decide +kernel, rfl⟩
theorem dL_law_322 : Dc mL_law 322 (.iadd) 1 323 := ⟨by decide +kernel, rfl⟩
theorem dL_law_323 : Dc mL_law 323 (.iaload) 1 324 := ⟨by decide +kernel, rfl⟩
theorem dL_law_324 : Dc mL_law 324 (.invokevirtual 40) 3 327 := ⟨by decide +kernel, rfl⟩
theorem dL_law_327 : Dc mL_law 327 (.aload_n 2) 1 328 := ⟨by decide +kernel, rfl⟩
theorem dL_law_328 : Dc mL_law 328 (.aload_n 0) 1 329 := ⟨by decide +kernel, rfl⟩
theorem dL_law_329 : Dc mL_law 329 (.iload_n 3) 1 330 := ⟨by decide +kernel, rfl⟩
theorem dL_law_330 : Dc mL_law 330 (.iconst 1) 1 331 := ⟨by decide +kernel, rfl⟩
theorem dL_law_331 : Dc mL_law 331 (.iadd) 1 332 := ⟨by decide +kernel, rfl⟩
theorem dL_law_332 : Dc mL_law 332 (.iaload) 1 333 := ⟨by decide +kernel, rfl⟩
theorem dL_law_333 : Dc mL_law 333 (.aload_n 0) 1 334 := ⟨by decide +kernel, rfl⟩
theorem dL_law_334 : Dc mL_law 334 (.iload_n 3) 1 335 := ⟨by decide +kernel, rfl⟩
theorem dL_law_335 : Dc mL_law 335 (.iconst 2) 1 336 := ⟨by decide +kernel, rfl⟩
theorem dL_law_336 : Dc mL_law 336 (.iadd) 1 337 := ⟨by decide +kernel, rfl⟩
theorem dL_law_337 : Dc mL_law 337 (.iaload) 1 338 := ⟨by decide +kernel, rfl⟩
theorem dL_law_338 : Dc mL_law 338 (.aload_n 0) 1 339 := ⟨by decide +kernel, rfl⟩
theorem dL_law_339 : Dc mL_law 339 (.iload_n 3) 1 340 := ⟨by decide +kernel, rfl⟩
theorem dL_law_340 : Dc mL_law 340 (.iconst 3) 1 341 := ⟨by decide +kernel, rfl⟩
theorem dL_law_341 : Dc mL_law 341 (.iadd) 1 342 := ⟨by decide +kernel, rfl⟩
theorem dL_law_342 : Dc mL_law 342 (.iaload) 1 343 := ⟨by decide +kernel, rfl⟩
theorem dL_law_343 : Dc mL_law 343 (.aload_n 0) 1 344 := ⟨by decide +kernel, rfl⟩
theorem dL_law_344 : Dc mL_law 344 (.iload_n 3) 1 345 := ⟨by decide +kernel, rfl⟩
theorem dL_law_345 : Dc mL_law 345 (.iconst 4) 1 346 := ⟨by decide +kernel, rfl⟩
theorem dL_law_346 : Dc mL_law 346 (.iadd) 1 347 := ⟨by decide +kernel, rfl⟩
theorem dL_law_347 : Dc mL_law 347 (.iaload) 1 348 := ⟨by decide +kernel, rfl⟩
theorem dL_law_348 : Dc mL_law 348 (.aload_n 0) 1 349 := ⟨by decide +kernel, rfl⟩
theorem dL_law_349 : Dc mL_law 349 (.iload_n 3) 1 350 := ⟨by decide +kernel, rfl⟩
theorem dL_law_350 : Dc mL_law 350 (.iconst 5) 1 351 := ⟨by decide +kernel, rfl⟩
theorem dL_law_351 : Dc mL_law 351 (.iadd) 1 352 := ⟨by decide +kernel, rfl⟩
theorem dL_law_352 : Dc mL_law 352 (.iaload) 1 353 := ⟨by decide +kernel, rfl⟩
theorem dL_law_353 : Dc mL_law 353 (.invokevirtual 44) 3 356 := ⟨by decide +kernel, rfl⟩
theorem dL_law_356 : Dj mL_law 356 (.if_icmp .eq 203) 3 359 (203) 559 := ⟨by decide +kernel, rfl, by decide⟩
theorem dL_law_359 : Dc mL_law 359 (.iconst 0) 1 360 := ⟨by decide +kernel, rfl⟩
theorem dL_law_360 : Dc mL_law 360 (.ireturn) 1 361 := ⟨by decide +kernel, rfl⟩
theorem dL_law_361 : Dc mL_law 361 (.aload_n 1) 1 362 := ⟨by decide +kernel, rfl⟩
theorem dL_law_362 : Dc mL_law 362 (.aload_n 0) 1 363 := ⟨by decide +kernel, rfl⟩
theorem dL_law_363 : Dc mL_law 363 (.iload_n 3) 1 364 := ⟨by decide +kernel, rfl⟩
theorem dL_law_364 : Dc mL_law 364 (.iconst 1) 1 365 := ⟨by decide +kernel, rfl⟩
theorem dL_law_365 : Dc mL_law 365 (.iadd) 1 366 := ⟨by decide +kernel, rfl⟩
theorem dL_law_366 : Dc mL_law 366 (.iaload) 1 367 := ⟨by decide +kernel, rfl⟩
theorem dL_law_367 : Dc mL_law 367 (.invokevirtual 45) 3 370 := ⟨by decide +kernel, rfl⟩
theorem dL_law_370 : Dc mL_law 370 (.aload_n 2) 1 371 := ⟨by decide +kernel, rfl⟩
theorem dL_law_371 : Dc mL_law 371 (.aload_n 0) 1 372 := ⟨by decide +kernel, rfl⟩
theorem dL_law_372 : Dc mL_law 372 (.iload_n 3) 1 373 := ⟨by decide +kernel, rfl⟩
theorem dL_law_373 : Dc mL_law 373 (.iconst 1) 1 374 := ⟨by decide +kernel, rfl⟩
theorem dL_law_374 : Dc mL_law 374 (.iadd) 1 375 := ⟨by decide +kernel, rfl⟩
theorem dL_law_375 : Dc mL_law 375 (.iaload) 1 376 := ⟨by decide +kernel, rfl⟩
theorem dL_law_376 : Dc mL_law 376 (.invokevirtual 48) 3 379 := ⟨by decide +kernel, rfl⟩
theorem dL_law_379 : Dj mL_law 379 (.if_icmp .eq 180) 3 382 (180) 559 := ⟨by decide +kernel, rfl, by decide⟩
theorem dL_law_382 : Dc mL_law 382 (.iconst 0) 1 383 := ⟨by decide +kernel, rfl⟩
theorem dL_law_383 : Dc mL_law 383 (.ireturn) 1 384 := ⟨by decide +kernel, rfl⟩
theorem dL_law_384 : Dc mL_law 384 (.aload_n 1) 1 385 := ⟨by decide +kernel, rfl⟩
theorem dL_law_385 : Dc mL_law 385 (.aload_n 0) 1 386 := ⟨by decide +kernel, rfl⟩
theorem dL_law_386 : Dc mL_law 386 (.iload_n 3) 1 387 := ⟨by decide +kernel, rfl⟩
theorem dL_law_387 : Dc mL_law 387 (.iconst 1) 1 388 := ⟨by decide +kernel, rfl⟩
theorem dL_law_388 : Dc mL_law 388 (.iadd) 1 389 := ⟨by decide +kernel, rfl⟩
theorem dL_law_389 : Dc mL_law 389 (.iaload) 1 390 := ⟨by decide +kernel, rfl⟩
theorem dL_law_390 : Dc mL_law 390 (.aload_n 0) 1 391 := ⟨by decide +kernel, rfl⟩
theorem dL_law_391 : Dc mL_law 391 (.iload_n 3) 1 392 := ⟨by decide +kernel, rfl⟩
theorem dL_law_392 : Dc mL_law 392 (.iconst 2) 1 393 := ⟨by decide +kernel, rfl⟩
theorem dL_law_393 : Dc mL_law 393 (.iadd) 1 394 := ⟨by decide +kernel, rfl⟩
theorem dL_law_394 : Dc mL_law 394 (.iaload) 1 395 := ⟨by decide +kernel, rfl⟩
theorem dL_law_395 : Dc mL_law 395 (.invokevirtual 49) 3 398 := ⟨by decide +kernel, rfl⟩
theorem dL_law_398 : Dc mL_law 398 (.aload_n 2) 1 399 := ⟨by decide +kernel, rfl⟩
theorem dL_law_399 : Dc mL_law 399 (.aload_n 0) 1 400 := ⟨by decide +kernel, rfl⟩
theorem dL_law_400 : Dc mL_law 400 (.iload_n 3) 1 401 := ⟨by decide +kernel, rfl⟩
theorem dL_law_401 : Dc mL_law 401 (.iconst 1) 1 402 := ⟨by decide +kernel, rfl⟩
theorem dL_law_402 : Dc mL_law 402 (.iadd) 1 403 := ⟨by decide +kernel, rfl⟩
theorem dL_law_403 : Dc mL_law 403 (.iaload) 1 404 := ⟨by decide +kernel, rfl⟩
theorem dL_law_404 : Dc mL_law 404 (.aload_n 0) 1 405 := ⟨by decide +kernel, rfl⟩
theorem dL_law_405 : Dc mL_law 405 (.iload_n 3) 1 406 := ⟨by decide +kernel, rfl⟩
theorem dL_law_406 : Dc mL_law 406 (.iconst 2) 1 407 := ⟨by decide +kernel, rfl⟩
theorem dL_law_407 : Dc mL_law 407 (.iadd) 1 408 := ⟨by decide +kernel, rfl⟩
theorem dL_law_408 : Dc mL_law 408 (.iaload) 1 409 := ⟨by decide +kernel, rfl⟩
theorem dL_law_409 : Dc mL_law 409 (.invokevirtual 52) 3 412 := ⟨by decide +kernel, rfl⟩
theorem dL_law_412 : Dj mL_law 412 (.if_icmp .eq 147) 3 415 (147) 559 := ⟨by decide +kernel, rfl, by decide⟩
theorem dL_law_415 : Dc mL_law 415 (.iconst 0) 1 416 := ⟨by decide +kernel, rfl⟩
theorem dL_law_416 : Dc mL_law 416 (.ireturn) 1 417 := ⟨by decide +kernel, rfl⟩
theorem dL_law_417 : Dc mL_law 417 (.aload_n 1) 1 418 := ⟨by decide +kernel, rfl⟩
theorem dL_law_418 : Dc mL_law 418 (.aload_n 0) 1 419 := ⟨by decide +kernel, rfl⟩
theorem dL_law_419 : Dc mL_law 419 (.iload_n 3) 1 420 := ⟨by decide +kernel, rfl⟩
theorem dL_law_420 : Dc mL_law 420 (.iconst 1) 1 421 := ⟨by decide +kernel, rfl⟩
theorem dL_law_421 : Dc mL_law 421 (.iadd) 1 422 := ⟨by decide +kernel, rfl⟩
theorem dL_law_422 : Dc mL_law 422 (.iaload) 1 423 := ⟨by decide +kernel, rfl⟩
theorem dL_law_423 : Dc mL_law 423 (.aload_n 0) 1 424 := ⟨by decide +kernel, rfl⟩
theorem dL_law_424 : Dc mL_law 424 (.iload_n 3) 1 425 := ⟨by decide +kernel, rfl⟩
theorem dL_law_425 : Dc mL_law 425 (.iconst 2) 1 426 := ⟨by decide +kernel, rfl⟩
theorem dL_law_426 : Dc mL_law 426 (.iadd) 1 427 := ⟨by decide +kernel, rfl⟩
theorem dL_law_427 : Dc mL_law 427 (.iaload) 1 428 := ⟨by decide +kernel, rfl⟩
theorem dL_law_428 : Dc mL_law 428 (.aload_n 0) 1 429 := ⟨by decide +kernel, rfl⟩
theorem dL_law_429 : Dc mL_law 429 (.iload_n 3) 1 430 := ⟨by decide +kernel, rfl⟩
theorem dL_law_430 : Dc mL_law 430 (.iconst 3) 1 431 := ⟨by decide +kernel, rfl⟩
theorem dL_law_431 : Dc mL_law 431 (.iadd) 1 432 := ⟨by decide +kernel, rfl⟩
theorem dL_law_432 : Dc mL_law 432 (.iaload) 1 433 := ⟨by decide +kernel, rfl⟩
theorem dL_law_433 : Dc mL_law 433 (.invokevirtual 53) 3 436 := ⟨by decide +kernel, rfl⟩
theorem dL_law_436 : Dc mL_law 436 (.aload_n 2) 1 437 := ⟨by decide +kernel, rfl⟩
theorem dL_law_437 : Dc mL_law 437 (.aload_n 0) 1 438 := ⟨by decide +kernel, rfl⟩
theorem dL_law_438 : Dc mL_law 438 (.iload_n 3) 1 439 := ⟨by decide +kernel, rfl⟩
theorem dL_law_439 : Dc mL_law 439 (.iconst 1) 1 440 := ⟨by decide +kernel, rfl⟩
theorem dL_law_440 : Dc mL_law 440 (.iadd) 1 441 := ⟨by decide +kernel, rfl⟩
theorem dL_law_441 : Dc mL_law 441 (.iaload) 1 442 := ⟨by decide +kernel, rfl⟩
theorem dL_law_442 : Dc mL_law 442 (.aload_n 0) 1 443 := ⟨by decide +kernel, rfl⟩
theorem dL_law_443 : Dc mL_law 443 (.iload_n 3) 1 444 := ⟨by decide +kernel, rfl⟩
theorem dL_law_444 : Dc mL_law 444 (.iconst 2) 1 445 := ⟨by decide +kernel, rfl⟩
theorem dL_law_445 : Dc mL_law 445 (.iadd) 1 446 := ⟨by decide +kernel, rfl⟩
theorem dL_law_446 : Dc mL_law 446 (.iaload) 1 447 := ⟨by decide +kernel, rfl⟩
theorem dL_law_447 : Dc mL_law 447 (.aload_n 0) 1 448 := ⟨by decide +kernel, rfl⟩
theorem dL_law_448 : Dc mL_law 448 (.iload_n 3) 1 449 := ⟨by decide +kernel, rfl⟩
theorem dL_law_449 : Dc mL_law 449 (.iconst 3) 1 450 := ⟨by decide +kernel, rfl⟩
theorem dL_law_450 : Dc mL_law 450 (.iadd) 1 451 := ⟨by decide +kernel, rfl⟩
theorem dL_law_451 : Dc mL_law 451 (.iaload) 1 452 := ⟨by decide +kernel, rfl⟩
theorem dL_law_452 : Dc mL_law 452 (.invokevirtual 57) 3 455 := ⟨by decide +kernel, rfl⟩
theorem dL_law_455 : Dj mL_law 455 (.if_icmp .eq 104) 3 458 (104) 559 := ⟨by decide +kernel, rfl, by decide⟩
theorem dL_law_458 : Dc mL_law 458 (.iconst 0) 1 459 := ⟨by decide +kernel, rfl⟩
theorem dL_law_459 : Dc mL_law 459 (.ireturn) 1 460 := ⟨by decide +kernel, rfl⟩
theorem dL_law_460 : Dc mL_law 460 (.aload_n 1) 1 461 := ⟨by decide +kernel, rfl⟩
theorem dL_law_461 : Dc mL_law 461 (.aload_n 0) 1 462 := ⟨by decide +kernel, rfl⟩
theorem dL_law_462 : Dc mL_law 462 (.iload_n 3) 1 463 := ⟨by decide +kernel, rfl⟩
theorem dL_law_463 : Dc mL_law 463 (.iconst 1) 1 464 := ⟨by decide +kernel, rfl⟩
theorem dL_law_464 : Dc mL_law 464 (.iadd) 1 465 := ⟨by decide +kernel, rfl⟩
theorem dL_law_465 : Dc mL_law 465 (.iaload) 1 466 := ⟨by decide +kernel, rfl⟩
theorem dL_law_466 : Dc mL_law 466 (.aload_n 0) 1 467 := ⟨by decide +kernel, rfl⟩
theorem dL_law_467 : Dc mL_law 467 (.iload_n 3) 1 468 := ⟨by decide +kernel, rfl⟩
theorem dL_law_468 : Dc mL_law 468 (.iconst 2) 1 469 := ⟨by decide +kernel, rfl⟩
theorem dL_law_469 : Dc mL_law 469 (.iadd) 1 470 := ⟨by decide +kernel, rfl⟩
theorem dL_law_470 : Dc mL_law 470 (.iaload) 1 471 := ⟨by decide +kernel, rfl⟩
theorem dL_law_471 : Dc mL_law 471 (.invokevirtual 58) 3 474 := ⟨by decide +kernel, rfl⟩
theorem dL_law_474 : Dc mL_law 474 (.aload_n 2) 1 475 := ⟨by decide +kernel, rfl⟩
theorem dL_law_475 : Dc mL_law 475 (.aload_n 0) 1 476 := ⟨by decide +kernel, rfl⟩
theorem dL_law_476 : Dc mL_law 476 (.iload_n 3) 1 477 := ⟨by decide +kernel, rfl⟩
theorem dL_law_477 : Dc mL_law 477 (.iconst 1) 1 478 := ⟨by decide +kernel, rfl⟩
theorem dL_law_478 : Dc mL_law 478 (.iadd) 1 479 := ⟨by decide +kernel, rfl⟩
theorem dL_law_479 : Dc mL_law 479 (.iaload) 1 480 := ⟨by decide +kernel, rfl⟩
theorem dL_law_480 : Dc mL_law 480 (.aload_n 0) 1 481 := ⟨by decide +kernel, rfl⟩
theorem dL_law_481 : Dc mL_law 481 (.iload_n 3) 1 482 := ⟨by decide +kernel, rfl⟩
theorem dL_law_482 : Dc mL_law 482 (.iconst 2) 1 483 := ⟨by decide +kernel, rfl⟩
theorem dL_law_483 : Dc mL_law 483 (.iadd) 1 484 := ⟨by decide +kernel, rfl⟩
theorem dL_law_484 : Dc mL_law 484 (.iaload) 1 485 := ⟨by decide +kernel, rfl⟩
theorem dL_law_485 : Dc mL_law 485 (.invokevirtual 61) 3 488 := ⟨by decide +kernel, rfl⟩
theorem dL_law_488 : Dj mL_law 488 (.if_icmp .eq 71) 3 491 (71) 559 := ⟨by decide +kernel, rfl, by decide⟩
theorem dL_law_491 : Dc mL_law 491 (.iconst 0) 1 492 := ⟨by decide +kernel, rfl⟩
theorem dL_law_492 : Dc mL_law 492 (.ireturn) 1 493 := ⟨by decide +kernel, rfl⟩
theorem dL_law_493 : Dc mL_law 493 (.aload_n 1) 1 494 := ⟨by decide +kernel, rfl⟩
theorem dL_law_494 : Dc mL_law 494 (.aload_n 0) 1 495 := ⟨by decide +kernel, rfl⟩
theorem dL_law_495 : Dc mL_law 495 (.iload_n 3) 1 496 := ⟨by decide +kernel, rfl⟩
theorem dL_law_496 : Dc mL_law 496 (.iconst 1) 1 497 := ⟨by decide +kernel, rfl⟩
theorem dL_law_497 : Dc mL_law 497 (.iadd) 1 498 := ⟨by decide +kernel, rfl⟩
theorem dL_law_498 : Dc mL_law 498 (.iaload) 1 499 := ⟨by decide +kernel, rfl⟩
theorem dL_law_499 : Dc mL_law 499 (.aload_n 0) 1 500 := ⟨by decide +kernel, rfl⟩
theorem dL_law_500 : Dc mL_law 500 (.iload_n 3) 1 501 := ⟨by decide +kernel, rfl⟩
theorem dL_law_501 : Dc mL_law 501 (.iconst 2) 1 502 := ⟨by decide +kernel, rfl⟩
theorem dL_law_502 : Dc mL_law 502 (.iadd) 1 503 := ⟨by decide +kernel, rfl⟩
theorem dL_law_503 : Dc mL_law 503 (.iaload) 1 504 := ⟨by decide +kernel, rfl⟩
theorem dL_law_504 : Dc mL_law 504 (.invokevirtual 62) 3 507 := ⟨by decide +kernel, rfl⟩
theorem dL_law_507 : Dc mL_law 507 (.aload_n 2) 1 508 := ⟨by decide +kernel, rfl⟩
theorem dL_law_508 : Dc mL_law 508 (.aload_n 0) 1 509 := ⟨by decide +kernel, rfl⟩
theorem dL_law_509 : Dc mL_law 509 (.iload_n 3) 1 510 := ⟨by decide +kernel, rfl⟩
theorem dL_law_510 : Dc mL_law 510 (.iconst 1) 1 511 := ⟨by decide +kernel, rfl⟩
theorem dL_law_511 : Dc mL_law 511 (.iadd) 1 512 := ⟨by decide +kernel, rfl⟩
theorem dL_law_512 : Dc mL_law 512 (.iaload) 1 513 := ⟨by decide +kernel, rfl⟩
theorem dL_law_513 : Dc mL_law 513 (.aload_n 0) 1 514 := ⟨by decide +kernel, rfl⟩
theorem dL_law_514 : Dc mL_law 514 (.iload_n 3) 1 515 := ⟨by decide +kernel, rfl⟩
theorem dL_law_515 : Dc mL_law 515 (.iconst 2) 1 516 := ⟨by decide +kernel, rfl⟩
theorem dL_law_516 : Dc mL_law 516 (.iadd) 1 517 := ⟨by decide +kernel, rfl⟩
theorem dL_law_517 : Dc mL_law 517 (.iaload) 1 518 := ⟨by decide +kernel, rfl⟩
theorem dL_law_518 : Dc mL_law 518 (.invokevirtual 65) 3 521 := ⟨by decide +kernel, rfl⟩
theorem dL_law_521 : Dj mL_law 521 (.if_icmp .eq 38) 3 524 (38) 559 := ⟨by decide +kernel, rfl, by decide⟩
theorem dL_law_524 : Dc mL_law 524 (.iconst 0) 1 525 := ⟨by decide +kernel, rfl⟩
theorem dL_law_525 : Dc mL_law 525 (.ireturn) 1 526 := ⟨by decide +kernel, rfl⟩
theorem dL_law_526 : Dc mL_law 526 (.aload_n 1) 1 527 := ⟨by decide +kernel, rfl⟩
theorem dL_law_527 : Dc mL_law 527 (.aload_n 0) 1 528 := ⟨by decide +kernel, rfl⟩
theorem dL_law_528 : Dc mL_law 528 (.iload_n 3) 1 529 := ⟨by decide +kernel, rfl⟩
theorem dL_law_529 : Dc mL_law 529 (.iconst 1) 1 530 := ⟨by decide +kernel, rfl⟩
theorem dL_law_530 : Dc mL_law 530 (.iadd) 1 531 := ⟨by decide +kernel, rfl⟩
theorem dL_law_531 : Dc mL_law 531 (.iaload) 1 532 := ⟨by decide +kernel, rfl⟩
theorem dL_law_532 : Dc mL_law 532 (.aload_n 0) 1 533 := ⟨by decide +kernel, rfl⟩
theorem dL_law_533 : Dc mL_law 533 (.iload_n 3) 1 534 := ⟨by decide +kernel, rfl⟩
theorem dL_law_534 : Dc mL_law 534 (.iconst 2) 1 535 := ⟨by decide +kernel, rfl⟩
theorem dL_law_535 : Dc mL_law 535 (.iadd) 1 536 := ⟨by decide +kernel, rfl⟩
theorem dL_law_536 : Dc mL_law 536 (.iaload) 1 537 := ⟨by decide +kernel, rfl⟩
theorem dL_law_537 : Dc mL_law 537 (.invokevirtual 66) 3 540 := ⟨by decide +kernel, rfl⟩
theorem dL_law_540 : Dc mL_law 540 (.aload_n 2) 1 541 := ⟨by decide +kernel, rfl⟩
theorem dL_law_541 : Dc mL_law 541 (.aload_n 0) 1 542 := ⟨by decide +kernel, rfl⟩
theorem dL_law_542 : Dc mL_law 542 (.iload_n 3) 1 543 := ⟨by decide +kernel, rfl⟩
theorem dL_law_543 : Dc mL_law 543 (.iconst 1) 1 544 := ⟨by decide +kernel, rfl⟩
theorem dL_law_544 : Dc mL_law 544 (.iadd) 1 545 := ⟨by decide +kernel, rfl⟩
theorem dL_law_545 : Dc mL_law 545 (.iaload) 1 546 := ⟨by decide +kernel, rfl⟩
theorem dL_law_546 : Dc mL_law 546 (.aload_n 0) 1 547 := ⟨by decide +kernel, rfl⟩
theorem dL_law_547 : Dc mL_law 547 (.iload_n 3) 1 548 := ⟨by decide +kernel, rfl⟩
theorem dL_law_548 : Dc mL_law 548 (.iconst 2) 1 549 := ⟨by decide +kernel, rfl⟩
theorem dL_law_549 : Dc mL_law 549 (.iadd) 1 550 := ⟨by decide +kernel, rfl⟩
theorem dL_law_550 : Dc mL_law 550 (.iaload) 1 551 := ⟨by decide +kernel, rfl⟩
theorem dL_law_551 : Dc mL_law 551 (.invokevirtual 69) 3 554 := ⟨by decide +kernel, rfl⟩
theorem dL_law_554 : Dj mL_law 554 (.if_icmp .eq 5) 3 557 (5) 559 := ⟨by decide +kernel, rfl, by decide⟩
theorem dL_law_557 : Dc mL_law 557 (.iconst 0) 1 558 := ⟨by decide +kernel, rfl⟩
theorem dL_law_558 : Dc mL_law 558 (.ireturn) 1 559 := ⟨by decide +kernel, rfl⟩
theorem dL_law_559 : Dc mL_law 559 (.iinc 3 6) 3 562 := ⟨by decide +kernel, rfl⟩
theorem dL_law_562 : Dj mL_law 562 (.goto (-544)) 3 565 (-544) 18 := ⟨by decide +kernel, rfl, by decide⟩
theorem dL_law_565 : Dc mL_law 565 (.iconst 1) 1 566 := ⟨by decide +kernel, rfl⟩
theorem dL_law_566 : Dc mL_law 566 (.ireturn) 1 567 := ⟨by decide +kernel, rfl⟩
end
section
/-! ===== contracts of a simple form, and rules with the value named ===== -/
abbrev w_Cb (E : w_E) (M : w_M) (d : Nat) (as : List Value) (G : w_Sh) (I : w_Mm) (P : Prop) : Prop := w_Ct E M d as G I 0 0 (w_Pi (fun r G' I' => G' = G ∧ I' = I ∧ ((r = 1 ∧ P) ∨ (r = 0 ∧ ¬ P))))
section Ctr
variable {E : w_E} {M : w_M} {R : Room} {Z : List Frame → Array Value → State → State → Prop} {G G' : w_Sh} {I I' : w_Mm} {k n pc pc' tgt d mc ms : Nat} {off : Int} {ls ls' : List (Option Value)} {st : List Value}
theorem v_Vb {M' : w_M} {idx ci nA b : Nat} {As st0 : List Value} {P : Prop} (hC : w_Cb E M' d (.ref b :: As) G I P) (hw : w_cV M.1.cls idx ci M' nA) (hT : G.1 b = (ci, 0)) (hn : As.length = nA) (hst : st0 = As.reverse ++ .ref b :: st)
    (hro : w_ro R d M') (hcs : k ≤ R.cells ∧ n ≤ R.slots) (hrest : (st.map fun v => v.category).sum ≤ 8) (hd : Dc M pc (.invokevirtual idx) 3 pc')
    (k1 : P → w_V E M R Z G I k n pc' ls (iv 1 :: st)) (k0 : ¬ P → w_V E M R Z G I k n pc' ls (iv 0 :: st)) : w_V E M R Z G I k n pc ls st0 :=
  v_Vi hC hw hT hn hst hro hcs hrest hd (fun z G' I' hz hp hr => by
    obtain ⟨rfl, rfl, ⟨rfl, h⟩ | ⟨rfl, h⟩⟩ := hp
    · exact k1 h
    · exact k0 h)
theorem v_Sb {M' : w_M} {idx nA : Nat} {As st0 : List Value} {P : Prop} (hC : w_Cb E M' d As G I P) (hw : w_cS M.1.cls idx M' nA) (hn : As.length = nA) (hst : st0 = As.reverse ++ st)
    (hro : w_ro R d M') (hcs : k ≤ R.cells ∧ n ≤ R.slots) (hrest : (st.map fun v => v.category).sum ≤ 8) (hd : Dc M pc (.invokestatic idx) 3 pc')
    (k1 : P → w_V E M R Z G I k n pc' ls (iv 1 :: st)) (k0 : ¬ P → w_V E M R Z G I k n pc' ls (iv 0 :: st)) : w_V E M R Z G I k n pc ls st0 :=
  v_Si hC hw hn hst hro hcs hrest hd (fun z G' I' hz hp hr => by
    obtain ⟨rfl, rfl, ⟨rfl, h⟩ | ⟨rfl, h⟩⟩ := hp
    · exact k1 h
    · exact k0 h)
theorem v_VmN {M' : w_M} {idx ci nA b : Nat} {As st0 : List Value} {z : Int} {I1 : w_Mm} (hC : w_Cm E M' d (.ref b :: As) G I z I1) (hw : w_cV M.1.cls idx ci M' nA) (hT : G.1 b = (ci, 0)) (hn : As.length = nA) (hst : st0 = As.reverse ++ .ref b :: st)
    (hro : w_ro R d M') (hcs : k ≤ R.cells ∧ n ≤ R.slots) (hrest : (st.map fun v => v.category).sum ≤ 8) (hd : Dc M pc (.invokevirtual idx) 3 pc')
    (kk : ∀ r, r = z → inR r → (∀ a k, inR (I1 a k)) → w_V E M R Z G I1 k n pc' ls (iv r :: st)) : w_V E M R Z G I k n pc ls st0 := v_Vm hC hw hT hn hst hro hcs hrest hd (kk z rfl)
theorem v_SmN {M' : w_M} {idx nA : Nat} {As st0 : List Value} {z : Int} {I1 : w_Mm} (hC : w_Cm E M' d As G I z I1) (hw : w_cS M.1.cls idx M' nA) (hn : As.length = nA) (hst : st0 = As.reverse ++ st)
    (hro : w_ro R d M') (hcs : k ≤ R.cells ∧ n ≤ R.slots) (hrest : (st.map fun v => v.category).sum ≤ 8) (hd : Dc M pc (.invokestatic idx) 3 pc')
    (kk : ∀ r, r = z → inR r → (∀ a k, inR (I1 a k)) → w_V E M R Z G I1 k n pc' ls (iv r :: st)) : w_V E M R Z G I k n pc ls st0 := v_Sm hC hw hn hst hro hcs hrest hd (kk z rfl)
theorem v_getI' {idx ci f a : Nat} {v : Int} (hv : I a f = v) (hf : w_fl M.1.cls idx ci f) (hr : w_ref ci f = false) (hT : G.1 a = (ci, 0)) (hd : Dc M pc (.getfield idx) 3 pc') (kk : w_V E M R Z G I k n pc' ls (iv v :: st)) : w_V E M R Z G I k n pc ls (.ref a :: st) := v_getI hf hr hT hd (hv ▸ kk)
theorem v_iald' {a len i : Nat} {x v : Int} (hv : I a i = v) (hT : G.1 a = (10, len)) (hx : x = (i : Int)) (hi : i < len) (hlen : len < 2147483648) (hd : Dc M pc .iaload 1 pc') (kk : w_V E M R Z G I k n pc' ls (iv v :: st)) : w_V E M R Z G I k n pc ls (iv x :: .ref a :: st) := v_iald hT hx hi hlen hd (hv ▸ kk)
theorem v_zald' {a len i : Nat} {x v : Int} (hv : I a i = v) (hT : G.1 a = (11, len)) (hx : x = (i : Int)) (hi : i < len) (hlen : len < 2147483648) (hd : Dc M pc .baload 1 pc') (kk : w_V E M R Z G I k n pc' ls (iv v :: st)) : w_V E M R Z G I k n pc ls (iv x :: .ref a :: st) := v_zald hT hx hi hlen hd (hv ▸ kk)
/-- another form of the value on top, of the memory -/
theorem v_top {x y : Int} (h : x = y) (kk : w_V E M R Z G I k n pc ls (iv y :: st)) : w_V E M R Z G I k n pc ls (iv x :: st) := h ▸ kk
theorem v_mem (h : I = I') (kk : w_V E M R Z G I' k n pc ls st) : w_V E M R Z G I k n pc ls st := h ▸ kk
theorem v_ls (h : ls = ls') (kk : w_V E M R Z G I k n pc ls' st) : w_V E M R Z G I k n pc ls st := h ▸ kk
end Ctr
end
section
/-! ===== masks ===== -/
theorem nI_ofInt (v : Nat) : Int32.ofInt (v : Int) = nI v := Int32.ofInt_eq_ofNat
theorem sh_r (v s : Nat) (hv : v < 2147483648) (hs : s < 16) : Int32.ofInt (v : Int) >>> (Int32.ofInt (s : Int) &&& 31) = Int32.ofInt ((v / 2 ^ s : Nat) : Int) := by
  rw [nI_ofInt, nI_ofInt]
  have h : s = 0 ∨ s = 1 ∨ s = 2 ∨ s = 3 ∨ s = 4 ∨ s = 5 ∨ s = 6 ∨ s = 7 ∨ s = 8 ∨ s = 9 ∨ s = 10 ∨ s = 11 ∨ s = 12 ∨ s = 13 ∨ s = 14 ∨ s = 15 := by omega
  rcases h with rfl | rfl | rfl | rfl | rfl | rfl | rfl | rfl | rfl | rfl | rfl | rfl | rfl | rfl | rfl | rfl <;> exact pk_shrN (by omega) _ _ (by decide)
theorem sh_l (s : Nat) (hs : s < 16) : Int32.ofInt 1 <<< (Int32.ofInt (s : Int) &&& 31) = Int32.ofInt ((2 ^ s : Nat) : Int) := by
  have h : s = 0 ∨ s = 1 ∨ s = 2 ∨ s = 3 ∨ s = 4 ∨ s = 5 ∨ s = 6 ∨ s = 7 ∨ s = 8 ∨ s = 9 ∨ s = 10 ∨ s = 11 ∨ s = 12 ∨ s = 13 ∨ s = 14 ∨ s = 15 := by omega
  rcases h with rfl | rfl | rfl | rfl | rfl | rfl | rfl | rfl | rfl | rfl | rfl | rfl | rfl | rfl | rfl | rfl <;> decide
theorem an_1 (v : Nat) (hv : v < 2147483648) : Int32.ofInt (v : Int) &&& Int32.ofInt 1 = Int32.ofInt ((v % 2 : Nat) : Int) := by
  rw [nI_ofInt, nI_ofInt]
  exact pk_andN (by omega) 1 (by decide)
theorem an_15 (x : Int) (hx : inR x) : Int32.ofInt x &&& Int32.ofInt 15 = Int32.ofInt (x % 16) := by
  have e := pk_and (Int32.ofInt x) (m := Int32.ofInt 15) 4 (by decide)
  rw [e, ← nI_ofInt]
  congr 1
  have h1 : (Int32.ofInt x).toBitVec.toInt = x := inR_toInt hx
  have h2 : (Int32.ofInt x).toBitVec.toInt % 16 = ((Int32.ofInt x).toBitVec.toNat : Int) % 16 := by
    rw [BitVec.toInt_eq_toNat_cond]
    split <;> omega
  rw [h1] at h2
  omega
theorem an_nat (a b : Nat) : Int32.ofInt (a : Int) &&& Int32.ofInt (b : Int) = Int32.ofInt ((a &&& b : Nat) : Int) := by
  rw [nI_ofInt, nI_ofInt, nI_ofInt]
  unfold nI
  apply Int32.toBitVec.inj
  first
    | simp [BitVec.ofNat_and]
    | (apply BitVec.eq_of_toNat_eq; simp [Nat.and_mod_two_pow])
theorem or_nat (a b : Nat) : Int32.ofInt (a : Int) ||| Int32.ofInt (b : Int) = Int32.ofInt ((a ||| b : Nat) : Int) := by
  rw [nI_ofInt, nI_ofInt, nI_ofInt]
  unfold nI
  apply Int32.toBitVec.inj
  first
    | simp [BitVec.ofNat_or]
    | (apply BitVec.eq_of_toNat_eq; simp [Nat.or_mod_two_pow])
theorem and_lt {a b n : Nat} (h : a < 2 ^ n) : a &&& b < 2 ^ n := Nat.lt_of_le_of_lt Nat.and_le_left h
theorem div_lt16 {a s : Nat} (h : a < 65536) : a / 2 ^ s < 65536 := Nat.lt_of_le_of_lt (Nat.div_le_self _ _) h
/-- the highest shared mark, from e down to 1; else 0 -/
def nearF (m : Nat) : Nat → Nat
  | 0 => 0
  | e + 1 => if m / 2 ^ (e + 1) % 2 = 1 then e + 1 else nearF m e
theorem nearF_s (m e : Nat) : nearF m (e + 1) = if m / 2 ^ (e + 1) % 2 = 1 then e + 1 else nearF m e := rfl
theorem nearF_le (m e : Nat) : nearF m e ≤ e := by
  induction e with
  | zero => exact Nat.le_refl _
  | succ e ih =>
    unfold nearF
    split
    · omega
    · omega
/-! ===== rows that a loop fills ===== -/
def w_map (I : w_Mm) (a j : Nat) (g : Nat → Int) : w_Mm := fun b k => if b = a ∧ k < j then g k else I b k
theorem w_map_0 {I : w_Mm} {a : Nat} {g : Nat → Int} : w_map I a 0 g = I := by
  funext b k
  simp [w_map]
theorem w_map_s {I : w_Mm} {a j : Nat} {g : Nat → Int} {z : Int} (hz : z = g j) : w_up (w_map I a j g) a j z = w_map I a (j + 1) g := by
  funext b k
  unfold w_up w_map
  by_cases h1 : b = a
  · by_cases h2 : k = j
    · subst h2
      simp [h1, hz]
    · by_cases h3 : k < j
      · simp [h1, h2, h3, Nat.lt_succ_of_lt h3]
      · have h4 : ¬ k < j + 1 := by omega
        simp [h1, h2, h3, h4]
  · simp [h1]
theorem w_map_o {I : w_Mm} {a j b k : Nat} {g : Nat → Int} (h : ¬ (b = a ∧ k < j)) : w_map I a j g b k = I b k := by simp [w_map, h]
theorem w_map_i {I : w_Mm} {a j k : Nat} {g : Nat → Int} (h : k < j) : w_map I a j g a k = g k := by simp [w_map, h]
theorem w_rngm {I : w_Mm} {a j : Nat} {g : Nat → Int} (h : ∀ a k, inR (I a k)) (hg : ∀ k, k < j → inR (g k)) : ∀ b k, inR (w_map I a j g b k) := fun b k => by
  unfold w_map
  split
  · rename_i h1; exact hg k h1.2
  · exact h b k
theorem nat_1 (j : Nat) : ((j : Int) + 1) = ((j + 1 : Nat) : Int) := rfl
theorem w_cpy_o {I : w_Mm} {b a len x j : Nat} (h : ¬ (x = a ∧ j < len)) : w_cpy I b a len x j = I x j := by simp [w_cpy, h]
theorem w_cpy_i {I : w_Mm} {b a len j : Nat} (h : j < len) : w_cpy I b a len a j = I b j := by simp [w_cpy, h]
end
section
/-! ===== kinds: pure questions ===== -/
/-- how many there are, each one's mask, which are faces -/
abbrev cS : Type := Nat × (Nat → Nat) × (Nat → Int)
def isC (G : w_Sh) (c : Nat) : Prop := G.1 c = (0, 0) ∧ G.2.1 c 0 = some (c + 1) ∧ G.2.1 c 1 = some (c + 2) ∧ G.1 (c + 1) = (10, 16) ∧ G.1 (c + 2) = (11, 16)
def clsOK (I : w_Mm) (c : Nat) (Q : cS) : Prop := I c 2 = (Q.1 : Int) ∧ 2 ≤ Q.1 ∧ Q.1 ≤ 16 ∧ (∀ j, j < Q.1 → I (c + 1) j = (Q.2.1 j : Int) ∧ Q.2.1 j < 65536) ∧ ∀ j, j < Q.1 → I (c + 2) j = Q.2.2 j ∧ (Q.2.2 j = 0 ∨ Q.2.2 j = 1)
def isK (G : w_Sh) (q c : Nat) : Prop := G.1 q = (3, 0) ∧ G.2.1 q 0 = some c ∧ isC G c
abbrev kThing (k : Int) : Prop := 10 ≤ k ∧ k < 40
abbrev kRow (k : Int) : Prop := 40 ≤ k ∧ k < 100
abbrev kRef (k : Int) : Prop := k = 4 ∨ k = 5 ∨ (10 ≤ k ∧ k < 100)
abbrev hasC (Q : cS) (x : Int) : Prop := 0 ≤ x ∧ x < (Q.1 : Int)
abbrev fitC (Q : cS) (x y : Int) : Prop := hasC Q x ∧ hasC Q y ∧ (¬ Q.2.2 y.toNat = 0 ∨ Q.2.1 x.toNat / 2 ^ y.toNat % 2 = 1)
abbrev nearC (Q : cS) (x y : Int) : Int := if hasC Q x ∧ hasC Q y then ((nearF (Q.2.1 x.toNat &&& Q.2.1 y.toNat) (Q.1 - 1) : Nat) : Int) else 0
abbrev ofC (Q : cS) (k : Int) : Prop := (kThing k ∧ hasC Q (k - 10)) ∨ (kRow k ∧ hasC Q (k - 40))
abbrev knownK (Q : cS) (k : Int) : Prop := (0 ≤ k ∧ k ≤ 5) ∨ ofC Q k ∨ (100 ≤ k ∧ k < 140)
abbrev argK (Q : cS) (k : Int) : Prop := k = 1 ∨ k = 2 ∨ k = 5 ∨ ofC Q k
abbrev resK (Q : cS) (k : Int) : Prop := k = 0 ∨ argK Q k
abbrev fitK (Q : cS) (k l : Int) : Prop := k = l ∨ (k = 4 ∧ kRef l) ∨ (kThing k ∧ kThing l ∧ fitC Q (k - 10) (l - 10)) ∨ (kRow k ∧ kRow l ∧ fitC Q (k - 40) (l - 40)) ∨ ((k = 5 ∨ kRow k) ∧ l = 10)
def joinK (Q : cS) (k l : Int) : Int := if k = l then k else if ¬ (kRef k ∧ kRef l) then 0 else if k = 4 then l else if l = 4 then k else if kThing k ∧ kThing l then 10 + nearC Q (k - 10) (l - 10) else if kRow k ∧ kRow l then 40 + nearC Q (k - 40) (l - 40) else 10
theorem inR_p {n : Nat} (h : n < 16) : inR ((2 ^ n : Nat) : Int) := inR_nat (Nat.lt_trans (Nat.pow_lt_pow_right (by decide : 1 < 2) h) (by decide))
theorem or_lt {a b : Nat} (ha : a < 65536) (hb : b < 65536) : a ||| b < 65536 := Nat.or_lt_two_pow (n := 16) ha hb
theorem pow_lt {n : Nat} (h : n < 16) : 2 ^ n < 65536 := Nat.lt_of_lt_of_le (Nat.pow_lt_pow_right (by decide : 1 < 2) h) (by decide)
theorem tX3_isThing {E : w_E} {G : w_Sh} {I : w_Mm} {k : Int} (hk : inR k) : w_Cb E mX3_isThing 0 [iv k] G I (kThing k) := by
  refine w_Ct.of (ls := [some (iv k)]) (by decide +kernel) (Nat.le_of_ble_eq_true rfl) rfl rfl (fun rng => ?_)
  refine v_iload_n dX3_isThing_0 rfl ?_
  refine v_bipush dX3_isThing_1 (by decide) ?_
  refine v_icmp_lt hk ⟨by decide, by decide⟩ dX3_isThing_3 (fun h1 => ?_) (fun h1 => ?_)
  · refine v_iconst dX3_isThing_16 ?_
    exact v_zret rfl (by decide) (by decide) (Or.inl rfl) dX3_isThing_17 ⟨rfl, rfl, Or.inr ⟨rfl, by omega⟩⟩
  · refine v_iload_n dX3_isThing_6 rfl ?_
    refine v_bipush dX3_isThing_7 (by decide) ?_
    refine v_icmp_ge hk ⟨by decide, by decide⟩ dX3_isThing_9 (fun h2 => ?_) (fun h2 => ?_)
    · refine v_iconst dX3_isThing_16 ?_
      exact v_zret rfl (by decide) (by decide) (Or.inl rfl) dX3_isThing_17 ⟨rfl, rfl, Or.inr ⟨rfl, by omega⟩⟩
    · refine v_iconst dX3_isThing_12 ?_
      refine v_goto dX3_isThing_13 ?_
      exact v_zret rfl (by decide) (by decide) (Or.inr rfl) dX3_isThing_17 ⟨rfl, rfl, Or.inl ⟨rfl, by omega⟩⟩
theorem tX3_isThingRow {E : w_E} {G : w_Sh} {I : w_Mm} {k : Int} (hk : inR k) : w_Cb E mX3_isThingRow 0 [iv k] G I (kRow k) := by
  refine w_Ct.of (ls := [some (iv k)]) (by decide +kernel) (Nat.le_of_ble_eq_true rfl) rfl rfl (fun rng => ?_)
  refine v_iload_n dX3_isThingRow_0 rfl ?_
  refine v_bipush dX3_isThingRow_1 (by decide) ?_
  refine v_icmp_lt hk ⟨by decide, by decide⟩ dX3_isThingRow_3 (fun h1 => ?_) (fun h1 => ?_)
  · refine v_iconst dX3_isThingRow_16 ?_
    exact v_zret rfl (by decide) (by decide) (Or.inl rfl) dX3_isThingRow_17 ⟨rfl, rfl, Or.inr ⟨rfl, by omega⟩⟩
  · refine v_iload_n dX3_isThingRow_6 rfl ?_
    refine v_bipush dX3_isThingRow_7 (by decide) ?_
    refine v_icmp_ge hk ⟨by decide, by decide⟩ dX3_isThingRow_9 (fun h2 => ?_) (fun h2 => ?_)
    · refine v_iconst dX3_isThingRow_16 ?_
      exact v_zret rfl (by decide) (by decide) (Or.inl rfl) dX3_isThingRow_17 ⟨rfl, rfl, Or.inr ⟨rfl, by omega⟩⟩
    · refine v_iconst dX3_isThingRow_12 ?_
      refine v_goto dX3_isThingRow_13 ?_
      exact v_zret rfl (by decide) (by decide) (Or.inr rfl) dX3_isThingRow_17 ⟨rfl, rfl, Or.inl ⟨rfl, by omega⟩⟩
theorem tX3_isUnmade {E : w_E} {G : w_Sh} {I : w_Mm} {k : Int} (hk : inR k) : w_Cb E mX3_isUnmade 0 [iv k] G I (100 ≤ k) := by
  refine w_Ct.of (ls := [some (iv k)]) (by decide +kernel) (Nat.le_of_ble_eq_true rfl) rfl rfl (fun rng => ?_)
  refine v_iload_n dX3_isUnmade_0 rfl ?_
  refine v_bipush dX3_isUnmade_1 (by decide) ?_
  refine v_icmp_lt hk ⟨by decide, by decide⟩ dX3_isUnmade_3 (fun h1 => ?_) (fun h1 => ?_)
  · refine v_iconst dX3_isUnmade_10 ?_
    exact v_zret rfl (by decide) (by decide) (Or.inl rfl) dX3_isUnmade_11 ⟨rfl, rfl, Or.inr ⟨rfl, by omega⟩⟩
  · refine v_iconst dX3_isUnmade_6 ?_
    refine v_goto dX3_isUnmade_7 ?_
    exact v_zret rfl (by decide) (by decide) (Or.inr rfl) dX3_isUnmade_11 ⟨rfl, rfl, Or.inl ⟨rfl, by omega⟩⟩
theorem tX3_isReference {E : w_E} {G : w_Sh} {I : w_Mm} {k : Int} (hk : inR k) : w_Cb E mX3_isReference 0 [iv k] G I (kRef k) := by
  refine w_Ct.of (ls := [some (iv k)]) (by decide +kernel) (Nat.le_of_ble_eq_true rfl) rfl rfl (fun rng => ?_)
  refine v_iload_n dX3_isReference_0 rfl ?_
  refine v_iconst dX3_isReference_1 ?_
  refine v_icmp_eq hk ⟨by decide, by decide⟩ dX3_isReference_2 (fun h1 => ?_) (fun h1 => ?_)
  · refine v_iconst dX3_isReference_22 ?_
    refine v_goto dX3_isReference_23 ?_
    exact v_zret rfl (by decide) (by decide) (Or.inr rfl) dX3_isReference_27 ⟨rfl, rfl, Or.inl ⟨rfl, by omega⟩⟩
  · refine v_iload_n dX3_isReference_5 rfl ?_
    refine v_iconst dX3_isReference_6 ?_
    refine v_icmp_eq hk ⟨by decide, by decide⟩ dX3_isReference_7 (fun h2 => ?_) (fun h2 => ?_)
    · refine v_iconst dX3_isReference_22 ?_
      refine v_goto dX3_isReference_23 ?_
      exact v_zret rfl (by decide) (by decide) (Or.inr rfl) dX3_isReference_27 ⟨rfl, rfl, Or.inl ⟨rfl, by omega⟩⟩
    · refine v_iload_n dX3_isReference_10 rfl ?_
      refine v_bipush dX3_isReference_11 (by decide) ?_
      refine v_icmp_lt hk ⟨by decide, by decide⟩ dX3_isReference_13 (fun h3 => ?_) (fun h3 => ?_)
      · refine v_iconst dX3_isReference_26 ?_
        exact v_zret rfl (by decide) (by decide) (Or.inl rfl) dX3_isReference_27 ⟨rfl, rfl, Or.inr ⟨rfl, by omega⟩⟩
      · refine v_iload_n dX3_isReference_16 rfl ?_
        refine v_bipush dX3_isReference_17 (by decide) ?_
        refine v_icmp_ge hk ⟨by decide, by decide⟩ dX3_isReference_19 (fun h4 => ?_) (fun h4 => ?_)
        · refine v_iconst dX3_isReference_26 ?_
          exact v_zret rfl (by decide) (by decide) (Or.inl rfl) dX3_isReference_27 ⟨rfl, rfl, Or.inr ⟨rfl, by omega⟩⟩
        · refine v_iconst dX3_isReference_22 ?_
          refine v_goto dX3_isReference_23 ?_
          exact v_zret rfl (by decide) (by decide) (Or.inr rfl) dX3_isReference_27 ⟨rfl, rfl, Or.inl ⟨rfl, by omega⟩⟩
theorem tX0_has {E : w_E} {G : w_Sh} {I : w_Mm} {c : Nat} {Q : cS} (hC : isC G c) (hQ : clsOK I c Q) {x : Int} (hx : inR x) : w_Cb E mX0_has 0 [.ref c, iv x] G I (hasC Q x) := by
  obtain ⟨hn, hn2, hn16, hA, hF⟩ := hQ
  obtain ⟨hT0, hR0, hR1, hT1, hT2⟩ := hC
  refine w_Ct.of (ls := [some (.ref c), some (iv x)]) (by decide +kernel) (Nat.le_of_ble_eq_true rfl) rfl rfl (fun rng => ?_)
  refine v_iload_n dX0_has_0 rfl ?_
  refine v_if_lt hx dX0_has_1 (fun h1 => ?_) (fun h1 => ?_)
  · refine v_iconst dX0_has_16 ?_
    exact v_zret rfl (by decide) (by decide) (Or.inl rfl) dX0_has_17 ⟨rfl, rfl, Or.inr ⟨rfl, by omega⟩⟩
  · refine v_iload_n dX0_has_4 rfl ?_
    refine v_aload_n dX0_has_5 rfl ?_
    refine v_getI' (v := (Q.1 : Int)) hn fX0_19 rfl (by assumption) dX0_has_6 ?_
    refine v_icmp_ge hx ⟨by omega, by omega⟩ dX0_has_9 (fun h2 => ?_) (fun h2 => ?_)
    · refine v_iconst dX0_has_16 ?_
      exact v_zret rfl (by decide) (by decide) (Or.inl rfl) dX0_has_17 ⟨rfl, rfl, Or.inr ⟨rfl, by omega⟩⟩
    · refine v_iconst dX0_has_12 ?_
      refine v_goto dX0_has_13 ?_
      exact v_zret rfl (by decide) (by decide) (Or.inr rfl) dX0_has_17 ⟨rfl, rfl, Or.inl ⟨rfl, by omega⟩⟩
theorem tX0_isFull {E : w_E} {G : w_Sh} {I : w_Mm} {c : Nat} {Q : cS} (hC : isC G c) (hQ : clsOK I c Q) : w_Cb E mX0_isFull 0 [.ref c] G I (Q.1 = 16) := by
  obtain ⟨hn, hn2, hn16, hA, hF⟩ := hQ
  obtain ⟨hT0, hR0, hR1, hT1, hT2⟩ := hC
  refine w_Ct.of (ls := [some (.ref c)]) (by decide +kernel) (Nat.le_of_ble_eq_true rfl) rfl rfl (fun rng => ?_)
  refine v_aload_n dX0_isFull_0 rfl ?_
  refine v_getI' (v := (Q.1 : Int)) hn fX0_19 rfl (by assumption) dX0_isFull_1 ?_
  refine v_bipush dX0_isFull_4 (by decide) ?_
  refine v_icmp_lt ⟨by omega, by omega⟩ ⟨by decide, by decide⟩ dX0_isFull_6 (fun h1 => ?_) (fun h1 => ?_)
  · refine v_iconst dX0_isFull_13 ?_
    exact v_zret rfl (by decide) (by decide) (Or.inl rfl) dX0_isFull_14 ⟨rfl, rfl, Or.inr ⟨rfl, by omega⟩⟩
  · refine v_iconst dX0_isFull_9 ?_
    refine v_goto dX0_isFull_10 ?_
    exact v_zret rfl (by decide) (by decide) (Or.inr rfl) dX0_isFull_14 ⟨rfl, rfl, Or.inl ⟨rfl, by omega⟩⟩
theorem tX0_isFace {E : w_E} {G : w_Sh} {I : w_Mm} {c : Nat} {Q : cS} (hC : isC G c) (hQ : clsOK I c Q) {x : Int} (hx : inR x) : w_Cb E mX0_isFace 1 [.ref c, iv x] G I (hasC Q x ∧ ¬ Q.2.2 x.toNat = 0) := by
  have hQ0 := hQ
  have hC0 := hC
  obtain ⟨hn, hn2, hn16, hA, hF⟩ := hQ
  obtain ⟨hT0, hR0, hR1, hT1, hT2⟩ := hC
  refine w_Ct.of (ls := [some (.ref c), some (iv x)]) (by decide +kernel) (Nat.le_of_ble_eq_true rfl) rfl rfl (fun rng => ?_)
  refine v_aload_n dX0_isFace_0 rfl ?_
  refine v_iload_n dX0_isFace_1 rfl ?_
  refine v_Vb (tX0_has hC0 hQ0 hx) kX0_23 (by assumption) rfl rfl ⟨by decide, by decide⟩ ⟨by decide, by decide⟩ (Nat.le_of_ble_eq_true rfl) dX0_isFace_2 (fun h1 => ?_) (fun h1 => ?_)
  · refine v_if_eq ⟨by decide, by decide⟩ dX0_isFace_5 (fun h => by exfalso; omega) (fun hb5 => ?_)
    refine v_aload_n dX0_isFace_8 rfl ?_
    refine v_getR fX0_15 rfl (by assumption) (by assumption) dX0_isFace_9 ?_
    refine v_iload_n dX0_isFace_12 rfl ?_
    refine v_zald' (i := (x).toNat) (v := (Q.2.2 (x).toNat)) (hF (x).toNat (by omega)).1 (by assumption) (by omega) (by omega) (by omega) dX0_isFace_13 ?_
    refine v_if_eq (by rw [← (hF (x).toNat (by omega)).1]; exact rng _ _) dX0_isFace_14 (fun h2 => ?_) (fun h2 => ?_)
    · refine v_iconst dX0_isFace_21 ?_
      exact v_zret rfl (by decide) (by decide) (Or.inl rfl) dX0_isFace_22 ⟨rfl, rfl, Or.inr ⟨rfl, by omega⟩⟩
    · refine v_iconst dX0_isFace_17 ?_
      refine v_goto dX0_isFace_18 ?_
      exact v_zret rfl (by decide) (by decide) (Or.inr rfl) dX0_isFace_22 ⟨rfl, rfl, Or.inl ⟨rfl, by omega⟩⟩
  · refine v_if_eq ⟨by decide, by decide⟩ dX0_isFace_5 (fun hb5 => ?_) (fun h => by exfalso; omega)
    refine v_iconst dX0_isFace_21 ?_
    exact v_zret rfl (by decide) (by decide) (Or.inl rfl) dX0_isFace_22 ⟨rfl, rfl, Or.inr ⟨rfl, by omega⟩⟩
theorem tX0_suits {E : w_E} {G : w_Sh} {I : w_Mm} {c : Nat} {Q : cS} (hC : isC G c) (hQ : clsOK I c Q) {x y : Int} (hx : inR x) (hy : inR y) : w_Cb E mX0_suits 0 [.ref c, iv x, iv y] G I (fitC Q x y) := by
  obtain ⟨hn, hn2, hn16, hA, hF⟩ := hQ
  obtain ⟨hT0, hR0, hR1, hT1, hT2⟩ := hC
  refine w_Ct.of (ls := [some (.ref c), some (iv x), some (iv y)]) (by decide +kernel) (Nat.le_of_ble_eq_true rfl) rfl rfl (fun rng => ?_)
  refine v_iload_n dX0_suits_0 rfl ?_
  refine v_if_lt hx dX0_suits_1 (fun h1 => ?_) (fun h1 => ?_)
  · refine v_iconst dX0_suits_24 ?_
    exact v_zret rfl (by decide) (by decide) (Or.inl rfl) dX0_suits_25 ⟨rfl, rfl, Or.inr ⟨rfl, by omega⟩⟩
  · refine v_iload_n dX0_suits_4 rfl ?_
    refine v_aload_n dX0_suits_5 rfl ?_
    refine v_getI' (v := (Q.1 : Int)) hn fX0_19 rfl (by assumption) dX0_suits_6 ?_
    refine v_icmp_ge hx ⟨by omega, by omega⟩ dX0_suits_9 (fun h2 => ?_) (fun h2 => ?_)
    · refine v_iconst dX0_suits_24 ?_
      exact v_zret rfl (by decide) (by decide) (Or.inl rfl) dX0_suits_25 ⟨rfl, rfl, Or.inr ⟨rfl, by omega⟩⟩
    · refine v_iload_n dX0_suits_12 rfl ?_
      refine v_if_lt hy dX0_suits_13 (fun h3 => ?_) (fun h3 => ?_)
      · refine v_iconst dX0_suits_24 ?_
        exact v_zret rfl (by decide) (by decide) (Or.inl rfl) dX0_suits_25 ⟨rfl, rfl, Or.inr ⟨rfl, by omega⟩⟩
      · refine v_iload_n dX0_suits_16 rfl ?_
        refine v_aload_n dX0_suits_17 rfl ?_
        refine v_getI' (v := (Q.1 : Int)) hn fX0_19 rfl (by assumption) dX0_suits_18 ?_
        refine v_icmp_lt hy ⟨by omega, by omega⟩ dX0_suits_21 (fun h4 => ?_) (fun h4 => ?_)
        · refine v_aload_n dX0_suits_26 rfl ?_
          refine v_getR fX0_15 rfl (by assumption) (by assumption) dX0_suits_27 ?_
          refine v_iload_n dX0_suits_30 rfl ?_
          refine v_zald' (i := (y).toNat) (v := (Q.2.2 (y).toNat)) (hF (y).toNat (by omega)).1 (by assumption) (by omega) (by omega) (by omega) dX0_suits_31 ?_
          refine v_if_ne (by rw [← (hF (y).toNat (by omega)).1]; exact rng _ _) dX0_suits_32 (fun h5 => ?_) (fun h5 => ?_)
          · refine v_iconst dX0_suits_49 ?_
            refine v_goto dX0_suits_50 ?_
            exact v_zret rfl (by decide) (by decide) (Or.inr rfl) dX0_suits_54 ⟨rfl, rfl, Or.inl ⟨rfl, by omega⟩⟩
          · refine v_aload_n dX0_suits_35 rfl ?_
            refine v_getR fX0_9 rfl (by assumption) (by assumption) dX0_suits_36 ?_
            refine v_iload_n dX0_suits_39 rfl ?_
            refine v_iald' (i := (x).toNat) (v := ((Q.2.1 (x).toNat : Nat) : Int)) (hA (x).toNat (by omega)).1 (by assumption) (by omega) (by omega) (by omega) dX0_suits_40 ?_
            refine v_iload_n dX0_suits_41 rfl ?_
            refine v_ishr (z := ((Q.2.1 (x).toNat / 2 ^ (y).toNat : Nat) : Int)) (by first | exact sh_r (Q.2.1 (x).toNat) ((y).toNat) (Nat.lt_trans (hA (x).toNat (by omega)).2 (by decide)) (by omega) | (rw [show (y : Int) = (((y).toNat : Nat) : Int) by omega]; exact sh_r (Q.2.1 (x).toNat) ((y).toNat) (Nat.lt_trans (hA (x).toNat (by omega)).2 (by decide)) (by omega))) dX0_suits_42 ?_
            refine v_iconst dX0_suits_43 ?_
            refine v_iand (z := (((Q.2.1 (x).toNat / 2 ^ (y).toNat) % 2 : Nat) : Int)) (an_1 ((Q.2.1 (x).toNat / 2 ^ (y).toNat)) (Nat.lt_trans (div_lt16 (hA (x).toNat (by omega)).2) (by decide))) dX0_suits_44 ?_
            refine v_iconst dX0_suits_45 ?_
            refine v_icmp_ne (inR_nat (Nat.lt_trans (Nat.mod_lt _ (by decide)) (by decide))) ⟨by decide, by decide⟩ dX0_suits_46 (fun h6 => ?_) (fun h6 => ?_)
            · refine v_iconst dX0_suits_53 ?_
              exact v_zret rfl (by decide) (by decide) (Or.inl rfl) dX0_suits_54 ⟨rfl, rfl, Or.inr ⟨rfl, by omega⟩⟩
            · refine v_iconst dX0_suits_49 ?_
              refine v_goto dX0_suits_50 ?_
              exact v_zret rfl (by decide) (by decide) (Or.inr rfl) dX0_suits_54 ⟨rfl, rfl, Or.inl ⟨rfl, by omega⟩⟩
        · refine v_iconst dX0_suits_24 ?_
          exact v_zret rfl (by decide) (by decide) (Or.inl rfl) dX0_suits_25 ⟨rfl, rfl, Or.inr ⟨rfl, by omega⟩⟩
theorem tX0_nearest {E : w_E} {G : w_Sh} {I : w_Mm} {c : Nat} {Q : cS} (hC : isC G c) (hQ : clsOK I c Q) {x y : Int} (hx : inR x) (hy : inR y) : w_Cm E mX0_nearest 0 [.ref c, iv x, iv y] G I (nearC Q x y) I := by
  obtain ⟨hn, hn2, hn16, hA, hF⟩ := hQ
  obtain ⟨hT0, hR0, hR1, hT1, hT2⟩ := hC
  refine w_Ct.of (ls := [some (.ref c), some (iv x), some (iv y), none, none]) (by decide +kernel) (Nat.le_of_ble_eq_true rfl) rfl rfl (fun rng => ?_)
  refine v_iload_n dX0_nearest_0 rfl ?_
  refine v_if_lt hx dX0_nearest_1 (fun h1 => ?_) (fun h1 => ?_)
  · refine v_iconst dX0_nearest_24 ?_
    exact v_iret rfl (by decide) (by decide) ⟨by decide, by decide⟩ dX0_nearest_25 ⟨(if_neg (by omega)).symm, rfl, rfl⟩
  · refine v_iload_n dX0_nearest_4 rfl ?_
    refine v_aload_n dX0_nearest_5 rfl ?_
    refine v_getI' (v := (Q.1 : Int)) hn fX0_19 rfl (by assumption) dX0_nearest_6 ?_
    refine v_icmp_ge hx ⟨by omega, by omega⟩ dX0_nearest_9 (fun h2 => ?_) (fun h2 => ?_)
    · refine v_iconst dX0_nearest_24 ?_
      exact v_iret rfl (by decide) (by decide) ⟨by decide, by decide⟩ dX0_nearest_25 ⟨(if_neg (by omega)).symm, rfl, rfl⟩
    · refine v_iload_n dX0_nearest_12 rfl ?_
      refine v_if_lt hy dX0_nearest_13 (fun h3 => ?_) (fun h3 => ?_)
      · refine v_iconst dX0_nearest_24 ?_
        exact v_iret rfl (by decide) (by decide) ⟨by decide, by decide⟩ dX0_nearest_25 ⟨(if_neg (by omega)).symm, rfl, rfl⟩
      · refine v_iload_n dX0_nearest_16 rfl ?_
        refine v_aload_n dX0_nearest_17 rfl ?_
        refine v_getI' (v := (Q.1 : Int)) hn fX0_19 rfl (by assumption) dX0_nearest_18 ?_
        refine v_icmp_lt hy ⟨by omega, by omega⟩ dX0_nearest_21 (fun h4 => ?_) (fun h4 => ?_)
        · refine v_aload_n dX0_nearest_26 rfl ?_
          refine v_getR fX0_9 rfl (by assumption) (by assumption) dX0_nearest_27 ?_
          refine v_iload_n dX0_nearest_30 rfl ?_
          refine v_iald' (i := (x).toNat) (v := ((Q.2.1 (x).toNat : Nat) : Int)) (hA (x).toNat (by omega)).1 (by assumption) (by omega) (by omega) (by omega) dX0_nearest_31 ?_
          refine v_aload_n dX0_nearest_32 rfl ?_
          refine v_getR fX0_9 rfl (by assumption) (by assumption) dX0_nearest_33 ?_
          refine v_iload_n dX0_nearest_36 rfl ?_
          refine v_iald' (i := (y).toNat) (v := ((Q.2.1 (y).toNat : Nat) : Int)) (hA (y).toNat (by omega)).1 (by assumption) (by omega) (by omega) (by omega) dX0_nearest_37 ?_
          refine v_iand (z := ((Q.2.1 (x).toNat &&& Q.2.1 (y).toNat : Nat) : Int)) (an_nat _ _) dX0_nearest_38 ?_
          refine v_istore_n dX0_nearest_39 (by decide) rfl ?_
          refine v_aload_n dX0_nearest_40 rfl ?_
          refine v_getI' (v := (Q.1 : Int)) hn fX0_19 rfl (by assumption) dX0_nearest_41 ?_
          refine v_iconst dX0_nearest_44 ?_
          refine v_isub dX0_nearest_45 ?_
          refine v_istore dX0_nearest_46 (by decide) rfl ?_
          have hm : Q.2.1 (x).toNat &&& Q.2.1 (y).toNat < 65536 := and_lt (n := 16) (hA (x).toNat (by omega)).2
          have hin : hasC Q x ∧ hasC Q y := ⟨⟨by omega, by omega⟩, ⟨by omega, by omega⟩⟩
          have hne : nearC Q x y = ((nearF (Q.2.1 (x).toNat &&& Q.2.1 (y).toNat) (Q.1 - 1) : Nat) : Int) := if_pos hin
          rw [hne]
          generalize hmm : Q.2.1 (x).toNat &&& Q.2.1 (y).toNat = mm at hm ⊢
          have loop : ∀ q : Nat, q < 16 → ∀ z : Int, z = ((nearF mm q : Nat) : Int) → w_V E mX0_nearest (w_rm 0 0 0) (w_Z E 0 0 (w_Pi (fun r G' I' => r = z ∧ G' = G ∧ I' = I))) G I 0 0 48 [some (.ref c), some (iv x), some (iv y), some (iv (mm : Int)), some (iv (q : Int))] [] := by
            intro q
            induction q with
            | zero =>
              intro _ z hz
              refine v_iload dX0_nearest_48 rfl ?_
              refine v_if_le ⟨by decide, by decide⟩ dX0_nearest_50 (fun hb50 => ?_) (fun h => by exfalso; omega)
              refine v_iconst dX0_nearest_72 ?_
              exact v_iret rfl (by decide) (by decide) ⟨by decide, by decide⟩ dX0_nearest_73 ⟨by rw [hz]; rfl, rfl, rfl⟩
            | succ q ih =>
              intro hq z hz
              refine v_iload dX0_nearest_48 rfl ?_
              refine v_if_le ⟨by omega, by omega⟩ dX0_nearest_50 (fun h => by exfalso; omega) (fun hb50 => ?_)
              refine v_iload_n dX0_nearest_53 rfl ?_
              refine v_iload dX0_nearest_54 rfl ?_
              refine v_ishr (z := ((mm / 2 ^ (q + 1) : Nat) : Int)) (by first | exact sh_r (mm) ((q + 1)) (Nat.lt_trans hm (by decide)) (by omega) | (rw [show ((((q + 1) : Nat) : Int) : Int) = (((q + 1) : Nat) : Int) by omega]; exact sh_r (mm) ((q + 1)) (Nat.lt_trans hm (by decide)) (by omega))) dX0_nearest_56 ?_
              refine v_iconst dX0_nearest_57 ?_
              refine v_iand (z := (((mm / 2 ^ (q + 1)) % 2 : Nat) : Int)) (an_1 ((mm / 2 ^ (q + 1))) (Nat.lt_trans (div_lt16 hm) (by decide))) dX0_nearest_58 ?_
              refine v_iconst dX0_nearest_59 ?_
              refine v_icmp_ne (inR_nat (Nat.lt_trans (Nat.mod_lt _ (by decide)) (by decide))) ⟨by decide, by decide⟩ dX0_nearest_60 (fun h5 => ?_) (fun h5 => ?_)
              · refine v_iinc dX0_nearest_66 rfl (by decide) rfl rfl ?_
                refine v_goto dX0_nearest_69 ?_
                refine v_ls (ls' := [some (.ref c), some (iv x), some (iv y), some (iv (mm : Int)), some (iv (q : Int))]) (by show [_, _, _, _, some (iv (((q + 1 : Nat) : Int) + -1))] = _; rw [show (((q + 1 : Nat) : Int) + -1) = ((q : Nat) : Int) by omega]) ?_
                exact ih (by omega) z (by rw [hz, nearF_s, if_neg (by omega)])
              · refine v_iload dX0_nearest_63 rfl ?_
                exact v_iret rfl (by decide) (by decide) ⟨by omega, by omega⟩ dX0_nearest_65 ⟨by rw [hz, nearF_s, if_pos (by omega)], rfl, rfl⟩
          have hq : ((Q.1 : Int) - 1) = ((Q.1 - 1 : Nat) : Int) := by omega
          refine v_ls (ls' := [some (.ref c), some (iv x), some (iv y), some (iv (mm : Int)), some (iv ((Q.1 - 1 : Nat) : Int))]) (by rw [← hq]; rfl) ?_
          exact loop (Q.1 - 1) (by omega) _ rfl
        · refine v_iconst dX0_nearest_24 ?_
          exact v_iret rfl (by decide) (by decide) ⟨by decide, by decide⟩ dX0_nearest_25 ⟨(if_neg (by omega)).symm, rfl, rfl⟩
theorem tX0_add {E : w_E} {G : w_Sh} {I : w_Mm} {c : Nat} {Q : cS} (hC : isC G c) (hQ : clsOK I c Q) (hf : Q.1 < 16) {x : Int} (hx : inR x) {hi : Nat} {fz : Int} (hhi : (hasC Q x ∧ hi = Q.2.1 x.toNat) ∨ (¬ hasC Q x ∧ hi = 1)) (hfz : (x = -1 ∧ fz = 1) ∨ (¬ x = -1 ∧ fz = 0)) : w_Cm E mX0_add 1 [.ref c, iv x] G I (Q.1 : Int) (w_up (w_up (w_up I (c + 1) Q.1 ((2 ^ Q.1 ||| hi : Nat) : Int)) (c + 2) Q.1 fz) c 2 ((Q.1 : Int) + 1)) := by
  have hQ0 := hQ
  have hC0 := hC
  obtain ⟨hn, hn2, hn16, hA, hF⟩ := hQ
  obtain ⟨hT0, hR0, hR1, hT1, hT2⟩ := hC
  refine w_Ct.of (ls := [some (.ref c), some (iv x), none]) (by decide +kernel) (Nat.le_of_ble_eq_true rfl) rfl rfl (fun rng => ?_)
  rcases hhi with ⟨hh, rfl⟩ | ⟨hh, rfl⟩ <;> rcases hfz with ⟨hz, rfl⟩ | ⟨hz, rfl⟩
  · refine v_aload_n dX0_add_0 rfl ?_
    refine v_iload_n dX0_add_1 rfl ?_
    refine v_Vb (tX0_has hC0 hQ0 hx) kX0_23 (by assumption) rfl rfl ⟨by decide, by decide⟩ ⟨by decide, by decide⟩ (Nat.le_of_ble_eq_true rfl) dX0_add_2 (fun h1 => ?_) (fun h1 => by exfalso; omega)
    refine v_if_eq ⟨by decide, by decide⟩ dX0_add_5 (fun h => by exfalso; omega) (fun hb5 => ?_)
    refine v_aload_n dX0_add_8 rfl ?_
    refine v_getR fX0_9 rfl (by assumption) (by assumption) dX0_add_9 ?_
    refine v_iload_n dX0_add_12 rfl ?_
    refine v_iald' (i := (x).toNat) (v := ((Q.2.1 (x).toNat : Nat) : Int)) (hA (x).toNat (by omega)).1 (by assumption) (by omega) (by omega) (by omega) dX0_add_13 ?_
    refine v_goto dX0_add_14 ?_
    refine v_istore_n dX0_add_18 (by decide) rfl ?_
    refine v_aload_n dX0_add_19 rfl ?_
    refine v_getR fX0_9 rfl (by assumption) (by assumption) dX0_add_20 ?_
    refine v_aload_n dX0_add_23 rfl ?_
    refine v_getI' (v := (Q.1 : Int)) hn fX0_19 rfl (by assumption) dX0_add_24 ?_
    refine v_iconst dX0_add_27 ?_
    refine v_aload_n dX0_add_28 rfl ?_
    refine v_getI' (v := (Q.1 : Int)) hn fX0_19 rfl (by assumption) dX0_add_29 ?_
    refine v_ishl (z := ((2 ^ Q.1 : Nat) : Int)) (sh_l _ hf) dX0_add_32 ?_
    refine v_iload_n dX0_add_33 rfl ?_
    refine v_ior (z := ((2 ^ Q.1 ||| Q.2.1 (x).toNat : Nat) : Int)) (or_nat _ _) dX0_add_34 ?_
    refine v_iast (i := Q.1) (by assumption) (by omega) (by omega) (by omega) ⟨by have := or_lt (pow_lt hf) (hA (x).toNat (by omega)).2; omega, by have := or_lt (pow_lt hf) (hA (x).toNat (by omega)).2; omega⟩ dX0_add_35 ?_
    have rng2 := w_rng (a := c + 1) (f := Q.1) rng (show inR (((2 ^ Q.1 ||| Q.2.1 (x).toNat : Nat) : Int)) from ⟨by have := or_lt (pow_lt hf) (hA (x).toNat (by omega)).2; omega, by have := or_lt (pow_lt hf) (hA (x).toNat (by omega)).2; omega⟩)
    refine v_aload_n dX0_add_36 rfl ?_
    refine v_getR fX0_15 rfl (by assumption) (by assumption) dX0_add_37 ?_
    refine v_aload_n dX0_add_40 rfl ?_
    refine v_getI' (v := (Q.1 : Int)) (by rw [w_up_n (by omega), hn]) fX0_19 rfl (by assumption) dX0_add_41 ?_
    refine v_iload_n dX0_add_44 rfl ?_
    refine v_iconst dX0_add_45 ?_
    refine v_icmp_ne hx ⟨by decide, by decide⟩ dX0_add_46 (fun h => by exfalso; omega) (fun hb46 => ?_)
    refine v_iconst dX0_add_49 ?_
    refine v_goto dX0_add_50 ?_
    refine v_zast (i := Q.1) (by assumption) (by omega) (by omega) (by omega) (Or.inr rfl) dX0_add_54 ?_
    have rng3 := w_rng (a := c + 2) (f := Q.1) rng2 (show inR (1) from ⟨by decide, by decide⟩)
    refine v_aload_n dX0_add_55 rfl ?_
    refine v_dup dX0_add_56 rfl ?_
    refine v_getI' (v := (Q.1 : Int)) (by rw [w_up_n (by omega), w_up_n (by omega), hn]) fX0_19 rfl (by assumption) dX0_add_57 ?_
    refine v_iconst dX0_add_60 ?_
    refine v_iadd dX0_add_61 ?_
    refine v_putI fX0_19 p0_2 rfl ⟨by omega, by omega⟩ (by assumption) dX0_add_62 ?_
    have rng4 := w_rng (a := c) (f := 2) rng3 (show inR (((Q.1 : Int) + 1)) from ⟨by omega, by omega⟩)
    refine v_aload_n dX0_add_65 rfl ?_
    refine v_getI' (v := ((Q.1 : Int) + 1)) (by rw [w_up_s]) fX0_19 rfl (by assumption) dX0_add_66 ?_
    refine v_iconst dX0_add_69 ?_
    refine v_isub dX0_add_70 ?_
    exact v_iret rfl (by decide) (by decide) ⟨by omega, by omega⟩ dX0_add_71 ⟨(by omega), rfl, rfl⟩
  · refine v_aload_n dX0_add_0 rfl ?_
    refine v_iload_n dX0_add_1 rfl ?_
    refine v_Vb (tX0_has hC0 hQ0 hx) kX0_23 (by assumption) rfl rfl ⟨by decide, by decide⟩ ⟨by decide, by decide⟩ (Nat.le_of_ble_eq_true rfl) dX0_add_2 (fun h1 => ?_) (fun h1 => by exfalso; omega)
    refine v_if_eq ⟨by decide, by decide⟩ dX0_add_5 (fun h => by exfalso; omega) (fun hb5 => ?_)
    refine v_aload_n dX0_add_8 rfl ?_
    refine v_getR fX0_9 rfl (by assumption) (by assumption) dX0_add_9 ?_
    refine v_iload_n dX0_add_12 rfl ?_
    refine v_iald' (i := (x).toNat) (v := ((Q.2.1 (x).toNat : Nat) : Int)) (hA (x).toNat (by omega)).1 (by assumption) (by omega) (by omega) (by omega) dX0_add_13 ?_
    refine v_goto dX0_add_14 ?_
    refine v_istore_n dX0_add_18 (by decide) rfl ?_
    refine v_aload_n dX0_add_19 rfl ?_
    refine v_getR fX0_9 rfl (by assumption) (by assumption) dX0_add_20 ?_
    refine v_aload_n dX0_add_23 rfl ?_
    refine v_getI' (v := (Q.1 : Int)) hn fX0_19 rfl (by assumption) dX0_add_24 ?_
    refine v_iconst dX0_add_27 ?_
    refine v_aload_n dX0_add_28 rfl ?_
    refine v_getI' (v := (Q.1 : Int)) hn fX0_19 rfl (by assumption) dX0_add_29 ?_
    refine v_ishl (z := ((2 ^ Q.1 : Nat) : Int)) (sh_l _ hf) dX0_add_32 ?_
    refine v_iload_n dX0_add_33 rfl ?_
    refine v_ior (z := ((2 ^ Q.1 ||| Q.2.1 (x).toNat : Nat) : Int)) (or_nat _ _) dX0_add_34 ?_
    refine v_iast (i := Q.1) (by assumption) (by omega) (by omega) (by omega) ⟨by have := or_lt (pow_lt hf) (hA (x).toNat (by omega)).2; omega, by have := or_lt (pow_lt hf) (hA (x).toNat (by omega)).2; omega⟩ dX0_add_35 ?_
    have rng2 := w_rng (a := c + 1) (f := Q.1) rng (show inR (((2 ^ Q.1 ||| Q.2.1 (x).toNat : Nat) : Int)) from ⟨by have := or_lt (pow_lt hf) (hA (x).toNat (by omega)).2; omega, by have := or_lt (pow_lt hf) (hA (x).toNat (by omega)).2; omega⟩)
    refine v_aload_n dX0_add_36 rfl ?_
    refine v_getR fX0_15 rfl (by assumption) (by assumption) dX0_add_37 ?_
    refine v_aload_n dX0_add_40 rfl ?_
    refine v_getI' (v := (Q.1 : Int)) (by rw [w_up_n (by omega), hn]) fX0_19 rfl (by assumption) dX0_add_41 ?_
    refine v_iload_n dX0_add_44 rfl ?_
    refine v_iconst dX0_add_45 ?_
    refine v_icmp_ne hx ⟨by decide, by decide⟩ dX0_add_46 (fun hb46 => ?_) (fun h => by exfalso; omega)
    refine v_iconst dX0_add_53 ?_
    refine v_zast (i := Q.1) (by assumption) (by omega) (by omega) (by omega) (Or.inl rfl) dX0_add_54 ?_
    have rng3 := w_rng (a := c + 2) (f := Q.1) rng2 (show inR (0) from ⟨by decide, by decide⟩)
    refine v_aload_n dX0_add_55 rfl ?_
    refine v_dup dX0_add_56 rfl ?_
    refine v_getI' (v := (Q.1 : Int)) (by rw [w_up_n (by omega), w_up_n (by omega), hn]) fX0_19 rfl (by assumption) dX0_add_57 ?_
    refine v_iconst dX0_add_60 ?_
    refine v_iadd dX0_add_61 ?_
    refine v_putI fX0_19 p0_2 rfl ⟨by omega, by omega⟩ (by assumption) dX0_add_62 ?_
    have rng4 := w_rng (a := c) (f := 2) rng3 (show inR (((Q.1 : Int) + 1)) from ⟨by omega, by omega⟩)
    refine v_aload_n dX0_add_65 rfl ?_
    refine v_getI' (v := ((Q.1 : Int) + 1)) (by rw [w_up_s]) fX0_19 rfl (by assumption) dX0_add_66 ?_
    refine v_iconst dX0_add_69 ?_
    refine v_isub dX0_add_70 ?_
    exact v_iret rfl (by decide) (by decide) ⟨by omega, by omega⟩ dX0_add_71 ⟨(by omega), rfl, rfl⟩
  · refine v_aload_n dX0_add_0 rfl ?_
    refine v_iload_n dX0_add_1 rfl ?_
    refine v_Vb (tX0_has hC0 hQ0 hx) kX0_23 (by assumption) rfl rfl ⟨by decide, by decide⟩ ⟨by decide, by decide⟩ (Nat.le_of_ble_eq_true rfl) dX0_add_2 (fun h1 => by exfalso; omega) (fun h1 => ?_)
    refine v_if_eq ⟨by decide, by decide⟩ dX0_add_5 (fun hb5 => ?_) (fun h => by exfalso; omega)
    refine v_iconst dX0_add_17 ?_
    refine v_istore_n dX0_add_18 (by decide) rfl ?_
    refine v_aload_n dX0_add_19 rfl ?_
    refine v_getR fX0_9 rfl (by assumption) (by assumption) dX0_add_20 ?_
    refine v_aload_n dX0_add_23 rfl ?_
    refine v_getI' (v := (Q.1 : Int)) hn fX0_19 rfl (by assumption) dX0_add_24 ?_
    refine v_iconst dX0_add_27 ?_
    refine v_aload_n dX0_add_28 rfl ?_
    refine v_getI' (v := (Q.1 : Int)) hn fX0_19 rfl (by assumption) dX0_add_29 ?_
    refine v_ishl (z := ((2 ^ Q.1 : Nat) : Int)) (sh_l _ hf) dX0_add_32 ?_
    refine v_iload_n dX0_add_33 rfl ?_
    refine v_ior (z := ((2 ^ Q.1 ||| 1 : Nat) : Int)) (or_nat _ _) dX0_add_34 ?_
    refine v_iast (i := Q.1) (by assumption) (by omega) (by omega) (by omega) ⟨by have := or_lt (pow_lt hf) (show 1 < 65536 by decide); omega, by have := or_lt (pow_lt hf) (show 1 < 65536 by decide); omega⟩ dX0_add_35 ?_
    have rng2 := w_rng (a := c + 1) (f := Q.1) rng (show inR (((2 ^ Q.1 ||| 1 : Nat) : Int)) from ⟨by have := or_lt (pow_lt hf) (show 1 < 65536 by decide); omega, by have := or_lt (pow_lt hf) (show 1 < 65536 by decide); omega⟩)
    refine v_aload_n dX0_add_36 rfl ?_
    refine v_getR fX0_15 rfl (by assumption) (by assumption) dX0_add_37 ?_
    refine v_aload_n dX0_add_40 rfl ?_
    refine v_getI' (v := (Q.1 : Int)) (by rw [w_up_n (by omega), hn]) fX0_19 rfl (by assumption) dX0_add_41 ?_
    refine v_iload_n dX0_add_44 rfl ?_
    refine v_iconst dX0_add_45 ?_
    refine v_icmp_ne hx ⟨by decide, by decide⟩ dX0_add_46 (fun h => by exfalso; omega) (fun hb46 => ?_)
    refine v_iconst dX0_add_49 ?_
    refine v_goto dX0_add_50 ?_
    refine v_zast (i := Q.1) (by assumption) (by omega) (by omega) (by omega) (Or.inr rfl) dX0_add_54 ?_
    have rng3 := w_rng (a := c + 2) (f := Q.1) rng2 (show inR (1) from ⟨by decide, by decide⟩)
    refine v_aload_n dX0_add_55 rfl ?_
    refine v_dup dX0_add_56 rfl ?_
    refine v_getI' (v := (Q.1 : Int)) (by rw [w_up_n (by omega), w_up_n (by omega), hn]) fX0_19 rfl (by assumption) dX0_add_57 ?_
    refine v_iconst dX0_add_60 ?_
    refine v_iadd dX0_add_61 ?_
    refine v_putI fX0_19 p0_2 rfl ⟨by omega, by omega⟩ (by assumption) dX0_add_62 ?_
    have rng4 := w_rng (a := c) (f := 2) rng3 (show inR (((Q.1 : Int) + 1)) from ⟨by omega, by omega⟩)
    refine v_aload_n dX0_add_65 rfl ?_
    refine v_getI' (v := ((Q.1 : Int) + 1)) (by rw [w_up_s]) fX0_19 rfl (by assumption) dX0_add_66 ?_
    refine v_iconst dX0_add_69 ?_
    refine v_isub dX0_add_70 ?_
    exact v_iret rfl (by decide) (by decide) ⟨by omega, by omega⟩ dX0_add_71 ⟨(by omega), rfl, rfl⟩
  · refine v_aload_n dX0_add_0 rfl ?_
    refine v_iload_n dX0_add_1 rfl ?_
    refine v_Vb (tX0_has hC0 hQ0 hx) kX0_23 (by assumption) rfl rfl ⟨by decide, by decide⟩ ⟨by decide, by decide⟩ (Nat.le_of_ble_eq_true rfl) dX0_add_2 (fun h1 => by exfalso; omega) (fun h1 => ?_)
    refine v_if_eq ⟨by decide, by decide⟩ dX0_add_5 (fun hb5 => ?_) (fun h => by exfalso; omega)
    refine v_iconst dX0_add_17 ?_
    refine v_istore_n dX0_add_18 (by decide) rfl ?_
    refine v_aload_n dX0_add_19 rfl ?_
    refine v_getR fX0_9 rfl (by assumption) (by assumption) dX0_add_20 ?_
    refine v_aload_n dX0_add_23 rfl ?_
    refine v_getI' (v := (Q.1 : Int)) hn fX0_19 rfl (by assumption) dX0_add_24 ?_
    refine v_iconst dX0_add_27 ?_
    refine v_aload_n dX0_add_28 rfl ?_
    refine v_getI' (v := (Q.1 : Int)) hn fX0_19 rfl (by assumption) dX0_add_29 ?_
    refine v_ishl (z := ((2 ^ Q.1 : Nat) : Int)) (sh_l _ hf) dX0_add_32 ?_
    refine v_iload_n dX0_add_33 rfl ?_
    refine v_ior (z := ((2 ^ Q.1 ||| 1 : Nat) : Int)) (or_nat _ _) dX0_add_34 ?_
    refine v_iast (i := Q.1) (by assumption) (by omega) (by omega) (by omega) ⟨by have := or_lt (pow_lt hf) (show 1 < 65536 by decide); omega, by have := or_lt (pow_lt hf) (show 1 < 65536 by decide); omega⟩ dX0_add_35 ?_
    have rng2 := w_rng (a := c + 1) (f := Q.1) rng (show inR (((2 ^ Q.1 ||| 1 : Nat) : Int)) from ⟨by have := or_lt (pow_lt hf) (show 1 < 65536 by decide); omega, by have := or_lt (pow_lt hf) (show 1 < 65536 by decide); omega⟩)
    refine v_aload_n dX0_add_36 rfl ?_
    refine v_getR fX0_15 rfl (by assumption) (by assumption) dX0_add_37 ?_
    refine v_aload_n dX0_add_40 rfl ?_
    refine v_getI' (v := (Q.1 : Int)) (by rw [w_up_n (by omega), hn]) fX0_19 rfl (by assumption) dX0_add_41 ?_
    refine v_iload_n dX0_add_44 rfl ?_
    refine v_iconst dX0_add_45 ?_
    refine v_icmp_ne hx ⟨by decide, by decide⟩ dX0_add_46 (fun hb46 => ?_) (fun h => by exfalso; omega)
    refine v_iconst dX0_add_53 ?_
    refine v_zast (i := Q.1) (by assumption) (by omega) (by omega) (by omega) (Or.inl rfl) dX0_add_54 ?_
    have rng3 := w_rng (a := c + 2) (f := Q.1) rng2 (show inR (0) from ⟨by decide, by decide⟩)
    refine v_aload_n dX0_add_55 rfl ?_
    refine v_dup dX0_add_56 rfl ?_
    refine v_getI' (v := (Q.1 : Int)) (by rw [w_up_n (by omega), w_up_n (by omega), hn]) fX0_19 rfl (by assumption) dX0_add_57 ?_
    refine v_iconst dX0_add_60 ?_
    refine v_iadd dX0_add_61 ?_
    refine v_putI fX0_19 p0_2 rfl ⟨by omega, by omega⟩ (by assumption) dX0_add_62 ?_
    have rng4 := w_rng (a := c) (f := 2) rng3 (show inR (((Q.1 : Int) + 1)) from ⟨by omega, by omega⟩)
    refine v_aload_n dX0_add_65 rfl ?_
    refine v_getI' (v := ((Q.1 : Int) + 1)) (by rw [w_up_s]) fX0_19 rfl (by assumption) dX0_add_66 ?_
    refine v_iconst dX0_add_69 ?_
    refine v_isub dX0_add_70 ?_
    exact v_iret rfl (by decide) (by decide) ⟨by omega, by omega⟩ dX0_add_71 ⟨(by omega), rfl, rfl⟩
theorem tX3_isOfClass {E : w_E} {G : w_Sh} {I : w_Mm} {q c : Nat} {Q : cS} (hK : isK G q c) (hQ : clsOK I c Q) {k : Int} (hk : inR k) : w_Cb E mX3_isOfClass 1 [.ref q, iv k] G I (ofC Q k) := by
  obtain ⟨hTq, hRq, hC⟩ := hK
  refine w_Ct.of (ls := [some (.ref q), some (iv k)]) (by decide +kernel) (Nat.le_of_ble_eq_true rfl) rfl rfl (fun rng => ?_)
  refine v_iload_n dX3_isOfClass_0 rfl ?_
  refine v_Sb (tX3_isThing hk) kX3_15 rfl rfl ⟨by decide, by decide⟩ ⟨by decide, by decide⟩ (Nat.le_of_ble_eq_true rfl) dX3_isOfClass_1 (fun h1 => ?_) (fun h1 => ?_)
  · refine v_if_eq ⟨by decide, by decide⟩ dX3_isOfClass_4 (fun h => by exfalso; omega) (fun hb4 => ?_)
    refine v_aload_n dX3_isOfClass_7 rfl ?_
    refine v_getR fX3_9 rfl (by assumption) (by assumption) dX3_isOfClass_8 ?_
    refine v_iload_n dX3_isOfClass_11 rfl ?_
    refine v_bipush dX3_isOfClass_12 (by decide) ?_
    refine v_isub dX3_isOfClass_14 ?_
    refine v_Vb (tX0_has hC hQ ⟨by omega, by omega⟩) kX3_19 hC.1 rfl rfl ⟨by decide, by decide⟩ ⟨by decide, by decide⟩ (Nat.le_of_ble_eq_true rfl) dX3_isOfClass_15 (fun h2 => ?_) (fun h2 => ?_)
    · refine v_if_ne ⟨by decide, by decide⟩ dX3_isOfClass_18 (fun hb18 => ?_) (fun h => by exfalso; omega)
      refine v_iconst dX3_isOfClass_42 ?_
      refine v_goto dX3_isOfClass_43 ?_
      exact v_zret rfl (by decide) (by decide) (Or.inr rfl) dX3_isOfClass_47 ⟨rfl, rfl, Or.inl ⟨rfl, by omega⟩⟩
    · refine v_if_ne ⟨by decide, by decide⟩ dX3_isOfClass_18 (fun h => by exfalso; omega) (fun hb18 => ?_)
      refine v_iload_n dX3_isOfClass_21 rfl ?_
      refine v_Sb (tX3_isThingRow hk) kX3_24 rfl rfl ⟨by decide, by decide⟩ ⟨by decide, by decide⟩ (Nat.le_of_ble_eq_true rfl) dX3_isOfClass_22 (fun h3 => ?_) (fun h3 => ?_)
      · refine v_if_eq ⟨by decide, by decide⟩ dX3_isOfClass_25 (fun h => by exfalso; omega) (fun hb25 => ?_)
        refine v_aload_n dX3_isOfClass_28 rfl ?_
        refine v_getR fX3_9 rfl (by assumption) (by assumption) dX3_isOfClass_29 ?_
        refine v_iload_n dX3_isOfClass_32 rfl ?_
        refine v_bipush dX3_isOfClass_33 (by decide) ?_
        refine v_isub dX3_isOfClass_35 ?_
        refine v_Vb (tX0_has hC hQ ⟨by omega, by omega⟩) kX3_19 hC.1 rfl rfl ⟨by decide, by decide⟩ ⟨by decide, by decide⟩ (Nat.le_of_ble_eq_true rfl) dX3_isOfClass_36 (fun h4 => ?_) (fun h4 => ?_)
        · refine v_if_eq ⟨by decide, by decide⟩ dX3_isOfClass_39 (fun h => by exfalso; omega) (fun hb39 => ?_)
          refine v_iconst dX3_isOfClass_42 ?_
          refine v_goto dX3_isOfClass_43 ?_
          exact v_zret rfl (by decide) (by decide) (Or.inr rfl) dX3_isOfClass_47 ⟨rfl, rfl, Or.inl ⟨rfl, by omega⟩⟩
        · refine v_if_eq ⟨by decide, by decide⟩ dX3_isOfClass_39 (fun hb39 => ?_) (fun h => by exfalso; omega)
          refine v_iconst dX3_isOfClass_46 ?_
          exact v_zret rfl (by decide) (by decide) (Or.inl rfl) dX3_isOfClass_47 ⟨rfl, rfl, Or.inr ⟨rfl, by omega⟩⟩
      · refine v_if_eq ⟨by decide, by decide⟩ dX3_isOfClass_25 (fun hb25 => ?_) (fun h => by exfalso; omega)
        refine v_iconst dX3_isOfClass_46 ?_
        exact v_zret rfl (by decide) (by decide) (Or.inl rfl) dX3_isOfClass_47 ⟨rfl, rfl, Or.inr ⟨rfl, by omega⟩⟩
  · refine v_if_eq ⟨by decide, by decide⟩ dX3_isOfClass_4 (fun hb4 => ?_) (fun h => by exfalso; omega)
    refine v_iload_n dX3_isOfClass_21 rfl ?_
    refine v_Sb (tX3_isThingRow hk) kX3_24 rfl rfl ⟨by decide, by decide⟩ ⟨by decide, by decide⟩ (Nat.le_of_ble_eq_true rfl) dX3_isOfClass_22 (fun h5 => ?_) (fun h5 => ?_)
    · refine v_if_eq ⟨by decide, by decide⟩ dX3_isOfClass_25 (fun h => by exfalso; omega) (fun hb25 => ?_)
      refine v_aload_n dX3_isOfClass_28 rfl ?_
      refine v_getR fX3_9 rfl (by assumption) (by assumption) dX3_isOfClass_29 ?_
      refine v_iload_n dX3_isOfClass_32 rfl ?_
      refine v_bipush dX3_isOfClass_33 (by decide) ?_
      refine v_isub dX3_isOfClass_35 ?_
      refine v_Vb (tX0_has hC hQ ⟨by omega, by omega⟩) kX3_19 hC.1 rfl rfl ⟨by decide, by decide⟩ ⟨by decide, by decide⟩ (Nat.le_of_ble_eq_true rfl) dX3_isOfClass_36 (fun h6 => ?_) (fun h6 => ?_)
      · refine v_if_eq ⟨by decide, by decide⟩ dX3_isOfClass_39 (fun h => by exfalso; omega) (fun hb39 => ?_)
        refine v_iconst dX3_isOfClass_42 ?_
        refine v_goto dX3_isOfClass_43 ?_
        exact v_zret rfl (by decide) (by decide) (Or.inr rfl) dX3_isOfClass_47 ⟨rfl, rfl, Or.inl ⟨rfl, by omega⟩⟩
      · refine v_if_eq ⟨by decide, by decide⟩ dX3_isOfClass_39 (fun hb39 => ?_) (fun h => by exfalso; omega)
        refine v_iconst dX3_isOfClass_46 ?_
        exact v_zret rfl (by decide) (by decide) (Or.inl rfl) dX3_isOfClass_47 ⟨rfl, rfl, Or.inr ⟨rfl, by omega⟩⟩
    · refine v_if_eq ⟨by decide, by decide⟩ dX3_isOfClass_25 (fun hb25 => ?_) (fun h => by exfalso; omega)
      refine v_iconst dX3_isOfClass_46 ?_
      exact v_zret rfl (by decide) (by decide) (Or.inl rfl) dX3_isOfClass_47 ⟨rfl, rfl, Or.inr ⟨rfl, by omega⟩⟩
theorem tX3_isKnown {E : w_E} {G : w_Sh} {I : w_Mm} {q c : Nat} {Q : cS} (hK : isK G q c) (hQ : clsOK I c Q) {k : Int} (hk : inR k) : w_Cb E mX3_isKnown 2 [.ref q, iv k] G I (knownK Q k) := by
  obtain ⟨hTq, hRq, hC⟩ := hK
  refine w_Ct.of (ls := [some (.ref q), some (iv k)]) (by decide +kernel) (Nat.le_of_ble_eq_true rfl) rfl rfl (fun rng => ?_)
  refine v_iload_n dX3_isKnown_0 rfl ?_
  refine v_if_lt hk dX3_isKnown_1 (fun h1 => ?_) (fun h1 => ?_)
  · refine v_aload_n dX3_isKnown_9 rfl ?_
    refine v_iload_n dX3_isKnown_10 rfl ?_
    refine v_Vb (tX3_isOfClass ⟨hTq, hRq, hC⟩ hQ hk) kX3_27 (by assumption) rfl rfl ⟨by decide, by decide⟩ ⟨by decide, by decide⟩ (Nat.le_of_ble_eq_true rfl) dX3_isKnown_11 (fun h2 => ?_) (fun h2 => ?_)
    · refine v_if_ne ⟨by decide, by decide⟩ dX3_isKnown_14 (fun hb14 => ?_) (fun h => by exfalso; omega)
      refine v_iconst dX3_isKnown_30 ?_
      refine v_goto dX3_isKnown_31 ?_
      exact v_zret rfl (by decide) (by decide) (Or.inr rfl) dX3_isKnown_35 ⟨rfl, rfl, Or.inl ⟨rfl, by omega⟩⟩
    · refine v_if_ne ⟨by decide, by decide⟩ dX3_isKnown_14 (fun h => by exfalso; omega) (fun hb14 => ?_)
      refine v_iload_n dX3_isKnown_17 rfl ?_
      refine v_bipush dX3_isKnown_18 (by decide) ?_
      refine v_icmp_lt hk ⟨by decide, by decide⟩ dX3_isKnown_20 (fun h3 => ?_) (fun h3 => ?_)
      · refine v_iconst dX3_isKnown_34 ?_
        exact v_zret rfl (by decide) (by decide) (Or.inl rfl) dX3_isKnown_35 ⟨rfl, rfl, Or.inr ⟨rfl, by omega⟩⟩
      · refine v_iload_n dX3_isKnown_23 rfl ?_
        refine v_sipush dX3_isKnown_24 (by decide) ?_
        refine v_icmp_ge hk ⟨by decide, by decide⟩ dX3_isKnown_27 (fun h4 => ?_) (fun h4 => ?_)
        · refine v_iconst dX3_isKnown_34 ?_
          exact v_zret rfl (by decide) (by decide) (Or.inl rfl) dX3_isKnown_35 ⟨rfl, rfl, Or.inr ⟨rfl, by omega⟩⟩
        · refine v_iconst dX3_isKnown_30 ?_
          refine v_goto dX3_isKnown_31 ?_
          exact v_zret rfl (by decide) (by decide) (Or.inr rfl) dX3_isKnown_35 ⟨rfl, rfl, Or.inl ⟨rfl, by omega⟩⟩
  · refine v_iload_n dX3_isKnown_4 rfl ?_
    refine v_iconst dX3_isKnown_5 ?_
    refine v_icmp_le hk ⟨by decide, by decide⟩ dX3_isKnown_6 (fun h5 => ?_) (fun h5 => ?_)
    · refine v_iconst dX3_isKnown_30 ?_
      refine v_goto dX3_isKnown_31 ?_
      exact v_zret rfl (by decide) (by decide) (Or.inr rfl) dX3_isKnown_35 ⟨rfl, rfl, Or.inl ⟨rfl, by omega⟩⟩
    · refine v_aload_n dX3_isKnown_9 rfl ?_
      refine v_iload_n dX3_isKnown_10 rfl ?_
      refine v_Vb (tX3_isOfClass ⟨hTq, hRq, hC⟩ hQ hk) kX3_27 (by assumption) rfl rfl ⟨by decide, by decide⟩ ⟨by decide, by decide⟩ (Nat.le_of_ble_eq_true rfl) dX3_isKnown_11 (fun h6 => ?_) (fun h6 => ?_)
      · refine v_if_ne ⟨by decide, by decide⟩ dX3_isKnown_14 (fun hb14 => ?_) (fun h => by exfalso; omega)
        refine v_iconst dX3_isKnown_30 ?_
        refine v_goto dX3_isKnown_31 ?_
        exact v_zret rfl (by decide) (by decide) (Or.inr rfl) dX3_isKnown_35 ⟨rfl, rfl, Or.inl ⟨rfl, by omega⟩⟩
      · refine v_if_ne ⟨by decide, by decide⟩ dX3_isKnown_14 (fun h => by exfalso; omega) (fun hb14 => ?_)
        refine v_iload_n dX3_isKnown_17 rfl ?_
        refine v_bipush dX3_isKnown_18 (by decide) ?_
        refine v_icmp_lt hk ⟨by decide, by decide⟩ dX3_isKnown_20 (fun h7 => ?_) (fun h7 => ?_)
        · refine v_iconst dX3_isKnown_34 ?_
          exact v_zret rfl (by decide) (by decide) (Or.inl rfl) dX3_isKnown_35 ⟨rfl, rfl, Or.inr ⟨rfl, by omega⟩⟩
        · refine v_iload_n dX3_isKnown_23 rfl ?_
          refine v_sipush dX3_isKnown_24 (by decide) ?_
          refine v_icmp_ge hk ⟨by decide, by decide⟩ dX3_isKnown_27 (fun h8 => ?_) (fun h8 => ?_)
          · refine v_iconst dX3_isKnown_34 ?_
            exact v_zret rfl (by decide) (by decide) (Or.inl rfl) dX3_isKnown_35 ⟨rfl, rfl, Or.inr ⟨rfl, by omega⟩⟩
          · refine v_iconst dX3_isKnown_30 ?_
            refine v_goto dX3_isKnown_31 ?_
            exact v_zret rfl (by decide) (by decide) (Or.inr rfl) dX3_isKnown_35 ⟨rfl, rfl, Or.inl ⟨rfl, by omega⟩⟩
theorem tX3_isArgument {E : w_E} {G : w_Sh} {I : w_Mm} {q c : Nat} {Q : cS} (hK : isK G q c) (hQ : clsOK I c Q) {k : Int} (hk : inR k) : w_Cb E mX3_isArgument 2 [.ref q, iv k] G I (argK Q k) := by
  obtain ⟨hTq, hRq, hC⟩ := hK
  refine w_Ct.of (ls := [some (.ref q), some (iv k)]) (by decide +kernel) (Nat.le_of_ble_eq_true rfl) rfl rfl (fun rng => ?_)
  refine v_iload_n dX3_isArgument_0 rfl ?_
  refine v_iconst dX3_isArgument_1 ?_
  refine v_icmp_eq hk ⟨by decide, by decide⟩ dX3_isArgument_2 (fun h1 => ?_) (fun h1 => ?_)
  · refine v_iconst dX3_isArgument_23 ?_
    refine v_goto dX3_isArgument_24 ?_
    exact v_zret rfl (by decide) (by decide) (Or.inr rfl) dX3_isArgument_28 ⟨rfl, rfl, Or.inl ⟨rfl, by omega⟩⟩
  · refine v_iload_n dX3_isArgument_5 rfl ?_
    refine v_iconst dX3_isArgument_6 ?_
    refine v_icmp_eq hk ⟨by decide, by decide⟩ dX3_isArgument_7 (fun h2 => ?_) (fun h2 => ?_)
    · refine v_iconst dX3_isArgument_23 ?_
      refine v_goto dX3_isArgument_24 ?_
      exact v_zret rfl (by decide) (by decide) (Or.inr rfl) dX3_isArgument_28 ⟨rfl, rfl, Or.inl ⟨rfl, by omega⟩⟩
    · refine v_iload_n dX3_isArgument_10 rfl ?_
      refine v_iconst dX3_isArgument_11 ?_
      refine v_icmp_eq hk ⟨by decide, by decide⟩ dX3_isArgument_12 (fun h3 => ?_) (fun h3 => ?_)
      · refine v_iconst dX3_isArgument_23 ?_
        refine v_goto dX3_isArgument_24 ?_
        exact v_zret rfl (by decide) (by decide) (Or.inr rfl) dX3_isArgument_28 ⟨rfl, rfl, Or.inl ⟨rfl, by omega⟩⟩
      · refine v_aload_n dX3_isArgument_15 rfl ?_
        refine v_iload_n dX3_isArgument_16 rfl ?_
        refine v_Vb (tX3_isOfClass ⟨hTq, hRq, hC⟩ hQ hk) kX3_27 (by assumption) rfl rfl ⟨by decide, by decide⟩ ⟨by decide, by decide⟩ (Nat.le_of_ble_eq_true rfl) dX3_isArgument_17 (fun h4 => ?_) (fun h4 => ?_)
        · refine v_if_eq ⟨by decide, by decide⟩ dX3_isArgument_20 (fun h => by exfalso; omega) (fun hb20 => ?_)
          refine v_iconst dX3_isArgument_23 ?_
          refine v_goto dX3_isArgument_24 ?_
          exact v_zret rfl (by decide) (by decide) (Or.inr rfl) dX3_isArgument_28 ⟨rfl, rfl, Or.inl ⟨rfl, by omega⟩⟩
        · refine v_if_eq ⟨by decide, by decide⟩ dX3_isArgument_20 (fun hb20 => ?_) (fun h => by exfalso; omega)
          refine v_iconst dX3_isArgument_27 ?_
          exact v_zret rfl (by decide) (by decide) (Or.inl rfl) dX3_isArgument_28 ⟨rfl, rfl, Or.inr ⟨rfl, by omega⟩⟩
theorem tX3_isResult {E : w_E} {G : w_Sh} {I : w_Mm} {q c : Nat} {Q : cS} (hK : isK G q c) (hQ : clsOK I c Q) {k : Int} (hk : inR k) : w_Cb E mX3_isResult 3 [.ref q, iv k] G I (resK Q k) := by
  obtain ⟨hTq, hRq, hC⟩ := hK
  refine w_Ct.of (ls := [some (.ref q), some (iv k)]) (by decide +kernel) (Nat.le_of_ble_eq_true rfl) rfl rfl (fun rng => ?_)
  refine v_iload_n dX3_isResult_0 rfl ?_
  refine v_if_eq hk dX3_isResult_1 (fun h1 => ?_) (fun h1 => ?_)
  · refine v_iconst dX3_isResult_12 ?_
    refine v_goto dX3_isResult_13 ?_
    exact v_zret rfl (by decide) (by decide) (Or.inr rfl) dX3_isResult_17 ⟨rfl, rfl, Or.inl ⟨rfl, by omega⟩⟩
  · refine v_aload_n dX3_isResult_4 rfl ?_
    refine v_iload_n dX3_isResult_5 rfl ?_
    refine v_Vb (tX3_isArgument ⟨hTq, hRq, hC⟩ hQ hk) kX3_30 (by assumption) rfl rfl ⟨by decide, by decide⟩ ⟨by decide, by decide⟩ (Nat.le_of_ble_eq_true rfl) dX3_isResult_6 (fun h2 => ?_) (fun h2 => ?_)
    · refine v_if_eq ⟨by decide, by decide⟩ dX3_isResult_9 (fun h => by exfalso; omega) (fun hb9 => ?_)
      refine v_iconst dX3_isResult_12 ?_
      refine v_goto dX3_isResult_13 ?_
      exact v_zret rfl (by decide) (by decide) (Or.inr rfl) dX3_isResult_17 ⟨rfl, rfl, Or.inl ⟨rfl, by omega⟩⟩
    · refine v_if_eq ⟨by decide, by decide⟩ dX3_isResult_9 (fun hb9 => ?_) (fun h => by exfalso; omega)
      refine v_iconst dX3_isResult_16 ?_
      exact v_zret rfl (by decide) (by decide) (Or.inl rfl) dX3_isResult_17 ⟨rfl, rfl, Or.inr ⟨rfl, by omega⟩⟩
theorem tX3_suits {E : w_E} {G : w_Sh} {I : w_Mm} {q c : Nat} {Q : cS} (hK : isK G q c) (hQ : clsOK I c Q) {k l : Int} (hk : inR k) (hl : inR l) : w_Cb E mX3_suits 1 [.ref q, iv k, iv l] G I (fitK Q k l) := by
  obtain ⟨hTq, hRq, hC⟩ := hK
  refine w_Ct.of (ls := [some (.ref q), some (iv k), some (iv l)]) (by decide +kernel) (Nat.le_of_ble_eq_true rfl) rfl rfl (fun rng => ?_)
  refine v_iload_n dX3_suits_0 rfl ?_
  refine v_iload_n dX3_suits_1 rfl ?_
  refine v_icmp_ne hk hl dX3_suits_2 (fun h1 => ?_) (fun h1 => ?_)
  · refine v_iload_n dX3_suits_7 rfl ?_
    refine v_iconst dX3_suits_8 ?_
    refine v_icmp_ne hk ⟨by decide, by decide⟩ dX3_suits_9 (fun h2 => ?_) (fun h2 => ?_)
    · refine v_iload_n dX3_suits_17 rfl ?_
      refine v_Sb (tX3_isThing hk) kX3_15 rfl rfl ⟨by decide, by decide⟩ ⟨by decide, by decide⟩ (Nat.le_of_ble_eq_true rfl) dX3_suits_18 (fun h3 => ?_) (fun h3 => ?_)
      · refine v_if_eq ⟨by decide, by decide⟩ dX3_suits_21 (fun h => by exfalso; omega) (fun hb21 => ?_)
        refine v_iload_n dX3_suits_24 rfl ?_
        refine v_Sb (tX3_isThing hl) kX3_15 rfl rfl ⟨by decide, by decide⟩ ⟨by decide, by decide⟩ (Nat.le_of_ble_eq_true rfl) dX3_suits_25 (fun h4 => ?_) (fun h4 => ?_)
        · refine v_if_eq ⟨by decide, by decide⟩ dX3_suits_28 (fun h => by exfalso; omega) (fun hb28 => ?_)
          refine v_aload_n dX3_suits_31 rfl ?_
          refine v_getR fX3_9 rfl (by assumption) (by assumption) dX3_suits_32 ?_
          refine v_iload_n dX3_suits_35 rfl ?_
          refine v_bipush dX3_suits_36 (by decide) ?_
          refine v_isub dX3_suits_38 ?_
          refine v_iload_n dX3_suits_39 rfl ?_
          refine v_bipush dX3_suits_40 (by decide) ?_
          refine v_isub dX3_suits_42 ?_
          refine v_Vb (tX0_suits hC hQ ⟨by omega, by omega⟩ ⟨by omega, by omega⟩) kX3_36 hC.1 rfl rfl ⟨by decide, by decide⟩ ⟨by decide, by decide⟩ (Nat.le_of_ble_eq_true rfl) dX3_suits_43 (fun h5 => ?_) (fun h5 => ?_)
          · exact v_zret rfl (by decide) (by decide) (Or.inr rfl) dX3_suits_46 ⟨rfl, rfl, Or.inl ⟨rfl, by omega⟩⟩
          · exact v_zret rfl (by decide) (by decide) (Or.inl rfl) dX3_suits_46 ⟨rfl, rfl, Or.inr ⟨rfl, by omega⟩⟩
        · refine v_if_eq ⟨by decide, by decide⟩ dX3_suits_28 (fun hb28 => ?_) (fun h => by exfalso; omega)
          refine v_iload_n dX3_suits_47 rfl ?_
          refine v_Sb (tX3_isThingRow hk) kX3_24 rfl rfl ⟨by decide, by decide⟩ ⟨by decide, by decide⟩ (Nat.le_of_ble_eq_true rfl) dX3_suits_48 (fun h6 => ?_) (fun h6 => ?_)
          · refine v_if_eq ⟨by decide, by decide⟩ dX3_suits_51 (fun h => by exfalso; omega) (fun hb51 => ?_)
            refine v_iload_n dX3_suits_54 rfl ?_
            refine v_Sb (tX3_isThingRow hl) kX3_24 rfl rfl ⟨by decide, by decide⟩ ⟨by decide, by decide⟩ (Nat.le_of_ble_eq_true rfl) dX3_suits_55 (fun h7 => ?_) (fun h7 => ?_)
            · refine v_if_eq ⟨by decide, by decide⟩ dX3_suits_58 (fun h => by exfalso; omega) (fun hb58 => ?_)
              refine v_aload_n dX3_suits_61 rfl ?_
              refine v_getR fX3_9 rfl (by assumption) (by assumption) dX3_suits_62 ?_
              refine v_iload_n dX3_suits_65 rfl ?_
              refine v_bipush dX3_suits_66 (by decide) ?_
              refine v_isub dX3_suits_68 ?_
              refine v_iload_n dX3_suits_69 rfl ?_
              refine v_bipush dX3_suits_70 (by decide) ?_
              refine v_isub dX3_suits_72 ?_
              refine v_Vb (tX0_suits hC hQ ⟨by omega, by omega⟩ ⟨by omega, by omega⟩) kX3_36 hC.1 rfl rfl ⟨by decide, by decide⟩ ⟨by decide, by decide⟩ (Nat.le_of_ble_eq_true rfl) dX3_suits_73 (fun h8 => ?_) (fun h8 => ?_)
              · exact v_zret rfl (by decide) (by decide) (Or.inr rfl) dX3_suits_76 ⟨rfl, rfl, Or.inl ⟨rfl, by omega⟩⟩
              · exact v_zret rfl (by decide) (by decide) (Or.inl rfl) dX3_suits_76 ⟨rfl, rfl, Or.inr ⟨rfl, by omega⟩⟩
            · refine v_if_eq ⟨by decide, by decide⟩ dX3_suits_58 (fun hb58 => ?_) (fun h => by exfalso; omega)
              refine v_iload_n dX3_suits_77 rfl ?_
              refine v_iconst dX3_suits_78 ?_
              refine v_icmp_eq hk ⟨by decide, by decide⟩ dX3_suits_79 (fun h9 => ?_) (fun h9 => ?_)
              · refine v_iload_n dX3_suits_89 rfl ?_
                refine v_bipush dX3_suits_90 (by decide) ?_
                refine v_icmp_ne hl ⟨by decide, by decide⟩ dX3_suits_92 (fun h10 => ?_) (fun h10 => ?_)
                · refine v_iconst dX3_suits_99 ?_
                  exact v_zret rfl (by decide) (by decide) (Or.inl rfl) dX3_suits_100 ⟨rfl, rfl, Or.inr ⟨rfl, by omega⟩⟩
                · refine v_iconst dX3_suits_95 ?_
                  refine v_goto dX3_suits_96 ?_
                  exact v_zret rfl (by decide) (by decide) (Or.inr rfl) dX3_suits_100 ⟨rfl, rfl, Or.inl ⟨rfl, by omega⟩⟩
              · refine v_iload_n dX3_suits_82 rfl ?_
                refine v_Sb (tX3_isThingRow hk) kX3_24 rfl rfl ⟨by decide, by decide⟩ ⟨by decide, by decide⟩ (Nat.le_of_ble_eq_true rfl) dX3_suits_83 (fun h11 => ?_) (fun h11 => ?_)
                · refine v_if_eq ⟨by decide, by decide⟩ dX3_suits_86 (fun h => by exfalso; omega) (fun hb86 => ?_)
                  refine v_iload_n dX3_suits_89 rfl ?_
                  refine v_bipush dX3_suits_90 (by decide) ?_
                  refine v_icmp_ne hl ⟨by decide, by decide⟩ dX3_suits_92 (fun h12 => ?_) (fun h12 => ?_)
                  · refine v_iconst dX3_suits_99 ?_
                    exact v_zret rfl (by decide) (by decide) (Or.inl rfl) dX3_suits_100 ⟨rfl, rfl, Or.inr ⟨rfl, by omega⟩⟩
                  · refine v_iconst dX3_suits_95 ?_
                    refine v_goto dX3_suits_96 ?_
                    exact v_zret rfl (by decide) (by decide) (Or.inr rfl) dX3_suits_100 ⟨rfl, rfl, Or.inl ⟨rfl, by omega⟩⟩
                · refine v_if_eq ⟨by decide, by decide⟩ dX3_suits_86 (fun hb86 => ?_) (fun h => by exfalso; omega)
                  refine v_iconst dX3_suits_99 ?_
                  exact v_zret rfl (by decide) (by decide) (Or.inl rfl) dX3_suits_100 ⟨rfl, rfl, Or.inr ⟨rfl, by omega⟩⟩
          · refine v_if_eq ⟨by decide, by decide⟩ dX3_suits_51 (fun hb51 => ?_) (fun h => by exfalso; omega)
            refine v_iload_n dX3_suits_77 rfl ?_
            refine v_iconst dX3_suits_78 ?_
            refine v_icmp_eq hk ⟨by decide, by decide⟩ dX3_suits_79 (fun h13 => ?_) (fun h13 => ?_)
            · refine v_iload_n dX3_suits_89 rfl ?_
              refine v_bipush dX3_suits_90 (by decide) ?_
              refine v_icmp_ne hl ⟨by decide, by decide⟩ dX3_suits_92 (fun h14 => ?_) (fun h14 => ?_)
              · refine v_iconst dX3_suits_99 ?_
                exact v_zret rfl (by decide) (by decide) (Or.inl rfl) dX3_suits_100 ⟨rfl, rfl, Or.inr ⟨rfl, by omega⟩⟩
              · refine v_iconst dX3_suits_95 ?_
                refine v_goto dX3_suits_96 ?_
                exact v_zret rfl (by decide) (by decide) (Or.inr rfl) dX3_suits_100 ⟨rfl, rfl, Or.inl ⟨rfl, by omega⟩⟩
            · refine v_iload_n dX3_suits_82 rfl ?_
              refine v_Sb (tX3_isThingRow hk) kX3_24 rfl rfl ⟨by decide, by decide⟩ ⟨by decide, by decide⟩ (Nat.le_of_ble_eq_true rfl) dX3_suits_83 (fun h15 => ?_) (fun h15 => ?_)
              · refine v_if_eq ⟨by decide, by decide⟩ dX3_suits_86 (fun h => by exfalso; omega) (fun hb86 => ?_)
                refine v_iload_n dX3_suits_89 rfl ?_
                refine v_bipush dX3_suits_90 (by decide) ?_
                refine v_icmp_ne hl ⟨by decide, by decide⟩ dX3_suits_92 (fun h16 => ?_) (fun h16 => ?_)
                · refine v_iconst dX3_suits_99 ?_
                  exact v_zret rfl (by decide) (by decide) (Or.inl rfl) dX3_suits_100 ⟨rfl, rfl, Or.inr ⟨rfl, by omega⟩⟩
                · refine v_iconst dX3_suits_95 ?_
                  refine v_goto dX3_suits_96 ?_
                  exact v_zret rfl (by decide) (by decide) (Or.inr rfl) dX3_suits_100 ⟨rfl, rfl, Or.inl ⟨rfl, by omega⟩⟩
              · refine v_if_eq ⟨by decide, by decide⟩ dX3_suits_86 (fun hb86 => ?_) (fun h => by exfalso; omega)
                refine v_iconst dX3_suits_99 ?_
                exact v_zret rfl (by decide) (by decide) (Or.inl rfl) dX3_suits_100 ⟨rfl, rfl, Or.inr ⟨rfl, by omega⟩⟩
      · refine v_if_eq ⟨by decide, by decide⟩ dX3_suits_21 (fun hb21 => ?_) (fun h => by exfalso; omega)
        refine v_iload_n dX3_suits_47 rfl ?_
        refine v_Sb (tX3_isThingRow hk) kX3_24 rfl rfl ⟨by decide, by decide⟩ ⟨by decide, by decide⟩ (Nat.le_of_ble_eq_true rfl) dX3_suits_48 (fun h17 => ?_) (fun h17 => ?_)
        · refine v_if_eq ⟨by decide, by decide⟩ dX3_suits_51 (fun h => by exfalso; omega) (fun hb51 => ?_)
          refine v_iload_n dX3_suits_54 rfl ?_
          refine v_Sb (tX3_isThingRow hl) kX3_24 rfl rfl ⟨by decide, by decide⟩ ⟨by decide, by decide⟩ (Nat.le_of_ble_eq_true rfl) dX3_suits_55 (fun h18 => ?_) (fun h18 => ?_)
          · refine v_if_eq ⟨by decide, by decide⟩ dX3_suits_58 (fun h => by exfalso; omega) (fun hb58 => ?_)
            refine v_aload_n dX3_suits_61 rfl ?_
            refine v_getR fX3_9 rfl (by assumption) (by assumption) dX3_suits_62 ?_
            refine v_iload_n dX3_suits_65 rfl ?_
            refine v_bipush dX3_suits_66 (by decide) ?_
            refine v_isub dX3_suits_68 ?_
            refine v_iload_n dX3_suits_69 rfl ?_
            refine v_bipush dX3_suits_70 (by decide) ?_
            refine v_isub dX3_suits_72 ?_
            refine v_Vb (tX0_suits hC hQ ⟨by omega, by omega⟩ ⟨by omega, by omega⟩) kX3_36 hC.1 rfl rfl ⟨by decide, by decide⟩ ⟨by decide, by decide⟩ (Nat.le_of_ble_eq_true rfl) dX3_suits_73 (fun h19 => ?_) (fun h19 => ?_)
            · exact v_zret rfl (by decide) (by decide) (Or.inr rfl) dX3_suits_76 ⟨rfl, rfl, Or.inl ⟨rfl, by omega⟩⟩
            · exact v_zret rfl (by decide) (by decide) (Or.inl rfl) dX3_suits_76 ⟨rfl, rfl, Or.inr ⟨rfl, by omega⟩⟩
          · refine v_if_eq ⟨by decide, by decide⟩ dX3_suits_58 (fun hb58 => ?_) (fun h => by exfalso; omega)
            refine v_iload_n dX3_suits_77 rfl ?_
            refine v_iconst dX3_suits_78 ?_
            refine v_icmp_eq hk ⟨by decide, by decide⟩ dX3_suits_79 (fun h20 => ?_) (fun h20 => ?_)
            · refine v_iload_n dX3_suits_89 rfl ?_
              refine v_bipush dX3_suits_90 (by decide) ?_
              refine v_icmp_ne hl ⟨by decide, by decide⟩ dX3_suits_92 (fun h21 => ?_) (fun h21 => ?_)
              · refine v_iconst dX3_suits_99 ?_
                exact v_zret rfl (by decide) (by decide) (Or.inl rfl) dX3_suits_100 ⟨rfl, rfl, Or.inr ⟨rfl, by omega⟩⟩
              · refine v_iconst dX3_suits_95 ?_
                refine v_goto dX3_suits_96 ?_
                exact v_zret rfl (by decide) (by decide) (Or.inr rfl) dX3_suits_100 ⟨rfl, rfl, Or.inl ⟨rfl, by omega⟩⟩
            · refine v_iload_n dX3_suits_82 rfl ?_
              refine v_Sb (tX3_isThingRow hk) kX3_24 rfl rfl ⟨by decide, by decide⟩ ⟨by decide, by decide⟩ (Nat.le_of_ble_eq_true rfl) dX3_suits_83 (fun h22 => ?_) (fun h22 => ?_)
              · refine v_if_eq ⟨by decide, by decide⟩ dX3_suits_86 (fun h => by exfalso; omega) (fun hb86 => ?_)
                refine v_iload_n dX3_suits_89 rfl ?_
                refine v_bipush dX3_suits_90 (by decide) ?_
                refine v_icmp_ne hl ⟨by decide, by decide⟩ dX3_suits_92 (fun h23 => ?_) (fun h23 => ?_)
                · refine v_iconst dX3_suits_99 ?_
                  exact v_zret rfl (by decide) (by decide) (Or.inl rfl) dX3_suits_100 ⟨rfl, rfl, Or.inr ⟨rfl, by omega⟩⟩
                · refine v_iconst dX3_suits_95 ?_
                  refine v_goto dX3_suits_96 ?_
                  exact v_zret rfl (by decide) (by decide) (Or.inr rfl) dX3_suits_100 ⟨rfl, rfl, Or.inl ⟨rfl, by omega⟩⟩
              · refine v_if_eq ⟨by decide, by decide⟩ dX3_suits_86 (fun hb86 => ?_) (fun h => by exfalso; omega)
                refine v_iconst dX3_suits_99 ?_
                exact v_zret rfl (by decide) (by decide) (Or.inl rfl) dX3_suits_100 ⟨rfl, rfl, Or.inr ⟨rfl, by omega⟩⟩
        · refine v_if_eq ⟨by decide, by decide⟩ dX3_suits_51 (fun hb51 => ?_) (fun h => by exfalso; omega)
          refine v_iload_n dX3_suits_77 rfl ?_
          refine v_iconst dX3_suits_78 ?_
          refine v_icmp_eq hk ⟨by decide, by decide⟩ dX3_suits_79 (fun h24 => ?_) (fun h24 => ?_)
          · refine v_iload_n dX3_suits_89 rfl ?_
            refine v_bipush dX3_suits_90 (by decide) ?_
            refine v_icmp_ne hl ⟨by decide, by decide⟩ dX3_suits_92 (fun h25 => ?_) (fun h25 => ?_)
            · refine v_iconst dX3_suits_99 ?_
              exact v_zret rfl (by decide) (by decide) (Or.inl rfl) dX3_suits_100 ⟨rfl, rfl, Or.inr ⟨rfl, by omega⟩⟩
            · refine v_iconst dX3_suits_95 ?_
              refine v_goto dX3_suits_96 ?_
              exact v_zret rfl (by decide) (by decide) (Or.inr rfl) dX3_suits_100 ⟨rfl, rfl, Or.inl ⟨rfl, by omega⟩⟩
          · refine v_iload_n dX3_suits_82 rfl ?_
            refine v_Sb (tX3_isThingRow hk) kX3_24 rfl rfl ⟨by decide, by decide⟩ ⟨by decide, by decide⟩ (Nat.le_of_ble_eq_true rfl) dX3_suits_83 (fun h26 => ?_) (fun h26 => ?_)
            · refine v_if_eq ⟨by decide, by decide⟩ dX3_suits_86 (fun h => by exfalso; omega) (fun hb86 => ?_)
              refine v_iload_n dX3_suits_89 rfl ?_
              refine v_bipush dX3_suits_90 (by decide) ?_
              refine v_icmp_ne hl ⟨by decide, by decide⟩ dX3_suits_92 (fun h27 => ?_) (fun h27 => ?_)
              · refine v_iconst dX3_suits_99 ?_
                exact v_zret rfl (by decide) (by decide) (Or.inl rfl) dX3_suits_100 ⟨rfl, rfl, Or.inr ⟨rfl, by omega⟩⟩
              · refine v_iconst dX3_suits_95 ?_
                refine v_goto dX3_suits_96 ?_
                exact v_zret rfl (by decide) (by decide) (Or.inr rfl) dX3_suits_100 ⟨rfl, rfl, Or.inl ⟨rfl, by omega⟩⟩
            · refine v_if_eq ⟨by decide, by decide⟩ dX3_suits_86 (fun hb86 => ?_) (fun h => by exfalso; omega)
              refine v_iconst dX3_suits_99 ?_
              exact v_zret rfl (by decide) (by decide) (Or.inl rfl) dX3_suits_100 ⟨rfl, rfl, Or.inr ⟨rfl, by omega⟩⟩
    · refine v_iload_n dX3_suits_12 rfl ?_
      refine v_Sb (tX3_isReference hl) kX3_33 rfl rfl ⟨by decide, by decide⟩ ⟨by decide, by decide⟩ (Nat.le_of_ble_eq_true rfl) dX3_suits_13 (fun h28 => ?_) (fun h28 => ?_)
      · exact v_zret rfl (by decide) (by decide) (Or.inr rfl) dX3_suits_16 ⟨rfl, rfl, Or.inl ⟨rfl, by omega⟩⟩
      · exact v_zret rfl (by decide) (by decide) (Or.inl rfl) dX3_suits_16 ⟨rfl, rfl, Or.inr ⟨rfl, by omega⟩⟩
  · refine v_iconst dX3_suits_5 ?_
    exact v_zret rfl (by decide) (by decide) (Or.inr rfl) dX3_suits_6 ⟨rfl, rfl, Or.inl ⟨rfl, by omega⟩⟩
theorem tX3_merge {E : w_E} {G : w_Sh} {I : w_Mm} {q c : Nat} {Q : cS} (hK : isK G q c) (hQ : clsOK I c Q) {k l : Int} (hk : inR k) (hl : inR l) : w_Cm E mX3_merge 1 [.ref q, iv k, iv l] G I (joinK Q k l) I := by
  obtain ⟨hTq, hRq, hC⟩ := hK
  have hne : ∀ x y : Int, 0 ≤ nearC Q x y ∧ nearC Q x y ≤ 15 := fun x y => by
    have h1 := hQ.2.2.1
    have h2 := nearF_le (Q.2.1 x.toNat &&& Q.2.1 y.toNat) (Q.1 - 1)
    unfold nearC
    split <;> omega
  have hne1 := hne (k - 10) (l - 10)
  have hne2 := hne (k - 40) (l - 40)
  refine w_Ct.of (ls := [some (.ref q), some (iv k), some (iv l)]) (by decide +kernel) (Nat.le_of_ble_eq_true rfl) rfl rfl (fun rng => ?_)
  refine v_iload_n dX3_merge_0 rfl ?_
  refine v_iload_n dX3_merge_1 rfl ?_
  refine v_icmp_ne hk hl dX3_merge_2 (fun h1 => ?_) (fun h1 => ?_)
  · refine v_iload_n dX3_merge_7 rfl ?_
    refine v_Sb (tX3_isReference hk) kX3_33 rfl rfl ⟨by decide, by decide⟩ ⟨by decide, by decide⟩ (Nat.le_of_ble_eq_true rfl) dX3_merge_8 (fun h2 => ?_) (fun h2 => ?_)
    · refine v_if_eq ⟨by decide, by decide⟩ dX3_merge_11 (fun h => by exfalso; omega) (fun hb11 => ?_)
      refine v_iload_n dX3_merge_14 rfl ?_
      refine v_Sb (tX3_isReference hl) kX3_33 rfl rfl ⟨by decide, by decide⟩ ⟨by decide, by decide⟩ (Nat.le_of_ble_eq_true rfl) dX3_merge_15 (fun h3 => ?_) (fun h3 => ?_)
      · refine v_if_ne ⟨by decide, by decide⟩ dX3_merge_18 (fun hb18 => ?_) (fun h => by exfalso; omega)
        refine v_iload_n dX3_merge_23 rfl ?_
        refine v_iconst dX3_merge_24 ?_
        refine v_icmp_ne hk ⟨by decide, by decide⟩ dX3_merge_25 (fun h4 => ?_) (fun h4 => ?_)
        · refine v_iload_n dX3_merge_30 rfl ?_
          refine v_iconst dX3_merge_31 ?_
          refine v_icmp_ne hl ⟨by decide, by decide⟩ dX3_merge_32 (fun h5 => ?_) (fun h5 => ?_)
          · refine v_iload_n dX3_merge_37 rfl ?_
            refine v_Sb (tX3_isThing hk) kX3_15 rfl rfl ⟨by decide, by decide⟩ ⟨by decide, by decide⟩ (Nat.le_of_ble_eq_true rfl) dX3_merge_38 (fun h6 => ?_) (fun h6 => ?_)
            · refine v_if_eq ⟨by decide, by decide⟩ dX3_merge_41 (fun h => by exfalso; omega) (fun hb41 => ?_)
              refine v_iload_n dX3_merge_44 rfl ?_
              refine v_Sb (tX3_isThing hl) kX3_15 rfl rfl ⟨by decide, by decide⟩ ⟨by decide, by decide⟩ (Nat.le_of_ble_eq_true rfl) dX3_merge_45 (fun h7 => ?_) (fun h7 => ?_)
              · refine v_if_eq ⟨by decide, by decide⟩ dX3_merge_48 (fun h => by exfalso; omega) (fun hb48 => ?_)
                refine v_bipush dX3_merge_51 (by decide) ?_
                refine v_aload_n dX3_merge_53 rfl ?_
                refine v_getR fX3_9 rfl (by assumption) (by assumption) dX3_merge_54 ?_
                refine v_iload_n dX3_merge_57 rfl ?_
                refine v_bipush dX3_merge_58 (by decide) ?_
                refine v_isub dX3_merge_60 ?_
                refine v_iload_n dX3_merge_61 rfl ?_
                refine v_bipush dX3_merge_62 (by decide) ?_
                refine v_isub dX3_merge_64 ?_
                refine v_VmN (tX0_nearest hC hQ ⟨by omega, by omega⟩ ⟨by omega, by omega⟩) kX3_40 hC.1 rfl rfl ⟨by decide, by decide⟩ ⟨by decide, by decide⟩ (Nat.le_of_ble_eq_true rfl) dX3_merge_65 (fun r8 er8 hr8 rng9 => ?_)
                refine v_iadd dX3_merge_68 ?_
                exact v_iret rfl (by decide) (by decide) ⟨by omega, by omega⟩ dX3_merge_69 ⟨(by unfold joinK; split <;> first | omega | (split <;> first | omega | (split <;> first | omega | (split <;> first | omega | (split <;> first | omega | (split <;> omega)))))), rfl, rfl⟩
              · refine v_if_eq ⟨by decide, by decide⟩ dX3_merge_48 (fun hb48 => ?_) (fun h => by exfalso; omega)
                refine v_iload_n dX3_merge_70 rfl ?_
                refine v_Sb (tX3_isThingRow hk) kX3_24 rfl rfl ⟨by decide, by decide⟩ ⟨by decide, by decide⟩ (Nat.le_of_ble_eq_true rfl) dX3_merge_71 (fun h10 => ?_) (fun h10 => ?_)
                · refine v_if_eq ⟨by decide, by decide⟩ dX3_merge_74 (fun h => by exfalso; omega) (fun hb74 => ?_)
                  refine v_iload_n dX3_merge_77 rfl ?_
                  refine v_Sb (tX3_isThingRow hl) kX3_24 rfl rfl ⟨by decide, by decide⟩ ⟨by decide, by decide⟩ (Nat.le_of_ble_eq_true rfl) dX3_merge_78 (fun h11 => ?_) (fun h11 => ?_)
                  · refine v_if_eq ⟨by decide, by decide⟩ dX3_merge_81 (fun h => by exfalso; omega) (fun hb81 => ?_)
                    refine v_bipush dX3_merge_84 (by decide) ?_
                    refine v_aload_n dX3_merge_86 rfl ?_
                    refine v_getR fX3_9 rfl (by assumption) (by assumption) dX3_merge_87 ?_
                    refine v_iload_n dX3_merge_90 rfl ?_
                    refine v_bipush dX3_merge_91 (by decide) ?_
                    refine v_isub dX3_merge_93 ?_
                    refine v_iload_n dX3_merge_94 rfl ?_
                    refine v_bipush dX3_merge_95 (by decide) ?_
                    refine v_isub dX3_merge_97 ?_
                    refine v_VmN (tX0_nearest hC hQ ⟨by omega, by omega⟩ ⟨by omega, by omega⟩) kX3_40 hC.1 rfl rfl ⟨by decide, by decide⟩ ⟨by decide, by decide⟩ (Nat.le_of_ble_eq_true rfl) dX3_merge_98 (fun r12 er12 hr12 rng13 => ?_)
                    refine v_iadd dX3_merge_101 ?_
                    exact v_iret rfl (by decide) (by decide) ⟨by omega, by omega⟩ dX3_merge_102 ⟨(by unfold joinK; split <;> first | omega | (split <;> first | omega | (split <;> first | omega | (split <;> first | omega | (split <;> first | omega | (split <;> omega)))))), rfl, rfl⟩
                  · refine v_if_eq ⟨by decide, by decide⟩ dX3_merge_81 (fun hb81 => ?_) (fun h => by exfalso; omega)
                    refine v_bipush dX3_merge_103 (by decide) ?_
                    exact v_iret rfl (by decide) (by decide) ⟨by decide, by decide⟩ dX3_merge_105 ⟨(by unfold joinK; split <;> first | omega | (split <;> first | omega | (split <;> first | omega | (split <;> first | omega | (split <;> first | omega | (split <;> omega)))))), rfl, rfl⟩
                · refine v_if_eq ⟨by decide, by decide⟩ dX3_merge_74 (fun hb74 => ?_) (fun h => by exfalso; omega)
                  refine v_bipush dX3_merge_103 (by decide) ?_
                  exact v_iret rfl (by decide) (by decide) ⟨by decide, by decide⟩ dX3_merge_105 ⟨(by unfold joinK; split <;> first | omega | (split <;> first | omega | (split <;> first | omega | (split <;> first | omega | (split <;> first | omega | (split <;> omega)))))), rfl, rfl⟩
            · refine v_if_eq ⟨by decide, by decide⟩ dX3_merge_41 (fun hb41 => ?_) (fun h => by exfalso; omega)
              refine v_iload_n dX3_merge_70 rfl ?_
              refine v_Sb (tX3_isThingRow hk) kX3_24 rfl rfl ⟨by decide, by decide⟩ ⟨by decide, by decide⟩ (Nat.le_of_ble_eq_true rfl) dX3_merge_71 (fun h14 => ?_) (fun h14 => ?_)
              · refine v_if_eq ⟨by decide, by decide⟩ dX3_merge_74 (fun h => by exfalso; omega) (fun hb74 => ?_)
                refine v_iload_n dX3_merge_77 rfl ?_
                refine v_Sb (tX3_isThingRow hl) kX3_24 rfl rfl ⟨by decide, by decide⟩ ⟨by decide, by decide⟩ (Nat.le_of_ble_eq_true rfl) dX3_merge_78 (fun h15 => ?_) (fun h15 => ?_)
                · refine v_if_eq ⟨by decide, by decide⟩ dX3_merge_81 (fun h => by exfalso; omega) (fun hb81 => ?_)
                  refine v_bipush dX3_merge_84 (by decide) ?_
                  refine v_aload_n dX3_merge_86 rfl ?_
                  refine v_getR fX3_9 rfl (by assumption) (by assumption) dX3_merge_87 ?_
                  refine v_iload_n dX3_merge_90 rfl ?_
                  refine v_bipush dX3_merge_91 (by decide) ?_
                  refine v_isub dX3_merge_93 ?_
                  refine v_iload_n dX3_merge_94 rfl ?_
                  refine v_bipush dX3_merge_95 (by decide) ?_
                  refine v_isub dX3_merge_97 ?_
                  refine v_VmN (tX0_nearest hC hQ ⟨by omega, by omega⟩ ⟨by omega, by omega⟩) kX3_40 hC.1 rfl rfl ⟨by decide, by decide⟩ ⟨by decide, by decide⟩ (Nat.le_of_ble_eq_true rfl) dX3_merge_98 (fun r16 er16 hr16 rng17 => ?_)
                  refine v_iadd dX3_merge_101 ?_
                  exact v_iret rfl (by decide) (by decide) ⟨by omega, by omega⟩ dX3_merge_102 ⟨(by unfold joinK; split <;> first | omega | (split <;> first | omega | (split <;> first | omega | (split <;> first | omega | (split <;> first | omega | (split <;> omega)))))), rfl, rfl⟩
                · refine v_if_eq ⟨by decide, by decide⟩ dX3_merge_81 (fun hb81 => ?_) (fun h => by exfalso; omega)
                  refine v_bipush dX3_merge_103 (by decide) ?_
                  exact v_iret rfl (by decide) (by decide) ⟨by decide, by decide⟩ dX3_merge_105 ⟨(by unfold joinK; split <;> first | omega | (split <;> first | omega | (split <;> first | omega | (split <;> first | omega | (split <;> first | omega | (split <;> omega)))))), rfl, rfl⟩
              · refine v_if_eq ⟨by decide, by decide⟩ dX3_merge_74 (fun hb74 => ?_) (fun h => by exfalso; omega)
                refine v_bipush dX3_merge_103 (by decide) ?_
                exact v_iret rfl (by decide) (by decide) ⟨by decide, by decide⟩ dX3_merge_105 ⟨(by unfold joinK; split <;> first | omega | (split <;> first | omega | (split <;> first | omega | (split <;> first | omega | (split <;> first | omega | (split <;> omega)))))), rfl, rfl⟩
          · refine v_iload_n dX3_merge_35 rfl ?_
            exact v_iret rfl (by decide) (by decide) hk dX3_merge_36 ⟨(by unfold joinK; split <;> first | omega | (split <;> first | omega | (split <;> first | omega | (split <;> first | omega | (split <;> first | omega | (split <;> omega)))))), rfl, rfl⟩
        · refine v_iload_n dX3_merge_28 rfl ?_
          exact v_iret rfl (by decide) (by decide) hl dX3_merge_29 ⟨(by unfold joinK; split <;> first | omega | (split <;> first | omega | (split <;> first | omega | (split <;> first | omega | (split <;> first | omega | (split <;> omega)))))), rfl, rfl⟩
      · refine v_if_ne ⟨by decide, by decide⟩ dX3_merge_18 (fun h => by exfalso; omega) (fun hb18 => ?_)
        refine v_iconst dX3_merge_21 ?_
        exact v_iret rfl (by decide) (by decide) ⟨by decide, by decide⟩ dX3_merge_22 ⟨(by unfold joinK; split <;> first | omega | (split <;> first | omega | (split <;> first | omega | (split <;> first | omega | (split <;> first | omega | (split <;> omega)))))), rfl, rfl⟩
    · refine v_if_eq ⟨by decide, by decide⟩ dX3_merge_11 (fun hb11 => ?_) (fun h => by exfalso; omega)
      refine v_iconst dX3_merge_21 ?_
      exact v_iret rfl (by decide) (by decide) ⟨by decide, by decide⟩ dX3_merge_22 ⟨(by unfold joinK; split <;> first | omega | (split <;> first | omega | (split <;> first | omega | (split <;> first | omega | (split <;> first | omega | (split <;> omega)))))), rfl, rfl⟩
  · refine v_iload_n dX3_merge_5 rfl ?_
    exact v_iret rfl (by decide) (by decide) hk dX3_merge_6 ⟨(by unfold joinK; split <;> first | omega | (split <;> first | omega | (split <;> first | omega | (split <;> first | omega | (split <;> first | omega | (split <;> omega)))))), rfl, rfl⟩
end
section
/-! ===== frames ===== -/
/-- height (-1: none), locals, pile -/
abbrev fS : Type := Int × (Nat → Int) × (Nat → Int)
def isF (G : w_Sh) (f : Nat) : Prop := G.1 f = (2, 0) ∧ G.2.1 f 0 = some (f + 1) ∧ G.2.1 f 1 = some (f + 2) ∧ G.1 (f + 1) = (10, 8) ∧ G.1 (f + 2) = (10, 8)
def frOK (I : w_Mm) (f : Nat) (φ : fS) : Prop := I f 2 = φ.1 ∧ (∀ k, k < 8 → I (f + 1) k = φ.2.1 k) ∧ (∀ k, k < 8 → I (f + 2) k = φ.2.2 k) ∧ -1 ≤ φ.1 ∧ φ.1 ≤ 8
/-- nothing but the frame at f has changed -/
def offF (I J : w_Mm) (f : Nat) : Prop := ∀ a k, a ≠ f → a ≠ f + 1 → a ≠ f + 2 → J a k = I a k
theorem offF.rf {I : w_Mm} {f : Nat} : offF I I f := fun _ _ _ _ _ => rfl
theorem offF.tr {I J K : w_Mm} {f : Nat} (h : offF I J f) (g : offF J K f) : offF I K f := fun a k h1 h2 h3 => (g a k h1 h2 h3).trans (h a k h1 h2 h3)
abbrev fApart (f h : Nat) : Prop := f + 3 ≤ h ∨ h + 3 ≤ f
theorem frOK.off {I J : w_Mm} {f h : Nat} {φ : fS} (hφ : frOK I h φ) (ha : fApart f h) (ho : offF I J f) : frOK J h φ :=
  ⟨(ho h 2 (by omega) (by omega) (by omega)).trans hφ.1, fun k hk => (ho _ k (by omega) (by omega) (by omega)).trans (hφ.2.1 k hk), fun k hk => (ho _ k (by omega) (by omega) (by omega)).trans (hφ.2.2.1 k hk), hφ.2.2.2⟩
def uL (L : Nat → Int) (i : Nat) (z : Int) : Nat → Int := fun k => if k = i then z else L k
abbrev lngAt (L : Nat → Int) (i : Int) : Prop := 0 ≤ i ∧ i + 1 < 8 ∧ L i.toNat = 2 ∧ L (i + 1).toNat = 3
abbrev lngTop (φ : fS) : Prop := 1 < φ.1 ∧ φ.2.2 (φ.1 - 1).toNat = 3 ∧ φ.2.2 (φ.1 - 2).toNat = 2
def brkL (L : Nat → Int) (i : Int) : Nat → Int := if lngAt L i then uL L (i + 1).toNat 0 else if lngAt L (i - 1) then uL L (i - 1).toNat 0 else L
abbrev hasU (φ : fS) : Prop := (∃ k, k < 8 ∧ 100 ≤ φ.2.1 k) ∨ ∃ k : Nat, (k : Int) < φ.1 ∧ 100 ≤ φ.2.2 k
def replF (φ : fS) (old new : Int) : fS := (φ.1, (fun k => if φ.2.1 k = old then new else φ.2.1 k), fun k => if (k : Int) < φ.1 ∧ φ.2.2 k = old then new else φ.2.2 k)
def raisF (φ : fS) (P : Nat → Int) (kind : Int) : fS := (1, (fun k => if 100 ≤ φ.2.1 k then 0 else φ.2.1 k), uL P 0 kind)
theorem tX2_isThere {E : w_E} {G : w_Sh} {I : w_Mm} {f : Nat} {φ : fS} (hF : isF G f) (hφ : frOK I f φ) : w_Cb E mX2_isThere 0 [.ref f] G I (0 ≤ φ.1) := by
  obtain ⟨hT0, hR0, hR1, hT1, hT2⟩ := hF
  obtain ⟨hd, hL, hP, hd1, hd8⟩ := hφ
  refine w_Ct.of (ls := [some (.ref f)]) (by decide +kernel) (Nat.le_of_ble_eq_true rfl) rfl rfl (fun rng => ?_)
  refine v_aload_n dX2_isThere_0 rfl ?_
  refine v_getI' (v := φ.1) hd fX2_18 rfl (by assumption) dX2_isThere_1 ?_
  refine v_if_lt ⟨by omega, by omega⟩ dX2_isThere_4 (fun h1 => ?_) (fun h1 => ?_)
  · refine v_iconst dX2_isThere_11 ?_
    exact v_zret rfl (by decide) (by decide) (Or.inl rfl) dX2_isThere_12 ⟨rfl, rfl, Or.inr ⟨rfl, by omega⟩⟩
  · refine v_iconst dX2_isThere_7 ?_
    refine v_goto dX2_isThere_8 ?_
    exact v_zret rfl (by decide) (by decide) (Or.inr rfl) dX2_isThere_12 ⟨rfl, rfl, Or.inl ⟨rfl, by omega⟩⟩
theorem tX2_top {E : w_E} {G : w_Sh} {I : w_Mm} {f : Nat} {φ : fS} (hF : isF G f) (hφ : frOK I f φ) : w_Cm E mX2_top 0 [.ref f] G I (if 0 < φ.1 then φ.2.2 (φ.1 - 1).toNat else 0) I := by
  obtain ⟨hT0, hR0, hR1, hT1, hT2⟩ := hF
  obtain ⟨hd, hL, hP, hd1, hd8⟩ := hφ
  refine w_Ct.of (ls := [some (.ref f)]) (by decide +kernel) (Nat.le_of_ble_eq_true rfl) rfl rfl (fun rng => ?_)
  refine v_aload_n dX2_top_0 rfl ?_
  refine v_getI' (v := φ.1) hd fX2_18 rfl (by assumption) dX2_top_1 ?_
  refine v_if_le ⟨by omega, by omega⟩ dX2_top_4 (fun h1 => ?_) (fun h1 => ?_)
  · refine v_iconst dX2_top_21 ?_
    exact v_iret rfl (by decide) (by decide) ⟨by decide, by decide⟩ dX2_top_22 ⟨(by first | rw [if_pos (by omega)] | rw [if_neg (by omega)]), rfl, rfl⟩
  · refine v_aload_n dX2_top_7 rfl ?_
    refine v_getR fX2_15 rfl (by assumption) (by assumption) dX2_top_8 ?_
    refine v_aload_n dX2_top_11 rfl ?_
    refine v_getI' (v := φ.1) hd fX2_18 rfl (by assumption) dX2_top_12 ?_
    refine v_iconst dX2_top_15 ?_
    refine v_isub dX2_top_16 ?_
    refine v_iald' (i := ((φ.1 - 1)).toNat) (v := φ.2.2 (((φ.1 - 1)).toNat)) (hP (((φ.1 - 1)).toNat) (by omega)) (by assumption) (by omega) (by omega) (by omega) dX2_top_17 ?_
    refine v_goto dX2_top_18 ?_
    exact v_iret rfl (by decide) (by decide) (by rw [← hP (((φ.1 - 1)).toNat) (by omega)]; exact rng _ _) dX2_top_22 ⟨(by first | rw [if_pos (by omega)] | rw [if_neg (by omega)]), rfl, rfl⟩
theorem tX2_hasLongOnTop {E : w_E} {G : w_Sh} {I : w_Mm} {f : Nat} {φ : fS} (hF : isF G f) (hφ : frOK I f φ) : w_Cb E mX2_hasLongOnTop 0 [.ref f] G I (lngTop φ) := by
  obtain ⟨hT0, hR0, hR1, hT1, hT2⟩ := hF
  obtain ⟨hd, hL, hP, hd1, hd8⟩ := hφ
  refine w_Ct.of (ls := [some (.ref f)]) (by decide +kernel) (Nat.le_of_ble_eq_true rfl) rfl rfl (fun rng => ?_)
  refine v_aload_n dX2_hasLongOnTop_0 rfl ?_
  refine v_getI' (v := φ.1) hd fX2_18 rfl (by assumption) dX2_hasLongOnTop_1 ?_
  refine v_iconst dX2_hasLongOnTop_4 ?_
  refine v_icmp_le ⟨by omega, by omega⟩ ⟨by decide, by decide⟩ dX2_hasLongOnTop_5 (fun h1 => ?_) (fun h1 => ?_)
  · refine v_iconst dX2_hasLongOnTop_42 ?_
    exact v_zret rfl (by decide) (by decide) (Or.inl rfl) dX2_hasLongOnTop_43 ⟨rfl, rfl, Or.inr ⟨rfl, by omega⟩⟩
  · refine v_aload_n dX2_hasLongOnTop_8 rfl ?_
    refine v_getR fX2_15 rfl (by assumption) (by assumption) dX2_hasLongOnTop_9 ?_
    refine v_aload_n dX2_hasLongOnTop_12 rfl ?_
    refine v_getI' (v := φ.1) hd fX2_18 rfl (by assumption) dX2_hasLongOnTop_13 ?_
    refine v_iconst dX2_hasLongOnTop_16 ?_
    refine v_isub dX2_hasLongOnTop_17 ?_
    refine v_iald' (i := ((φ.1 - 1)).toNat) (v := φ.2.2 (((φ.1 - 1)).toNat)) (hP (((φ.1 - 1)).toNat) (by omega)) (by assumption) (by omega) (by omega) (by omega) dX2_hasLongOnTop_18 ?_
    refine v_iconst dX2_hasLongOnTop_19 ?_
    refine v_icmp_ne (by rw [← hP (((φ.1 - 1)).toNat) (by omega)]; exact rng _ _) ⟨by decide, by decide⟩ dX2_hasLongOnTop_20 (fun h2 => ?_) (fun h2 => ?_)
    · refine v_iconst dX2_hasLongOnTop_42 ?_
      exact v_zret rfl (by decide) (by decide) (Or.inl rfl) dX2_hasLongOnTop_43 ⟨rfl, rfl, Or.inr ⟨rfl, by omega⟩⟩
    · refine v_aload_n dX2_hasLongOnTop_23 rfl ?_
      refine v_getR fX2_15 rfl (by assumption) (by assumption) dX2_hasLongOnTop_24 ?_
      refine v_aload_n dX2_hasLongOnTop_27 rfl ?_
      refine v_getI' (v := φ.1) hd fX2_18 rfl (by assumption) dX2_hasLongOnTop_28 ?_
      refine v_iconst dX2_hasLongOnTop_31 ?_
      refine v_isub dX2_hasLongOnTop_32 ?_
      refine v_iald' (i := ((φ.1 - 2)).toNat) (v := φ.2.2 (((φ.1 - 2)).toNat)) (hP (((φ.1 - 2)).toNat) (by omega)) (by assumption) (by omega) (by omega) (by omega) dX2_hasLongOnTop_33 ?_
      refine v_iconst dX2_hasLongOnTop_34 ?_
      refine v_icmp_ne (by rw [← hP (((φ.1 - 2)).toNat) (by omega)]; exact rng _ _) ⟨by decide, by decide⟩ dX2_hasLongOnTop_35 (fun h3 => ?_) (fun h3 => ?_)
      · refine v_iconst dX2_hasLongOnTop_42 ?_
        exact v_zret rfl (by decide) (by decide) (Or.inl rfl) dX2_hasLongOnTop_43 ⟨rfl, rfl, Or.inr ⟨rfl, by omega⟩⟩
      · refine v_iconst dX2_hasLongOnTop_38 ?_
        refine v_goto dX2_hasLongOnTop_39 ?_
        exact v_zret rfl (by decide) (by decide) (Or.inr rfl) dX2_hasLongOnTop_43 ⟨rfl, rfl, Or.inl ⟨rfl, by omega⟩⟩
theorem tX2_hasLongAt {E : w_E} {G : w_Sh} {I : w_Mm} {f : Nat} {φ : fS} (hF : isF G f) (hφ : frOK I f φ) {i : Int} (hi : inR i) (hi8 : -8 ≤ i ∧ i ≤ 8) : w_Cb E mX2_hasLongAt 0 [.ref f, iv i] G I (lngAt φ.2.1 i) := by
  obtain ⟨hT0, hR0, hR1, hT1, hT2⟩ := hF
  obtain ⟨hd, hL, hP, hd1, hd8⟩ := hφ
  refine w_Ct.of (ls := [some (.ref f), some (iv i)]) (by decide +kernel) (Nat.le_of_ble_eq_true rfl) rfl rfl (fun rng => ?_)
  refine v_iload_n dX2_hasLongAt_0 rfl ?_
  refine v_if_lt hi dX2_hasLongAt_1 (fun h1 => ?_) (fun h1 => ?_)
  · refine v_iconst dX2_hasLongAt_38 ?_
    exact v_zret rfl (by decide) (by decide) (Or.inl rfl) dX2_hasLongAt_39 ⟨rfl, rfl, Or.inr ⟨rfl, by omega⟩⟩
  · refine v_iload_n dX2_hasLongAt_4 rfl ?_
    refine v_iconst dX2_hasLongAt_5 ?_
    refine v_iadd dX2_hasLongAt_6 ?_
    refine v_bipush dX2_hasLongAt_7 (by decide) ?_
    refine v_icmp_ge ⟨by omega, by omega⟩ ⟨by decide, by decide⟩ dX2_hasLongAt_9 (fun h2 => ?_) (fun h2 => ?_)
    · refine v_iconst dX2_hasLongAt_38 ?_
      exact v_zret rfl (by decide) (by decide) (Or.inl rfl) dX2_hasLongAt_39 ⟨rfl, rfl, Or.inr ⟨rfl, by omega⟩⟩
    · refine v_aload_n dX2_hasLongAt_12 rfl ?_
      refine v_getR fX2_9 rfl (by assumption) (by assumption) dX2_hasLongAt_13 ?_
      refine v_iload_n dX2_hasLongAt_16 rfl ?_
      refine v_iald' (i := (i).toNat) (v := φ.2.1 ((i).toNat)) (hL ((i).toNat) (by omega)) (by assumption) (by omega) (by omega) (by omega) dX2_hasLongAt_17 ?_
      refine v_iconst dX2_hasLongAt_18 ?_
      refine v_icmp_ne (by rw [← hL ((i).toNat) (by omega)]; exact rng _ _) ⟨by decide, by decide⟩ dX2_hasLongAt_19 (fun h3 => ?_) (fun h3 => ?_)
      · refine v_iconst dX2_hasLongAt_38 ?_
        exact v_zret rfl (by decide) (by decide) (Or.inl rfl) dX2_hasLongAt_39 ⟨rfl, rfl, Or.inr ⟨rfl, by omega⟩⟩
      · refine v_aload_n dX2_hasLongAt_22 rfl ?_
        refine v_getR fX2_9 rfl (by assumption) (by assumption) dX2_hasLongAt_23 ?_
        refine v_iload_n dX2_hasLongAt_26 rfl ?_
        refine v_iconst dX2_hasLongAt_27 ?_
        refine v_iadd dX2_hasLongAt_28 ?_
        refine v_iald' (i := ((i + 1)).toNat) (v := φ.2.1 (((i + 1)).toNat)) (hL (((i + 1)).toNat) (by omega)) (by assumption) (by omega) (by omega) (by omega) dX2_hasLongAt_29 ?_
        refine v_iconst dX2_hasLongAt_30 ?_
        refine v_icmp_ne (by rw [← hL (((i + 1)).toNat) (by omega)]; exact rng _ _) ⟨by decide, by decide⟩ dX2_hasLongAt_31 (fun h4 => ?_) (fun h4 => ?_)
        · refine v_iconst dX2_hasLongAt_38 ?_
          exact v_zret rfl (by decide) (by decide) (Or.inl rfl) dX2_hasLongAt_39 ⟨rfl, rfl, Or.inr ⟨rfl, by omega⟩⟩
        · refine v_iconst dX2_hasLongAt_34 ?_
          refine v_goto dX2_hasLongAt_35 ?_
          exact v_zret rfl (by decide) (by decide) (Or.inr rfl) dX2_hasLongAt_39 ⟨rfl, rfl, Or.inl ⟨rfl, by omega⟩⟩
theorem tX2_slot {E : w_E} {G : w_Sh} {I : w_Mm} {f : Nat} {φ : fS} (hF : isF G f) (hφ : frOK I f φ) {i : Int} (hi : inR i) : w_Cm E mX2_slot 1 [.ref f, iv i] G I (if φ.1 < 0 ∨ i < 0 ∨ 8 + φ.1 ≤ i then -1 else if i < 8 then φ.2.1 i.toNat else φ.2.2 (i - 8).toNat) I := by
  have hF0 := hF
  have hφ0 := hφ
  obtain ⟨hT0, hR0, hR1, hT1, hT2⟩ := hF
  obtain ⟨hd, hL, hP, hd1, hd8⟩ := hφ
  refine w_Ct.of (ls := [some (.ref f), some (iv i)]) (by decide +kernel) (Nat.le_of_ble_eq_true rfl) rfl rfl (fun rng => ?_)
  refine v_aload_n dX2_slot_0 rfl ?_
  refine v_Vb (tX2_isThere hF0 hφ0) kX2_34 (by assumption) rfl rfl ⟨by decide, by decide⟩ ⟨by decide, by decide⟩ (Nat.le_of_ble_eq_true rfl) dX2_slot_1 (fun h1 => ?_) (fun h1 => ?_)
  · refine v_if_eq ⟨by decide, by decide⟩ dX2_slot_4 (fun h => by exfalso; omega) (fun hb4 => ?_)
    refine v_iload_n dX2_slot_7 rfl ?_
    refine v_if_lt hi dX2_slot_8 (fun h2 => ?_) (fun h2 => ?_)
    · refine v_iconst dX2_slot_22 ?_
      exact v_iret rfl (by decide) (by decide) ⟨by decide, by decide⟩ dX2_slot_23 ⟨(by first | rw [if_pos (by omega)] | rw [if_neg (by omega), if_pos (by omega)] | rw [if_neg (by omega), if_neg (by omega)]), rfl, rfl⟩
    · refine v_iload_n dX2_slot_11 rfl ?_
      refine v_bipush dX2_slot_12 (by decide) ?_
      refine v_aload_n dX2_slot_14 rfl ?_
      refine v_getI' (v := φ.1) hd fX2_18 rfl (by assumption) dX2_slot_15 ?_
      refine v_iadd dX2_slot_18 ?_
      refine v_icmp_lt hi ⟨by omega, by omega⟩ dX2_slot_19 (fun h3 => ?_) (fun h3 => ?_)
      · refine v_iload_n dX2_slot_24 rfl ?_
        refine v_bipush dX2_slot_25 (by decide) ?_
        refine v_icmp_ge hi ⟨by decide, by decide⟩ dX2_slot_27 (fun h4 => ?_) (fun h4 => ?_)
        · refine v_aload_n dX2_slot_39 rfl ?_
          refine v_getR fX2_15 rfl (by assumption) (by assumption) dX2_slot_40 ?_
          refine v_iload_n dX2_slot_43 rfl ?_
          refine v_bipush dX2_slot_44 (by decide) ?_
          refine v_isub dX2_slot_46 ?_
          refine v_iald' (i := ((i - 8)).toNat) (v := φ.2.2 (((i - 8)).toNat)) (hP (((i - 8)).toNat) (by omega)) (by assumption) (by omega) (by omega) (by omega) dX2_slot_47 ?_
          exact v_iret rfl (by decide) (by decide) (by rw [← hP (((i - 8)).toNat) (by omega)]; exact rng _ _) dX2_slot_48 ⟨(by first | rw [if_pos (by omega)] | rw [if_neg (by omega), if_pos (by omega)] | rw [if_neg (by omega), if_neg (by omega)]), rfl, rfl⟩
        · refine v_aload_n dX2_slot_30 rfl ?_
          refine v_getR fX2_9 rfl (by assumption) (by assumption) dX2_slot_31 ?_
          refine v_iload_n dX2_slot_34 rfl ?_
          refine v_iald' (i := (i).toNat) (v := φ.2.1 ((i).toNat)) (hL ((i).toNat) (by omega)) (by assumption) (by omega) (by omega) (by omega) dX2_slot_35 ?_
          refine v_goto dX2_slot_36 ?_
          exact v_iret rfl (by decide) (by decide) (by rw [← hL ((i).toNat) (by omega)]; exact rng _ _) dX2_slot_48 ⟨(by first | rw [if_pos (by omega)] | rw [if_neg (by omega), if_pos (by omega)] | rw [if_neg (by omega), if_neg (by omega)]), rfl, rfl⟩
      · refine v_iconst dX2_slot_22 ?_
        exact v_iret rfl (by decide) (by decide) ⟨by decide, by decide⟩ dX2_slot_23 ⟨(by first | rw [if_pos (by omega)] | rw [if_neg (by omega), if_pos (by omega)] | rw [if_neg (by omega), if_neg (by omega)]), rfl, rfl⟩
  · refine v_if_eq ⟨by decide, by decide⟩ dX2_slot_4 (fun hb4 => ?_) (fun h => by exfalso; omega)
    refine v_iconst dX2_slot_22 ?_
    exact v_iret rfl (by decide) (by decide) ⟨by decide, by decide⟩ dX2_slot_23 ⟨(by first | rw [if_pos (by omega)] | rw [if_neg (by omega), if_pos (by omega)] | rw [if_neg (by omega), if_neg (by omega)]), rfl, rfl⟩
theorem frOK_L {I : w_Mm} {f i : Nat} {φ : fS} {z : Int} {L : Nat → Int} (hφ : frOK I f φ) (hi : i < 8) (hL : L = uL φ.2.1 i z) : frOK (w_up I (f + 1) i z) f (φ.1, L, φ.2.2) ∧ offF I (w_up I (f + 1) i z) f := by
  subst hL
  refine ⟨⟨(w_up_n (by omega)).trans hφ.1, fun k hk => ?_, fun k hk => (w_up_n (by omega)).trans (hφ.2.2.1 k hk), hφ.2.2.2⟩, fun a k h1 h2 h3 => w_up_n (by omega)⟩
  by_cases e : k = i
  · subst e
    rw [w_up_s]
    simp [uL]
  · rw [w_up_n (by omega), hφ.2.1 k hk]
    simp [uL, e]
theorem tX2_breakLong {E : w_E} {G : w_Sh} {I : w_Mm} {f : Nat} {φ : fS} (hF : isF G f) (hφ : frOK I f φ) {i : Int} (hi : inR i) (hi8 : -7 ≤ i ∧ i ≤ 7) : w_Ct E mX2_breakLong 1 [.ref f, iv i] G I 0 0 (w_Pv (fun G' J => G' = G ∧ frOK J f (φ.1, brkL φ.2.1 i, φ.2.2) ∧ offF I J f)) := by
  have hF0 := hF
  have hφ0 := hφ
  obtain ⟨hT0, hR0, hR1, hT1, hT2⟩ := hF
  obtain ⟨hd, hL, hP, hd1, hd8⟩ := hφ
  refine w_Ct.of (ls := [some (.ref f), some (iv i)]) (by decide +kernel) (Nat.le_of_ble_eq_true rfl) rfl rfl (fun rng => ?_)
  refine v_aload_n dX2_breakLong_0 rfl ?_
  refine v_iload_n dX2_breakLong_1 rfl ?_
  refine v_Vb (tX2_hasLongAt hF0 hφ0 hi (by omega)) kX2_38 (by assumption) rfl rfl ⟨by decide, by decide⟩ ⟨by decide, by decide⟩ (Nat.le_of_ble_eq_true rfl) dX2_breakLong_2 (fun h1 => ?_) (fun h1 => ?_)
  · refine v_if_eq ⟨by decide, by decide⟩ dX2_breakLong_5 (fun h => by exfalso; omega) (fun hb5 => ?_)
    refine v_aload_n dX2_breakLong_8 rfl ?_
    refine v_getR fX2_9 rfl (by assumption) (by assumption) dX2_breakLong_9 ?_
    refine v_iload_n dX2_breakLong_12 rfl ?_
    refine v_iconst dX2_breakLong_13 ?_
    refine v_iadd dX2_breakLong_14 ?_
    refine v_iconst dX2_breakLong_15 ?_
    refine v_iast (i := ((i + 1)).toNat) (by assumption) (by omega) (by omega) (by omega) ⟨by decide, by decide⟩ dX2_breakLong_16 ?_
    have rng2 := w_rng (a := f + 1) (f := ((i + 1)).toNat) rng (show inR (0) from ⟨by decide, by decide⟩)
    refine v_goto dX2_breakLong_17 ?_
    refine v_vret rfl (by decide) (by decide) dX2_breakLong_39 ⟨rfl, ?_⟩
    exact frOK_L hφ0 (by omega) (by unfold brkL; first | rw [if_pos (by assumption)] | rw [if_neg (by assumption), if_pos (by assumption)])
  · refine v_if_eq ⟨by decide, by decide⟩ dX2_breakLong_5 (fun hb5 => ?_) (fun h => by exfalso; omega)
    refine v_aload_n dX2_breakLong_20 rfl ?_
    refine v_iload_n dX2_breakLong_21 rfl ?_
    refine v_iconst dX2_breakLong_22 ?_
    refine v_isub dX2_breakLong_23 ?_
    refine v_Vb (tX2_hasLongAt hF0 hφ0 ⟨by omega, by omega⟩ (by omega)) kX2_38 (by assumption) rfl rfl ⟨by decide, by decide⟩ ⟨by decide, by decide⟩ (Nat.le_of_ble_eq_true rfl) dX2_breakLong_24 (fun h3 => ?_) (fun h3 => ?_)
    · refine v_if_eq ⟨by decide, by decide⟩ dX2_breakLong_27 (fun h => by exfalso; omega) (fun hb27 => ?_)
      refine v_aload_n dX2_breakLong_30 rfl ?_
      refine v_getR fX2_9 rfl (by assumption) (by assumption) dX2_breakLong_31 ?_
      refine v_iload_n dX2_breakLong_34 rfl ?_
      refine v_iconst dX2_breakLong_35 ?_
      refine v_isub dX2_breakLong_36 ?_
      refine v_iconst dX2_breakLong_37 ?_
      refine v_iast (i := ((i - 1)).toNat) (by assumption) (by omega) (by omega) (by omega) ⟨by decide, by decide⟩ dX2_breakLong_38 ?_
      have rng4 := w_rng (a := f + 1) (f := ((i - 1)).toNat) rng (show inR (0) from ⟨by decide, by decide⟩)
      refine v_vret rfl (by decide) (by decide) dX2_breakLong_39 ⟨rfl, ?_⟩
      exact frOK_L hφ0 (by omega) (by unfold brkL; first | rw [if_pos (by assumption)] | rw [if_neg (by assumption), if_pos (by assumption)])
    · refine v_if_eq ⟨by decide, by decide⟩ dX2_breakLong_27 (fun hb27 => ?_) (fun h => by exfalso; omega)
      refine v_vret rfl (by decide) (by decide) dX2_breakLong_39 ⟨rfl, ?_⟩
      have eb : brkL φ.2.1 i = φ.2.1 := by unfold brkL; rw [if_neg (by assumption), if_neg (by assumption)]
      rw [eb]; exact ⟨hφ0, offF.rf⟩
theorem tX2_holdsUnmade {E : w_E} {G : w_Sh} {I : w_Mm} {f : Nat} {φ : fS} (hF : isF G f) (hφ : frOK I f φ) : w_Ct E mX2_holdsUnmade 1 [.ref f] G I 0 0 (w_Pi (fun r G' I' => G' = G ∧ I' = I ∧ ((r = 1 ∧ (hasU φ)) ∨ (r = 0 ∧ ¬ (hasU φ))))) := by
  obtain ⟨hT0, hR0, hR1, hT1, hT2⟩ := hF
  obtain ⟨hd, hL, hP, hd1, hd8⟩ := hφ
  refine w_Ct.of (ls := [some (.ref f), none]) (by decide +kernel) (Nat.le_of_ble_eq_true rfl) rfl rfl (fun rng => ?_)
  refine v_iconst dX2_holdsUnmade_0 ?_
  refine v_istore_n dX2_holdsUnmade_1 (by decide) rfl ?_
  have loop2 : ∀ m j : Nat, (j : Int) + m = max φ.1 0 → (∀ k : Nat, k < 8 → ¬ 100 ≤ φ.2.1 k) → (∀ k : Nat, k < j → ¬ 100 ≤ φ.2.2 k) → w_V E mX2_holdsUnmade (w_rm 1 0 0) (w_Z E 0 0 (w_Pi (fun r G' I' => G' = G ∧ I' = I ∧ ((r = 1 ∧ (hasU φ)) ∨ (r = 0 ∧ ¬ (hasU φ)))))) G I 0 0 30 [some (.ref f), some (iv (j : Int))] [] := by
    intro m
    induction m with
    | zero =>
      intro j hj hl hp
      refine v_iload_n dX2_holdsUnmade_30 rfl ?_
      refine v_aload_n dX2_holdsUnmade_31 rfl ?_
      refine v_getI' (v := φ.1) hd fX2_18 rfl (by assumption) dX2_holdsUnmade_32 ?_
      refine v_icmp_ge ⟨by omega, by omega⟩ ⟨by omega, by omega⟩ dX2_holdsUnmade_35 (fun hb35 => ?_) (fun h => by exfalso; omega)
      refine v_iconst dX2_holdsUnmade_58 ?_
      exact v_zret rfl (by decide) (by decide) (Or.inl rfl) dX2_holdsUnmade_59 ⟨rfl, rfl, Or.inr ⟨rfl, by rintro (⟨k, h1, h2⟩ | ⟨k, h1, h2⟩); exact hl k h1 h2; exact hp k (by omega) h2⟩⟩
    | succ m ih =>
      intro j hj hl hp
      refine v_iload_n dX2_holdsUnmade_30 rfl ?_
      refine v_aload_n dX2_holdsUnmade_31 rfl ?_
      refine v_getI' (v := φ.1) hd fX2_18 rfl (by assumption) dX2_holdsUnmade_32 ?_
      refine v_icmp_ge ⟨by omega, by omega⟩ ⟨by omega, by omega⟩ dX2_holdsUnmade_35 (fun h => by exfalso; omega) (fun hb35 => ?_)
      refine v_aload_n dX2_holdsUnmade_38 rfl ?_
      refine v_getR fX2_15 rfl (by assumption) (by assumption) dX2_holdsUnmade_39 ?_
      refine v_iload_n dX2_holdsUnmade_42 rfl ?_
      refine v_iald' (i := j) (v := φ.2.2 (j)) (hP (j) (by omega)) (by assumption) rfl (by omega) (by omega) dX2_holdsUnmade_43 ?_
      refine v_Sb (tX3_isUnmade (by rw [← hP (j) (by omega)]; exact rng _ _)) kX2_28 rfl rfl ⟨by decide, by decide⟩ ⟨by decide, by decide⟩ (Nat.le_of_ble_eq_true rfl) dX2_holdsUnmade_44 (fun h1 => ?_) (fun h1 => ?_)
      · refine v_if_eq ⟨by decide, by decide⟩ dX2_holdsUnmade_47 (fun h => by exfalso; omega) (fun hb47 => ?_)
        refine v_iconst dX2_holdsUnmade_50 ?_
        exact v_zret rfl (by decide) (by decide) (Or.inr rfl) dX2_holdsUnmade_51 ⟨rfl, rfl, Or.inl ⟨rfl, by exact Or.inr ⟨j, by omega, by assumption⟩⟩⟩
      · refine v_if_eq ⟨by decide, by decide⟩ dX2_holdsUnmade_47 (fun hb47 => ?_) (fun h => by exfalso; omega)
        refine v_iinc dX2_holdsUnmade_52 rfl (by decide) rfl rfl ?_
        refine v_goto dX2_holdsUnmade_55 ?_
        exact ih (j + 1) (by omega) hl (lt_s hp (by assumption))
  have loop1 : ∀ m j : Nat, j + m = 8 → (∀ k : Nat, k < j → ¬ 100 ≤ φ.2.1 k) → w_V E mX2_holdsUnmade (w_rm 1 0 0) (w_Z E 0 0 (w_Pi (fun r G' I' => G' = G ∧ I' = I ∧ ((r = 1 ∧ (hasU φ)) ∨ (r = 0 ∧ ¬ (hasU φ)))))) G I 0 0 2 [some (.ref f), some (iv (j : Int))] [] := by
    intro m
    induction m with
    | zero =>
      intro j hj hl
      refine v_iload_n dX2_holdsUnmade_2 rfl ?_
      refine v_bipush dX2_holdsUnmade_3 (by decide) ?_
      refine v_icmp_ge ⟨by omega, by omega⟩ ⟨by decide, by decide⟩ dX2_holdsUnmade_5 (fun hb5 => ?_) (fun h => by exfalso; omega)
      refine v_iconst dX2_holdsUnmade_28 ?_
      refine v_istore_n dX2_holdsUnmade_29 (by decide) rfl ?_
      exact loop2 (max φ.1 0).toNat 0 (by omega) (fun k hk => hl k (by omega)) (fun k hk => absurd hk (Nat.not_lt_zero k))
    | succ m ih =>
      intro j hj hl
      refine v_iload_n dX2_holdsUnmade_2 rfl ?_
      refine v_bipush dX2_holdsUnmade_3 (by decide) ?_
      refine v_icmp_ge ⟨by omega, by omega⟩ ⟨by decide, by decide⟩ dX2_holdsUnmade_5 (fun h => by exfalso; omega) (fun hb5 => ?_)
      refine v_aload_n dX2_holdsUnmade_8 rfl ?_
      refine v_getR fX2_9 rfl (by assumption) (by assumption) dX2_holdsUnmade_9 ?_
      refine v_iload_n dX2_holdsUnmade_12 rfl ?_
      refine v_iald' (i := j) (v := φ.2.1 (j)) (hL (j) (by omega)) (by assumption) rfl (by omega) (by omega) dX2_holdsUnmade_13 ?_
      refine v_Sb (tX3_isUnmade (by rw [← hL (j) (by omega)]; exact rng _ _)) kX2_28 rfl rfl ⟨by decide, by decide⟩ ⟨by decide, by decide⟩ (Nat.le_of_ble_eq_true rfl) dX2_holdsUnmade_14 (fun h1 => ?_) (fun h1 => ?_)
      · refine v_if_eq ⟨by decide, by decide⟩ dX2_holdsUnmade_17 (fun h => by exfalso; omega) (fun hb17 => ?_)
        refine v_iconst dX2_holdsUnmade_20 ?_
        exact v_zret rfl (by decide) (by decide) (Or.inr rfl) dX2_holdsUnmade_21 ⟨rfl, rfl, Or.inl ⟨rfl, by exact Or.inl ⟨j, by omega, by assumption⟩⟩⟩
      · refine v_if_eq ⟨by decide, by decide⟩ dX2_holdsUnmade_17 (fun hb17 => ?_) (fun h => by exfalso; omega)
        refine v_iinc dX2_holdsUnmade_22 rfl (by decide) rfl rfl ?_
        refine v_goto dX2_holdsUnmade_25 ?_
        exact ih (j + 1) (by omega) (lt_s hl (by assumption))
  exact loop1 8 0 rfl (fun k hk => absurd hk (Nat.not_lt_zero k))
theorem frOK_copy {I : w_Mm} {f o : Nat} {ψ : fS} (h : frOK I o ψ) (ha : fApart f o) : frOK (w_up (w_cpy (w_cpy I (o + 1) (f + 1) 8) (o + 2) (f + 2) 8) f 2 ψ.1) f ψ ∧ offF I (w_up (w_cpy (w_cpy I (o + 1) (f + 1) 8) (o + 2) (f + 2) 8) f 2 ψ.1) f :=
  ⟨⟨w_up_s, fun k hk => by rw [w_up_n (by omega), w_cpy_o (by omega), w_cpy_i hk]; exact h.2.1 k hk, fun k hk => by rw [w_up_n (by omega), w_cpy_i hk, w_cpy_o (by omega)]; exact h.2.2.1 k hk, h.2.2.2⟩, fun a k h1 h2 h3 => by rw [w_up_n (by omega), w_cpy_o (by omega), w_cpy_o (by omega)]⟩
theorem frOK_start {I : w_Mm} {f b : Nat} {φ : fS} (h : frOK I f φ) (hb : b ≠ f) (hb1 : b ≠ f + 1) (hb2 : b ≠ f + 2) : frOK (w_up (w_cpy I b (f + 1) 8) f 2 0) f (0, I b, φ.2.2) ∧ offF I (w_up (w_cpy I b (f + 1) 8) f 2 0) f :=
  ⟨⟨w_up_s, fun k hk => by rw [w_up_n (by omega), w_cpy_i hk], fun k hk => by rw [w_up_n (by omega), w_cpy_o (by omega)]; exact h.2.2.1 k hk, show (-1 : Int) ≤ 0 by decide, show (0 : Int) ≤ 8 by decide⟩, fun a k h1 h2 h3 => by rw [w_up_n (by omega), w_cpy_o (by omega)]⟩
theorem tX2_copyFrom {E : w_E} {G : w_Sh} {I : w_Mm} {f o : Nat} {ψ : fS} (hF : isF G f) (hO : isF G o) (hψ : frOK I o ψ) (ha : fApart f o) : w_Ct E mX2_copyFrom 1 [.ref f, .ref o] G I 0 0 (w_Pv (fun G' J => G' = G ∧ frOK J f ψ ∧ offF I J f)) := by
  obtain ⟨hT0, hR0, hR1, hT1, hT2⟩ := hF
  obtain ⟨hT0o, hR0o, hR1o, hT1o, hT2o⟩ := hO
  have hψ0 := hψ
  obtain ⟨hdo, hLo, hPo, hd1o, hd8o⟩ := hψ
  refine w_Ct.of (ls := [some (.ref f), some (.ref o)]) (by decide +kernel) (Nat.le_of_ble_eq_true rfl) rfl rfl (fun rng => ?_)
  refine v_aload_n dX2_copyFrom_0 rfl ?_
  refine v_getR fX2_9 rfl (by assumption) (by assumption) dX2_copyFrom_1 ?_
  refine v_iconst dX2_copyFrom_4 ?_
  refine v_aload_n dX2_copyFrom_5 rfl ?_
  refine v_getR fX2_9 rfl (by assumption) (by assumption) dX2_copyFrom_6 ?_
  refine v_iconst dX2_copyFrom_9 ?_
  refine v_bipush dX2_copyFrom_10 (by decide) ?_
  refine v_copy (by assumption) (by assumption) (by decide) rfl rfl rfl kX2_22 wcopy2 wcopy3 wcopy4 (by decide) (Nat.le_of_ble_eq_true rfl) dX2_copyFrom_12 ?_
  have rng1 := w_rngc (a := f + 1) (b := o + 1) (len := 8) rng
  refine v_aload_n dX2_copyFrom_15 rfl ?_
  refine v_getR fX2_15 rfl (by assumption) (by assumption) dX2_copyFrom_16 ?_
  refine v_iconst dX2_copyFrom_19 ?_
  refine v_aload_n dX2_copyFrom_20 rfl ?_
  refine v_getR fX2_15 rfl (by assumption) (by assumption) dX2_copyFrom_21 ?_
  refine v_iconst dX2_copyFrom_24 ?_
  refine v_bipush dX2_copyFrom_25 (by decide) ?_
  refine v_copy (by assumption) (by assumption) (by decide) rfl rfl rfl kX2_22 wcopy2 wcopy3 wcopy4 (by decide) (Nat.le_of_ble_eq_true rfl) dX2_copyFrom_27 ?_
  have rng2 := w_rngc (a := f + 2) (b := o + 2) (len := 8) rng1
  refine v_aload_n dX2_copyFrom_30 rfl ?_
  refine v_aload_n dX2_copyFrom_31 rfl ?_
  refine v_getI' (v := ψ.1) (by rw [w_cpy_o (by omega), w_cpy_o (by omega), hdo]) fX2_18 rfl (by assumption) dX2_copyFrom_32 ?_
  refine v_putI fX2_18 p2_2 rfl ⟨by omega, by omega⟩ (by assumption) dX2_copyFrom_35 ?_
  have rng3 := w_rng (a := f) (f := 2) rng2 (show inR (ψ.1) from ⟨by omega, by omega⟩)
  exact v_vret rfl (by decide) (by decide) dX2_copyFrom_38 ⟨rfl, frOK_copy hψ0 ha⟩
theorem tX2_startWith {E : w_E} {G : w_Sh} {I : w_Mm} {f b : Nat} {φ : fS} (hF : isF G f) (hφ : frOK I f φ) (hTb : G.1 b = (10, 8)) (hb : b ≠ f) (hb1 : b ≠ f + 1) (hb2 : b ≠ f + 2) : w_Ct E mX2_startWith 1 [.ref f, .ref b] G I 0 0 (w_Pv (fun G' J => G' = G ∧ frOK J f (0, I b, φ.2.2) ∧ offF I J f)) := by
  obtain ⟨hT0, hR0, hR1, hT1, hT2⟩ := hF
  refine w_Ct.of (ls := [some (.ref f), some (.ref b)]) (by decide +kernel) (Nat.le_of_ble_eq_true rfl) rfl rfl (fun rng => ?_)
  refine v_aload_n dX2_startWith_0 rfl ?_
  refine v_iconst dX2_startWith_1 ?_
  refine v_aload_n dX2_startWith_2 rfl ?_
  refine v_getR fX2_9 rfl (by assumption) (by assumption) dX2_startWith_3 ?_
  refine v_iconst dX2_startWith_6 ?_
  refine v_bipush dX2_startWith_7 (by decide) ?_
  refine v_copy (by assumption) (by assumption) (by decide) rfl rfl rfl kX2_22 wcopy2 wcopy3 wcopy4 (by decide) (Nat.le_of_ble_eq_true rfl) dX2_startWith_9 ?_
  have rng1 := w_rngc (a := f + 1) (b := b) (len := 8) rng
  refine v_aload_n dX2_startWith_12 rfl ?_
  refine v_iconst dX2_startWith_13 ?_
  refine v_putI fX2_18 p2_2 rfl ⟨by decide, by decide⟩ (by assumption) dX2_startWith_14 ?_
  have rng2 := w_rng (a := f) (f := 2) rng1 (show inR (0) from ⟨by decide, by decide⟩)
  exact v_vret rfl (by decide) (by decide) dX2_startWith_17 ⟨rfl, frOK_start hφ hb hb1 hb2⟩
theorem frOK_rais {I : w_Mm} {f : Nat} {φ ψ : fS} {kd : Int} (h : frOK I f φ) : frOK (w_up (w_up (w_map I (f + 1) 8 (fun k => if 100 ≤ ψ.2.1 k then 0 else ψ.2.1 k)) (f + 2) 0 kd) f 2 1) f (raisF ψ φ.2.2 kd) ∧ offF I (w_up (w_up (w_map I (f + 1) 8 (fun k => if 100 ≤ ψ.2.1 k then 0 else ψ.2.1 k)) (f + 2) 0 kd) f 2 1) f := by
  refine ⟨⟨w_up_s, fun k hk => by rw [w_up_n (by omega), w_up_n (by omega), w_map_i hk]; rfl, fun k hk => ?_, show (-1 : Int) ≤ 1 by decide, show (1 : Int) ≤ 8 by decide⟩, fun a k h1 h2 h3 => by rw [w_up_n (by omega), w_up_n (by omega), w_map_o (by omega)]⟩
  by_cases e : k = 0
  · subst e
    rw [w_up_n (by omega), w_up_s]
    simp [raisF, uL]
  · rw [w_up_n (by omega), w_up_n (by omega), w_map_o (by omega), h.2.2.1 k hk]
    simp [raisF, uL, e]
theorem tX2_becomeRaised {E : w_E} {G : w_Sh} {I : w_Mm} {f o : Nat} {φ ψ : fS} {kd : Int} (hF : isF G f) (hφ : frOK I f φ) (hO : isF G o) (hψ : frOK I o ψ) (ha : fApart f o) (hkd : inR kd) : w_Ct E mX2_becomeRaised 1 [.ref f, .ref o, iv kd] G I 0 0 (w_Pv (fun G' J => G' = G ∧ frOK J f (raisF ψ φ.2.2 kd) ∧ offF I J f)) := by
  obtain ⟨hT0, hR0, hR1, hT1, hT2⟩ := hF
  obtain ⟨hT0o, hR0o, hR1o, hT1o, hT2o⟩ := hO
  have hψ0 := hψ
  obtain ⟨hdo, hLo, hPo, hd1o, hd8o⟩ := hψ
  refine w_Ct.of (ls := [some (.ref f), some (.ref o), some (iv kd), none]) (by decide +kernel) (Nat.le_of_ble_eq_true rfl) rfl rfl (fun rng => ?_)
  refine v_iconst dX2_becomeRaised_0 ?_
  refine v_istore_n dX2_becomeRaised_1 (by decide) rfl ?_
  have hg : ∀ k, k < 8 → inR ((fun k => if 100 ≤ ψ.2.1 k then 0 else ψ.2.1 k) k) := fun k hk => by
    show inR (if 100 ≤ ψ.2.1 k then 0 else ψ.2.1 k)
    split
    · exact ⟨by decide, by decide⟩
    · rw [← hLo k hk]; exact rng _ _
  have loop : ∀ m j : Nat, j + m = 8 → w_V E mX2_becomeRaised (w_rm 1 0 0) (w_Z E 0 0 (w_Pv (fun G' J => G' = G ∧ frOK J f (raisF ψ φ.2.2 kd) ∧ offF I J f))) G (w_map I (f + 1) j (fun k => if 100 ≤ ψ.2.1 k then 0 else ψ.2.1 k)) 0 0 2 [some (.ref f), some (.ref o), some (iv kd), some (iv (j : Int))] [] := by
    intro m
    induction m with
    | zero =>
      intro j hj
      obtain rfl : j = 8 := by omega
      have rng8 := w_rngm (a := f + 1) rng hg
      refine v_iload_n dX2_becomeRaised_2 rfl ?_
      refine v_bipush dX2_becomeRaised_3 (by decide) ?_
      refine v_icmp_ge ⟨by omega, by omega⟩ ⟨by decide, by decide⟩ dX2_becomeRaised_5 (fun hb5 => ?_) (fun h => by exfalso; omega)
      refine v_aload_n dX2_becomeRaised_42 rfl ?_
      refine v_getR fX2_15 rfl (by assumption) (by assumption) dX2_becomeRaised_43 ?_
      refine v_iconst dX2_becomeRaised_46 ?_
      refine v_iload_n dX2_becomeRaised_47 rfl ?_
      refine v_iast (i := 0) (by assumption) rfl (by omega) (by omega) hkd dX2_becomeRaised_48 ?_
      have rng1 := w_rng (a := f + 2) (f := 0) rng8 (show inR (kd) from hkd)
      refine v_aload_n dX2_becomeRaised_49 rfl ?_
      refine v_iconst dX2_becomeRaised_50 ?_
      refine v_putI fX2_18 p2_2 rfl ⟨by decide, by decide⟩ (by assumption) dX2_becomeRaised_51 ?_
      have rng2 := w_rng (a := f) (f := 2) rng1 (show inR (1) from ⟨by decide, by decide⟩)
      exact v_vret rfl (by decide) (by decide) dX2_becomeRaised_54 ⟨rfl, frOK_rais hφ⟩
    | succ m ih =>
      intro j hj
      have rngj := w_rngm (a := f + 1) (j := j) rng (fun k hk => hg k (by omega))
      refine v_iload_n dX2_becomeRaised_2 rfl ?_
      refine v_bipush dX2_becomeRaised_3 (by decide) ?_
      refine v_icmp_ge ⟨by omega, by omega⟩ ⟨by decide, by decide⟩ dX2_becomeRaised_5 (fun h => by exfalso; omega) (fun hb5 => ?_)
      refine v_aload_n dX2_becomeRaised_8 rfl ?_
      refine v_getR fX2_9 rfl (by assumption) (by assumption) dX2_becomeRaised_9 ?_
      refine v_iload_n dX2_becomeRaised_12 rfl ?_
      refine v_aload_n dX2_becomeRaised_13 rfl ?_
      refine v_getR fX2_9 rfl (by assumption) (by assumption) dX2_becomeRaised_14 ?_
      refine v_iload_n dX2_becomeRaised_17 rfl ?_
      refine v_iald' (i := j) (v := ψ.2.1 (j)) (by rw [w_map_o (by omega), (hLo (j) (by omega))]) (by assumption) rfl (by omega) (by omega) dX2_becomeRaised_18 ?_
      refine v_Sb (tX3_isUnmade (by rw [← hLo (j) (by omega)]; exact rng _ _)) kX2_28 rfl rfl ⟨by decide, by decide⟩ ⟨by decide, by decide⟩ (Nat.le_of_ble_eq_true rfl) dX2_becomeRaised_19 (fun h1 => ?_) (fun h1 => ?_)
      · refine v_if_eq ⟨by decide, by decide⟩ dX2_becomeRaised_22 (fun h => by exfalso; omega) (fun hb22 => ?_)
        refine v_iconst dX2_becomeRaised_25 ?_
        refine v_goto dX2_becomeRaised_26 ?_
        refine v_iast (i := j) (by assumption) rfl (by omega) (by omega) ⟨by decide, by decide⟩ dX2_becomeRaised_35 ?_
        have rng2 := w_rng (a := f + 1) (f := j) rngj (show inR (0) from ⟨by decide, by decide⟩)
        refine v_iinc dX2_becomeRaised_36 rfl (by decide) rfl rfl ?_
        refine v_goto dX2_becomeRaised_39 ?_
        refine v_mem (w_map_s (by first | rw [if_pos (by assumption)] | rw [if_neg (by assumption)])) ?_
        exact ih (j + 1) (by omega)
      · refine v_if_eq ⟨by decide, by decide⟩ dX2_becomeRaised_22 (fun hb22 => ?_) (fun h => by exfalso; omega)
        refine v_aload_n dX2_becomeRaised_29 rfl ?_
        refine v_getR fX2_9 rfl (by assumption) (by assumption) dX2_becomeRaised_30 ?_
        refine v_iload_n dX2_becomeRaised_33 rfl ?_
        refine v_iald' (i := j) (v := ψ.2.1 (j)) (by rw [w_map_o (by omega), (hLo (j) (by omega))]) (by assumption) rfl (by omega) (by omega) dX2_becomeRaised_34 ?_
        refine v_iast (i := j) (by assumption) rfl (by omega) (by omega) (by rw [← hLo (j) (by omega)]; exact rng _ _) dX2_becomeRaised_35 ?_
        have rng3 := w_rng (a := f + 1) (f := j) rngj (show inR (ψ.2.1 (j)) from (by rw [← hLo (j) (by omega)]; exact rng _ _))
        refine v_iinc dX2_becomeRaised_36 rfl (by decide) rfl rfl ?_
        refine v_goto dX2_becomeRaised_39 ?_
        refine v_mem (w_map_s (by first | rw [if_pos (by assumption)] | rw [if_neg (by assumption)])) ?_
        exact ih (j + 1) (by omega)
  exact v_mem w_map_0.symm (loop 8 0 rfl)
theorem frOK_repl {I : w_Mm} {f d : Nat} {φ : fS} {ol kd : Int} (h : frOK I f φ) (hd : (d : Int) = max φ.1 0) : frOK (w_map (w_map I (f + 1) 8 (fun k => if φ.2.1 k = ol then kd else φ.2.1 k)) (f + 2) d (fun k => if φ.2.2 k = ol then kd else φ.2.2 k)) f (replF φ ol kd) ∧ offF I (w_map (w_map I (f + 1) 8 (fun k => if φ.2.1 k = ol then kd else φ.2.1 k)) (f + 2) d (fun k => if φ.2.2 k = ol then kd else φ.2.2 k)) f := by
  refine ⟨⟨by rw [w_map_o (by omega), w_map_o (by omega)]; exact h.1, fun k hk => by rw [w_map_o (by omega), w_map_i hk]; rfl, fun k hk => ?_, h.2.2.2⟩, fun a k h1 h2 h3 => by rw [w_map_o (by omega), w_map_o (by omega)]⟩
  by_cases e : k < d
  · rw [w_map_i e]
    have : (k : Int) < φ.1 := by omega
    simp [replF, this]
  · rw [w_map_o (by omega), w_map_o (by omega), h.2.2.1 k hk]
    have : ¬ (k : Int) < φ.1 := by omega
    simp [replF, this]
theorem tX2_replace {E : w_E} {G : w_Sh} {I : w_Mm} {f : Nat} {φ : fS} (hF : isF G f) (hφ : frOK I f φ) {ol kd : Int} (hol : inR ol) (hkd : inR kd) : w_Ct E mX2_replace 0 [.ref f, iv ol, iv kd] G I 0 0 (w_Pv (fun G' J => G' = G ∧ frOK J f (replF φ ol kd) ∧ offF I J f)) := by
  have hφ0 := hφ
  obtain ⟨hT0, hR0, hR1, hT1, hT2⟩ := hF
  obtain ⟨hd, hL, hP, hd1, hd8⟩ := hφ
  refine w_Ct.of (ls := [some (.ref f), some (iv ol), some (iv kd), none]) (by decide +kernel) (Nat.le_of_ble_eq_true rfl) rfl rfl (fun rng => ?_)
  refine v_iconst dX2_replace_0 ?_
  refine v_istore_n dX2_replace_1 (by decide) rfl ?_
  have hg1 : ∀ k, k < 8 → inR ((fun k => if φ.2.1 k = ol then kd else φ.2.1 k) k) := fun k hk => by
    show inR (if _ = ol then kd else _)
    split
    · exact hkd
    · rw [← hL k hk]; exact rng _ _
  have hg2 : ∀ k, k < 8 → inR ((fun k => if φ.2.2 k = ol then kd else φ.2.2 k) k) := fun k hk => by
    show inR (if _ = ol then kd else _)
    split
    · exact hkd
    · rw [← hP k hk]; exact rng _ _
  have rng8 := w_rngm (a := f + 1) (j := 8) rng hg1
  have loop2 : ∀ m j : Nat, (j : Int) + m = max φ.1 0 → w_V E mX2_replace (w_rm 0 0 0) (w_Z E 0 0 (w_Pv (fun G' J => G' = G ∧ frOK J f (replF φ ol kd) ∧ offF I J f))) G (w_map (w_map I (f + 1) 8 (fun k => if φ.2.1 k = ol then kd else φ.2.1 k)) (f + 2) j (fun k => if φ.2.2 k = ol then kd else φ.2.2 k)) 0 0 42 [some (.ref f), some (iv ol), some (iv kd), some (iv (j : Int))] [] := by
    intro m
    induction m with
    | zero =>
      intro j hj
      refine v_iload_n dX2_replace_42 rfl ?_
      refine v_aload_n dX2_replace_43 rfl ?_
      refine v_getI' (v := φ.1) (by rw [w_map_o (by omega), w_map_o (by omega), hd]) fX2_18 rfl (by assumption) dX2_replace_44 ?_
      refine v_icmp_ge ⟨by omega, by omega⟩ ⟨by omega, by omega⟩ dX2_replace_47 (fun hb47 => ?_) (fun h => by exfalso; omega)
      exact v_vret rfl (by decide) (by decide) dX2_replace_82 ⟨rfl, frOK_repl hφ0 (by omega)⟩
    | succ m ih =>
      intro j hj
      have rngj := w_rngm (a := f + 2) (j := j) rng8 (fun k hk => hg2 k (by omega))
      refine v_iload_n dX2_replace_42 rfl ?_
      refine v_aload_n dX2_replace_43 rfl ?_
      refine v_getI' (v := φ.1) (by rw [w_map_o (by omega), w_map_o (by omega), hd]) fX2_18 rfl (by assumption) dX2_replace_44 ?_
      refine v_icmp_ge ⟨by omega, by omega⟩ ⟨by omega, by omega⟩ dX2_replace_47 (fun h => by exfalso; omega) (fun hb47 => ?_)
      refine v_aload_n dX2_replace_50 rfl ?_
      refine v_getR fX2_15 rfl (by assumption) (by assumption) dX2_replace_51 ?_
      refine v_iload_n dX2_replace_54 rfl ?_
      refine v_aload_n dX2_replace_55 rfl ?_
      refine v_getR fX2_15 rfl (by assumption) (by assumption) dX2_replace_56 ?_
      refine v_iload_n dX2_replace_59 rfl ?_
      refine v_iald' (i := j) (v := φ.2.2 (j)) (by rw [w_map_o (by omega), w_map_o (by omega), (hP (j) (by omega))]) (by assumption) rfl (by omega) (by omega) dX2_replace_60 ?_
      refine v_iload_n dX2_replace_61 rfl ?_
      refine v_icmp_ne (by rw [← hP (j) (by omega)]; exact rng _ _) hol dX2_replace_62 (fun h1 => ?_) (fun h1 => ?_)
      · refine v_aload_n dX2_replace_69 rfl ?_
        refine v_getR fX2_15 rfl (by assumption) (by assumption) dX2_replace_70 ?_
        refine v_iload_n dX2_replace_73 rfl ?_
        refine v_iald' (i := j) (v := φ.2.2 (j)) (by rw [w_map_o (by omega), w_map_o (by omega), (hP (j) (by omega))]) (by assumption) rfl (by omega) (by omega) dX2_replace_74 ?_
        refine v_iast (i := j) (by assumption) rfl (by omega) (by omega) (by rw [← hP (j) (by omega)]; exact rng _ _) dX2_replace_75 ?_
        have rng2 := w_rng (a := f + 2) (f := j) rngj (show inR (φ.2.2 (j)) from (by rw [← hP (j) (by omega)]; exact rng _ _))
        refine v_iinc dX2_replace_76 rfl (by decide) rfl rfl ?_
        refine v_goto dX2_replace_79 ?_
        refine v_mem (w_map_s (by first | rw [if_pos (by assumption)] | rw [if_neg (by assumption)])) ?_
        exact ih (j + 1) (by omega)
      · refine v_iload_n dX2_replace_65 rfl ?_
        refine v_goto dX2_replace_66 ?_
        refine v_iast (i := j) (by assumption) rfl (by omega) (by omega) hkd dX2_replace_75 ?_
        have rng3 := w_rng (a := f + 2) (f := j) rngj (show inR (kd) from hkd)
        refine v_iinc dX2_replace_76 rfl (by decide) rfl rfl ?_
        refine v_goto dX2_replace_79 ?_
        refine v_mem (w_map_s (by first | rw [if_pos (by assumption)] | rw [if_neg (by assumption)])) ?_
        exact ih (j + 1) (by omega)
  have loop1 : ∀ m j : Nat, j + m = 8 → w_V E mX2_replace (w_rm 0 0 0) (w_Z E 0 0 (w_Pv (fun G' J => G' = G ∧ frOK J f (replF φ ol kd) ∧ offF I J f))) G (w_map I (f + 1) j (fun k => if φ.2.1 k = ol then kd else φ.2.1 k)) 0 0 2 [some (.ref f), some (iv ol), some (iv kd), some (iv (j : Int))] [] := by
    intro m
    induction m with
    | zero =>
      intro j hj
      obtain rfl : j = 8 := by omega
      refine v_iload_n dX2_replace_2 rfl ?_
      refine v_bipush dX2_replace_3 (by decide) ?_
      refine v_icmp_ge ⟨by omega, by omega⟩ ⟨by decide, by decide⟩ dX2_replace_5 (fun hb5 => ?_) (fun h => by exfalso; omega)
      refine v_iconst dX2_replace_40 ?_
      refine v_istore_n dX2_replace_41 (by decide) rfl ?_
      exact v_mem w_map_0.symm (loop2 (max φ.1 0).toNat 0 (by omega))
    | succ m ih =>
      intro j hj
      have rngj := w_rngm (a := f + 1) (j := j) rng (fun k hk => hg1 k (by omega))
      refine v_iload_n dX2_replace_2 rfl ?_
      refine v_bipush dX2_replace_3 (by decide) ?_
      refine v_icmp_ge ⟨by omega, by omega⟩ ⟨by decide, by decide⟩ dX2_replace_5 (fun h => by exfalso; omega) (fun hb5 => ?_)
      refine v_aload_n dX2_replace_8 rfl ?_
      refine v_getR fX2_9 rfl (by assumption) (by assumption) dX2_replace_9 ?_
      refine v_iload_n dX2_replace_12 rfl ?_
      refine v_aload_n dX2_replace_13 rfl ?_
      refine v_getR fX2_9 rfl (by assumption) (by assumption) dX2_replace_14 ?_
      refine v_iload_n dX2_replace_17 rfl ?_
      refine v_iald' (i := j) (v := φ.2.1 (j)) (by rw [w_map_o (by omega), (hL (j) (by omega))]) (by assumption) rfl (by omega) (by omega) dX2_replace_18 ?_
      refine v_iload_n dX2_replace_19 rfl ?_
      refine v_icmp_ne (by rw [← hL (j) (by omega)]; exact rng _ _) hol dX2_replace_20 (fun h1 => ?_) (fun h1 => ?_)
      · refine v_aload_n dX2_replace_27 rfl ?_
        refine v_getR fX2_9 rfl (by assumption) (by assumption) dX2_replace_28 ?_
        refine v_iload_n dX2_replace_31 rfl ?_
        refine v_iald' (i := j) (v := φ.2.1 (j)) (by rw [w_map_o (by omega), (hL (j) (by omega))]) (by assumption) rfl (by omega) (by omega) dX2_replace_32 ?_
        refine v_iast (i := j) (by assumption) rfl (by omega) (by omega) (by rw [← hL (j) (by omega)]; exact rng _ _) dX2_replace_33 ?_
        have rng2 := w_rng (a := f + 1) (f := j) rngj (show inR (φ.2.1 (j)) from (by rw [← hL (j) (by omega)]; exact rng _ _))
        refine v_iinc dX2_replace_34 rfl (by decide) rfl rfl ?_
        refine v_goto dX2_replace_37 ?_
        refine v_mem (w_map_s (by first | rw [if_pos (by assumption)] | rw [if_neg (by assumption)])) ?_
        exact ih (j + 1) (by omega)
      · refine v_iload_n dX2_replace_23 rfl ?_
        refine v_goto dX2_replace_24 ?_
        refine v_iast (i := j) (by assumption) rfl (by omega) (by omega) hkd dX2_replace_33 ?_
        have rng3 := w_rng (a := f + 1) (f := j) rngj (show inR (kd) from hkd)
        refine v_iinc dX2_replace_34 rfl (by decide) rfl rfl ?_
        refine v_goto dX2_replace_37 ?_
        refine v_mem (w_map_s (by first | rw [if_pos (by assumption)] | rw [if_neg (by assumption)])) ?_
        exact ih (j + 1) (by omega)
  exact v_mem w_map_0.symm (loop1 8 0 rfl)
end
section
/-! ===== a step on a frame: rule, frame ===== -/
abbrev sS : Type := Int × fS
def isS (G : w_Sh) (s q c : Nat) : Prop := G.1 s = (5, 0) ∧ G.2.1 s 0 = some q ∧ G.2.1 s 1 = some (s + 1) ∧ isK G q c ∧ isF G (s + 1)
def stOK (I : w_Mm) (s : Nat) (σ : sS) : Prop := I s 2 = σ.1 ∧ frOK I (s + 1) σ.2 ∧ 0 ≤ σ.2.1
def offS (I J : w_Mm) (s : Nat) : Prop := ∀ a k, a ≠ s → a ≠ s + 1 → a ≠ s + 2 → a ≠ s + 3 → J a k = I a k
theorem offS.rf {I : w_Mm} {s : Nat} : offS I I s := fun _ _ _ _ _ _ => rfl
theorem offS.tr {I J K : w_Mm} {s : Nat} (h : offS I J s) (g : offS J K s) : offS I K s := fun a k h1 h2 h3 h4 => (g a k h1 h2 h3 h4).trans (h a k h1 h2 h3 h4)
theorem offF.S {I J : w_Mm} {s : Nat} (h : offF I J (s + 1)) : offS I J s := fun a k h1 h2 h3 h4 => h a k (by omega) (by omega) (by omega)
theorem clsOK.off {I J : w_Mm} {c : Nat} {Q : cS} (h : clsOK I c Q) (ho : ∀ k, J c k = I c k ∧ J (c + 1) k = I (c + 1) k ∧ J (c + 2) k = I (c + 2) k) : clsOK J c Q :=
  ⟨(ho 2).1.trans h.1, h.2.1, h.2.2.1, fun j hj => ⟨(ho j).2.1.trans (h.2.2.2.1 j hj).1, (h.2.2.2.1 j hj).2⟩, fun j hj => ⟨(ho j).2.2.trans (h.2.2.2.2 j hj).1, (h.2.2.2.2 j hj).2⟩⟩
theorem clsOK.offS {I J : w_Mm} {c s : Nat} {Q : cS} (h : clsOK I c Q) (hcs : c + 3 ≤ s) (ho : offS I J s) : clsOK J c Q := h.off (fun k => ⟨ho c k (by omega) (by omega) (by omega) (by omega), ho _ k (by omega) (by omega) (by omega) (by omega), ho _ k (by omega) (by omega) (by omega) (by omega)⟩)
def fTop (φ : fS) : Int := if 0 < φ.1 then φ.2.2 (φ.1 - 1).toNat else 0
def xBrk (σ : sS) (n : Int) : sS := (if σ.1 = 0 then n else σ.1, σ.2)
def xExp (σ : sS) (b n : Int) : sS := if b = 0 then xBrk σ n else σ
def xDn (σ : sS) (n : Int) : sS := (σ.1, (σ.2.1 - n, σ.2.2))
def xW (σ : sS) (n r : Int) : sS := if σ.2.1 < n then xBrk σ r else σ
def xTA (σ : sS) : Int × sS := if (xW σ 1 2).1 = 0 then (fTop (xW σ 1 2).2, xDn (xW σ 1 2) 1) else (0, xW σ 1 2)
def xTL0 (σ : sS) : sS := if lngTop σ.2 then xW σ 2 2 else xBrk (xW σ 2 2) 3
def xTL (σ : sS) : sS := if (xTL0 σ).1 = 0 then xDn (xTL0 σ) 2 else xTL0 σ
def xTake (Q : cS) (σ : sS) (kd : Int) : sS := if kd = 2 then xTL σ else if kd = 0 then σ else if fitK Q (xTA σ).1 kd then (xTA σ).2 else xBrk (xTA σ).2 3
theorem xBrk_ne {σ : sS} {n : Int} (h : ¬ n = 0) : ¬ (xBrk σ n).1 = 0 := by
  unfold xBrk
  split
  · exact h
  · assumption
theorem stOK.brk {I : w_Mm} {s : Nat} {σ : sS} (h : stOK I s σ) (n : Int) : stOK (w_up I s 2 (xBrk σ n).1) s (xBrk σ n) ∧ offS I (w_up I s 2 (xBrk σ n).1) s :=
  ⟨⟨w_up_s, ⟨(w_up_n (by omega)).trans h.2.1.1, fun k hk => (w_up_n (by omega)).trans (h.2.1.2.1 k hk), fun k hk => (w_up_n (by omega)).trans (h.2.1.2.2.1 k hk), h.2.1.2.2.2⟩, h.2.2⟩, fun a k h1 h2 h3 h4 => w_up_n (by omega)⟩
theorem stOK.dn {I : w_Mm} {s : Nat} {σ : sS} (h : stOK I s σ) (n : Int) (hn : 0 ≤ n) (hd : n ≤ σ.2.1) : stOK (w_up I (s + 1) 2 (σ.2.1 - n)) s (xDn σ n) ∧ offS I (w_up I (s + 1) 2 (σ.2.1 - n)) s := by
  have h8 := h.2.1.2.2.2.2
  exact ⟨⟨(w_up_n (by omega)).trans h.1, ⟨w_up_s, fun k hk => (w_up_n (by omega)).trans (h.2.1.2.1 k hk), fun k hk => (w_up_n (by omega)).trans (h.2.1.2.2.1 k hk), show -1 ≤ σ.2.1 - n by omega, show σ.2.1 - n ≤ 8 by omega⟩, show 0 ≤ σ.2.1 - n by omega⟩, fun a k h1 h2 h3 h4 => w_up_n (by omega)⟩
theorem tX5_breakRule {E : w_E} {G : w_Sh} {I : w_Mm} {s q c : Nat} {Q : cS} {σ : sS} (hS : isS G s q c) (hcs : c + 3 ≤ s) (hQ : clsOK I c Q) (hσ : stOK I s σ) {nn : Int} (hn : inR nn) : w_Ct E mX5_breakRule 0 [.ref s, iv nn] G I 0 0 (w_Pv (fun G' J => G' = G ∧ stOK J s (xBrk σ nn) ∧ offS I J s)) := by
  have hS0 := hS
  obtain ⟨hTs, hRs0, hRs1, hK, hF⟩ := hS
  refine w_Ct.of (ls := [some (.ref s), some (iv nn)]) (by decide +kernel) (Nat.le_of_ble_eq_true rfl) rfl rfl (fun rng => ?_)
  refine v_aload_n dX5_breakRule_0 rfl ?_
  refine v_aload_n dX5_breakRule_1 rfl ?_
  refine v_getI' (v := (σ).1) hσ.1 fX5_38 rfl (by assumption) dX5_breakRule_2 ?_
  refine v_if_ne (by rw [← hσ.1]; exact rng _ _) dX5_breakRule_5 (fun h1 => ?_) (fun h1 => ?_)
  · refine v_aload_n dX5_breakRule_12 rfl ?_
    refine v_getI' (v := (σ).1) hσ.1 fX5_38 rfl (by assumption) dX5_breakRule_13 ?_
    refine v_putI fX5_38 p5_2 rfl (by rw [← hσ.1]; exact rng _ _) (by assumption) dX5_breakRule_16 ?_
    have rng2 := w_rng (a := s) (f := 2) rng (show inR ((σ).1) from (by rw [← hσ.1]; exact rng _ _))
    refine v_vret rfl (by decide) (by decide) dX5_breakRule_19 ⟨rfl, ?_⟩
    have e : σ.1 = (xBrk σ nn).1 := by unfold xBrk; exact (if_neg h1).symm
    have g := hσ.brk nn
    rw [← e] at g; exact g
  · refine v_iload_n dX5_breakRule_8 rfl ?_
    refine v_goto dX5_breakRule_9 ?_
    refine v_putI fX5_38 p5_2 rfl hn (by assumption) dX5_breakRule_16 ?_
    have rng3 := w_rng (a := s) (f := 2) rng (show inR (nn) from hn)
    refine v_vret rfl (by decide) (by decide) dX5_breakRule_19 ⟨rfl, ?_⟩
    have e : nn = (xBrk σ nn).1 := by unfold xBrk; exact (if_pos h1).symm
    have g := hσ.brk nn
    rw [← e] at g; exact g
theorem tX5_expect {E : w_E} {G : w_Sh} {I : w_Mm} {s q c : Nat} {Q : cS} {σ : sS} (hS : isS G s q c) (hcs : c + 3 ≤ s) (hQ : clsOK I c Q) (hσ : stOK I s σ) {b : Int} (hb : b = 0 ∨ b = 1) : w_Ct E mX5_expect 1 [.ref s, iv b] G I 0 0 (w_Pv (fun G' J => G' = G ∧ stOK J s (xExp σ b 3) ∧ offS I J s)) := by
  have hS0 := hS
  obtain ⟨hTs, hRs0, hRs1, hK, hF⟩ := hS
  refine w_Ct.of (ls := [some (.ref s), some (iv b)]) (by decide +kernel) (Nat.le_of_ble_eq_true rfl) rfl rfl (fun rng => ?_)
  refine v_iload_n dX5_expect_0 rfl ?_
  refine v_if_ne ⟨by omega, by omega⟩ dX5_expect_1 (fun h1 => ?_) (fun h1 => ?_)
  · refine v_vret rfl (by decide) (by decide) dX5_expect_9 ⟨rfl, ?_⟩
    rw [show xExp σ b 3 = σ from if_neg h1]
    exact ⟨hσ, offS.rf⟩
  · refine v_aload_n dX5_expect_4 rfl ?_
    refine v_iconst dX5_expect_5 ?_
    refine v_Vv (tX5_breakRule hS0 hcs hQ hσ ⟨by decide, by decide⟩) kX5_130 (by assumption) rfl rfl ⟨by decide, by decide⟩ ⟨by decide, by decide⟩ (Nat.le_of_ble_eq_true rfl) dX5_expect_6 (fun G9 J2 pJ2 rng3 => ?_)
    obtain ⟨rfl, sJ2, oJ2⟩ := pJ2
    have OJ2 := (offS.rf).tr oJ2
    have QJ2 := clsOK.offS hQ hcs OJ2
    refine v_vret rfl (by decide) (by decide) dX5_expect_9 ⟨rfl, ?_⟩
    rw [show xExp σ b 3 = xBrk σ 3 from if_pos h1]
    exact ⟨sJ2, OJ2⟩
theorem tX5_expect_1 {E : w_E} {G : w_Sh} {I : w_Mm} {s q c : Nat} {Q : cS} {σ : sS} (hS : isS G s q c) (hcs : c + 3 ≤ s) (hQ : clsOK I c Q) (hσ : stOK I s σ) {b : Int} {τ : sS} (hb : (b = 1 ∧ τ = σ) ∨ (b = 0 ∧ τ = xBrk σ 3)) : w_Ct E mX5_expect 1 [.ref s, iv b] G I 0 0 (w_Pv (fun G' J => G' = G ∧ stOK J s (τ) ∧ offS I J s)) := by
  have h := tX5_expect (E := E) hS hcs hQ hσ (b := b) (by omega)
  have e : xExp σ b 3 = τ := by rcases hb with ⟨rfl, rfl⟩ | ⟨rfl, rfl⟩ <;> rfl
  rw [e] at h; exact h
theorem tX5_expectInLocal {E : w_E} {G : w_Sh} {I : w_Mm} {s q c : Nat} {Q : cS} {σ : sS} (hS : isS G s q c) (hcs : c + 3 ≤ s) (hQ : clsOK I c Q) (hσ : stOK I s σ) {b : Int} (hb : b = 0 ∨ b = 1) : w_Ct E mX5_expectInLocal 1 [.ref s, iv b] G I 0 0 (w_Pv (fun G' J => G' = G ∧ stOK J s (xExp σ b 4) ∧ offS I J s)) := by
  have hS0 := hS
  obtain ⟨hTs, hRs0, hRs1, hK, hF⟩ := hS
  refine w_Ct.of (ls := [some (.ref s), some (iv b)]) (by decide +kernel) (Nat.le_of_ble_eq_true rfl) rfl rfl (fun rng => ?_)
  refine v_iload_n dX5_expectInLocal_0 rfl ?_
  refine v_if_ne ⟨by omega, by omega⟩ dX5_expectInLocal_1 (fun h1 => ?_) (fun h1 => ?_)
  · refine v_vret rfl (by decide) (by decide) dX5_expectInLocal_9 ⟨rfl, ?_⟩
    rw [show xExp σ b 4 = σ from if_neg h1]
    exact ⟨hσ, offS.rf⟩
  · refine v_aload_n dX5_expectInLocal_4 rfl ?_
    refine v_iconst dX5_expectInLocal_5 ?_
    refine v_Vv (tX5_breakRule hS0 hcs hQ hσ ⟨by decide, by decide⟩) kX5_130 (by assumption) rfl rfl ⟨by decide, by decide⟩ ⟨by decide, by decide⟩ (Nat.le_of_ble_eq_true rfl) dX5_expectInLocal_6 (fun G9 J2 pJ2 rng3 => ?_)
    obtain ⟨rfl, sJ2, oJ2⟩ := pJ2
    have OJ2 := (offS.rf).tr oJ2
    have QJ2 := clsOK.offS hQ hcs OJ2
    refine v_vret rfl (by decide) (by decide) dX5_expectInLocal_9 ⟨rfl, ?_⟩
    rw [show xExp σ b 4 = xBrk σ 4 from if_pos h1]
    exact ⟨sJ2, OJ2⟩
theorem tX5_expectInLocal_1 {E : w_E} {G : w_Sh} {I : w_Mm} {s q c : Nat} {Q : cS} {σ : sS} (hS : isS G s q c) (hcs : c + 3 ≤ s) (hQ : clsOK I c Q) (hσ : stOK I s σ) {b : Int} {τ : sS} (hb : (b = 1 ∧ τ = σ) ∨ (b = 0 ∧ τ = xBrk σ 4)) : w_Ct E mX5_expectInLocal 1 [.ref s, iv b] G I 0 0 (w_Pv (fun G' J => G' = G ∧ stOK J s (τ) ∧ offS I J s)) := by
  have h := tX5_expectInLocal (E := E) hS hcs hQ hσ (b := b) (by omega)
  have e : xExp σ b 4 = τ := by rcases hb with ⟨rfl, rfl⟩ | ⟨rfl, rfl⟩ <;> rfl
  rw [e] at h; exact h
theorem tX5_takeAny {E : w_E} {G : w_Sh} {I : w_Mm} {s q c : Nat} {Q : cS} {σ : sS} (hS : isS G s q c) (hcs : c + 3 ≤ s) (hQ : clsOK I c Q) (hσ : stOK I s σ) : w_Ct E mX5_takeAny 1 [.ref s] G I 0 0 (w_Pi (fun r G' J => G' = G ∧ r = (xTA σ).1 ∧ stOK J s ((xTA σ).2) ∧ offS I J s)) := by
  have hS0 := hS
  obtain ⟨hTs, hRs0, hRs1, hK, hF⟩ := hS
  have hd0 := hσ.2.2
  have hd8 := hσ.2.1.2.2.2.2
  rcases Int.lt_or_le σ.2.1 1 with hlt | hge
  · have eW : xW σ 1 2 = xBrk σ 2 := if_pos hlt
    have eT : xTA σ = (0, xBrk σ 2) := by unfold xTA; rw [eW, if_neg (xBrk_ne (by decide))]
    rw [eT]
    refine w_Ct.of (ls := [some (.ref s), none]) (by decide +kernel) (Nat.le_of_ble_eq_true rfl) rfl rfl (fun rng => ?_)
    refine v_aload_n dX5_takeAny_0 rfl ?_
    refine v_getR fX5_12 rfl (by assumption) (by assumption) dX5_takeAny_1 ?_
    refine v_getI' (v := (σ).2.1) hσ.2.1.1 fX5_133 rfl hF.1 dX5_takeAny_4 ?_
    refine v_iconst dX5_takeAny_7 ?_
    refine v_icmp_ge (by rw [← hσ.2.1.1]; exact rng _ _) ⟨by decide, by decide⟩ dX5_takeAny_8 (fun h => by exfalso; omega) (fun hb8 => ?_)
    refine v_aload_n dX5_takeAny_11 rfl ?_
    refine v_iconst dX5_takeAny_12 ?_
    refine v_Vv (tX5_breakRule hS0 hcs hQ hσ ⟨by decide, by decide⟩) kX5_130 (by assumption) rfl rfl ⟨by decide, by decide⟩ ⟨by decide, by decide⟩ (Nat.le_of_ble_eq_true rfl) dX5_takeAny_13 (fun G9 J1 pJ1 rng2 => ?_)
    obtain ⟨rfl, sJ1, oJ1⟩ := pJ1
    have OJ1 := (offS.rf).tr oJ1
    have QJ1 := clsOK.offS hQ hcs OJ1
    refine v_aload_n dX5_takeAny_16 rfl ?_
    refine v_getI' (v := (xBrk (σ) 2).1) sJ1.1 fX5_38 rfl (by assumption) dX5_takeAny_17 ?_
    refine v_if_eq (by rw [← sJ1.1]; exact rng2 _ _) dX5_takeAny_20 (fun h => absurd h (xBrk_ne (by decide))) (fun hb20 => ?_)
    refine v_iconst dX5_takeAny_23 ?_
    exact v_iret rfl (by decide) (by decide) ⟨by decide, by decide⟩ dX5_takeAny_24 ⟨rfl, rfl, sJ1, OJ1⟩
  · have eW : xW σ 1 2 = σ := if_neg (by omega)
    by_cases hr : σ.1 = 0
    · have eT : xTA σ = (fTop σ.2, xDn σ 1) := by unfold xTA; rw [eW, if_pos hr]
      rw [eT]
      refine w_Ct.of (ls := [some (.ref s), none]) (by decide +kernel) (Nat.le_of_ble_eq_true rfl) rfl rfl (fun rng => ?_)
      refine v_aload_n dX5_takeAny_0 rfl ?_
      refine v_getR fX5_12 rfl (by assumption) (by assumption) dX5_takeAny_1 ?_
      refine v_getI' (v := (σ).2.1) hσ.2.1.1 fX5_133 rfl hF.1 dX5_takeAny_4 ?_
      refine v_iconst dX5_takeAny_7 ?_
      refine v_icmp_ge (by rw [← hσ.2.1.1]; exact rng _ _) ⟨by decide, by decide⟩ dX5_takeAny_8 (fun hb8 => ?_) (fun h => by exfalso; omega)
      refine v_aload_n dX5_takeAny_16 rfl ?_
      refine v_getI' (v := (σ).1) hσ.1 fX5_38 rfl (by assumption) dX5_takeAny_17 ?_
      refine v_if_eq (by rw [← hσ.1]; exact rng _ _) dX5_takeAny_20 (fun hb20 => ?_) (fun h => by exfalso; omega)
      refine v_aload_n dX5_takeAny_25 rfl ?_
      refine v_getR fX5_12 rfl (by assumption) (by assumption) dX5_takeAny_26 ?_
      refine v_VmN (tX2_top hF hσ.2.1) kX5_136 hF.1 rfl rfl ⟨by decide, by decide⟩ ⟨by decide, by decide⟩ (Nat.le_of_ble_eq_true rfl) dX5_takeAny_29 (fun r1 er1 hr1 rng2 => ?_)
      refine v_istore_n dX5_takeAny_32 (by decide) rfl ?_
      refine v_aload_n dX5_takeAny_33 rfl ?_
      refine v_getR fX5_12 rfl (by assumption) (by assumption) dX5_takeAny_34 ?_
      refine v_dup dX5_takeAny_37 rfl ?_
      refine v_getI' (v := (σ).2.1) hσ.2.1.1 fX5_133 rfl hF.1 dX5_takeAny_38 ?_
      refine v_iconst dX5_takeAny_41 ?_
      refine v_isub dX5_takeAny_42 ?_
      refine v_putI fX5_133 p2_2 rfl ⟨by omega, by omega⟩ hF.1 dX5_takeAny_43 ?_
      have rng3 := w_rng (a := s + 1) (f := 2) rng (show inR (((σ).2.1 - 1)) from ⟨by omega, by omega⟩)
      refine v_iload_n dX5_takeAny_46 rfl ?_
      obtain ⟨g1, g2⟩ := hσ.dn 1 (by decide) hge
      exact v_iret rfl (by decide) (by decide) hr1 dX5_takeAny_47 ⟨rfl, er1, g1, g2⟩
    · have eT : xTA σ = (0, σ) := by unfold xTA; rw [eW, if_neg hr]
      rw [eT]
      refine w_Ct.of (ls := [some (.ref s), none]) (by decide +kernel) (Nat.le_of_ble_eq_true rfl) rfl rfl (fun rng => ?_)
      refine v_aload_n dX5_takeAny_0 rfl ?_
      refine v_getR fX5_12 rfl (by assumption) (by assumption) dX5_takeAny_1 ?_
      refine v_getI' (v := (σ).2.1) hσ.2.1.1 fX5_133 rfl hF.1 dX5_takeAny_4 ?_
      refine v_iconst dX5_takeAny_7 ?_
      refine v_icmp_ge (by rw [← hσ.2.1.1]; exact rng _ _) ⟨by decide, by decide⟩ dX5_takeAny_8 (fun hb8 => ?_) (fun h => by exfalso; omega)
      refine v_aload_n dX5_takeAny_16 rfl ?_
      refine v_getI' (v := (σ).1) hσ.1 fX5_38 rfl (by assumption) dX5_takeAny_17 ?_
      refine v_if_eq (by rw [← hσ.1]; exact rng _ _) dX5_takeAny_20 (fun h => by exfalso; omega) (fun hb20 => ?_)
      refine v_iconst dX5_takeAny_23 ?_
      exact v_iret rfl (by decide) (by decide) ⟨by decide, by decide⟩ dX5_takeAny_24 ⟨rfl, rfl, hσ, offS.rf⟩
theorem tX5_takeLong {E : w_E} {G : w_Sh} {I : w_Mm} {s q c : Nat} {Q : cS} {σ : sS} (hS : isS G s q c) (hcs : c + 3 ≤ s) (hQ : clsOK I c Q) (hσ : stOK I s σ) : w_Ct E mX5_takeLong 1 [.ref s] G I 0 0 (w_Pv (fun G' J => G' = G ∧ stOK J s (xTL σ) ∧ offS I J s)) := by
  have hS0 := hS
  obtain ⟨hTs, hRs0, hRs1, hK, hF⟩ := hS
  have hd0 := hσ.2.2
  have hd8 := hσ.2.1.2.2.2.2
  rcases Int.lt_or_le σ.2.1 2 with hlt | hge
  · have eW : xW σ 2 2 = xBrk σ 2 := if_pos hlt
    have nL : ¬ lngTop σ.2 := by omega
    have e0 : xTL0 σ = xBrk (xBrk σ 2) 3 := by unfold xTL0; rw [if_neg nL, eW]
    have eT : xTL σ = xBrk (xBrk σ 2) 3 := by unfold xTL; rw [e0, if_neg (xBrk_ne (by decide))]
    rw [eT]
    refine w_Ct.of (ls := [some (.ref s)]) (by decide +kernel) (Nat.le_of_ble_eq_true rfl) rfl rfl (fun rng => ?_)
    refine v_aload_n dX5_takeLong_0 rfl ?_
    refine v_getR fX5_12 rfl (by assumption) (by assumption) dX5_takeLong_1 ?_
    refine v_getI' (v := (σ).2.1) hσ.2.1.1 fX5_133 rfl hF.1 dX5_takeLong_4 ?_
    refine v_iconst dX5_takeLong_7 ?_
    refine v_icmp_ge (by rw [← hσ.2.1.1]; exact rng _ _) ⟨by decide, by decide⟩ dX5_takeLong_8 (fun h => by exfalso; omega) (fun hb8 => ?_)
    refine v_aload_n dX5_takeLong_11 rfl ?_
    refine v_iconst dX5_takeLong_12 ?_
    refine v_Vv (tX5_breakRule hS0 hcs hQ hσ ⟨by decide, by decide⟩) kX5_130 (by assumption) rfl rfl ⟨by decide, by decide⟩ ⟨by decide, by decide⟩ (Nat.le_of_ble_eq_true rfl) dX5_takeLong_13 (fun G9 J1 pJ1 rng2 => ?_)
    obtain ⟨rfl, sJ1, oJ1⟩ := pJ1
    have OJ1 := (offS.rf).tr oJ1
    have QJ1 := clsOK.offS hQ hcs OJ1
    refine v_aload_n dX5_takeLong_16 rfl ?_
    refine v_getR fX5_12 rfl (by assumption) (by assumption) dX5_takeLong_17 ?_
    refine v_Vb (tX2_hasLongOnTop hF sJ1.2.1) kX5_146 hF.1 rfl rfl ⟨by decide, by decide⟩ ⟨by decide, by decide⟩ (Nat.le_of_ble_eq_true rfl) dX5_takeLong_20 (fun h3 => absurd h3 nL) (fun h3 => ?_)
    refine v_if_ne ⟨by decide, by decide⟩ dX5_takeLong_23 (fun h => by exfalso; omega) (fun hb23 => ?_)
    refine v_aload_n dX5_takeLong_26 rfl ?_
    refine v_iconst dX5_takeLong_27 ?_
    refine v_Vv (tX5_breakRule hS0 hcs QJ1 sJ1 ⟨by decide, by decide⟩) kX5_130 (by assumption) rfl rfl ⟨by decide, by decide⟩ ⟨by decide, by decide⟩ (Nat.le_of_ble_eq_true rfl) dX5_takeLong_28 (fun G9 J4 pJ4 rng5 => ?_)
    obtain ⟨rfl, sJ4, oJ4⟩ := pJ4
    have OJ4 := (OJ1).tr oJ4
    have QJ4 := clsOK.offS hQ hcs OJ4
    refine v_aload_n dX5_takeLong_31 rfl ?_
    refine v_getI' (v := (xBrk (xBrk (σ) 2) 3).1) sJ4.1 fX5_38 rfl (by assumption) dX5_takeLong_32 ?_
    refine v_if_ne (by rw [← sJ4.1]; exact rng5 _ _) dX5_takeLong_35 (fun hb35 => ?_) (fun h => absurd h (xBrk_ne (by decide)))
    refine v_vret rfl (by decide) (by decide) dX5_takeLong_51 ⟨rfl, ?_⟩
    exact ⟨sJ4, OJ4⟩
  · have eW : xW σ 2 2 = σ := if_neg (by omega)
    by_cases hl : lngTop σ.2
    · have e0 : xTL0 σ = σ := by unfold xTL0; rw [if_pos hl, eW]
      by_cases hr : σ.1 = 0
      · have eT : xTL σ = xDn σ 2 := by unfold xTL; rw [e0, if_pos hr]
        rw [eT]
        refine w_Ct.of (ls := [some (.ref s)]) (by decide +kernel) (Nat.le_of_ble_eq_true rfl) rfl rfl (fun rng => ?_)
        refine v_aload_n dX5_takeLong_0 rfl ?_
        refine v_getR fX5_12 rfl (by assumption) (by assumption) dX5_takeLong_1 ?_
        refine v_getI' (v := (σ).2.1) hσ.2.1.1 fX5_133 rfl hF.1 dX5_takeLong_4 ?_
        refine v_iconst dX5_takeLong_7 ?_
        refine v_icmp_ge (by rw [← hσ.2.1.1]; exact rng _ _) ⟨by decide, by decide⟩ dX5_takeLong_8 (fun hb8 => ?_) (fun h => by exfalso; omega)
        refine v_aload_n dX5_takeLong_16 rfl ?_
        refine v_getR fX5_12 rfl (by assumption) (by assumption) dX5_takeLong_17 ?_
        refine v_Vb (tX2_hasLongOnTop hF hσ.2.1) kX5_146 hF.1 rfl rfl ⟨by decide, by decide⟩ ⟨by decide, by decide⟩ (Nat.le_of_ble_eq_true rfl) dX5_takeLong_20 (fun h1 => ?_) (fun h1 => by exfalso; omega)
        refine v_if_ne ⟨by decide, by decide⟩ dX5_takeLong_23 (fun hb23 => ?_) (fun h => by exfalso; omega)
        refine v_aload_n dX5_takeLong_31 rfl ?_
        refine v_getI' (v := (σ).1) hσ.1 fX5_38 rfl (by assumption) dX5_takeLong_32 ?_
        refine v_if_ne (by rw [← hσ.1]; exact rng _ _) dX5_takeLong_35 (fun h => by exfalso; omega) (fun hb35 => ?_)
        refine v_aload_n dX5_takeLong_38 rfl ?_
        refine v_getR fX5_12 rfl (by assumption) (by assumption) dX5_takeLong_39 ?_
        refine v_dup dX5_takeLong_42 rfl ?_
        refine v_getI' (v := (σ).2.1) hσ.2.1.1 fX5_133 rfl hF.1 dX5_takeLong_43 ?_
        refine v_iconst dX5_takeLong_46 ?_
        refine v_isub dX5_takeLong_47 ?_
        refine v_putI fX5_133 p2_2 rfl ⟨by omega, by omega⟩ hF.1 dX5_takeLong_48 ?_
        have rng2 := w_rng (a := s + 1) (f := 2) rng (show inR (((σ).2.1 - 2)) from ⟨by omega, by omega⟩)
        exact v_vret rfl (by decide) (by decide) dX5_takeLong_51 ⟨rfl, hσ.dn 2 (by decide) hge⟩
      · have eT : xTL σ = σ := by unfold xTL; rw [e0, if_neg hr]
        rw [eT]
        refine w_Ct.of (ls := [some (.ref s)]) (by decide +kernel) (Nat.le_of_ble_eq_true rfl) rfl rfl (fun rng => ?_)
        refine v_aload_n dX5_takeLong_0 rfl ?_
        refine v_getR fX5_12 rfl (by assumption) (by assumption) dX5_takeLong_1 ?_
        refine v_getI' (v := (σ).2.1) hσ.2.1.1 fX5_133 rfl hF.1 dX5_takeLong_4 ?_
        refine v_iconst dX5_takeLong_7 ?_
        refine v_icmp_ge (by rw [← hσ.2.1.1]; exact rng _ _) ⟨by decide, by decide⟩ dX5_takeLong_8 (fun hb8 => ?_) (fun h => by exfalso; omega)
        refine v_aload_n dX5_takeLong_16 rfl ?_
        refine v_getR fX5_12 rfl (by assumption) (by assumption) dX5_takeLong_17 ?_
        refine v_Vb (tX2_hasLongOnTop hF hσ.2.1) kX5_146 hF.1 rfl rfl ⟨by decide, by decide⟩ ⟨by decide, by decide⟩ (Nat.le_of_ble_eq_true rfl) dX5_takeLong_20 (fun h1 => ?_) (fun h1 => by exfalso; omega)
        refine v_if_ne ⟨by decide, by decide⟩ dX5_takeLong_23 (fun hb23 => ?_) (fun h => by exfalso; omega)
        refine v_aload_n dX5_takeLong_31 rfl ?_
        refine v_getI' (v := (σ).1) hσ.1 fX5_38 rfl (by assumption) dX5_takeLong_32 ?_
        refine v_if_ne (by rw [← hσ.1]; exact rng _ _) dX5_takeLong_35 (fun hb35 => ?_) (fun h => by exfalso; omega)
        refine v_vret rfl (by decide) (by decide) dX5_takeLong_51 ⟨rfl, ?_⟩
        exact ⟨hσ, offS.rf⟩
    · have e0 : xTL0 σ = xBrk σ 3 := by unfold xTL0; rw [if_neg hl, eW]
      have eT : xTL σ = xBrk σ 3 := by unfold xTL; rw [e0, if_neg (xBrk_ne (by decide))]
      rw [eT]
      refine w_Ct.of (ls := [some (.ref s)]) (by decide +kernel) (Nat.le_of_ble_eq_true rfl) rfl rfl (fun rng => ?_)
      refine v_aload_n dX5_takeLong_0 rfl ?_
      refine v_getR fX5_12 rfl (by assumption) (by assumption) dX5_takeLong_1 ?_
      refine v_getI' (v := (σ).2.1) hσ.2.1.1 fX5_133 rfl hF.1 dX5_takeLong_4 ?_
      refine v_iconst dX5_takeLong_7 ?_
      refine v_icmp_ge (by rw [← hσ.2.1.1]; exact rng _ _) ⟨by decide, by decide⟩ dX5_takeLong_8 (fun hb8 => ?_) (fun h => by exfalso; omega)
      refine v_aload_n dX5_takeLong_16 rfl ?_
      refine v_getR fX5_12 rfl (by assumption) (by assumption) dX5_takeLong_17 ?_
      refine v_Vb (tX2_hasLongOnTop hF hσ.2.1) kX5_146 hF.1 rfl rfl ⟨by decide, by decide⟩ ⟨by decide, by decide⟩ (Nat.le_of_ble_eq_true rfl) dX5_takeLong_20 (fun h1 => by exfalso; omega) (fun h1 => ?_)
      refine v_if_ne ⟨by decide, by decide⟩ dX5_takeLong_23 (fun h => by exfalso; omega) (fun hb23 => ?_)
      refine v_aload_n dX5_takeLong_26 rfl ?_
      refine v_iconst dX5_takeLong_27 ?_
      refine v_Vv (tX5_breakRule hS0 hcs hQ hσ ⟨by decide, by decide⟩) kX5_130 (by assumption) rfl rfl ⟨by decide, by decide⟩ ⟨by decide, by decide⟩ (Nat.le_of_ble_eq_true rfl) dX5_takeLong_28 (fun G9 J2 pJ2 rng3 => ?_)
      obtain ⟨rfl, sJ2, oJ2⟩ := pJ2
      have OJ2 := (offS.rf).tr oJ2
      have QJ2 := clsOK.offS hQ hcs OJ2
      refine v_aload_n dX5_takeLong_31 rfl ?_
      refine v_getI' (v := (xBrk (σ) 3).1) sJ2.1 fX5_38 rfl (by assumption) dX5_takeLong_32 ?_
      refine v_if_ne (by rw [← sJ2.1]; exact rng3 _ _) dX5_takeLong_35 (fun hb35 => ?_) (fun h => absurd h (xBrk_ne (by decide)))
      refine v_vret rfl (by decide) (by decide) dX5_takeLong_51 ⟨rfl, ?_⟩
      exact ⟨sJ2, OJ2⟩
theorem tX5_take {E : w_E} {G : w_Sh} {I : w_Mm} {s q c : Nat} {Q : cS} {σ : sS} (hS : isS G s q c) (hcs : c + 3 ≤ s) (hQ : clsOK I c Q) (hσ : stOK I s σ) {kd : Int} (hkd : inR kd) : w_Ct E mX5_take 2 [.ref s, iv kd] G I 0 0 (w_Pv (fun G' J => G' = G ∧ stOK J s (xTake Q σ kd) ∧ offS I J s)) := by
  have hS0 := hS
  obtain ⟨hTs, hRs0, hRs1, hK, hF⟩ := hS
  refine w_Ct.of (ls := [some (.ref s), some (iv kd), none]) (by decide +kernel) (Nat.le_of_ble_eq_true rfl) rfl rfl (fun rng => ?_)
  refine v_iload_n dX5_take_0 rfl ?_
  refine v_iconst dX5_take_1 ?_
  refine v_icmp_ne hkd ⟨by decide, by decide⟩ dX5_take_2 (fun h1 => ?_) (fun h1 => ?_)
  · refine v_iload_n dX5_take_12 rfl ?_
    refine v_if_eq hkd dX5_take_13 (fun h2 => ?_) (fun h2 => ?_)
    · refine v_vret rfl (by decide) (by decide) dX5_take_34 ⟨rfl, ?_⟩
      unfold xTake; rw [if_neg h1, if_pos h2]
      exact ⟨hσ, offS.rf⟩
    · refine v_aload_n dX5_take_16 rfl ?_
      refine v_Vi (tX5_takeAny hS0 hcs hQ hσ ) kX5_90 (by assumption) rfl rfl ⟨by decide, by decide⟩ ⟨by decide, by decide⟩ (Nat.le_of_ble_eq_true rfl) dX5_take_17 (fun r5 G9 J3 hr5 pJ3 rng4 => ?_)
      obtain ⟨rfl, er5, sJ3, oJ3⟩ := pJ3
      have OJ3 := (offS.rf).tr oJ3
      have QJ3 := clsOK.offS hQ hcs OJ3
      refine v_istore_n dX5_take_20 (by decide) rfl ?_
      refine v_aload_n dX5_take_21 rfl ?_
      refine v_aload_n dX5_take_22 rfl ?_
      refine v_getR fX5_18 rfl (by assumption) (by assumption) dX5_take_23 ?_
      refine v_iload_n dX5_take_26 rfl ?_
      refine v_iload_n dX5_take_27 rfl ?_
      refine v_Vb (tX3_suits hK QJ3 hr5 hkd) kX5_142 hK.1 rfl rfl ⟨by decide, by decide⟩ ⟨by decide, by decide⟩ (Nat.le_of_ble_eq_true rfl) dX5_take_28 (fun h6 => ?_) (fun h6 => ?_)
      · refine v_Vv (tX5_expect_1 hS0 hcs QJ3 sJ3 (Or.inl ⟨rfl, rfl⟩)) kX5_94 (by assumption) rfl rfl ⟨by decide, by decide⟩ ⟨by decide, by decide⟩ (Nat.le_of_ble_eq_true rfl) dX5_take_31 (fun G9 J7 pJ7 rng8 => ?_)
        obtain ⟨rfl, sJ7, oJ7⟩ := pJ7
        have OJ7 := (OJ3).tr oJ7
        have QJ7 := clsOK.offS hQ hcs OJ7
        refine v_vret rfl (by decide) (by decide) dX5_take_34 ⟨rfl, ?_⟩
        unfold xTake; rw [if_neg h1, if_neg h2, if_pos (by rw [← er5]; exact h6)]
        exact ⟨sJ7, OJ7⟩
      · refine v_Vv (tX5_expect_1 hS0 hcs QJ3 sJ3 (Or.inr ⟨rfl, rfl⟩)) kX5_94 (by assumption) rfl rfl ⟨by decide, by decide⟩ ⟨by decide, by decide⟩ (Nat.le_of_ble_eq_true rfl) dX5_take_31 (fun G9 J9 pJ9 rng10 => ?_)
        obtain ⟨rfl, sJ9, oJ9⟩ := pJ9
        have OJ9 := (OJ3).tr oJ9
        have QJ9 := clsOK.offS hQ hcs OJ9
        refine v_vret rfl (by decide) (by decide) dX5_take_34 ⟨rfl, ?_⟩
        unfold xTake; rw [if_neg h1, if_neg h2, if_neg (by rw [← er5]; exact h6)]
        exact ⟨sJ9, OJ9⟩
  · refine v_aload_n dX5_take_5 rfl ?_
    refine v_Vv (tX5_takeLong hS0 hcs hQ hσ ) kX5_139 (by assumption) rfl rfl ⟨by decide, by decide⟩ ⟨by decide, by decide⟩ (Nat.le_of_ble_eq_true rfl) dX5_take_6 (fun G9 J11 pJ11 rng12 => ?_)
    obtain ⟨rfl, sJ11, oJ11⟩ := pJ11
    have OJ11 := (offS.rf).tr oJ11
    have QJ11 := clsOK.offS hQ hcs OJ11
    refine v_goto dX5_take_9 ?_
    refine v_vret rfl (by decide) (by decide) dX5_take_34 ⟨rfl, ?_⟩
    unfold xTake; rw [if_pos h1]
    exact ⟨sJ11, OJ11⟩
def xLay0 (σ : sS) (kd : Int) : sS := if 8 < σ.2.1 + (if kd = 2 then 2 else 1) then xBrk σ 1 else σ
def xLayP (σ : sS) (kd : Int) : sS := (σ.1, (σ.2.1 + (if kd = 2 then 2 else 1), σ.2.2.1, if kd = 2 then uL (uL σ.2.2.2 σ.2.1.toNat kd) (σ.2.1 + 1).toNat 3 else uL σ.2.2.2 σ.2.1.toNat kd))
def xLay (σ : sS) (kd : Int) : sS := if kd = 0 then σ else if (xLay0 σ kd).1 = 0 then xLayP (xLay0 σ kd) kd else xLay0 σ kd
def xPut (σ : sS) (i : Nat) (kd : Int) : sS := if σ.1 = 0 then (σ.1, (σ.2.1, uL (brkL σ.2.2.1 (i : Int)) i kd, σ.2.2.2)) else σ
def xPutL (σ : sS) (i : Nat) : sS := xPut (xPut σ i 2) (i + 1) 3
theorem stOK.layP {I : w_Mm} {s d : Nat} {σ : sS} {kd : Int} (h : stOK I s σ) (hd : σ.2.1 = (d : Int)) (h1 : d + 1 ≤ 8) (hk : ¬ kd = 2) : stOK (w_up (w_up I (s + 1 + 2) d kd) (s + 1) 2 (σ.2.1 + 1)) s (xLayP σ kd) ∧ offS I (w_up (w_up I (s + 1 + 2) d kd) (s + 1) 2 (σ.2.1 + 1)) s := by
  have e : xLayP σ kd = (σ.1, (σ.2.1 + 1, σ.2.2.1, uL σ.2.2.2 d kd)) := by unfold xLayP; rw [if_neg hk, if_neg hk, hd]; rfl
  rw [e]
  refine ⟨⟨by rw [w_up_n (by omega), w_up_n (by omega)]; exact h.1, ⟨w_up_s, fun k hk => by rw [w_up_n (by omega), w_up_n (by omega)]; exact h.2.1.2.1 k hk, fun k hk => ?_, show -1 ≤ σ.2.1 + 1 by omega, show σ.2.1 + 1 ≤ 8 by omega⟩, show 0 ≤ σ.2.1 + 1 by omega⟩, fun a k h1 h2 h3 h4 => by rw [w_up_n (by omega), w_up_n (by omega)]⟩
  by_cases e : k = d
  · subst e
    rw [w_up_n (by omega), w_up_s]; simp [uL]
  · rw [w_up_n (by omega), w_up_n (by omega), h.2.1.2.2.1 k hk]; simp [uL, e]
theorem stOK.layP2 {I : w_Mm} {s d : Nat} {σ : sS} (h : stOK I s σ) (hd : σ.2.1 = (d : Int)) (h1 : d + 2 ≤ 8) : stOK (w_up (w_up (w_up I (s + 1 + 2) d 2) (s + 1 + 2) (d + 1) 3) (s + 1) 2 (σ.2.1 + 2)) s (xLayP σ 2) ∧ offS I (w_up (w_up (w_up I (s + 1 + 2) d 2) (s + 1 + 2) (d + 1) 3) (s + 1) 2 (σ.2.1 + 2)) s := by
  have e : xLayP σ 2 = (σ.1, (σ.2.1 + 2, σ.2.2.1, uL (uL σ.2.2.2 d 2) (d + 1) 3)) := by unfold xLayP; rw [if_pos rfl, if_pos rfl, hd]; rfl
  rw [e]
  refine ⟨⟨by rw [w_up_n (by omega), w_up_n (by omega), w_up_n (by omega)]; exact h.1, ⟨w_up_s, fun k hk => by rw [w_up_n (by omega), w_up_n (by omega), w_up_n (by omega)]; exact h.2.1.2.1 k hk, fun k hk => ?_, show -1 ≤ σ.2.1 + 2 by omega, show σ.2.1 + 2 ≤ 8 by omega⟩, show 0 ≤ σ.2.1 + 2 by omega⟩, fun a k h1 h2 h3 h4 => by rw [w_up_n (by omega), w_up_n (by omega), w_up_n (by omega)]⟩
  by_cases e1 : k = d + 1
  · subst e1
    rw [w_up_n (by omega), w_up_s]; simp [uL]
  · by_cases e : k = d
    · subst e
      rw [w_up_n (by omega), w_up_n (by omega), w_up_s]; simp [uL]
    · rw [w_up_n (by omega), w_up_n (by omega), w_up_n (by omega), h.2.1.2.2.1 k hk]; simp [uL, e, e1]
theorem stOK.put {I J : w_Mm} {s i : Nat} {σ : sS} {L : Nat → Int} {kd : Int} (h : stOK I s σ) (hJ : frOK J (s + 1) (σ.2.1, L, σ.2.2.2)) (ho : offF I J (s + 1)) (hi : i < 8) : stOK (w_up J (s + 1 + 1) i kd) s (σ.1, (σ.2.1, uL L i kd, σ.2.2.2)) ∧ offS I (w_up J (s + 1 + 1) i kd) s := by
  have g := frOK_L (z := kd) hJ hi rfl
  refine ⟨⟨?_, g.1, h.2.2⟩, ?_⟩
  · rw [w_up_n (by omega), ho s 2 (by omega) (by omega) (by omega)]; exact h.1
  · exact (ho.tr g.2).S
theorem tX5_lay {E : w_E} {G : w_Sh} {I : w_Mm} {s q c : Nat} {Q : cS} {σ : sS} (hS : isS G s q c) (hcs : c + 3 ≤ s) (hQ : clsOK I c Q) (hσ : stOK I s σ) {kd : Int} (hkd : inR kd) : w_Ct E mX5_lay 1 [.ref s, iv kd] G I 0 0 (w_Pv (fun G' J => G' = G ∧ stOK J s (xLay σ kd) ∧ offS I J s)) := by
  have hS0 := hS
  obtain ⟨hTs, hRs0, hRs1, hK, hF⟩ := hS
  have hd0 := hσ.2.2
  have hd8 := hσ.2.1.2.2.2.2
  obtain ⟨d, hd⟩ := Int.eq_ofNat_of_zero_le hd0
  by_cases k0 : kd = 0
  · rw [show xLay σ kd = σ from if_pos k0]
    refine w_Ct.of (ls := [some (.ref s), some (iv kd), none]) (by decide +kernel) (Nat.le_of_ble_eq_true rfl) rfl rfl (fun rng => ?_)
    refine v_iload_n dX5_lay_0 rfl ?_
    refine v_if_ne hkd dX5_lay_1 (fun h => by exfalso; omega) (fun hb1 => ?_)
    refine v_vret rfl (by decide) (by decide) dX5_lay_4 ⟨rfl, ?_⟩
    exact ⟨hσ, offS.rf⟩
  · have eL : xLay σ kd = if (xLay0 σ kd).1 = 0 then xLayP (xLay0 σ kd) kd else xLay0 σ kd := if_neg k0
    rw [eL]
    by_cases k2 : kd = 2
    · have ew : (if kd = 2 then 2 else 1 : Int) = 2 := if_pos k2
      by_cases hh : 8 < σ.2.1 + 2
      · have e0 : xLay0 σ kd = xBrk σ 1 := by unfold xLay0; rw [ew, if_pos hh]
        rw [e0, if_neg (xBrk_ne (by decide))]
        refine w_Ct.of (ls := [some (.ref s), some (iv kd), none]) (by decide +kernel) (Nat.le_of_ble_eq_true rfl) rfl rfl (fun rng => ?_)
        refine v_iload_n dX5_lay_0 rfl ?_
        refine v_if_ne hkd dX5_lay_1 (fun hb1 => ?_) (fun h => by exfalso; omega)
        refine v_aload_n dX5_lay_5 rfl ?_
        refine v_getR fX5_12 rfl (by assumption) (by assumption) dX5_lay_6 ?_
        refine v_getI' (v := ((d : Nat) : Int)) (hσ.2.1.1.trans hd) fX5_133 rfl hF.1 dX5_lay_9 ?_
        refine v_iload_n dX5_lay_12 rfl ?_
        refine v_iconst dX5_lay_13 ?_
        refine v_icmp_ne hkd ⟨by decide, by decide⟩ dX5_lay_14 (fun h => by exfalso; omega) (fun hb14 => ?_)
        refine v_iconst dX5_lay_17 ?_
        refine v_goto dX5_lay_18 ?_
        refine v_iadd dX5_lay_22 ?_
        refine v_istore_n dX5_lay_23 (by decide) rfl ?_
        refine v_iload_n dX5_lay_24 rfl ?_
        refine v_bipush dX5_lay_25 (by decide) ?_
        refine v_icmp_le ⟨by omega, by omega⟩ ⟨by decide, by decide⟩ dX5_lay_27 (fun h => by exfalso; omega) (fun hb27 => ?_)
        refine v_aload_n dX5_lay_30 rfl ?_
        refine v_iconst dX5_lay_31 ?_
        refine v_Vv (tX5_breakRule hS0 hcs hQ hσ ⟨by decide, by decide⟩) kX5_130 (by assumption) rfl rfl ⟨by decide, by decide⟩ ⟨by decide, by decide⟩ (Nat.le_of_ble_eq_true rfl) dX5_lay_32 (fun G9 J1 pJ1 rng2 => ?_)
        obtain ⟨rfl, sJ1, oJ1⟩ := pJ1
        have OJ1 := (offS.rf).tr oJ1
        have QJ1 := clsOK.offS hQ hcs OJ1
        refine v_aload_n dX5_lay_35 rfl ?_
        refine v_getI' (v := (xBrk (σ) 1).1) sJ1.1 fX5_38 rfl (by assumption) dX5_lay_36 ?_
        refine v_if_eq (by rw [← sJ1.1]; exact rng2 _ _) dX5_lay_39 (fun h => absurd h (xBrk_ne (by decide))) (fun hb39 => ?_)
        refine v_vret rfl (by decide) (by decide) dX5_lay_42 ⟨rfl, ?_⟩
        exact ⟨sJ1, OJ1⟩
      · have e0 : xLay0 σ kd = σ := by unfold xLay0; rw [ew, if_neg hh]
        by_cases hr : σ.1 = 0
        · rw [e0, if_pos hr]
          refine w_Ct.of (ls := [some (.ref s), some (iv kd), none]) (by decide +kernel) (Nat.le_of_ble_eq_true rfl) rfl rfl (fun rng => ?_)
          refine v_iload_n dX5_lay_0 rfl ?_
          refine v_if_ne hkd dX5_lay_1 (fun hb1 => ?_) (fun h => by exfalso; omega)
          refine v_aload_n dX5_lay_5 rfl ?_
          refine v_getR fX5_12 rfl (by assumption) (by assumption) dX5_lay_6 ?_
          refine v_getI' (v := ((d : Nat) : Int)) (hσ.2.1.1.trans hd) fX5_133 rfl hF.1 dX5_lay_9 ?_
          refine v_iload_n dX5_lay_12 rfl ?_
          refine v_iconst dX5_lay_13 ?_
          refine v_icmp_ne hkd ⟨by decide, by decide⟩ dX5_lay_14 (fun h => by exfalso; omega) (fun hb14 => ?_)
          refine v_iconst dX5_lay_17 ?_
          refine v_goto dX5_lay_18 ?_
          refine v_iadd dX5_lay_22 ?_
          refine v_istore_n dX5_lay_23 (by decide) rfl ?_
          refine v_iload_n dX5_lay_24 rfl ?_
          refine v_bipush dX5_lay_25 (by decide) ?_
          refine v_icmp_le ⟨by omega, by omega⟩ ⟨by decide, by decide⟩ dX5_lay_27 (fun hb27 => ?_) (fun h => by exfalso; omega)
          refine v_aload_n dX5_lay_35 rfl ?_
          refine v_getI' (v := (σ).1) hσ.1 fX5_38 rfl (by assumption) dX5_lay_36 ?_
          refine v_if_eq (by rw [← hσ.1]; exact rng _ _) dX5_lay_39 (fun hb39 => ?_) (fun h => by exfalso; omega)
          refine v_aload_n dX5_lay_43 rfl ?_
          refine v_getR fX5_12 rfl (by assumption) (by assumption) dX5_lay_44 ?_
          refine v_getR fX5_150 rfl hF.1 hF.2.2.1 dX5_lay_47 ?_
          refine v_aload_n dX5_lay_50 rfl ?_
          refine v_getR fX5_12 rfl (by assumption) (by assumption) dX5_lay_51 ?_
          refine v_getI' (v := ((d : Nat) : Int)) (hσ.2.1.1.trans hd) fX5_133 rfl hF.1 dX5_lay_54 ?_
          refine v_iload_n dX5_lay_57 rfl ?_
          refine v_iast (i := d) hF.2.2.2.2 rfl (by omega) (by omega) hkd dX5_lay_58 ?_
          have rng1 := w_rng (a := s + 1 + 2) (f := d) rng (show inR (kd) from hkd)
          refine v_iload_n dX5_lay_59 rfl ?_
          refine v_iconst dX5_lay_60 ?_
          refine v_icmp_ne hkd ⟨by decide, by decide⟩ dX5_lay_61 (fun h => by exfalso; omega) (fun hb61 => ?_)
          refine v_aload_n dX5_lay_64 rfl ?_
          refine v_getR fX5_12 rfl (by assumption) (by assumption) dX5_lay_65 ?_
          refine v_getR fX5_150 rfl hF.1 hF.2.2.1 dX5_lay_68 ?_
          refine v_aload_n dX5_lay_71 rfl ?_
          refine v_getR fX5_12 rfl (by assumption) (by assumption) dX5_lay_72 ?_
          refine v_getI' (v := ((d : Nat) : Int)) (by rw [w_up_n (by omega), (hσ.2.1.1.trans hd)]) fX5_133 rfl hF.1 dX5_lay_75 ?_
          refine v_iconst dX5_lay_78 ?_
          refine v_iadd dX5_lay_79 ?_
          refine v_iconst dX5_lay_80 ?_
          refine v_iast (i := (d + 1)) hF.2.2.2.2 (by omega) (by omega) (by omega) ⟨by decide, by decide⟩ dX5_lay_81 ?_
          have rng2 := w_rng (a := s + 1 + 2) (f := (d + 1)) rng1 (show inR (3) from ⟨by decide, by decide⟩)
          refine v_aload_n dX5_lay_82 rfl ?_
          refine v_getR fX5_12 rfl (by assumption) (by assumption) dX5_lay_83 ?_
          refine v_iload_n dX5_lay_86 rfl ?_
          refine v_putI fX5_133 p2_2 rfl ⟨by omega, by omega⟩ hF.1 dX5_lay_87 ?_
          have rng3 := w_rng (a := s + 1) (f := 2) rng2 (show inR ((((d : Nat) : Int) + 2)) from ⟨by omega, by omega⟩)
          subst k2
          have g := hσ.layP2 hd (by omega)
          rw [hd] at g
          exact v_vret rfl (by decide) (by decide) dX5_lay_90 ⟨rfl, g⟩
        · rw [e0, if_neg hr]
          refine w_Ct.of (ls := [some (.ref s), some (iv kd), none]) (by decide +kernel) (Nat.le_of_ble_eq_true rfl) rfl rfl (fun rng => ?_)
          refine v_iload_n dX5_lay_0 rfl ?_
          refine v_if_ne hkd dX5_lay_1 (fun hb1 => ?_) (fun h => by exfalso; omega)
          refine v_aload_n dX5_lay_5 rfl ?_
          refine v_getR fX5_12 rfl (by assumption) (by assumption) dX5_lay_6 ?_
          refine v_getI' (v := ((d : Nat) : Int)) (hσ.2.1.1.trans hd) fX5_133 rfl hF.1 dX5_lay_9 ?_
          refine v_iload_n dX5_lay_12 rfl ?_
          refine v_iconst dX5_lay_13 ?_
          refine v_icmp_ne hkd ⟨by decide, by decide⟩ dX5_lay_14 (fun h => by exfalso; omega) (fun hb14 => ?_)
          refine v_iconst dX5_lay_17 ?_
          refine v_goto dX5_lay_18 ?_
          refine v_iadd dX5_lay_22 ?_
          refine v_istore_n dX5_lay_23 (by decide) rfl ?_
          refine v_iload_n dX5_lay_24 rfl ?_
          refine v_bipush dX5_lay_25 (by decide) ?_
          refine v_icmp_le ⟨by omega, by omega⟩ ⟨by decide, by decide⟩ dX5_lay_27 (fun hb27 => ?_) (fun h => by exfalso; omega)
          refine v_aload_n dX5_lay_35 rfl ?_
          refine v_getI' (v := (σ).1) hσ.1 fX5_38 rfl (by assumption) dX5_lay_36 ?_
          refine v_if_eq (by rw [← hσ.1]; exact rng _ _) dX5_lay_39 (fun h => by exfalso; omega) (fun hb39 => ?_)
          refine v_vret rfl (by decide) (by decide) dX5_lay_42 ⟨rfl, ?_⟩
          exact ⟨hσ, offS.rf⟩
    · have ew : (if kd = 2 then 2 else 1 : Int) = 1 := if_neg k2
      by_cases hh : 8 < σ.2.1 + 1
      · have e0 : xLay0 σ kd = xBrk σ 1 := by unfold xLay0; rw [ew, if_pos hh]
        rw [e0, if_neg (xBrk_ne (by decide))]
        refine w_Ct.of (ls := [some (.ref s), some (iv kd), none]) (by decide +kernel) (Nat.le_of_ble_eq_true rfl) rfl rfl (fun rng => ?_)
        refine v_iload_n dX5_lay_0 rfl ?_
        refine v_if_ne hkd dX5_lay_1 (fun hb1 => ?_) (fun h => by exfalso; omega)
        refine v_aload_n dX5_lay_5 rfl ?_
        refine v_getR fX5_12 rfl (by assumption) (by assumption) dX5_lay_6 ?_
        refine v_getI' (v := ((d : Nat) : Int)) (hσ.2.1.1.trans hd) fX5_133 rfl hF.1 dX5_lay_9 ?_
        refine v_iload_n dX5_lay_12 rfl ?_
        refine v_iconst dX5_lay_13 ?_
        refine v_icmp_ne hkd ⟨by decide, by decide⟩ dX5_lay_14 (fun hb14 => ?_) (fun h => by exfalso; omega)
        refine v_iconst dX5_lay_21 ?_
        refine v_iadd dX5_lay_22 ?_
        refine v_istore_n dX5_lay_23 (by decide) rfl ?_
        refine v_iload_n dX5_lay_24 rfl ?_
        refine v_bipush dX5_lay_25 (by decide) ?_
        refine v_icmp_le ⟨by omega, by omega⟩ ⟨by decide, by decide⟩ dX5_lay_27 (fun h => by exfalso; omega) (fun hb27 => ?_)
        refine v_aload_n dX5_lay_30 rfl ?_
        refine v_iconst dX5_lay_31 ?_
        refine v_Vv (tX5_breakRule hS0 hcs hQ hσ ⟨by decide, by decide⟩) kX5_130 (by assumption) rfl rfl ⟨by decide, by decide⟩ ⟨by decide, by decide⟩ (Nat.le_of_ble_eq_true rfl) dX5_lay_32 (fun G9 J1 pJ1 rng2 => ?_)
        obtain ⟨rfl, sJ1, oJ1⟩ := pJ1
        have OJ1 := (offS.rf).tr oJ1
        have QJ1 := clsOK.offS hQ hcs OJ1
        refine v_aload_n dX5_lay_35 rfl ?_
        refine v_getI' (v := (xBrk (σ) 1).1) sJ1.1 fX5_38 rfl (by assumption) dX5_lay_36 ?_
        refine v_if_eq (by rw [← sJ1.1]; exact rng2 _ _) dX5_lay_39 (fun h => absurd h (xBrk_ne (by decide))) (fun hb39 => ?_)
        refine v_vret rfl (by decide) (by decide) dX5_lay_42 ⟨rfl, ?_⟩
        exact ⟨sJ1, OJ1⟩
      · have e0 : xLay0 σ kd = σ := by unfold xLay0; rw [ew, if_neg hh]
        by_cases hr : σ.1 = 0
        · rw [e0, if_pos hr]
          refine w_Ct.of (ls := [some (.ref s), some (iv kd), none]) (by decide +kernel) (Nat.le_of_ble_eq_true rfl) rfl rfl (fun rng => ?_)
          refine v_iload_n dX5_lay_0 rfl ?_
          refine v_if_ne hkd dX5_lay_1 (fun hb1 => ?_) (fun h => by exfalso; omega)
          refine v_aload_n dX5_lay_5 rfl ?_
          refine v_getR fX5_12 rfl (by assumption) (by assumption) dX5_lay_6 ?_
          refine v_getI' (v := ((d : Nat) : Int)) (hσ.2.1.1.trans hd) fX5_133 rfl hF.1 dX5_lay_9 ?_
          refine v_iload_n dX5_lay_12 rfl ?_
          refine v_iconst dX5_lay_13 ?_
          refine v_icmp_ne hkd ⟨by decide, by decide⟩ dX5_lay_14 (fun hb14 => ?_) (fun h => by exfalso; omega)
          refine v_iconst dX5_lay_21 ?_
          refine v_iadd dX5_lay_22 ?_
          refine v_istore_n dX5_lay_23 (by decide) rfl ?_
          refine v_iload_n dX5_lay_24 rfl ?_
          refine v_bipush dX5_lay_25 (by decide) ?_
          refine v_icmp_le ⟨by omega, by omega⟩ ⟨by decide, by decide⟩ dX5_lay_27 (fun hb27 => ?_) (fun h => by exfalso; omega)
          refine v_aload_n dX5_lay_35 rfl ?_
          refine v_getI' (v := (σ).1) hσ.1 fX5_38 rfl (by assumption) dX5_lay_36 ?_
          refine v_if_eq (by rw [← hσ.1]; exact rng _ _) dX5_lay_39 (fun hb39 => ?_) (fun h => by exfalso; omega)
          refine v_aload_n dX5_lay_43 rfl ?_
          refine v_getR fX5_12 rfl (by assumption) (by assumption) dX5_lay_44 ?_
          refine v_getR fX5_150 rfl hF.1 hF.2.2.1 dX5_lay_47 ?_
          refine v_aload_n dX5_lay_50 rfl ?_
          refine v_getR fX5_12 rfl (by assumption) (by assumption) dX5_lay_51 ?_
          refine v_getI' (v := ((d : Nat) : Int)) (hσ.2.1.1.trans hd) fX5_133 rfl hF.1 dX5_lay_54 ?_
          refine v_iload_n dX5_lay_57 rfl ?_
          refine v_iast (i := d) hF.2.2.2.2 rfl (by omega) (by omega) hkd dX5_lay_58 ?_
          have rng1 := w_rng (a := s + 1 + 2) (f := d) rng (show inR (kd) from hkd)
          refine v_iload_n dX5_lay_59 rfl ?_
          refine v_iconst dX5_lay_60 ?_
          refine v_icmp_ne hkd ⟨by decide, by decide⟩ dX5_lay_61 (fun hb61 => ?_) (fun h => by exfalso; omega)
          refine v_aload_n dX5_lay_82 rfl ?_
          refine v_getR fX5_12 rfl (by assumption) (by assumption) dX5_lay_83 ?_
          refine v_iload_n dX5_lay_86 rfl ?_
          refine v_putI fX5_133 p2_2 rfl ⟨by omega, by omega⟩ hF.1 dX5_lay_87 ?_
          have rng2 := w_rng (a := s + 1) (f := 2) rng1 (show inR ((((d : Nat) : Int) + 1)) from ⟨by omega, by omega⟩)
          have g := hσ.layP (kd := kd) hd (by omega) k2
          rw [hd] at g
          exact v_vret rfl (by decide) (by decide) dX5_lay_90 ⟨rfl, g⟩
        · rw [e0, if_neg hr]
          refine w_Ct.of (ls := [some (.ref s), some (iv kd), none]) (by decide +kernel) (Nat.le_of_ble_eq_true rfl) rfl rfl (fun rng => ?_)
          refine v_iload_n dX5_lay_0 rfl ?_
          refine v_if_ne hkd dX5_lay_1 (fun hb1 => ?_) (fun h => by exfalso; omega)
          refine v_aload_n dX5_lay_5 rfl ?_
          refine v_getR fX5_12 rfl (by assumption) (by assumption) dX5_lay_6 ?_
          refine v_getI' (v := ((d : Nat) : Int)) (hσ.2.1.1.trans hd) fX5_133 rfl hF.1 dX5_lay_9 ?_
          refine v_iload_n dX5_lay_12 rfl ?_
          refine v_iconst dX5_lay_13 ?_
          refine v_icmp_ne hkd ⟨by decide, by decide⟩ dX5_lay_14 (fun hb14 => ?_) (fun h => by exfalso; omega)
          refine v_iconst dX5_lay_21 ?_
          refine v_iadd dX5_lay_22 ?_
          refine v_istore_n dX5_lay_23 (by decide) rfl ?_
          refine v_iload_n dX5_lay_24 rfl ?_
          refine v_bipush dX5_lay_25 (by decide) ?_
          refine v_icmp_le ⟨by omega, by omega⟩ ⟨by decide, by decide⟩ dX5_lay_27 (fun hb27 => ?_) (fun h => by exfalso; omega)
          refine v_aload_n dX5_lay_35 rfl ?_
          refine v_getI' (v := (σ).1) hσ.1 fX5_38 rfl (by assumption) dX5_lay_36 ?_
          refine v_if_eq (by rw [← hσ.1]; exact rng _ _) dX5_lay_39 (fun h => by exfalso; omega) (fun hb39 => ?_)
          refine v_vret rfl (by decide) (by decide) dX5_lay_42 ⟨rfl, ?_⟩
          exact ⟨hσ, offS.rf⟩
theorem tX5_put {E : w_E} {G : w_Sh} {I : w_Mm} {s q c : Nat} {Q : cS} {σ : sS} (hS : isS G s q c) (hcs : c + 3 ≤ s) (hQ : clsOK I c Q) (hσ : stOK I s σ) {i : Nat} {kd : Int} (hi : i < 8) (hkd : inR kd) : w_Ct E mX5_put 2 [.ref s, iv (i : Int), iv kd] G I 0 0 (w_Pv (fun G' J => G' = G ∧ stOK J s (xPut σ i kd) ∧ offS I J s)) := by
  have hS0 := hS
  obtain ⟨hTs, hRs0, hRs1, hK, hF⟩ := hS
  refine w_Ct.of (ls := [some (.ref s), some (iv (i : Int)), some (iv kd)]) (by decide +kernel) (Nat.le_of_ble_eq_true rfl) rfl rfl (fun rng => ?_)
  refine v_aload_n dX5_put_0 rfl ?_
  refine v_getI' (v := (σ).1) hσ.1 fX5_38 rfl (by assumption) dX5_put_1 ?_
  refine v_if_ne (by rw [← hσ.1]; exact rng _ _) dX5_put_4 (fun h1 => ?_) (fun h1 => ?_)
  · refine v_vret rfl (by decide) (by decide) dX5_put_25 ⟨rfl, ?_⟩
    rw [show xPut σ i kd = σ from if_neg h1]; exact ⟨hσ, offS.rf⟩
  · refine v_aload_n dX5_put_7 rfl ?_
    refine v_getR fX5_12 rfl (by assumption) (by assumption) dX5_put_8 ?_
    refine v_iload_n dX5_put_11 rfl ?_
    refine v_Vv (tX2_breakLong hF hσ.2.1 ⟨by omega, by omega⟩ (by omega)) kX5_153 hF.1 rfl rfl ⟨by decide, by decide⟩ ⟨by decide, by decide⟩ (Nat.le_of_ble_eq_true rfl) dX5_put_12 (fun G9 J2 pJ2 rng3 => ?_)
    obtain ⟨rfl, fJ2, oJ2⟩ := pJ2
    refine v_aload_n dX5_put_15 rfl ?_
    refine v_getR fX5_12 rfl (by assumption) (by assumption) dX5_put_16 ?_
    refine v_getR fX5_63 rfl hF.1 hF.2.1 dX5_put_19 ?_
    refine v_iload_n dX5_put_22 rfl ?_
    refine v_iload_n dX5_put_23 rfl ?_
    refine v_iast (i := i) hF.2.2.2.1 rfl (by omega) (by omega) hkd dX5_put_24 ?_
    have rng4 := w_rng (a := s + 1 + 1) (f := i) rng3 (show inR (kd) from hkd)
    refine v_vret rfl (by decide) (by decide) dX5_put_25 ⟨rfl, ?_⟩
    rw [show xPut σ i kd = (σ.1, (σ.2.1, uL (brkL σ.2.2.1 (i : Int)) i kd, σ.2.2.2)) from if_pos h1]; exact hσ.put fJ2 oJ2 hi
theorem tX5_putLong {E : w_E} {G : w_Sh} {I : w_Mm} {s q c : Nat} {Q : cS} {σ : sS} (hS : isS G s q c) (hcs : c + 3 ≤ s) (hQ : clsOK I c Q) (hσ : stOK I s σ) {i : Nat} (hi : i < 7) : w_Ct E mX5_putLong 3 [.ref s, iv (i : Int)] G I 0 0 (w_Pv (fun G' J => G' = G ∧ stOK J s (xPutL σ i) ∧ offS I J s)) := by
  have hS0 := hS
  obtain ⟨hTs, hRs0, hRs1, hK, hF⟩ := hS
  refine w_Ct.of (ls := [some (.ref s), some (iv (i : Int))]) (by decide +kernel) (Nat.le_of_ble_eq_true rfl) rfl rfl (fun rng => ?_)
  refine v_aload_n dX5_putLong_0 rfl ?_
  refine v_iload_n dX5_putLong_1 rfl ?_
  refine v_iconst dX5_putLong_2 ?_
  refine v_Vv (tX5_put hS0 hcs hQ hσ (i := i) (by omega) ⟨by decide, by decide⟩) kX5_77 (by assumption) rfl rfl ⟨by decide, by decide⟩ ⟨by decide, by decide⟩ (Nat.le_of_ble_eq_true rfl) dX5_putLong_3 (fun G9 J1 pJ1 rng2 => ?_)
  obtain ⟨rfl, sJ1, oJ1⟩ := pJ1
  have OJ1 := (offS.rf).tr oJ1
  have QJ1 := clsOK.offS hQ hcs OJ1
  refine v_aload_n dX5_putLong_6 rfl ?_
  refine v_iload_n dX5_putLong_7 rfl ?_
  refine v_iconst dX5_putLong_8 ?_
  refine v_iadd dX5_putLong_9 ?_
  refine v_iconst dX5_putLong_10 ?_
  refine v_Vv (tX5_put hS0 hcs QJ1 sJ1 (i := (i + 1)) (by omega) ⟨by decide, by decide⟩) kX5_77 (by assumption) rfl rfl ⟨by decide, by decide⟩ ⟨by decide, by decide⟩ (Nat.le_of_ble_eq_true rfl) dX5_putLong_11 (fun G9 J3 pJ3 rng4 => ?_)
  obtain ⟨rfl, sJ3, oJ3⟩ := pJ3
  have OJ3 := (OJ1).tr oJ3
  have QJ3 := clsOK.offS hQ hcs OJ3
  refine v_vret rfl (by decide) (by decide) dX5_putLong_14 ⟨rfl, ?_⟩
  unfold xPutL
  exact ⟨sJ3, OJ3⟩
end
