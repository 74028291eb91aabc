section
-- ===== PART A: goes FIRST, ahead of the names: the tables' words, and 'selects' of the private methods out of them =====
/-- a private method of a class that the tables say can be made, by its rows of tables_1 -/
def lw_okq (q : MethodName × Nat) : Prop := (q.1.cls ≠ "java/lang/invoke/MethodHandle" ∧ q.1.cls ≠ "java/lang/invoke/VarHandle") ∧ Cond.instantiable q.1.cls q.2 ∈ tables_1 ∧ Cond.privateMethod q.1 ∈ tables_1 ∧ Cond.instanceMethod q.1 ∈ tables_1
theorem lw_p0 : lw_okq (⟨"ChainFrames$Kinds", "isOfClass", "(I)Z"⟩, 1) := ⟨⟨by decide +kernel, by decide +kernel⟩, List.mem_of_getElem? (i := 41) (by decide +kernel), List.mem_of_getElem? (i := 186) (by decide +kernel), List.mem_of_getElem? (i := 187) (by decide +kernel)⟩
theorem lw_p1 : lw_okq (⟨"ChainFrames", "find", "(I)LChainFrames$Method;"⟩, 6) := ⟨⟨by decide +kernel, by decide +kernel⟩, List.mem_of_getElem? (i := 14) (by decide +kernel), List.mem_of_getElem? (i := 334) (by decide +kernel), List.mem_of_getElem? (i := 335) (by decide +kernel)⟩
theorem lw_p2 : lw_okq (⟨"ChainFrames", "isOp", "(III)Z"⟩, 6) := ⟨⟨by decide +kernel, by decide +kernel⟩, List.mem_of_getElem? (i := 14) (by decide +kernel), List.mem_of_getElem? (i := 347) (by decide +kernel), List.mem_of_getElem? (i := 348) (by decide +kernel)⟩
theorem lw_p3 : lw_okq (⟨"ChainFrames$Worker", "meetHandlers", "(LChainFrames$Method;I)I"⟩, 3) := ⟨⟨by decide +kernel, by decide +kernel⟩, List.mem_of_getElem? (i := 51) (by decide +kernel), List.mem_of_getElem? (i := 387) (by decide +kernel), List.mem_of_getElem? (i := 388) (by decide +kernel)⟩
theorem lw_p4 : lw_okq (⟨"ChainFrames$Worker", "meet", "(LChainFrames$Work;ILChainFrames$Frame;)Z"⟩, 3) := ⟨⟨by decide +kernel, by decide +kernel⟩, List.mem_of_getElem? (i := 51) (by decide +kernel), List.mem_of_getElem? (i := 406) (by decide +kernel), List.mem_of_getElem? (i := 407) (by decide +kernel)⟩
theorem lw_p5 : lw_okq (⟨"ChainFrames$Worker", "canMeet", "(LChainFrames$Frame;LChainFrames$Frame;)Z"⟩, 3) := ⟨⟨by decide +kernel, by decide +kernel⟩, List.mem_of_getElem? (i := 51) (by decide +kernel), List.mem_of_getElem? (i := 425) (by decide +kernel), List.mem_of_getElem? (i := 426) (by decide +kernel)⟩
theorem lw_p6 : lw_okq (⟨"ChainFrames$Worker", "mergeRow", "([I[II)Z"⟩, 3) := ⟨⟨by decide +kernel, by decide +kernel⟩, List.mem_of_getElem? (i := 51) (by decide +kernel), List.mem_of_getElem? (i := 430) (by decide +kernel), List.mem_of_getElem? (i := 431) (by decide +kernel)⟩
theorem lw_p7 : lw_okq (⟨"ChainFrames$Step", "useLocal", "(II)V"⟩, 3) := ⟨⟨by decide +kernel, by decide +kernel⟩, List.mem_of_getElem? (i := 83) (by decide +kernel), List.mem_of_getElem? (i := 439) (by decide +kernel), List.mem_of_getElem? (i := 440) (by decide +kernel)⟩
theorem lw_p8 : lw_okq (⟨"ChainFrames$Step", "expectInLocal", "(Z)V"⟩, 3) := ⟨⟨by decide +kernel, by decide +kernel⟩, List.mem_of_getElem? (i := 83) (by decide +kernel), List.mem_of_getElem? (i := 443) (by decide +kernel), List.mem_of_getElem? (i := 444) (by decide +kernel)⟩
theorem lw_p9 : lw_okq (⟨"ChainFrames$Step", "breakRule", "(I)V"⟩, 3) := ⟨⟨by decide +kernel, by decide +kernel⟩, List.mem_of_getElem? (i := 83) (by decide +kernel), List.mem_of_getElem? (i := 447) (by decide +kernel), List.mem_of_getElem? (i := 448) (by decide +kernel)⟩
theorem lw_p10 : lw_okq (⟨"ChainFrames$Step", "lay", "(I)V"⟩, 3) := ⟨⟨by decide +kernel, by decide +kernel⟩, List.mem_of_getElem? (i := 83) (by decide +kernel), List.mem_of_getElem? (i := 451) (by decide +kernel), List.mem_of_getElem? (i := 452) (by decide +kernel)⟩
theorem lw_p11 : lw_okq (⟨"ChainFrames$Step", "take", "(I)V"⟩, 3) := ⟨⟨by decide +kernel, by decide +kernel⟩, List.mem_of_getElem? (i := 83) (by decide +kernel), List.mem_of_getElem? (i := 455) (by decide +kernel), List.mem_of_getElem? (i := 456) (by decide +kernel)⟩
theorem lw_p12 : lw_okq (⟨"ChainFrames$Step", "takeLong", "()V"⟩, 3) := ⟨⟨by decide +kernel, by decide +kernel⟩, List.mem_of_getElem? (i := 83) (by decide +kernel), List.mem_of_getElem? (i := 459) (by decide +kernel), List.mem_of_getElem? (i := 460) (by decide +kernel)⟩
theorem lw_p13 : lw_okq (⟨"ChainFrames$Step", "takeAny", "()I"⟩, 3) := ⟨⟨by decide +kernel, by decide +kernel⟩, List.mem_of_getElem? (i := 83) (by decide +kernel), List.mem_of_getElem? (i := 467) (by decide +kernel), List.mem_of_getElem? (i := 468) (by decide +kernel)⟩
theorem lw_p14 : lw_okq (⟨"ChainFrames$Step", "expect", "(Z)V"⟩, 3) := ⟨⟨by decide +kernel, by decide +kernel⟩, List.mem_of_getElem? (i := 83) (by decide +kernel), List.mem_of_getElem? (i := 480) (by decide +kernel), List.mem_of_getElem? (i := 481) (by decide +kernel)⟩
theorem lw_p15 : lw_okq (⟨"ChainFrames$Step", "put", "(II)V"⟩, 3) := ⟨⟨by decide +kernel, by decide +kernel⟩, List.mem_of_getElem? (i := 83) (by decide +kernel), List.mem_of_getElem? (i := 484) (by decide +kernel), List.mem_of_getElem? (i := 485) (by decide +kernel)⟩
def lw_privs_1 : List (MethodName × Nat) := [(⟨"ChainFrames$Kinds", "isOfClass", "(I)Z"⟩, 1), (⟨"ChainFrames", "find", "(I)LChainFrames$Method;"⟩, 6), (⟨"ChainFrames", "isOp", "(III)Z"⟩, 6), (⟨"ChainFrames$Worker", "meetHandlers", "(LChainFrames$Method;I)I"⟩, 3), (⟨"ChainFrames$Worker", "meet", "(LChainFrames$Work;ILChainFrames$Frame;)Z"⟩, 3), (⟨"ChainFrames$Worker", "canMeet", "(LChainFrames$Frame;LChainFrames$Frame;)Z"⟩, 3), (⟨"ChainFrames$Worker", "mergeRow", "([I[II)Z"⟩, 3), (⟨"ChainFrames$Step", "useLocal", "(II)V"⟩, 3), (⟨"ChainFrames$Step", "expectInLocal", "(Z)V"⟩, 3), (⟨"ChainFrames$Step", "breakRule", "(I)V"⟩, 3), (⟨"ChainFrames$Step", "lay", "(I)V"⟩, 3), (⟨"ChainFrames$Step", "take", "(I)V"⟩, 3), (⟨"ChainFrames$Step", "takeLong", "()V"⟩, 3), (⟨"ChainFrames$Step", "takeAny", "()I"⟩, 3), (⟨"ChainFrames$Step", "expect", "(Z)V"⟩, 3), (⟨"ChainFrames$Step", "put", "(II)V"⟩, 3)]
theorem lw_r1 : ∀ q ∈ lw_privs_1, lw_okq q := List.forall_mem_cons.mpr ⟨lw_p0, List.forall_mem_cons.mpr ⟨lw_p1, List.forall_mem_cons.mpr ⟨lw_p2, List.forall_mem_cons.mpr ⟨lw_p3, List.forall_mem_cons.mpr ⟨lw_p4, List.forall_mem_cons.mpr ⟨lw_p5, List.forall_mem_cons.mpr ⟨lw_p6, List.forall_mem_cons.mpr ⟨lw_p7, List.forall_mem_cons.mpr ⟨lw_p8, List.forall_mem_cons.mpr ⟨lw_p9, List.forall_mem_cons.mpr ⟨lw_p10, List.forall_mem_cons.mpr ⟨lw_p11, List.forall_mem_cons.mpr ⟨lw_p12, List.forall_mem_cons.mpr ⟨lw_p13, List.forall_mem_cons.mpr ⟨lw_p14, List.forall_mem_cons.mpr ⟨lw_p15, fun _ h => absurd h List.not_mem_nil⟩⟩⟩⟩⟩⟩⟩⟩⟩⟩⟩⟩⟩⟩⟩⟩
theorem lw_p16 : lw_okq (⟨"ChainFrames$Step", "putLong", "(I)V"⟩, 3) := ⟨⟨by decide +kernel, by decide +kernel⟩, List.mem_of_getElem? (i := 83) (by decide +kernel), List.mem_of_getElem? (i := 497) (by decide +kernel), List.mem_of_getElem? (i := 498) (by decide +kernel)⟩
theorem lw_p17 : lw_okq (⟨"ChainFrames$Step", "useThing", "(LChainFrames$Method;I)V"⟩, 3) := ⟨⟨by decide +kernel, by decide +kernel⟩, List.mem_of_getElem? (i := 83) (by decide +kernel), List.mem_of_getElem? (i := 506) (by decide +kernel), List.mem_of_getElem? (i := 507) (by decide +kernel)⟩
theorem lw_p18 : lw_okq (⟨"ChainFrames$Step", "make", "(LChainFrames$Method;I)V"⟩, 3) := ⟨⟨by decide +kernel, by decide +kernel⟩, List.mem_of_getElem? (i := 83) (by decide +kernel), List.mem_of_getElem? (i := 510) (by decide +kernel), List.mem_of_getElem? (i := 511) (by decide +kernel)⟩
theorem lw_p19 : lw_okq (⟨"ChainFrames$Step", "loadElement", "()V"⟩, 3) := ⟨⟨by decide +kernel, by decide +kernel⟩, List.mem_of_getElem? (i := 83) (by decide +kernel), List.mem_of_getElem? (i := 524) (by decide +kernel), List.mem_of_getElem? (i := 525) (by decide +kernel)⟩
theorem lw_p20 : lw_okq (⟨"ChainFrames$Step", "storeElement", "()V"⟩, 3) := ⟨⟨by decide +kernel, by decide +kernel⟩, List.mem_of_getElem? (i := 83) (by decide +kernel), List.mem_of_getElem? (i := 529) (by decide +kernel), List.mem_of_getElem? (i := 530) (by decide +kernel)⟩
theorem lw_p21 : lw_okq (⟨"ChainFrames$Step", "useValue", "(II)V"⟩, 3) := ⟨⟨by decide +kernel, by decide +kernel⟩, List.mem_of_getElem? (i := 83) (by decide +kernel), List.mem_of_getElem? (i := 533) (by decide +kernel), List.mem_of_getElem? (i := 534) (by decide +kernel)⟩
theorem lw_p22 : lw_okq (⟨"ChainFrames$Step", "layTop", "()V"⟩, 3) := ⟨⟨by decide +kernel, by decide +kernel⟩, List.mem_of_getElem? (i := 83) (by decide +kernel), List.mem_of_getElem? (i := 537) (by decide +kernel), List.mem_of_getElem? (i := 538) (by decide +kernel)⟩
theorem lw_p23 : lw_okq (⟨"ChainFrames$Worker", "goOn", "(LChainFrames$Method;I)I"⟩, 3) := ⟨⟨by decide +kernel, by decide +kernel⟩, List.mem_of_getElem? (i := 51) (by decide +kernel), List.mem_of_getElem? (i := 541) (by decide +kernel), List.mem_of_getElem? (i := 542) (by decide +kernel)⟩
theorem lw_p24 : lw_okq (⟨"ChainFrames$Worker", "jumpRule", "(LChainFrames$Method;I)I"⟩, 3) := ⟨⟨by decide +kernel, by decide +kernel⟩, List.mem_of_getElem? (i := 51) (by decide +kernel), List.mem_of_getElem? (i := 549) (by decide +kernel), List.mem_of_getElem? (i := 550) (by decide +kernel)⟩
theorem lw_p25 : lw_okq (⟨"ChainFrames$Method", "localsOfOp", "(I)I"⟩, 13) := ⟨⟨by decide +kernel, by decide +kernel⟩, List.mem_of_getElem? (i := 219) (by decide +kernel), List.mem_of_getElem? (i := 570) (by decide +kernel), List.mem_of_getElem? (i := 571) (by decide +kernel)⟩
theorem lw_p26 : lw_okq (⟨"ChainFrames$Forms", "markTold", "(LChainFrames$Method;)V"⟩, 3) := ⟨⟨by decide +kernel, by decide +kernel⟩, List.mem_of_getElem? (i := 112) (by decide +kernel), List.mem_of_getElem? (i := 597) (by decide +kernel), List.mem_of_getElem? (i := 598) (by decide +kernel)⟩
theorem lw_p27 : lw_okq (⟨"ChainFrames$Forms", "mark", "(I)V"⟩, 3) := ⟨⟨by decide +kernel, by decide +kernel⟩, List.mem_of_getElem? (i := 112) (by decide +kernel), List.mem_of_getElem? (i := 603) (by decide +kernel), List.mem_of_getElem? (i := 604) (by decide +kernel)⟩
theorem lw_p28 : lw_okq (⟨"ChainFrames$Forms", "toldBefore", "(I)I"⟩, 3) := ⟨⟨by decide +kernel, by decide +kernel⟩, List.mem_of_getElem? (i := 112) (by decide +kernel), List.mem_of_getElem? (i := 608) (by decide +kernel), List.mem_of_getElem? (i := 609) (by decide +kernel)⟩
theorem lw_p29 : lw_okq (⟨"ChainFrames$Forms", "isAlike", "(I)Z"⟩, 3) := ⟨⟨by decide +kernel, by decide +kernel⟩, List.mem_of_getElem? (i := 112) (by decide +kernel), List.mem_of_getElem? (i := 618) (by decide +kernel), List.mem_of_getElem? (i := 619) (by decide +kernel)⟩
theorem lw_p30 : lw_okq (⟨"ChainFramesModel", "isClass", "(I)Z"⟩, 34) := ⟨⟨by decide +kernel, by decide +kernel⟩, List.mem_of_getElem? (i := 630) (by decide +kernel), List.mem_of_getElem? (i := 743) (by decide +kernel), List.mem_of_getElem? (i := 744) (by decide +kernel)⟩
theorem lw_p31 : lw_okq (⟨"ChainFramesModel", "fitsClass", "(II)Z"⟩, 34) := ⟨⟨by decide +kernel, by decide +kernel⟩, List.mem_of_getElem? (i := 630) (by decide +kernel), List.mem_of_getElem? (i := 754) (by decide +kernel), List.mem_of_getElem? (i := 755) (by decide +kernel)⟩
def lw_privs_2 : List (MethodName × Nat) := [(⟨"ChainFrames$Step", "putLong", "(I)V"⟩, 3), (⟨"ChainFrames$Step", "useThing", "(LChainFrames$Method;I)V"⟩, 3), (⟨"ChainFrames$Step", "make", "(LChainFrames$Method;I)V"⟩, 3), (⟨"ChainFrames$Step", "loadElement", "()V"⟩, 3), (⟨"ChainFrames$Step", "storeElement", "()V"⟩, 3), (⟨"ChainFrames$Step", "useValue", "(II)V"⟩, 3), (⟨"ChainFrames$Step", "layTop", "()V"⟩, 3), (⟨"ChainFrames$Worker", "goOn", "(LChainFrames$Method;I)I"⟩, 3), (⟨"ChainFrames$Worker", "jumpRule", "(LChainFrames$Method;I)I"⟩, 3), (⟨"ChainFrames$Method", "localsOfOp", "(I)I"⟩, 13), (⟨"ChainFrames$Forms", "markTold", "(LChainFrames$Method;)V"⟩, 3), (⟨"ChainFrames$Forms", "mark", "(I)V"⟩, 3), (⟨"ChainFrames$Forms", "toldBefore", "(I)I"⟩, 3), (⟨"ChainFrames$Forms", "isAlike", "(I)Z"⟩, 3), (⟨"ChainFramesModel", "isClass", "(I)Z"⟩, 34), (⟨"ChainFramesModel", "fitsClass", "(II)Z"⟩, 34)]
theorem lw_r2 : ∀ q ∈ lw_privs_2, lw_okq q := List.forall_mem_cons.mpr ⟨lw_p16, List.forall_mem_cons.mpr ⟨lw_p17, List.forall_mem_cons.mpr ⟨lw_p18, List.forall_mem_cons.mpr ⟨lw_p19, List.forall_mem_cons.mpr ⟨lw_p20, List.forall_mem_cons.mpr ⟨lw_p21, List.forall_mem_cons.mpr ⟨lw_p22, List.forall_mem_cons.mpr ⟨lw_p23, List.forall_mem_cons.mpr ⟨lw_p24, List.forall_mem_cons.mpr ⟨lw_p25, List.forall_mem_cons.mpr ⟨lw_p26, List.forall_mem_cons.mpr ⟨lw_p27, List.forall_mem_cons.mpr ⟨lw_p28, List.forall_mem_cons.mpr ⟨lw_p29, List.forall_mem_cons.mpr ⟨lw_p30, List.forall_mem_cons.mpr ⟨lw_p31, fun _ h => absurd h List.not_mem_nil⟩⟩⟩⟩⟩⟩⟩⟩⟩⟩⟩⟩⟩⟩⟩⟩
theorem lw_p32 : lw_okq (⟨"ChainFramesModel", "isBelow", "(II)Z"⟩, 34) := ⟨⟨by decide +kernel, by decide +kernel⟩, List.mem_of_getElem? (i := 630) (by decide +kernel), List.mem_of_getElem? (i := 758) (by decide +kernel), List.mem_of_getElem? (i := 759) (by decide +kernel)⟩
theorem lw_p33 : lw_okq (⟨"ChainFramesModel", "isKind", "(I)Z"⟩, 34) := ⟨⟨by decide +kernel, by decide +kernel⟩, List.mem_of_getElem? (i := 630) (by decide +kernel), List.mem_of_getElem? (i := 766) (by decide +kernel), List.mem_of_getElem? (i := 767) (by decide +kernel)⟩
theorem lw_p34 : lw_okq (⟨"ChainFramesModel", "isThing", "(I)Z"⟩, 34) := ⟨⟨by decide +kernel, by decide +kernel⟩, List.mem_of_getElem? (i := 630) (by decide +kernel), List.mem_of_getElem? (i := 770) (by decide +kernel), List.mem_of_getElem? (i := 771) (by decide +kernel)⟩
theorem lw_p35 : lw_okq (⟨"ChainFramesModel", "isThings", "(I)Z"⟩, 34) := ⟨⟨by decide +kernel, by decide +kernel⟩, List.mem_of_getElem? (i := 630) (by decide +kernel), List.mem_of_getElem? (i := 774) (by decide +kernel), List.mem_of_getElem? (i := 775) (by decide +kernel)⟩
theorem lw_p36 : lw_okq (⟨"ChainFramesModel", "joined", "(II)I"⟩, 34) := ⟨⟨by decide +kernel, by decide +kernel⟩, List.mem_of_getElem? (i := 630) (by decide +kernel), List.mem_of_getElem? (i := 778) (by decide +kernel), List.mem_of_getElem? (i := 779) (by decide +kernel)⟩
theorem lw_p37 : lw_okq (⟨"ChainFramesModel", "joinClass", "(II)I"⟩, 34) := ⟨⟨by decide +kernel, by decide +kernel⟩, List.mem_of_getElem? (i := 630) (by decide +kernel), List.mem_of_getElem? (i := 785) (by decide +kernel), List.mem_of_getElem? (i := 786) (by decide +kernel)⟩
theorem lw_p38 : lw_okq (⟨"ChainFramesModel", "isArgument", "(I)Z"⟩, 34) := ⟨⟨by decide +kernel, by decide +kernel⟩, List.mem_of_getElem? (i := 630) (by decide +kernel), List.mem_of_getElem? (i := 793) (by decide +kernel), List.mem_of_getElem? (i := 794) (by decide +kernel)⟩
theorem lw_p39 : lw_okq (⟨"ChainFramesModel", "isMethod", "(I)Z"⟩, 34) := ⟨⟨by decide +kernel, by decide +kernel⟩, List.mem_of_getElem? (i := 630) (by decide +kernel), List.mem_of_getElem? (i := 801) (by decide +kernel), List.mem_of_getElem? (i := 802) (by decide +kernel)⟩
theorem lw_p40 : lw_okq (⟨"ChainFramesModel", "isOp", "(III)Z"⟩, 34) := ⟨⟨by decide +kernel, by decide +kernel⟩, List.mem_of_getElem? (i := 630) (by decide +kernel), List.mem_of_getElem? (i := 809) (by decide +kernel), List.mem_of_getElem? (i := 810) (by decide +kernel)⟩
theorem lw_p41 : lw_okq (⟨"ChainFramesModel", "meets", "(I)Z"⟩, 34) := ⟨⟨by decide +kernel, by decide +kernel⟩, List.mem_of_getElem? (i := 630) (by decide +kernel), List.mem_of_getElem? (i := 821) (by decide +kernel), List.mem_of_getElem? (i := 822) (by decide +kernel)⟩
theorem lw_p42 : lw_okq (⟨"ChainFramesModel", "meetsFirst", "(I)Z"⟩, 34) := ⟨⟨by decide +kernel, by decide +kernel⟩, List.mem_of_getElem? (i := 630) (by decide +kernel), List.mem_of_getElem? (i := 825) (by decide +kernel), List.mem_of_getElem? (i := 826) (by decide +kernel)⟩
theorem lw_p43 : lw_okq (⟨"ChainFramesModel", "keepMost", "(I)V"⟩, 34) := ⟨⟨by decide +kernel, by decide +kernel⟩, List.mem_of_getElem? (i := 630) (by decide +kernel), List.mem_of_getElem? (i := 829) (by decide +kernel), List.mem_of_getElem? (i := 830) (by decide +kernel)⟩
theorem lw_p44 : lw_okq (⟨"ChainFramesModel", "breaks", "(I)Z"⟩, 34) := ⟨⟨by decide +kernel, by decide +kernel⟩, List.mem_of_getElem? (i := 630) (by decide +kernel), List.mem_of_getElem? (i := 833) (by decide +kernel), List.mem_of_getElem? (i := 834) (by decide +kernel)⟩
theorem lw_p45 : lw_okq (⟨"ChainFramesModel", "leastLooked", "()I"⟩, 34) := ⟨⟨by decide +kernel, by decide +kernel⟩, List.mem_of_getElem? (i := 630) (by decide +kernel), List.mem_of_getElem? (i := 837) (by decide +kernel), List.mem_of_getElem? (i := 838) (by decide +kernel)⟩
theorem lw_p46 : lw_okq (⟨"ChainFramesModel", "goes", "()Z"⟩, 34) := ⟨⟨by decide +kernel, by decide +kernel⟩, List.mem_of_getElem? (i := 630) (by decide +kernel), List.mem_of_getElem? (i := 841) (by decide +kernel), List.mem_of_getElem? (i := 842) (by decide +kernel)⟩
theorem lw_p47 : lw_okq (⟨"ChainFramesModel", "hands", "(I)Z"⟩, 34) := ⟨⟨by decide +kernel, by decide +kernel⟩, List.mem_of_getElem? (i := 630) (by decide +kernel), List.mem_of_getElem? (i := 845) (by decide +kernel), List.mem_of_getElem? (i := 846) (by decide +kernel)⟩
def lw_privs_3 : List (MethodName × Nat) := [(⟨"ChainFramesModel", "isBelow", "(II)Z"⟩, 34), (⟨"ChainFramesModel", "isKind", "(I)Z"⟩, 34), (⟨"ChainFramesModel", "isThing", "(I)Z"⟩, 34), (⟨"ChainFramesModel", "isThings", "(I)Z"⟩, 34), (⟨"ChainFramesModel", "joined", "(II)I"⟩, 34), (⟨"ChainFramesModel", "joinClass", "(II)I"⟩, 34), (⟨"ChainFramesModel", "isArgument", "(I)Z"⟩, 34), (⟨"ChainFramesModel", "isMethod", "(I)Z"⟩, 34), (⟨"ChainFramesModel", "isOp", "(III)Z"⟩, 34), (⟨"ChainFramesModel", "meets", "(I)Z"⟩, 34), (⟨"ChainFramesModel", "meetsFirst", "(I)Z"⟩, 34), (⟨"ChainFramesModel", "keepMost", "(I)V"⟩, 34), (⟨"ChainFramesModel", "breaks", "(I)Z"⟩, 34), (⟨"ChainFramesModel", "leastLooked", "()I"⟩, 34), (⟨"ChainFramesModel", "goes", "()Z"⟩, 34), (⟨"ChainFramesModel", "hands", "(I)Z"⟩, 34)]
theorem lw_r3 : ∀ q ∈ lw_privs_3, lw_okq q := List.forall_mem_cons.mpr ⟨lw_p32, List.forall_mem_cons.mpr ⟨lw_p33, List.forall_mem_cons.mpr ⟨lw_p34, List.forall_mem_cons.mpr ⟨lw_p35, List.forall_mem_cons.mpr ⟨lw_p36, List.forall_mem_cons.mpr ⟨lw_p37, List.forall_mem_cons.mpr ⟨lw_p38, List.forall_mem_cons.mpr ⟨lw_p39, List.forall_mem_cons.mpr ⟨lw_p40, List.forall_mem_cons.mpr ⟨lw_p41, List.forall_mem_cons.mpr ⟨lw_p42, List.forall_mem_cons.mpr ⟨lw_p43, List.forall_mem_cons.mpr ⟨lw_p44, List.forall_mem_cons.mpr ⟨lw_p45, List.forall_mem_cons.mpr ⟨lw_p46, List.forall_mem_cons.mpr ⟨lw_p47, fun _ h => absurd h List.not_mem_nil⟩⟩⟩⟩⟩⟩⟩⟩⟩⟩⟩⟩⟩⟩⟩⟩
theorem lw_p48 : lw_okq (⟨"ChainFramesModel", "load", "(I)V"⟩, 34) := ⟨⟨by decide +kernel, by decide +kernel⟩, List.mem_of_getElem? (i := 630) (by decide +kernel), List.mem_of_getElem? (i := 849) (by decide +kernel), List.mem_of_getElem? (i := 850) (by decide +kernel)⟩
theorem lw_p49 : lw_okq (⟨"ChainFramesModel", "does", "(III)Z"⟩, 34) := ⟨⟨by decide +kernel, by decide +kernel⟩, List.mem_of_getElem? (i := 630) (by decide +kernel), List.mem_of_getElem? (i := 853) (by decide +kernel), List.mem_of_getElem? (i := 854) (by decide +kernel)⟩
theorem lw_p50 : lw_okq (⟨"ChainFramesModel", "takes", "(I)Z"⟩, 34) := ⟨⟨by decide +kernel, by decide +kernel⟩, List.mem_of_getElem? (i := 630) (by decide +kernel), List.mem_of_getElem? (i := 857) (by decide +kernel), List.mem_of_getElem? (i := 858) (by decide +kernel)⟩
theorem lw_p51 : lw_okq (⟨"ChainFramesModel", "wants", "(I)Z"⟩, 34) := ⟨⟨by decide +kernel, by decide +kernel⟩, List.mem_of_getElem? (i := 630) (by decide +kernel), List.mem_of_getElem? (i := 861) (by decide +kernel), List.mem_of_getElem? (i := 862) (by decide +kernel)⟩
theorem lw_p52 : lw_okq (⟨"ChainFramesModel", "fitsKind", "(II)Z"⟩, 34) := ⟨⟨by decide +kernel, by decide +kernel⟩, List.mem_of_getElem? (i := 630) (by decide +kernel), List.mem_of_getElem? (i := 865) (by decide +kernel), List.mem_of_getElem? (i := 866) (by decide +kernel)⟩
theorem lw_p53 : lw_okq (⟨"ChainFramesModel", "lays", "(I)Z"⟩, 34) := ⟨⟨by decide +kernel, by decide +kernel⟩, List.mem_of_getElem? (i := 630) (by decide +kernel), List.mem_of_getElem? (i := 869) (by decide +kernel), List.mem_of_getElem? (i := 870) (by decide +kernel)⟩
theorem lw_p54 : lw_okq (⟨"ChainFramesModel", "top", "()I"⟩, 34) := ⟨⟨by decide +kernel, by decide +kernel⟩, List.mem_of_getElem? (i := 630) (by decide +kernel), List.mem_of_getElem? (i := 873) (by decide +kernel), List.mem_of_getElem? (i := 874) (by decide +kernel)⟩
theorem lw_p55 : lw_okq (⟨"ChainFramesModel", "makes", "(I)Z"⟩, 34) := ⟨⟨by decide +kernel, by decide +kernel⟩, List.mem_of_getElem? (i := 630) (by decide +kernel), List.mem_of_getElem? (i := 877) (by decide +kernel), List.mem_of_getElem? (i := 878) (by decide +kernel)⟩
theorem lw_p56 : lw_okq (⟨"ChainFramesModel", "takesTop", "(Z)Z"⟩, 34) := ⟨⟨by decide +kernel, by decide +kernel⟩, List.mem_of_getElem? (i := 630) (by decide +kernel), List.mem_of_getElem? (i := 881) (by decide +kernel), List.mem_of_getElem? (i := 882) (by decide +kernel)⟩
theorem lw_p57 : lw_okq (⟨"ChainFramesModel", "reads", "()Z"⟩, 34) := ⟨⟨by decide +kernel, by decide +kernel⟩, List.mem_of_getElem? (i := 630) (by decide +kernel), List.mem_of_getElem? (i := 885) (by decide +kernel), List.mem_of_getElem? (i := 886) (by decide +kernel)⟩
theorem lw_p58 : lw_okq (⟨"ChainFramesModel", "writes", "()Z"⟩, 34) := ⟨⟨by decide +kernel, by decide +kernel⟩, List.mem_of_getElem? (i := 630) (by decide +kernel), List.mem_of_getElem? (i := 889) (by decide +kernel), List.mem_of_getElem? (i := 890) (by decide +kernel)⟩
theorem lw_p59 : lw_okq (⟨"ChainFramesModel", "moves", "(II)Z"⟩, 34) := ⟨⟨by decide +kernel, by decide +kernel⟩, List.mem_of_getElem? (i := 630) (by decide +kernel), List.mem_of_getElem? (i := 893) (by decide +kernel), List.mem_of_getElem? (i := 894) (by decide +kernel)⟩
theorem lw_p60 : lw_okq (⟨"ChainFramesModel", "puts", "(II)V"⟩, 34) := ⟨⟨by decide +kernel, by decide +kernel⟩, List.mem_of_getElem? (i := 630) (by decide +kernel), List.mem_of_getElem? (i := 897) (by decide +kernel), List.mem_of_getElem? (i := 898) (by decide +kernel)⟩
theorem lw_p61 : lw_okq (⟨"ChainFramesModel", "jumps", "(I)Z"⟩, 34) := ⟨⟨by decide +kernel, by decide +kernel⟩, List.mem_of_getElem? (i := 630) (by decide +kernel), List.mem_of_getElem? (i := 904) (by decide +kernel), List.mem_of_getElem? (i := 905) (by decide +kernel)⟩
theorem lw_p62 : lw_okq (⟨"ChainFramesModel", "hasUnmade", "()Z"⟩, 34) := ⟨⟨by decide +kernel, by decide +kernel⟩, List.mem_of_getElem? (i := 630) (by decide +kernel), List.mem_of_getElem? (i := 908) (by decide +kernel), List.mem_of_getElem? (i := 909) (by decide +kernel)⟩
theorem lw_p63 : lw_okq (⟨"ChainFramesModel", "goesOn", "()Z"⟩, 34) := ⟨⟨by decide +kernel, by decide +kernel⟩, List.mem_of_getElem? (i := 630) (by decide +kernel), List.mem_of_getElem? (i := 912) (by decide +kernel), List.mem_of_getElem? (i := 913) (by decide +kernel)⟩
def lw_privs_4 : List (MethodName × Nat) := [(⟨"ChainFramesModel", "load", "(I)V"⟩, 34), (⟨"ChainFramesModel", "does", "(III)Z"⟩, 34), (⟨"ChainFramesModel", "takes", "(I)Z"⟩, 34), (⟨"ChainFramesModel", "wants", "(I)Z"⟩, 34), (⟨"ChainFramesModel", "fitsKind", "(II)Z"⟩, 34), (⟨"ChainFramesModel", "lays", "(I)Z"⟩, 34), (⟨"ChainFramesModel", "top", "()I"⟩, 34), (⟨"ChainFramesModel", "makes", "(I)Z"⟩, 34), (⟨"ChainFramesModel", "takesTop", "(Z)Z"⟩, 34), (⟨"ChainFramesModel", "reads", "()Z"⟩, 34), (⟨"ChainFramesModel", "writes", "()Z"⟩, 34), (⟨"ChainFramesModel", "moves", "(II)Z"⟩, 34), (⟨"ChainFramesModel", "puts", "(II)V"⟩, 34), (⟨"ChainFramesModel", "jumps", "(I)Z"⟩, 34), (⟨"ChainFramesModel", "hasUnmade", "()Z"⟩, 34), (⟨"ChainFramesModel", "goesOn", "()Z"⟩, 34)]
theorem lw_r4 : ∀ q ∈ lw_privs_4, lw_okq q := List.forall_mem_cons.mpr ⟨lw_p48, List.forall_mem_cons.mpr ⟨lw_p49, List.forall_mem_cons.mpr ⟨lw_p50, List.forall_mem_cons.mpr ⟨lw_p51, List.forall_mem_cons.mpr ⟨lw_p52, List.forall_mem_cons.mpr ⟨lw_p53, List.forall_mem_cons.mpr ⟨lw_p54, List.forall_mem_cons.mpr ⟨lw_p55, List.forall_mem_cons.mpr ⟨lw_p56, List.forall_mem_cons.mpr ⟨lw_p57, List.forall_mem_cons.mpr ⟨lw_p58, List.forall_mem_cons.mpr ⟨lw_p59, List.forall_mem_cons.mpr ⟨lw_p60, List.forall_mem_cons.mpr ⟨lw_p61, List.forall_mem_cons.mpr ⟨lw_p62, List.forall_mem_cons.mpr ⟨lw_p63, fun _ h => absurd h List.not_mem_nil⟩⟩⟩⟩⟩⟩⟩⟩⟩⟩⟩⟩⟩⟩⟩⟩
theorem lw_p64 : lw_okq (⟨"ChainFramesModel", "wanted", "(I)I"⟩, 34) := ⟨⟨by decide +kernel, by decide +kernel⟩, List.mem_of_getElem? (i := 630) (by decide +kernel), List.mem_of_getElem? (i := 920) (by decide +kernel), List.mem_of_getElem? (i := 921) (by decide +kernel)⟩
theorem lw_p65 : lw_okq (⟨"ChainFramesModel", "isPlace", "(II)Z"⟩, 34) := ⟨⟨by decide +kernel, by decide +kernel⟩, List.mem_of_getElem? (i := 630) (by decide +kernel), List.mem_of_getElem? (i := 928) (by decide +kernel), List.mem_of_getElem? (i := 929) (by decide +kernel)⟩
theorem lw_p66 : lw_okq (⟨"ChainFramesModel", "isTold", "(II)Z"⟩, 34) := ⟨⟨by decide +kernel, by decide +kernel⟩, List.mem_of_getElem? (i := 630) (by decide +kernel), List.mem_of_getElem? (i := 940) (by decide +kernel), List.mem_of_getElem? (i := 941) (by decide +kernel)⟩
def lw_privs_5 : List (MethodName × Nat) := [(⟨"ChainFramesModel", "wanted", "(I)I"⟩, 34), (⟨"ChainFramesModel", "isPlace", "(II)Z"⟩, 34), (⟨"ChainFramesModel", "isTold", "(II)Z"⟩, 34)]
theorem lw_r5 : ∀ q ∈ lw_privs_5, lw_okq q := List.forall_mem_cons.mpr ⟨lw_p64, List.forall_mem_cons.mpr ⟨lw_p65, List.forall_mem_cons.mpr ⟨lw_p66, fun _ h => absurd h List.not_mem_nil⟩⟩⟩
def lw_privs : List (MethodName × Nat) := lw_privs_1 ++ (lw_privs_2 ++ (lw_privs_3 ++ (lw_privs_4 ++ (lw_privs_5))))
def lw_tbl : List Cond := k2_sels lw_privs ++ tables_1
theorem lw_privs_ok : ∀ q ∈ lw_privs, lw_okq q := by
  show ∀ q ∈ lw_privs_1 ++ (lw_privs_2 ++ (lw_privs_3 ++ (lw_privs_4 ++ (lw_privs_5)))), lw_okq q
  exact List.forall_mem_append.mpr ⟨lw_r1, List.forall_mem_append.mpr ⟨lw_r2, List.forall_mem_append.mpr ⟨lw_r3, List.forall_mem_append.mpr ⟨lw_r4, lw_r5⟩⟩⟩⟩
end
section
def RX0 : String := "ChainFrames$Classes"
def TX0 : u_T := fun k => match k with
  | 0 => ("ChainFrames$Classes", "above", "[I", true)
  | 1 => ("ChainFrames$Classes", "faces", "[Z", true)
  | _ => ("ChainFrames$Classes", "size", "I", false)
def tyX0 : Nat → FieldType := fun k => match k with
  | 0 => .array .int
  | 1 => .array .boolean
  | _ => .int
abbrev wsX00 : List Cond := u_ws RX0 TX0 3
theorem nmX0 : ∀ a, a < 3 → ∀ b, b < 3 → a ≠ b → (TX0 a).2.1 ≠ (TX0 b).2.1 := by decide +kernel
theorem tyX0_ok : ∀ k, k < 3 → parseFieldDescriptor (TX0 k).2.2.1 = some (tyX0 k) := by decide +kernel
abbrev cX0_init : ByteArray := prog_2_method_1_code
def yX0_init : MethodName := ⟨RX0, "<init>", "()V"⟩
abbrev cX0_has : ByteArray := prog_2_method_2_code
def yX0_has : MethodName := ⟨RX0, "has", "(I)Z"⟩
abbrev cX0_isFull : ByteArray := prog_2_method_3_code
def yX0_isFull : MethodName := ⟨RX0, "isFull", "()Z"⟩
abbrev cX0_isFace : ByteArray := prog_2_method_4_code
def yX0_isFace : MethodName := ⟨RX0, "isFace", "(I)Z"⟩
abbrev cX0_add : ByteArray := prog_2_method_5_code
def yX0_add : MethodName := ⟨RX0, "add", "(I)I"⟩
abbrev cX0_suits : ByteArray := prog_2_method_6_code
def yX0_suits : MethodName := ⟨RX0, "suits", "(II)Z"⟩
abbrev cX0_nearest : ByteArray := prog_2_method_7_code
def yX0_nearest : MethodName := ⟨RX0, "nearest", "(II)I"⟩
def RX1 : String := "ChainFrames$Forms"
def TX1 : u_T := fun k => match k with
  | 0 => ("ChainFrames$Forms", "isTold", "[Z", true)
  | 1 => ("ChainFrames$Forms", "oldRow", "[I", true)
  | _ => ("ChainFrames$Forms", "newRow", "[I", true)
def tyX1 : Nat → FieldType := fun k => match k with
  | 0 => .array .boolean
  | 1 => .array .int
  | _ => .array .int
abbrev wsX10 : List Cond := u_ws RX1 TX1 3
theorem nmX1 : ∀ a, a < 3 → ∀ b, b < 3 → a ≠ b → (TX1 a).2.1 ≠ (TX1 b).2.1 := by decide +kernel
theorem tyX1_ok : ∀ k, k < 3 → parseFieldDescriptor (TX1 k).2.2.1 = some (tyX1 k) := by decide +kernel
abbrev cX1_init : ByteArray := prog_3_method_1_code
def yX1_init : MethodName := ⟨RX1, "<init>", "()V"⟩
abbrev cX1_formAt : ByteArray := prog_3_method_2_code
def yX1_formAt : MethodName := ⟨RX1, "formAt", "(LChainFrames$Method;I)I"⟩
abbrev cX1_markTold : ByteArray := prog_3_method_3_code
def yX1_markTold : MethodName := ⟨RX1, "markTold", "(LChainFrames$Method;)V"⟩
abbrev cX1_mark : ByteArray := prog_3_method_4_code
def yX1_mark : MethodName := ⟨RX1, "mark", "(I)V"⟩
abbrev cX1_toldBefore : ByteArray := prog_3_method_5_code
def yX1_toldBefore : MethodName := ⟨RX1, "toldBefore", "(I)I"⟩
abbrev cX1_writeRow : ByteArray := prog_3_method_6_code
def yX1_writeRow : MethodName := ⟨RX1, "writeRow", "([I[I)I"⟩
abbrev cX1_isAlike : ByteArray := prog_3_method_7_code
def yX1_isAlike : MethodName := ⟨RX1, "isAlike", "(I)Z"⟩
abbrev cX1_formOf : ByteArray := prog_3_method_8_code
def yX1_formOf : MethodName := ⟨RX1, "formOf", "(LChainFrames$Frame;I)I"⟩
def RX2 : String := "ChainFrames$Frame"
def TX2 : u_T := fun k => match k with
  | 0 => ("ChainFrames$Frame", "locals", "[I", true)
  | 1 => ("ChainFrames$Frame", "pile", "[I", true)
  | _ => ("ChainFrames$Frame", "depth", "I", false)
def tyX2 : Nat → FieldType := fun k => match k with
  | 0 => .array .int
  | 1 => .array .int
  | _ => .int
abbrev wsX20 : List Cond := u_ws RX2 TX2 3
theorem nmX2 : ∀ a, a < 3 → ∀ b, b < 3 → a ≠ b → (TX2 a).2.1 ≠ (TX2 b).2.1 := by decide +kernel
theorem tyX2_ok : ∀ k, k < 3 → parseFieldDescriptor (TX2 k).2.2.1 = some (tyX2 k) := by decide +kernel
abbrev cX2_init : ByteArray := prog_4_method_1_code
def yX2_init : MethodName := ⟨RX2, "<init>", "()V"⟩
abbrev cX2_isThere : ByteArray := prog_4_method_2_code
def yX2_isThere : MethodName := ⟨RX2, "isThere", "()Z"⟩
abbrev cX2_copyFrom : ByteArray := prog_4_method_3_code
def yX2_copyFrom : MethodName := ⟨RX2, "copyFrom", "(LChainFrames$Frame;)V"⟩
abbrev cX2_startWith : ByteArray := prog_4_method_4_code
def yX2_startWith : MethodName := ⟨RX2, "startWith", "([I)V"⟩
abbrev cX2_becomeRaised : ByteArray := prog_4_method_5_code
def yX2_becomeRaised : MethodName := ⟨RX2, "becomeRaised", "(LChainFrames$Frame;I)V"⟩
abbrev cX2_slot : ByteArray := prog_4_method_6_code
def yX2_slot : MethodName := ⟨RX2, "slot", "(I)I"⟩
abbrev cX2_top : ByteArray := prog_4_method_7_code
def yX2_top : MethodName := ⟨RX2, "top", "()I"⟩
abbrev cX2_hasLongOnTop : ByteArray := prog_4_method_8_code
def yX2_hasLongOnTop : MethodName := ⟨RX2, "hasLongOnTop", "()Z"⟩
abbrev cX2_hasLongAt : ByteArray := prog_4_method_9_code
def yX2_hasLongAt : MethodName := ⟨RX2, "hasLongAt", "(I)Z"⟩
abbrev cX2_holdsUnmade : ByteArray := prog_4_method_10_code
def yX2_holdsUnmade : MethodName := ⟨RX2, "holdsUnmade", "()Z"⟩
abbrev cX2_replace : ByteArray := prog_4_method_11_code
def yX2_replace : MethodName := ⟨RX2, "replace", "(II)V"⟩
abbrev cX2_breakLong : ByteArray := prog_4_method_12_code
def yX2_breakLong : MethodName := ⟨RX2, "breakLong", "(I)V"⟩
def RX3 : String := "ChainFrames$Kinds"
def TX3 : u_T := fun k => match k with
  | _ => ("ChainFrames$Kinds", "classes", "LChainFrames$Classes;", true)
def tyX3 : Nat → FieldType := fun k => match k with
  | _ => .object "ChainFrames$Classes"
abbrev wsX30 : List Cond := u_ws RX3 TX3 1
theorem nmX3 : ∀ a, a < 1 → ∀ b, b < 1 → a ≠ b → (TX3 a).2.1 ≠ (TX3 b).2.1 := by decide +kernel
theorem tyX3_ok : ∀ k, k < 1 → parseFieldDescriptor (TX3 k).2.2.1 = some (tyX3 k) := by decide +kernel
abbrev cX3_init : ByteArray := prog_5_method_1_code
def yX3_init : MethodName := ⟨RX3, "<init>", "(LChainFrames$Classes;)V"⟩
abbrev cX3_isThing : ByteArray := prog_5_method_2_code
def yX3_isThing : MethodName := ⟨RX3, "isThing", "(I)Z"⟩
abbrev cX3_isThingRow : ByteArray := prog_5_method_3_code
def yX3_isThingRow : MethodName := ⟨RX3, "isThingRow", "(I)Z"⟩
abbrev cX3_isUnmade : ByteArray := prog_5_method_4_code
def yX3_isUnmade : MethodName := ⟨RX3, "isUnmade", "(I)Z"⟩
abbrev cX3_isReference : ByteArray := prog_5_method_5_code
def yX3_isReference : MethodName := ⟨RX3, "isReference", "(I)Z"⟩
abbrev cX3_isOfClass : ByteArray := prog_5_method_6_code
def yX3_isOfClass : MethodName := ⟨RX3, "isOfClass", "(I)Z"⟩
abbrev cX3_isKnown : ByteArray := prog_5_method_7_code
def yX3_isKnown : MethodName := ⟨RX3, "isKnown", "(I)Z"⟩
abbrev cX3_isArgument : ByteArray := prog_5_method_8_code
def yX3_isArgument : MethodName := ⟨RX3, "isArgument", "(I)Z"⟩
abbrev cX3_isResult : ByteArray := prog_5_method_9_code
def yX3_isResult : MethodName := ⟨RX3, "isResult", "(I)Z"⟩
abbrev cX3_suits : ByteArray := prog_5_method_10_code
def yX3_suits : MethodName := ⟨RX3, "suits", "(II)Z"⟩
abbrev cX3_merge : ByteArray := prog_5_method_11_code
def yX3_merge : MethodName := ⟨RX3, "merge", "(II)I"⟩
def RX4 : String := "ChainFrames$Method"
def TX4 : u_T := fun k => match k with
  | 0 => ("ChainFrames$Method", "result", "I", true)
  | 1 => ("ChainFrames$Method", "beginning", "[I", true)
  | 2 => ("ChainFrames$Method", "argumentLocals", "I", false)
  | 3 => ("ChainFrames$Method", "ops", "[I", true)
  | 4 => ("ChainFrames$Method", "as", "[I", true)
  | 5 => ("ChainFrames$Method", "bs", "[I", true)
  | 6 => ("ChainFrames$Method", "opCount", "I", false)
  | 7 => ("ChainFrames$Method", "froms", "[I", true)
  | 8 => ("ChainFrames$Method", "tos", "[I", true)
  | 9 => ("ChainFrames$Method", "handlers", "[I", true)
  | 10 => ("ChainFrames$Method", "raised", "[I", true)
  | 11 => ("ChainFrames$Method", "guardCount", "I", false)
  | _ => ("ChainFrames$Method", "work", "LChainFrames$Work;", true)
def tyX4 : Nat → FieldType := fun k => match k with
  | 0 => .int
  | 1 => .array .int
  | 2 => .int
  | 3 => .array .int
  | 4 => .array .int
  | 5 => .array .int
  | 6 => .int
  | 7 => .array .int
  | 8 => .array .int
  | 9 => .array .int
  | 10 => .array .int
  | 11 => .int
  | _ => .object "ChainFrames$Work"
abbrev wsX40 : List Cond := u_ws RX4 TX4 13
theorem nmX4 : ∀ a, a < 13 → ∀ b, b < 13 → a ≠ b → (TX4 a).2.1 ≠ (TX4 b).2.1 := by decide +kernel
theorem tyX4_ok : ∀ k, k < 13 → parseFieldDescriptor (TX4 k).2.2.1 = some (tyX4 k) := by decide +kernel
abbrev cX4_init : ByteArray := prog_6_method_1_code
def yX4_init : MethodName := ⟨RX4, "<init>", "(I)V"⟩
abbrev cX4_addArgument : ByteArray := prog_6_method_2_code
def yX4_addArgument : MethodName := ⟨RX4, "addArgument", "(I)I"⟩
abbrev cX4_addOp : ByteArray := prog_6_method_3_code
def yX4_addOp : MethodName := ⟨RX4, "addOp", "(III)I"⟩
abbrev cX4_addGuard : ByteArray := prog_6_method_4_code
def yX4_addGuard : MethodName := ⟨RX4, "addGuard", "(IIII)I"⟩
abbrev cX4_hasPlace : ByteArray := prog_6_method_5_code
def yX4_hasPlace : MethodName := ⟨RX4, "hasPlace", "(I)Z"⟩
abbrev cX4_isGuarded : ByteArray := prog_6_method_6_code
def yX4_isGuarded : MethodName := ⟨RX4, "isGuarded", "(II)Z"⟩
abbrev cX4_isJump : ByteArray := prog_6_method_7_code
def yX4_isJump : MethodName := ⟨RX4, "isJump", "(I)Z"⟩
abbrev cX4_classOfUnmade : ByteArray := prog_6_method_8_code
def yX4_classOfUnmade : MethodName := ⟨RX4, "classOfUnmade", "(I)I"⟩
abbrev cX4_wantedLocals : ByteArray := prog_6_method_9_code
def yX4_wantedLocals : MethodName := ⟨RX4, "wantedLocals", "()I"⟩
abbrev cX4_localsOfOp : ByteArray := prog_6_method_10_code
def yX4_localsOfOp : MethodName := ⟨RX4, "localsOfOp", "(I)I"⟩
def RX5 : String := "ChainFrames$Step"
def TX5 : u_T := fun k => match k with
  | 0 => ("ChainFrames$Step", "kinds", "LChainFrames$Kinds;", true)
  | 1 => ("ChainFrames$Step", "frame", "LChainFrames$Frame;", true)
  | _ => ("ChainFrames$Step", "rule", "I", false)
def tyX5 : Nat → FieldType := fun k => match k with
  | 0 => .object "ChainFrames$Kinds"
  | 1 => .object "ChainFrames$Frame"
  | _ => .int
abbrev wsX50 : List Cond := u_ws RX5 TX5 3
theorem nmX5 : ∀ a, a < 3 → ∀ b, b < 3 → a ≠ b → (TX5 a).2.1 ≠ (TX5 b).2.1 := by decide +kernel
theorem tyX5_ok : ∀ k, k < 3 → parseFieldDescriptor (TX5 k).2.2.1 = some (tyX5 k) := by decide +kernel
abbrev cX5_init : ByteArray := prog_7_method_1_code
def yX5_init : MethodName := ⟨RX5, "<init>", "(LChainFrames$Kinds;)V"⟩
abbrev cX5_perform : ByteArray := prog_7_method_2_code
def yX5_perform : MethodName := ⟨RX5, "perform", "(LChainFrames$Method;I)I"⟩
abbrev cX5_useLocal : ByteArray := prog_7_method_3_code
def yX5_useLocal : MethodName := ⟨RX5, "useLocal", "(II)V"⟩
abbrev cX5_useValue : ByteArray := prog_7_method_4_code
def yX5_useValue : MethodName := ⟨RX5, "useValue", "(II)V"⟩
abbrev cX5_useThing : ByteArray := prog_7_method_5_code
def yX5_useThing : MethodName := ⟨RX5, "useThing", "(LChainFrames$Method;I)V"⟩
abbrev cX5_layTop : ByteArray := prog_7_method_6_code
def yX5_layTop : MethodName := ⟨RX5, "layTop", "()V"⟩
abbrev cX5_make : ByteArray := prog_7_method_7_code
def yX5_make : MethodName := ⟨RX5, "make", "(LChainFrames$Method;I)V"⟩
abbrev cX5_loadElement : ByteArray := prog_7_method_8_code
def yX5_loadElement : MethodName := ⟨RX5, "loadElement", "()V"⟩
abbrev cX5_storeElement : ByteArray := prog_7_method_9_code
def yX5_storeElement : MethodName := ⟨RX5, "storeElement", "()V"⟩
abbrev cX5_isReferenceOrUnmade : ByteArray := prog_7_method_10_code
def yX5_isReferenceOrUnmade : MethodName := ⟨RX5, "isReferenceOrUnmade", "(I)Z"⟩
abbrev cX5_breakRule : ByteArray := prog_7_method_11_code
def yX5_breakRule : MethodName := ⟨RX5, "breakRule", "(I)V"⟩
abbrev cX5_expect : ByteArray := prog_7_method_12_code
def yX5_expect : MethodName := ⟨RX5, "expect", "(Z)V"⟩
abbrev cX5_expectInLocal : ByteArray := prog_7_method_13_code
def yX5_expectInLocal : MethodName := ⟨RX5, "expectInLocal", "(Z)V"⟩
abbrev cX5_takeAny : ByteArray := prog_7_method_14_code
def yX5_takeAny : MethodName := ⟨RX5, "takeAny", "()I"⟩
abbrev cX5_take : ByteArray := prog_7_method_15_code
def yX5_take : MethodName := ⟨RX5, "take", "(I)V"⟩
abbrev cX5_takeLong : ByteArray := prog_7_method_16_code
def yX5_takeLong : MethodName := ⟨RX5, "takeLong", "()V"⟩
abbrev cX5_lay : ByteArray := prog_7_method_17_code
def yX5_lay : MethodName := ⟨RX5, "lay", "(I)V"⟩
abbrev cX5_put : ByteArray := prog_7_method_18_code
def yX5_put : MethodName := ⟨RX5, "put", "(II)V"⟩
abbrev cX5_putLong : ByteArray := prog_7_method_19_code
def yX5_putLong : MethodName := ⟨RX5, "putLong", "(I)V"⟩
def RX6 : String := "ChainFrames$Work"
def TX6 : u_T := fun k => match k with
  | 0 => ("ChainFrames$Work", "frames", "[LChainFrames$Frame;", true)
  | 1 => ("ChainFrames$Work", "waiting", "[Z", true)
  | 2 => ("ChainFrames$Work", "isDone", "Z", false)
  | 3 => ("ChainFrames$Work", "rule", "I", false)
  | 4 => ("ChainFrames$Work", "brokenAt", "I", false)
  | 5 => ("ChainFrames$Work", "passes", "I", false)
  | _ => ("ChainFrames$Work", "highest", "I", false)
def tyX6 : Nat → FieldType := fun k => match k with
  | 0 => .array (.object "ChainFrames$Frame")
  | 1 => .array .boolean
  | 2 => .boolean
  | 3 => .int
  | 4 => .int
  | 5 => .int
  | _ => .int
abbrev wsX60 : List Cond := u_ws RX6 TX6 7
theorem nmX6 : ∀ a, a < 7 → ∀ b, b < 7 → a ≠ b → (TX6 a).2.1 ≠ (TX6 b).2.1 := by decide +kernel
theorem tyX6_ok : ∀ k, k < 7 → parseFieldDescriptor (TX6 k).2.2.1 = some (tyX6 k) := by decide +kernel
abbrev cX6_init : ByteArray := prog_8_method_1_code
def yX6_init : MethodName := ⟨RX6, "<init>", "()V"⟩
abbrev cX6_startWith : ByteArray := prog_8_method_2_code
def yX6_startWith : MethodName := ⟨RX6, "startWith", "([I)V"⟩
abbrev cX6_leastWaiting : ByteArray := prog_8_method_3_code
def yX6_leastWaiting : MethodName := ⟨RX6, "leastWaiting", "()I"⟩
abbrev cX6_breakAt : ByteArray := prog_8_method_4_code
def yX6_breakAt : MethodName := ⟨RX6, "breakAt", "(II)V"⟩
abbrev cX6_note : ByteArray := prog_8_method_5_code
def yX6_note : MethodName := ⟨RX6, "note", "(I)V"⟩
def RX7 : String := "ChainFrames$Worker"
def TX7 : u_T := fun k => match k with
  | 0 => ("ChainFrames$Worker", "kinds", "LChainFrames$Kinds;", true)
  | 1 => ("ChainFrames$Worker", "step", "LChainFrames$Step;", true)
  | _ => ("ChainFrames$Worker", "raisedFrame", "LChainFrames$Frame;", true)
def tyX7 : Nat → FieldType := fun k => match k with
  | 0 => .object "ChainFrames$Kinds"
  | 1 => .object "ChainFrames$Step"
  | _ => .object "ChainFrames$Frame"
abbrev wsX70 : List Cond := u_ws RX7 TX7 3
theorem nmX7 : ∀ a, a < 3 → ∀ b, b < 3 → a ≠ b → (TX7 a).2.1 ≠ (TX7 b).2.1 := by decide +kernel
theorem tyX7_ok : ∀ k, k < 3 → parseFieldDescriptor (TX7 k).2.2.1 = some (tyX7 k) := by decide +kernel
abbrev cX7_init : ByteArray := prog_9_method_1_code
def yX7_init : MethodName := ⟨RX7, "<init>", "(LChainFrames$Kinds;)V"⟩
abbrev cX7_run : ByteArray := prog_9_method_2_code
def yX7_run : MethodName := ⟨RX7, "run", "(LChainFrames$Method;)V"⟩
abbrev cX7_meetHandlers : ByteArray := prog_9_method_3_code
def yX7_meetHandlers : MethodName := ⟨RX7, "meetHandlers", "(LChainFrames$Method;I)I"⟩
abbrev cX7_goOn : ByteArray := prog_9_method_4_code
def yX7_goOn : MethodName := ⟨RX7, "goOn", "(LChainFrames$Method;I)I"⟩
abbrev cX7_jumpRule : ByteArray := prog_9_method_5_code
def yX7_jumpRule : MethodName := ⟨RX7, "jumpRule", "(LChainFrames$Method;I)I"⟩
abbrev cX7_meet : ByteArray := prog_9_method_6_code
def yX7_meet : MethodName := ⟨RX7, "meet", "(LChainFrames$Work;ILChainFrames$Frame;)Z"⟩
abbrev cX7_canMeet : ByteArray := prog_9_method_7_code
def yX7_canMeet : MethodName := ⟨RX7, "canMeet", "(LChainFrames$Frame;LChainFrames$Frame;)Z"⟩
abbrev cX7_mergeRow : ByteArray := prog_9_method_8_code
def yX7_mergeRow : MethodName := ⟨RX7, "mergeRow", "([I[II)Z"⟩
def RX8 : String := "ChainFrames"
def TX8 : u_T := fun k => match k with
  | 0 => ("ChainFrames", "classes", "LChainFrames$Classes;", true)
  | 1 => ("ChainFrames", "kinds", "LChainFrames$Kinds;", true)
  | 2 => ("ChainFrames", "worker", "LChainFrames$Worker;", true)
  | 3 => ("ChainFrames", "forms", "LChainFrames$Forms;", true)
  | 4 => ("ChainFrames", "methods", "[LChainFrames$Method;", true)
  | _ => ("ChainFrames", "methodCount", "I", false)
def tyX8 : Nat → FieldType := fun k => match k with
  | 0 => .object "ChainFrames$Classes"
  | 1 => .object "ChainFrames$Kinds"
  | 2 => .object "ChainFrames$Worker"
  | 3 => .object "ChainFrames$Forms"
  | 4 => .array (.object "ChainFrames$Method")
  | _ => .int
abbrev wsX80 : List Cond := u_ws RX8 TX8 6
theorem nmX8 : ∀ a, a < 6 → ∀ b, b < 6 → a ≠ b → (TX8 a).2.1 ≠ (TX8 b).2.1 := by decide +kernel
theorem tyX8_ok : ∀ k, k < 6 → parseFieldDescriptor (TX8 k).2.2.1 = some (tyX8 k) := by decide +kernel
abbrev cX8_init : ByteArray := prog_1_method_1_code
def yX8_init : MethodName := ⟨RX8, "<init>", "()V"⟩
abbrev cX8_cls : ByteArray := prog_1_method_2_code
def yX8_cls : MethodName := ⟨RX8, "cls", "(I)I"⟩
abbrev cX8_fits : ByteArray := prog_1_method_3_code
def yX8_fits : MethodName := ⟨RX8, "fits", "(II)I"⟩
abbrev cX8_join : ByteArray := prog_1_method_4_code
def yX8_join : MethodName := ⟨RX8, "join", "(II)I"⟩
abbrev cX8_method : ByteArray := prog_1_method_5_code
def yX8_method : MethodName := ⟨RX8, "method", "(I)I"⟩
abbrev cX8_argument : ByteArray := prog_1_method_6_code
def yX8_argument : MethodName := ⟨RX8, "argument", "(II)I"⟩
abbrev cX8_op : ByteArray := prog_1_method_7_code
def yX8_op : MethodName := ⟨RX8, "op", "(IIII)I"⟩
abbrev cX8_guard : ByteArray := prog_1_method_8_code
def yX8_guard : MethodName := ⟨RX8, "guard", "(IIIII)I"⟩
abbrev cX8_compute : ByteArray := prog_1_method_9_code
def yX8_compute : MethodName := ⟨RX8, "compute", "(I)I"⟩
abbrev cX8_told : ByteArray := prog_1_method_10_code
def yX8_told : MethodName := ⟨RX8, "told", "(II)I"⟩
abbrev cX8_frame : ByteArray := prog_1_method_11_code
def yX8_frame : MethodName := ⟨RX8, "frame", "(III)I"⟩
abbrev cX8_height : ByteArray := prog_1_method_12_code
def yX8_height : MethodName := ⟨RX8, "height", "(II)I"⟩
abbrev cX8_form : ByteArray := prog_1_method_13_code
def yX8_form : MethodName := ⟨RX8, "form", "(II)I"⟩
abbrev cX8_count : ByteArray := prog_1_method_14_code
def yX8_count : MethodName := ⟨RX8, "count", "(II)I"⟩
abbrev cX8_find : ByteArray := prog_1_method_15_code
def yX8_find : MethodName := ⟨RX8, "find", "(I)LChainFrames$Method;"⟩
abbrev cX8_isOp : ByteArray := prog_1_method_16_code
def yX8_isOp : MethodName := ⟨RX8, "isOp", "(III)Z"⟩
def RX9 : String := "ChainFramesModel"
def TX9 : u_T := fun k => match k with
  | 0 => ("ChainFramesModel", "classes", "I", false)
  | 1 => ("ChainFramesModel", "parent", "[I", true)
  | 2 => ("ChainFramesModel", "isFace", "[Z", true)
  | 3 => ("ChainFramesModel", "methods", "I", false)
  | 4 => ("ChainFramesModel", "result", "[I", true)
  | 5 => ("ChainFramesModel", "taken", "[I", true)
  | 6 => ("ChainFramesModel", "begin", "[I", true)
  | 7 => ("ChainFramesModel", "many", "[I", true)
  | 8 => ("ChainFramesModel", "ops", "[I", true)
  | 9 => ("ChainFramesModel", "as", "[I", true)
  | 10 => ("ChainFramesModel", "bs", "[I", true)
  | 11 => ("ChainFramesModel", "guards", "[I", true)
  | 12 => ("ChainFramesModel", "guardFrom", "[I", true)
  | 13 => ("ChainFramesModel", "guardTo", "[I", true)
  | 14 => ("ChainFramesModel", "guardHandler", "[I", true)
  | 15 => ("ChainFramesModel", "guardClass", "[I", true)
  | 16 => ("ChainFramesModel", "isDone", "[Z", true)
  | 17 => ("ChainFramesModel", "rule", "[I", true)
  | 18 => ("ChainFramesModel", "rulePlace", "[I", true)
  | 19 => ("ChainFramesModel", "gone", "[I", true)
  | 20 => ("ChainFramesModel", "highest", "[I", true)
  | 21 => ("ChainFramesModel", "has", "[Z", true)
  | 22 => ("ChainFramesModel", "isLooked", "[Z", true)
  | 23 => ("ChainFramesModel", "heights", "[I", true)
  | 24 => ("ChainFramesModel", "cells", "[I", true)
  | 25 => ("ChainFramesModel", "local", "[I", true)
  | 26 => ("ChainFramesModel", "pile", "[I", true)
  | 27 => ("ChainFramesModel", "height", "I", false)
  | 28 => ("ChainFramesModel", "broken", "I", false)
  | 29 => ("ChainFramesModel", "now", "I", false)
  | 30 => ("ChainFramesModel", "at", "I", false)
  | 31 => ("ChainFramesModel", "met", "[I", true)
  | 32 => ("ChainFramesModel", "older", "[I", true)
  | _ => ("ChainFramesModel", "newer", "[I", true)
def tyX9 : Nat → FieldType := fun k => match k with
  | 0 => .int
  | 1 => .array .int
  | 2 => .array .boolean
  | 3 => .int
  | 4 => .array .int
  | 5 => .array .int
  | 6 => .array .int
  | 7 => .array .int
  | 8 => .array .int
  | 9 => .array .int
  | 10 => .array .int
  | 11 => .array .int
  | 12 => .array .int
  | 13 => .array .int
  | 14 => .array .int
  | 15 => .array .int
  | 16 => .array .boolean
  | 17 => .array .int
  | 18 => .array .int
  | 19 => .array .int
  | 20 => .array .int
  | 21 => .array .boolean
  | 22 => .array .boolean
  | 23 => .array .int
  | 24 => .array .int
  | 25 => .array .int
  | 26 => .array .int
  | 27 => .int
  | 28 => .int
  | 29 => .int
  | 30 => .int
  | 31 => .array .int
  | 32 => .array .int
  | _ => .array .int
abbrev wsX90 : List Cond := u_ws RX9 TX9 34
theorem nmX9 : ∀ a, a < 34 → ∀ b, b < 34 → a ≠ b → (TX9 a).2.1 ≠ (TX9 b).2.1 := by decide +kernel
theorem tyX9_ok : ∀ k, k < 34 → parseFieldDescriptor (TX9 k).2.2.1 = some (tyX9 k) := by decide +kernel
abbrev cX9_init : ByteArray := prog_11_method_1_code
def yX9_init : MethodName := ⟨RX9, "<init>", "()V"⟩
abbrev cX9_in : ByteArray := prog_11_method_3_code
def yX9_in : MethodName := ⟨RX9, "in", "(III)Z"⟩
abbrev cX9_isClass : ByteArray := prog_11_method_4_code
def yX9_isClass : MethodName := ⟨RX9, "isClass", "(I)Z"⟩
abbrev cX9_cls : ByteArray := prog_11_method_5_code
def yX9_cls : MethodName := ⟨RX9, "cls", "(I)I"⟩
abbrev cX9_isBelow : ByteArray := prog_11_method_6_code
def yX9_isBelow : MethodName := ⟨RX9, "isBelow", "(II)Z"⟩
abbrev cX9_fitsClass : ByteArray := prog_11_method_7_code
def yX9_fitsClass : MethodName := ⟨RX9, "fitsClass", "(II)Z"⟩
abbrev cX9_joinClass : ByteArray := prog_11_method_8_code
def yX9_joinClass : MethodName := ⟨RX9, "joinClass", "(II)I"⟩
abbrev cX9_fits : ByteArray := prog_11_method_9_code
def yX9_fits : MethodName := ⟨RX9, "fits", "(II)I"⟩
abbrev cX9_isThing : ByteArray := prog_11_method_10_code
def yX9_isThing : MethodName := ⟨RX9, "isThing", "(I)Z"⟩
abbrev cX9_isThings : ByteArray := prog_11_method_11_code
def yX9_isThings : MethodName := ⟨RX9, "isThings", "(I)Z"⟩
abbrev cX9_isReference : ByteArray := prog_11_method_12_code
def yX9_isReference : MethodName := ⟨RX9, "isReference", "(I)Z"⟩
abbrev cX9_fitsKind : ByteArray := prog_11_method_13_code
def yX9_fitsKind : MethodName := ⟨RX9, "fitsKind", "(II)Z"⟩
abbrev cX9_joined : ByteArray := prog_11_method_14_code
def yX9_joined : MethodName := ⟨RX9, "joined", "(II)I"⟩
abbrev cX9_isKind : ByteArray := prog_11_method_15_code
def yX9_isKind : MethodName := ⟨RX9, "isKind", "(I)Z"⟩
abbrev cX9_join : ByteArray := prog_11_method_16_code
def yX9_join : MethodName := ⟨RX9, "join", "(II)I"⟩
abbrev cX9_isArgument : ByteArray := prog_11_method_17_code
def yX9_isArgument : MethodName := ⟨RX9, "isArgument", "(I)Z"⟩
abbrev cX9_isMethod : ByteArray := prog_11_method_18_code
def yX9_isMethod : MethodName := ⟨RX9, "isMethod", "(I)Z"⟩
abbrev cX9_method : ByteArray := prog_11_method_19_code
def yX9_method : MethodName := ⟨RX9, "method", "(I)I"⟩
abbrev cX9_argument : ByteArray := prog_11_method_20_code
def yX9_argument : MethodName := ⟨RX9, "argument", "(II)I"⟩
abbrev cX9_isOp : ByteArray := prog_11_method_21_code
def yX9_isOp : MethodName := ⟨RX9, "isOp", "(III)Z"⟩
abbrev cX9_op : ByteArray := prog_11_method_22_code
def yX9_op : MethodName := ⟨RX9, "op", "(IIII)I"⟩
abbrev cX9_guard : ByteArray := prog_11_method_23_code
def yX9_guard : MethodName := ⟨RX9, "guard", "(IIIII)I"⟩
abbrev cX9_breaks : ByteArray := prog_11_method_24_code
def yX9_breaks : MethodName := ⟨RX9, "breaks", "(I)Z"⟩
abbrev cX9_wants : ByteArray := prog_11_method_25_code
def yX9_wants : MethodName := ⟨RX9, "wants", "(I)Z"⟩
abbrev cX9_takes : ByteArray := prog_11_method_26_code
def yX9_takes : MethodName := ⟨RX9, "takes", "(I)Z"⟩
abbrev cX9_takesTop : ByteArray := prog_11_method_27_code
def yX9_takesTop : MethodName := ⟨RX9, "takesTop", "(Z)Z"⟩
abbrev cX9_top : ByteArray := prog_11_method_28_code
def yX9_top : MethodName := ⟨RX9, "top", "()I"⟩
abbrev cX9_lays : ByteArray := prog_11_method_29_code
def yX9_lays : MethodName := ⟨RX9, "lays", "(I)Z"⟩
abbrev cX9_puts : ByteArray := prog_11_method_30_code
def yX9_puts : MethodName := ⟨RX9, "puts", "(II)V"⟩
abbrev cX9_isHeld : ByteArray := prog_11_method_31_code
def yX9_isHeld : MethodName := ⟨RX9, "isHeld", "(I)Z"⟩
abbrev cX9_moves : ByteArray := prog_11_method_32_code
def yX9_moves : MethodName := ⟨RX9, "moves", "(II)Z"⟩
abbrev cX9_makes : ByteArray := prog_11_method_33_code
def yX9_makes : MethodName := ⟨RX9, "makes", "(I)Z"⟩
abbrev cX9_reads : ByteArray := prog_11_method_34_code
def yX9_reads : MethodName := ⟨RX9, "reads", "()Z"⟩
abbrev cX9_writes : ByteArray := prog_11_method_35_code
def yX9_writes : MethodName := ⟨RX9, "writes", "()Z"⟩
abbrev cX9_does : ByteArray := prog_11_method_36_code
def yX9_does : MethodName := ⟨RX9, "does", "(III)Z"⟩
abbrev cX9_keepMost : ByteArray := prog_11_method_37_code
def yX9_keepMost : MethodName := ⟨RX9, "keepMost", "(I)V"⟩
abbrev cX9_meetsFirst : ByteArray := prog_11_method_38_code
def yX9_meetsFirst : MethodName := ⟨RX9, "meetsFirst", "(I)Z"⟩
abbrev cX9_meets : ByteArray := prog_11_method_39_code
def yX9_meets : MethodName := ⟨RX9, "meets", "(I)Z"⟩
abbrev cX9_load : ByteArray := prog_11_method_40_code
def yX9_load : MethodName := ⟨RX9, "load", "(I)V"⟩
abbrev cX9_hands : ByteArray := prog_11_method_41_code
def yX9_hands : MethodName := ⟨RX9, "hands", "(I)Z"⟩
abbrev cX9_hasUnmade : ByteArray := prog_11_method_42_code
def yX9_hasUnmade : MethodName := ⟨RX9, "hasUnmade", "()Z"⟩
abbrev cX9_jumps : ByteArray := prog_11_method_43_code
def yX9_jumps : MethodName := ⟨RX9, "jumps", "(I)Z"⟩
abbrev cX9_goesOn : ByteArray := prog_11_method_44_code
def yX9_goesOn : MethodName := ⟨RX9, "goesOn", "()Z"⟩
abbrev cX9_goes : ByteArray := prog_11_method_45_code
def yX9_goes : MethodName := ⟨RX9, "goes", "()Z"⟩
abbrev cX9_leastLooked : ByteArray := prog_11_method_46_code
def yX9_leastLooked : MethodName := ⟨RX9, "leastLooked", "()I"⟩
abbrev cX9_compute : ByteArray := prog_11_method_47_code
def yX9_compute : MethodName := ⟨RX9, "compute", "(I)I"⟩
abbrev cX9_wanted : ByteArray := prog_11_method_48_code
def yX9_wanted : MethodName := ⟨RX9, "wanted", "(I)I"⟩
abbrev cX9_told : ByteArray := prog_11_method_49_code
def yX9_told : MethodName := ⟨RX9, "told", "(II)I"⟩
abbrev cX9_isPlace : ByteArray := prog_11_method_50_code
def yX9_isPlace : MethodName := ⟨RX9, "isPlace", "(II)Z"⟩
abbrev cX9_frame : ByteArray := prog_11_method_51_code
def yX9_frame : MethodName := ⟨RX9, "frame", "(III)I"⟩
abbrev cX9_height : ByteArray := prog_11_method_52_code
def yX9_height : MethodName := ⟨RX9, "height", "(II)I"⟩
abbrev cX9_isTold : ByteArray := prog_11_method_53_code
def yX9_isTold : MethodName := ⟨RX9, "isTold", "(II)Z"⟩
abbrev cX9_written : ByteArray := prog_11_method_54_code
def yX9_written : MethodName := ⟨RX9, "written", "([II[I)I"⟩
abbrev cX9_form : ByteArray := prog_11_method_55_code
def yX9_form : MethodName := ⟨RX9, "form", "(II)I"⟩
abbrev cX9_count : ByteArray := prog_11_method_56_code
def yX9_count : MethodName := ⟨RX9, "count", "(II)I"⟩
def RJ9 : String := "java/lang/Math"
def TJ9 : u_T := fun k => match k with
  | _ => ("", "", "", false)
def tyJ9 : Nat → FieldType := fun k => match k with
  | _ => .int
abbrev wsJ90 : List Cond := u_ws RJ9 TJ9 0
theorem nmJ9 : ∀ a, a < 0 → ∀ b, b < 0 → a ≠ b → (TJ9 a).2.1 ≠ (TJ9 b).2.1 := by decide +kernel
theorem tyJ9_ok : ∀ k, k < 0 → parseFieldDescriptor (TJ9 k).2.2.1 = some (tyJ9 k) := by decide +kernel
abbrev cJ9_max_7cf53 : ByteArray := prog_12_method_65_code
def yJ9_max_7cf53 : MethodName := ⟨RJ9, "max", "(II)I"⟩
abbrev cJ9_min_7cf53 : ByteArray := prog_12_method_69_code
def yJ9_min_7cf53 : MethodName := ⟨RJ9, "min", "(II)I"⟩
def RJ10 : String := "java/lang/System"
def TJ10 : u_T := fun k => match k with
  | _ => ("", "", "", false)
def tyJ10 : Nat → FieldType := fun k => match k with
  | _ => .int
abbrev wsJ100 : List Cond := u_ws RJ10 TJ10 0
theorem nmJ10 : ∀ a, a < 0 → ∀ b, b < 0 → a ≠ b → (TJ10 a).2.1 ≠ (TJ10 b).2.1 := by decide +kernel
theorem tyJ10_ok : ∀ k, k < 0 → parseFieldDescriptor (TJ10 k).2.2.1 = some (tyJ10 k) := by decide +kernel
def RL : String := "ChainFramesLaw"
abbrev cL_law : ByteArray := code
def yL_law : MethodName := ⟨RL, "law", "([I)Z"⟩
end
section
/-! ===== numbers ===== -/
def iv (z : Int) : Value := .int (Int32.ofInt z)
def inR (z : Int) : Prop := -2147483648 ≤ z ∧ z ≤ 2147483647
theorem inR_toInt {z : Int} (h : inR z) : (Int32.ofInt z).toInt = z := Int32.toInt_ofInt_of_le (by have := h.1; omega) (by have := h.2; omega)
theorem inR_of (x : Int32) : inR x.toInt := ⟨by have := Int32.le_toInt x; omega, by have := Int32.toInt_lt x; omega⟩
theorem iv_of (x : Int32) : Value.int x = iv x.toInt := by unfold iv; rw [Int32.ofInt_toInt]
theorem iv_lt {x y : Int} (hx : inR x) (hy : inR y) : Int32.ofInt x < Int32.ofInt y ↔ x < y := by
  rw [Int32.lt_iff_toInt_lt, inR_toInt hx, inR_toInt hy]
theorem iv_le {x y : Int} (hx : inR x) (hy : inR y) : Int32.ofInt x ≤ Int32.ofInt y ↔ x ≤ y := by
  rw [Int32.le_iff_toInt_le, inR_toInt hx, inR_toInt hy]
theorem iv_eq {x y : Int} (hx : inR x) (hy : inR y) : Int32.ofInt x = Int32.ofInt y ↔ x = y := by
  rw [← Int32.toInt_inj, inR_toInt hx, inR_toInt hy]
theorem iv_inj {x y : Int} (hx : inR x) (hy : inR y) : iv x = iv y ↔ x = y := by
  unfold iv
  rw [Value.int.injEq]
  exact iv_eq hx hy
theorem iv_cat (z : Int) : (iv z).category = 1 := rfl
theorem iv_0 : Int32.ofInt 0 = 0 := by first | rfl | decide
theorem iv_add (x y : Int) : Int32.ofInt x + Int32.ofInt y = Int32.ofInt (x + y) := by
  first | exact (Int32.ofInt_add x y).symm | exact (Int32.ofInt_add).symm | simp [Int32.ofInt_add]
theorem iv_sub (x y : Int) : Int32.ofInt x - Int32.ofInt y = Int32.ofInt (x - y) := by
  first | exact (Int32.ofInt_sub x y).symm | exact (Int32.ofInt_sub).symm | simp [Int32.ofInt_sub]
theorem iv_mul (x y : Int) : Int32.ofInt x * Int32.ofInt y = Int32.ofInt (x * y) := by
  first | exact (Int32.ofInt_mul x y).symm | exact (Int32.ofInt_mul).symm | simp [Int32.ofInt_mul]
theorem iv_clamp {i : Nat} (h : i < 2147483648) : (Int32.ofInt (i : Int)).toNatClampNeg = i := by
  rw [Int32.ofInt_eq_ofNat, Int32.toNatClampNeg_ofNat_of_lt (by omega)]
theorem iv_nneg {x : Int} (hx : inR x) (h : 0 ≤ x) : ¬ Int32.ofInt x < 0 := by
  rw [← iv_0, iv_lt hx ⟨by omega, by omega⟩]; omega
theorem inR_nat {i : Nat} (h : i < 2147483648) : inR (i : Int) := ⟨by omega, by omega⟩
/-! ===== flat memory: per address a tag and a length, references, ints ===== -/
abbrev w_Sh : Type := (Nat → Nat × Nat) × (Nat → Nat → Option Nat) × Nat
abbrev w_Mm : Type := Nat → Nat → Int
/-- the launch, the classes' numbers and slots, the arrays' classes, the heap at the law's start, the script: its cell, its length, its ints -/
abbrev w_E : Type := Launch × va_G × (Nat → ClassId) × Heap × Nat × Nat × (Nat → Int32)
abbrev w_M : Type := MethodName × ByteArray × Nat × Option FieldType
abbrev w_cl : List vw_C := [(RX0, TX0, 3), (RX1, TX1, 3), (RX2, TX2, 3), (RX3, TX3, 1), (RX4, TX4, 13), (RX5, TX5, 3), (RX6, TX6, 7), (RX7, TX7, 3), (RX8, TX8, 6), (RX9, TX9, 34)]
def w_isR (d : String) : Bool := !(d == "I") && !(d == "Z")
def w_ref (ci k : Nat) : Bool := match w_cl[ci]? with
  | some q => w_isR (q.2.1 k).2.2.1
  | none => false
def w_fv (ci : Nat) (r : Nat → Option Nat) (z : Nat → Int) (k : Nat) : Value := if w_ref ci k = true then va_rf (r k) else iv (z k)
def w_at (E : w_E) (a : Nat) (t : Nat × Nat) (r : Nat → Option Nat) (z : Nat → Int) (H : Heap) : Prop :=
  if t.1 < 10 then ∃ q : vw_C, w_cl[t.1]? = some q ∧ t_OB a (E.2.1.1 t.1) q.2.2 (E.2.1.2 t.1) H (w_fv t.1 r z)
  else if t.1 < 12 then H[a]? = some (arrV (E.2.2.1 (t.1 - 10)) t.2 (fun j => iv (z j)))
  else H[a]? = some (arrV (E.2.2.1 (t.1 - 10)) t.2 (fun j => va_rf (r j)))
/-- the heap H holds the memory: shape G, ints I; below the first heap nothing has changed -/
def w_Rel (E : w_E) (G : w_Sh) (I : w_Mm) (H : Heap) : Prop :=
  H.size = G.2.2 ∧ E.2.2.2.1.size ≤ H.size ∧ (∀ a, (G.1 a).1 < 14 → w_at E a (G.1 a) (G.2.1 a) (I a) H) ∧ (∀ a k, inR (I a k)) ∧ (∀ a, (G.1 a).1 < 14 → E.2.2.2.1.size ≤ a) ∧ ∀ q, q < E.2.2.2.1.size → H[q]? = E.2.2.2.1[q]?
theorem w_at.kept {E : w_E} {a : Nat} {t : Nat × Nat} {r : Nat → Option Nat} {z : Nat → Int} {H H1 : Heap} (h : w_at E a t r z H) (hq : H1[a]? = H[a]?) : w_at E a t r z H1 := by
  unfold w_at at h ⊢
  split
  · rename_i h1
    rw [if_pos h1] at h
    obtain ⟨q, h2, h3⟩ := h
    exact ⟨q, h2, h3.kept hq⟩
  · rename_i h1
    rw [if_neg h1] at h
    split
    · rename_i h2
      rw [if_pos h2] at h
      rw [hq]; exact h
    · rename_i h2
      rw [if_neg h2] at h
      rw [hq]; exact h
theorem w_at.lt {E : w_E} {a : Nat} {t : Nat × Nat} {r : Nat → Option Nat} {z : Nat → Int} {H : Heap} (h : w_at E a t r z H) : a < H.size := by
  unfold w_at at h
  split at h
  · obtain ⟨q, h2, cell, h3, -⟩ := h
    exact (Array.getElem?_eq_some_iff.mp h3).1
  · split at h
    · exact (Array.getElem?_eq_some_iff.mp h).1
    · exact (Array.getElem?_eq_some_iff.mp h).1
/-- one cell is another one now -/
theorem w_Rel.set {E : w_E} {G G' : w_Sh} {I I' : w_Mm} {H H1 : Heap} {a : Nat} (h : w_Rel E G I H) (ha : (G.1 a).1 < 14) (hT : G'.1 = G.1) (ht : G'.2.2 = G.2.2) (hR : ∀ b, b ≠ a → G'.2.1 b = G.2.1 b) (hI : ∀ b, b ≠ a → I' b = I b) (hr : ∀ k, inR (I' a k))
    (hs : H1.size = H.size) (ho : ∀ q, q ≠ a → H1[q]? = H[q]?) (hat : w_at E a (G.1 a) (G'.2.1 a) (I' a) H1) : w_Rel E G' I' H1 := by
  obtain ⟨h1, h2, h3, h4, h5, h6⟩ := h
  refine ⟨by rw [hs, ht]; exact h1, by rw [hs]; exact h2, fun b hb => ?_, fun b k => ?_, fun b hb => ?_, fun q hq => ?_⟩
  · rw [hT] at hb ⊢
    by_cases e : b = a
    · subst e
      exact hat
    · rw [hR b e, hI b e]
      exact (h3 b hb).kept (ho b e)
  · by_cases e : b = a
    · subst e
      exact hr k
    · rw [hI b e]; exact h4 b k
  · rw [hT] at hb; exact h5 b hb
  · have := h5 a ha
    rw [ho q (by omega)]; exact h6 q hq
/-- a cell more, at the end -/
theorem w_Rel.new {E : w_E} {G G' : w_Sh} {I I' : w_Mm} {H H1 : Heap} {t : Nat × Nat} (h : w_Rel E G I H) (hT : ∀ b, b ≠ G.2.2 → G'.1 b = G.1 b) (hTa : G'.1 G.2.2 = t) (ht : G'.2.2 = G.2.2 + 1) (hR : ∀ b, b ≠ G.2.2 → G'.2.1 b = G.2.1 b) (hI : ∀ b, b ≠ G.2.2 → I' b = I b) (hr : ∀ k, inR (I' G.2.2 k))
    (hs : H1.size = H.size + 1) (ho : ∀ q, q < H.size → H1[q]? = H[q]?) (hat : w_at E G.2.2 t (G'.2.1 G.2.2) (I' G.2.2) H1) : w_Rel E G' I' H1 := by
  obtain ⟨h1, h2, h3, h4, h5, h6⟩ := h
  refine ⟨by rw [hs, ht, h1], by rw [hs]; omega, fun b hb => ?_, fun b k => ?_, fun b hb => ?_, fun q hq => ?_⟩
  · by_cases e : b = G.2.2
    · subst e
      rw [hTa]; exact hat
    · rw [hT b e] at hb ⊢
      rw [hR b e, hI b e]
      exact (h3 b hb).kept (ho b (h3 b hb).lt)
  · by_cases e : b = G.2.2
    · subst e
      exact hr k
    · rw [hI b e]; exact h4 b k
  · by_cases e : b = G.2.2
    · omega
    · rw [hT b e] at hb; exact h5 b hb
  · rw [ho q (by omega)]; exact h6 q hq
def w_up (I : w_Mm) (a k : Nat) (z : Int) : w_Mm := fun b j => if b = a ∧ j = k then z else I b j
def w_upR (r : Nat → Nat → Option Nat) (a k : Nat) (z : Option Nat) : Nat → Nat → Option Nat := fun b j => if b = a ∧ j = k then z else r b j
def w_upT (t : Nat → Nat × Nat) (a : Nat) (z : Nat × Nat) : Nat → Nat × Nat := fun b => if b = a then z else t b
theorem w_up_s {I : w_Mm} {a k : Nat} {z : Int} : w_up I a k z a k = z := by simp [w_up]
theorem w_up_n {I : w_Mm} {a k b j : Nat} {z : Int} (h : ¬ (b = a ∧ j = k)) : w_up I a k z b j = I b j := by simp [w_up, h]
theorem w_up_o {I : w_Mm} {a k b : Nat} {z : Int} (h : b ≠ a) : w_up I a k z b = I b := by
  funext j
  simp [w_up, h]
theorem w_upR_o {r : Nat → Nat → Option Nat} {a k b : Nat} {z : Option Nat} (h : b ≠ a) : w_upR r a k z b = r b := by
  funext j
  simp [w_upR, h]
/-! ===== the words that hold, and what is known of the tables ===== -/
def w_nest : Jvm.Cond → Bool
  | .fieldLinkNest _ _ _ _ _ _ => true
  | .methodLinkNest _ _ _ _ => true
  | _ => false
def w_good : List Jvm.Cond := lw_tbl.filter goodWord
def w_nw : List Jvm.Cond := lw_tbl.filter w_nest
def w_tys (ca : Nat → ClassId) : List (ClassId × FieldType) := [(ca 0, .int), (ca 1, .boolean), (ca 2, .object RX2), (ca 3, .object RX4)]
def w_K (E : w_E) (U : State) : Prop := va_K E.2.1 w_cl (w_tys E.2.2.1) U ∧ (∀ w ∈ w_nw, va_Nw w U) ∧ va_AO RX2 U ∧ va_AO RX4 U ∧ va_X E.2.2.2.2.1 E.2.2.2.2.2.1 E.2.2.2.2.2.2 U E.2.2.2.1 ∧ E.2.2.2.2.1 < E.2.2.2.1.size
theorem w_nest_on {w : Jvm.Cond} (h : w_nest w = true) : w.onTables = true := by
  cases w <;> first | rfl | exact absurd h (by simp [w_nest])
theorem w_K.warm {E : w_E} {s U : State} (hW : s.WarmedH U.vm) (h : w_K E s) : w_K E U := by
  refine ⟨va_K.moved hW.alike h.1, fun w hw => ?_, va_AO.moved hW.alike h.2.2.1, va_AO.moved hW.alike h.2.2.2.1, h.2.2.2.2.1.moved hW.alike, h.2.2.2.2.2⟩
  have hn : w_nest w = true := (List.mem_filter.mp hw).2
  have h1 := h.2.1 w hw
  cases w <;> first | exact va_Nw.warmF hW h1 | exact va_Nw.warmM hW h1 | exact absurd hn (by simp [w_nest])
theorem w_K.same {E : w_E} {u U : State} (e : u.vm = U.vm) (h : w_K E u) : w_K E U := by
  have ha : u.vm.Alike U.vm := by rw [e]; exact Vm.Alike.refl _
  exact ⟨va_K.moved ha h.1, fun w hw => va_Nw.same (w_nest_on (List.mem_filter.mp hw).2) e (h.2.1 w hw), va_AO.moved ha h.2.2.1, va_AO.moved ha h.2.2.2.1, h.2.2.2.2.1.moved ha, h.2.2.2.2.2⟩
def w_ws (M : w_M) : List Jvm.Cond := Jvm.Cond.code M.1 M.2.1 M.2.2.1 M.2.2.2 :: w_good
def w_rm (d mc ms : Nat) : Room := { frames := d, cells := mc, slots := ms, locals := 40 * d }
def w_Fix (E : w_E) (M : w_M) (p : Program) (s : State) (m : MethodId) (meth : Method) (c : Code) (args : Array Value) : Prop :=
  CallFix p m c M.2.1 M.2.2.1 s args (w_ws M) M.1.cls ∧ meth.sig.returnType = M.2.2.2 ∧ meth.locks = false ∧ w_K E s ∧ meth.name = M.1.name
/-! ===== locals ===== -/
def w_has (lz : Array Slot) (nL : Nat) (ls : List (Option Value)) : Prop := lz.size = nL ∧ lv_wf lz ∧ ∀ (i : Nat) (v : Value), ls[i]? = some (some v) → lz[i]? = some (.val v) ∧ v.category = 1
def w_lst (ls : List (Option Value)) : List (Nat × Value) := (List.range ls.length).filterMap (fun i => ((ls[i]?).getD none).map (fun v => (i, v)))
theorem w_lst_mem {ls : List (Option Value)} {q : Nat × Value} : q ∈ w_lst ls ↔ ls[q.1]? = some (some q.2) := by
  unfold w_lst
  rw [List.mem_filterMap]
  constructor
  · rintro ⟨i, -, h⟩
    cases hi : ls[i]? with
    | none => rw [hi] at h; simp at h
    | some x =>
      cases x with
      | none => rw [hi] at h; simp at h
      | some v =>
        rw [hi] at h
        simp at h
        subst h
        exact hi
  · intro h
    have hl := (List.getElem?_eq_some_iff.mp h).1
    exact ⟨q.1, List.mem_range.mpr hl, by rw [h]; rfl⟩
theorem w_has.lv {lz : Array Slot} {nL : Nat} {ls : List (Option Value)} (h : w_has lz nL ls) : lv_has lz nL (w_lst ls) := ⟨h.1, h.2.1, fun q hq => (h.2.2 q.1 q.2 (w_lst_mem.mp hq)).1⟩
theorem w_has.st {lz lz' : Array Slot} {nL i : Nat} {ls : List (Option Value)} {v : Value} (h : w_has lz nL ls) (h' : lv_has lz' nL ((i, v) :: (w_lst ls).filter (fun q => !(q.1 == i) && !(q.1 + 1 == i && q.2.category == 2)))) (hc : v.category = 1) : w_has lz' nL (ls.set i (some v)) := by
  refine ⟨h'.1, h'.2.1, fun j w hj => ?_⟩
  by_cases e : j = i
  · subst e
    have hl : j < ls.length := by
      have := (List.getElem?_eq_some_iff.mp hj).1
      simpa using this
    rw [List.getElem?_set_self hl] at hj
    cases hj
    exact ⟨h'.2.2 (j, v) List.mem_cons_self, hc⟩
  · rw [List.getElem?_set_ne (Ne.symm e)] at hj
    obtain ⟨h1, h2⟩ := h.2.2 j w hj
    refine ⟨h'.2.2 (j, w) (List.mem_cons_of_mem _ (List.mem_filter.mpr ⟨w_lst_mem.mpr hj, ?_⟩)), h2⟩
    simp [e, h2]
theorem w_args : ∀ (as : List Value) (i : Nat), as.all (fun v => v.category == 1) = true → ∀ (j : Nat) (v : Value), as[j]? = some v → (i + j, v) ∈ lv_args i as
  | [], _, _, j, v, h => by simp at h
  | a :: as, i, hc, j, v, h => by
    simp only [List.all_cons, Bool.and_eq_true, beq_iff_eq] at hc
    have h2 : ¬ a.category = 2 := by omega
    simp only [lv_args, h2, if_false]
    cases j with
    | zero =>
      simp at h
      subst h
      exact List.mem_cons_self
    | succ j =>
      simp at h
      have := w_args as (i + 1) hc.2 j v h
      rw [show i + (j + 1) = i + 1 + j by omega]
      exact List.mem_cons_of_mem _ this
def w_ent (as : List Value) (nL : Nat) : List (Option Value) := as.map some ++ List.replicate (nL - as.length) none
theorem w_has_ent {lz : Array Slot} {nL : Nat} {as : List Value} (hc : as.all (fun v => v.category == 1) = true) (h : lv_has lz nL (lv_args 0 as)) : w_has lz nL (w_ent as nL) := by
  refine ⟨h.1, h.2.1, fun j v hj => ?_⟩
  have hj2 : as[j]? = some v := by
    unfold w_ent at hj
    by_cases hl : j < (as.map some).length
    · rw [List.getElem?_append_left hl, List.getElem?_map] at hj
      cases ha : as[j]? with
      | none => rw [ha] at hj; simp at hj
      | some x => rw [ha] at hj; simp at hj; rw [hj]
    · rw [List.getElem?_append_right (by omega), List.getElem?_replicate] at hj
      split at hj <;> simp at hj
  refine ⟨by simpa using h.2.2 (0 + j, v) (w_args as 0 hc j v hj2), ?_⟩
  have := List.all_eq_true.mp hc v (List.mem_of_getElem? hj2)
  simpa using this
/-! ===== the judgement: from this place of the method's code with this memory, locals and stack the method comes to its end Z ===== -/
def w_V (E : w_E) (M : w_M) (R : Room) (Z : List Frame → Array Value → State → State → Prop) (G : w_Sh) (I : w_Mm) (k n pc : Nat) (ls : List (Option Value)) (st : List Value) : Prop :=
  ∀ (p : Program) (e : Env) (s : State) (m : MethodId) (args : Array Value) (below : List Frame) (meth : Method) (c : Code) (H : Heap) (locs : List Loc) (lz : Array Slot),
    w_Fix E M p s m meth c args → w_Rel E G I H → (∀ q ∈ locs, E.2.2.2.1.size ≤ q.base) → w_has lz M.2.2.1 ls →
    W p E.1 e R s m args below meth c H locs k n (Z below args s) (F0 m pc lz st)
def w_Pc (E : w_E) (as : List Value) (G : w_Sh) (I : w_Mm) : Array Value → State → Prop := fun v U => v = as.toArray ∧ w_Rel E G I U.heap ∧ w_K E U
def w_Qc (E : w_E) (Post : Option Value → w_Sh → w_Mm → Prop) : Array Value → State → Outcome → State → Prop := fun _ _ o t => ∃ (v : Option Value) (G' : w_Sh) (I' : w_Mm), o = .returned v ∧ w_Rel E G' I' t.heap ∧ Post v G' I'
def w_Z (E : w_E) (mc ms : Nat) (Post : Option Value → w_Sh → w_Mm → Prop) : List Frame → Array Value → State → State → Prop := fun below args s => MQ below (w_Qc E Post) args s mc ms (fun q => E.2.2.2.1.size ≤ q)
/-- a method's contract: called with 'as' in the memory G, I it returns, and Post holds of its answer and the memory then; it makes at most mc cells of ms slots -/
def w_Ct (E : w_E) (M : w_M) (d : Nat) (as : List Value) (G : w_Sh) (I : w_Mm) (mc ms : Nat) (Post : Option Value → w_Sh → w_Mm → Prop) : Prop :=
  Met E.1 M.1 (w_ws M) (w_rm d mc ms) (w_Pc E as G I) (w_Qc E Post) mc ms (fun q => E.2.2.2.1.size ≤ q)
theorem w_Ct.of {E : w_E} {M : w_M} {d : Nat} {as : List Value} {G : w_Sh} {I : w_Mm} {mc ms : Nat} {Post : Option Value → w_Sh → w_Mm → Prop} {ls : List (Option Value)} (hy : plainName M.1.cls = true) (hlen : (lg_sl as).length ≤ M.2.2.1) (hc : as.all (fun v => v.category == 1) = true) (hls : w_ent as M.2.2.1 = ls)
    (hV : (∀ a k, inR (I a k)) → w_V E M (w_rm d mc ms) (w_Z E mc ms Post) G I 0 0 0 ls []) : w_Ct E M d as G I mc ms Post := by
  refine Met.ofW (cc := M.2.1) (maxL := M.2.2.1) (ret := M.2.2.2) hy rfl ?_
  intro p e s m args below meth c s₁ B hml hv
  obtain ⟨rfl, hR, hK⟩ := hv
  have hl := lv_entry as (n := M.2.2.1) hlen
  rw [lg_entry_eq]
  subst hls
  exact hV hR.2.2.2.1 p e s m as.toArray below meth c s.heap [] _ ⟨⟨B.exec, B.bytes, hml, findClass_of_methodNamed B.named, atoms_spec (ws := w_ws M) B.pre⟩, B.returns, B.notSynchronized, hK, (name_of_methodNamed B.named B.method).1⟩ hR (fun q h => absurd h List.not_mem_nil) (w_has_ent hc hl)
end
section
/-! ===== rules: one instruction each ===== -/
def Dc (M : w_M) (pc : Nat) (ins : Instr) (len pc' : Nat) : Prop := decode M.2.1 pc = .ok (ins, len) ∧ pc + len = pc'
def Dj (M : w_M) (pc : Nat) (ins : Instr) (len pc' : Nat) (off : Int) (tgt : Nat) : Prop := decode M.2.1 pc = .ok (ins, len) ∧ pc + len = pc' ∧ (pc : Int) + off = (tgt : Int)
section Rules
variable {E : w_E} {M : w_M} {R : Room} {Z : List Frame → Array Value → State → State → Prop} {G : w_Sh} {I : w_Mm} {k n pc pc' tgt : Nat} {off : Int} {ls ls' : List (Option Value)} {st : List Value}
theorem v_iconst {z : Int} (hd : Dc M pc (.iconst z) 1 pc') (kk : w_V E M R Z G I k n pc' ls (iv z :: st)) : w_V E M R Z G I k n pc ls st := by
  obtain ⟨hd, rfl⟩ := hd
  intro p e s m args below meth c H locs lz F hR hL hl
  exact lv_iconst F.1.1 F.1.2.1 hd rfl (kk p e s m args below meth c H locs lz F hR hL hl)
theorem v_bipush {z : Int} (hd : Dc M pc (.bipush z) 2 pc') (hv : (Int8.ofInt z).toInt32 = Int32.ofInt z) (kk : w_V E M R Z G I k n pc' ls (iv z :: st)) : w_V E M R Z G I k n pc ls st := by
  obtain ⟨hd, rfl⟩ := hd
  intro p e s m args below meth c H locs lz F hR hL hl
  exact lv_bipush F.1.1 F.1.2.1 hd hv (kk p e s m args below meth c H locs lz F hR hL hl)
theorem v_sipush {z : Int} (hd : Dc M pc (.sipush z) 3 pc') (hv : (Int16.ofInt z).toInt32 = Int32.ofInt z) (kk : w_V E M R Z G I k n pc' ls (iv z :: st)) : w_V E M R Z G I k n pc ls st := by
  obtain ⟨hd, rfl⟩ := hd
  intro p e s m args below meth c H locs lz F hR hL hl
  exact lv_sipush F.1.1 F.1.2.1 hd hv (kk p e s m args below meth c H locs lz F hR hL hl)
theorem v_ldc {z : Int} {idx : Nat} (hw : Jvm.Cond.constant M.1.cls idx (Int32.ofInt z) ∈ w_good) (hd : Dc M pc (.ldc idx) 2 pc') (kk : w_V E M R Z G I k n pc' ls (iv z :: st)) : w_V E M R Z G I k n pc ls st := by
  obtain ⟨hd, rfl⟩ := hd
  intro p e s m args below meth c H locs lz F hR hL hl
  exact lv_ldc F.1.1 F.1.2.1 F.1.2.2.2.1 (F.1.2.2.2.2 _ (List.mem_cons_of_mem _ hw)) hd (kk p e s m args below meth c H locs lz F hR hL hl)
theorem v_iload_n {q : Fin 4} {z : Int} (hd : Dc M pc (.iload_n q) 1 pc') (hv : ls[(q : Nat)]? = some (some (iv z))) (kk : w_V E M R Z G I k n pc' ls (iv z :: st)) : w_V E M R Z G I k n pc ls st := by
  obtain ⟨hd, rfl⟩ := hd
  intro p e s m args below meth c H locs lz F hR hL hl
  exact lv_iload_n F.1.1 F.1.2.1 hd rfl (hl.2.2 _ _ hv).1 (kk p e s m args below meth c H locs lz F hR hL hl)
theorem v_iload {q : Nat} {z : Int} (hd : Dc M pc (.iload q) 2 pc') (hv : ls[q]? = some (some (iv z))) (kk : w_V E M R Z G I k n pc' ls (iv z :: st)) : w_V E M R Z G I k n pc ls st := by
  obtain ⟨hd, rfl⟩ := hd
  intro p e s m args below meth c H locs lz F hR hL hl
  exact lv_iload F.1.1 F.1.2.1 hd (hl.2.2 _ _ hv).1 (kk p e s m args below meth c H locs lz F hR hL hl)
theorem v_aload_n {q : Fin 4} {a : Nat} (hd : Dc M pc (.aload_n q) 1 pc') (hv : ls[(q : Nat)]? = some (some (.ref a))) (kk : w_V E M R Z G I k n pc' ls (.ref a :: st)) : w_V E M R Z G I k n pc ls st := by
  obtain ⟨hd, rfl⟩ := hd
  intro p e s m args below meth c H locs lz F hR hL hl
  exact lv_aload_n F.1.1 F.1.2.1 hd rfl (hl.2.2 _ _ hv).1 (kk p e s m args below meth c H locs lz F hR hL hl)
theorem v_aload_nN {q : Fin 4} (hd : Dc M pc (.aload_n q) 1 pc') (hv : ls[(q : Nat)]? = some (some .null)) (kk : w_V E M R Z G I k n pc' ls (.null :: st)) : w_V E M R Z G I k n pc ls st := by
  obtain ⟨hd, rfl⟩ := hd
  intro p e s m args below meth c H locs lz F hR hL hl
  exact lv_aload_nN F.1.1 F.1.2.1 hd rfl (hl.2.2 _ _ hv).1 (kk p e s m args below meth c H locs lz F hR hL hl)
theorem v_aload {q : Nat} {a : Nat} (hd : Dc M pc (.aload q) 2 pc') (hv : ls[q]? = some (some (.ref a))) (kk : w_V E M R Z G I k n pc' ls (.ref a :: st)) : w_V E M R Z G I k n pc ls st := by
  obtain ⟨hd, rfl⟩ := hd
  intro p e s m args below meth c H locs lz F hR hL hl
  exact lv_aload F.1.1 F.1.2.1 hd (hl.2.2 _ _ hv).1 (kk p e s m args below meth c H locs lz F hR hL hl)
theorem v_aloadN {q : Nat} (hd : Dc M pc (.aload q) 2 pc') (hv : ls[q]? = some (some .null)) (kk : w_V E M R Z G I k n pc' ls (.null :: st)) : w_V E M R Z G I k n pc ls st := by
  obtain ⟨hd, rfl⟩ := hd
  intro p e s m args below meth c H locs lz F hR hL hl
  exact lv_aloadN F.1.1 F.1.2.1 hd (hl.2.2 _ _ hv).1 (kk p e s m args below meth c H locs lz F hR hL hl)
theorem v_istore_n {q : Fin 4} {z : Int} (hd : Dc M pc (.istore_n q) 1 pc') (hn : (q : Nat) < M.2.2.1) (hs : ls.set (q : Nat) (some (iv z)) = ls') (kk : w_V E M R Z G I k n pc' ls' st) : w_V E M R Z G I k n pc ls (iv z :: st) := by
  obtain ⟨hd, rfl⟩ := hd
  subst hs
  intro p e s m args below meth c H locs lz F hR hL hl
  exact lv_istore_n F.1.1 F.1.2.1 hd rfl hl.lv hn rfl (fun lz' h' => kk p e s m args below meth c H locs lz' F hR hL (hl.st h' rfl))
theorem v_istore {q : Nat} {z : Int} (hd : Dc M pc (.istore q) 2 pc') (hn : q < M.2.2.1) (hs : ls.set q (some (iv z)) = ls') (kk : w_V E M R Z G I k n pc' ls' st) : w_V E M R Z G I k n pc ls (iv z :: st) := by
  obtain ⟨hd, rfl⟩ := hd
  subst hs
  intro p e s m args below meth c H locs lz F hR hL hl
  exact lv_istore F.1.1 F.1.2.1 hd hl.lv hn rfl (fun lz' h' => kk p e s m args below meth c H locs lz' F hR hL (hl.st h' rfl))
theorem v_astore_n {q : Fin 4} {a : Nat} (hd : Dc M pc (.astore_n q) 1 pc') (hn : (q : Nat) < M.2.2.1) (hs : ls.set (q : Nat) (some (.ref a)) = ls') (kk : w_V E M R Z G I k n pc' ls' st) : w_V E M R Z G I k n pc ls (.ref a :: st) := by
  obtain ⟨hd, rfl⟩ := hd
  subst hs
  intro p e s m args below meth c H locs lz F hR hL hl
  exact lv_astore_n F.1.1 F.1.2.1 hd rfl hl.lv hn rfl (fun lz' h' => kk p e s m args below meth c H locs lz' F hR hL (hl.st h' rfl))
theorem v_astore_nN {q : Fin 4} (hd : Dc M pc (.astore_n q) 1 pc') (hn : (q : Nat) < M.2.2.1) (hs : ls.set (q : Nat) (some .null) = ls') (kk : w_V E M R Z G I k n pc' ls' st) : w_V E M R Z G I k n pc ls (.null :: st) := by
  obtain ⟨hd, rfl⟩ := hd
  subst hs
  intro p e s m args below meth c H locs lz F hR hL hl
  exact lv_astore_nN F.1.1 F.1.2.1 hd rfl hl.lv hn rfl (fun lz' h' => kk p e s m args below meth c H locs lz' F hR hL (hl.st h' rfl))
theorem v_astore {q : Nat} {a : Nat} (hd : Dc M pc (.astore q) 2 pc') (hn : q < M.2.2.1) (hs : ls.set q (some (.ref a)) = ls') (kk : w_V E M R Z G I k n pc' ls' st) : w_V E M R Z G I k n pc ls (.ref a :: st) := by
  obtain ⟨hd, rfl⟩ := hd
  subst hs
  intro p e s m args below meth c H locs lz F hR hL hl
  exact lv_astore F.1.1 F.1.2.1 hd hl.lv hn rfl (fun lz' h' => kk p e s m args below meth c H locs lz' F hR hL (hl.st h' rfl))
theorem v_astoreN {q : Nat} (hd : Dc M pc (.astore q) 2 pc') (hn : q < M.2.2.1) (hs : ls.set q (some .null) = ls') (kk : w_V E M R Z G I k n pc' ls' st) : w_V E M R Z G I k n pc ls (.null :: st) := by
  obtain ⟨hd, rfl⟩ := hd
  subst hs
  intro p e s m args below meth c H locs lz F hR hL hl
  exact lv_astoreN F.1.1 F.1.2.1 hd hl.lv hn rfl (fun lz' h' => kk p e s m args below meth c H locs lz' F hR hL (hl.st h' rfl))
theorem v_iinc {q : Nat} {x y z : Int} (hd : Dc M pc (.iinc q x) 3 pc') (hv : ls[q]? = some (some (iv y))) (hn : q < M.2.2.1) (hz : y + x = z) (hs : ls.set q (some (iv z)) = ls') (kk : w_V E M R Z G I k n pc' ls' st) : w_V E M R Z G I k n pc ls st := by
  obtain ⟨hd, rfl⟩ := hd
  subst hs
  subst hz
  intro p e s m args below meth c H locs lz F hR hL hl
  obtain ⟨j, hj⟩ := List.getElem?_of_mem (w_lst_mem (q := (q, iv y)).mpr hv)
  exact lv_iinc F.1.1 F.1.2.1 hd hl.lv hj (iv_add y x) hn rfl (fun lz' h' => kk p e s m args below meth c H locs lz' F hR hL (hl.st h' rfl))
theorem v_iadd {x y : Int} (hd : Dc M pc .iadd 1 pc') (kk : w_V E M R Z G I k n pc' ls (iv (x + y) :: st)) : w_V E M R Z G I k n pc ls (iv y :: iv x :: st) := by
  obtain ⟨hd, rfl⟩ := hd
  intro p e s m args below meth c H locs lz F hR hL hl
  refine lv_iadd F.1.1 F.1.2.1 hd ?_
  rw [iv_add]
  exact kk p e s m args below meth c H locs lz F hR hL hl
theorem v_isub {x y : Int} (hd : Dc M pc .isub 1 pc') (kk : w_V E M R Z G I k n pc' ls (iv (x - y) :: st)) : w_V E M R Z G I k n pc ls (iv y :: iv x :: st) := by
  obtain ⟨hd, rfl⟩ := hd
  intro p e s m args below meth c H locs lz F hR hL hl
  refine lv_isub F.1.1 F.1.2.1 hd ?_
  rw [iv_sub]
  exact kk p e s m args below meth c H locs lz F hR hL hl
theorem v_imul {x y : Int} (hd : Dc M pc .imul 1 pc') (kk : w_V E M R Z G I k n pc' ls (iv (x * y) :: st)) : w_V E M R Z G I k n pc ls (iv y :: iv x :: st) := by
  obtain ⟨hd, rfl⟩ := hd
  intro p e s m args below meth c H locs lz F hR hL hl
  refine lv_imul F.1.1 F.1.2.1 hd ?_
  rw [iv_mul]
  exact kk p e s m args below meth c H locs lz F hR hL hl
theorem v_iand {x y z : Int} (hz : Int32.ofInt x &&& Int32.ofInt y = Int32.ofInt z) (hd : Dc M pc .iand 1 pc') (kk : w_V E M R Z G I k n pc' ls (iv z :: st)) : w_V E M R Z G I k n pc ls (iv y :: iv x :: st) := by
  obtain ⟨hd, rfl⟩ := hd
  intro p e s m args below meth c H locs lz F hR hL hl
  refine lv_iand F.1.1 F.1.2.1 hd ?_
  rw [hz]
  exact kk p e s m args below meth c H locs lz F hR hL hl
theorem v_ior {x y z : Int} (hz : Int32.ofInt x ||| Int32.ofInt y = Int32.ofInt z) (hd : Dc M pc .ior 1 pc') (kk : w_V E M R Z G I k n pc' ls (iv z :: st)) : w_V E M R Z G I k n pc ls (iv y :: iv x :: st) := by
  obtain ⟨hd, rfl⟩ := hd
  intro p e s m args below meth c H locs lz F hR hL hl
  refine lv_ior F.1.1 F.1.2.1 hd ?_
  rw [hz]
  exact kk p e s m args below meth c H locs lz F hR hL hl
theorem v_ishl {x y z : Int} (hz : Int32.ofInt x <<< (Int32.ofInt y &&& 31) = Int32.ofInt z) (hd : Dc M pc .ishl 1 pc') (kk : w_V E M R Z G I k n pc' ls (iv z :: st)) : w_V E M R Z G I k n pc ls (iv y :: iv x :: st) := by
  obtain ⟨hd, rfl⟩ := hd
  intro p e s m args below meth c H locs lz F hR hL hl
  refine lv_ishl F.1.1 F.1.2.1 hd ?_
  rw [hz]
  exact kk p e s m args below meth c H locs lz F hR hL hl
theorem v_ishr {x y z : Int} (hz : Int32.ofInt x >>> (Int32.ofInt y &&& 31) = Int32.ofInt z) (hd : Dc M pc .ishr 1 pc') (kk : w_V E M R Z G I k n pc' ls (iv z :: st)) : w_V E M R Z G I k n pc ls (iv y :: iv x :: st) := by
  obtain ⟨hd, rfl⟩ := hd
  intro p e s m args below meth c H locs lz F hR hL hl
  refine lv_ishr F.1.1 F.1.2.1 hd ?_
  rw [hz]
  exact kk p e s m args below meth c H locs lz F hR hL hl
theorem v_dup {v : Value} (hd : Dc M pc .dup 1 pc') (hc : v.category = 1) (kk : w_V E M R Z G I k n pc' ls (v :: v :: st)) : w_V E M R Z G I k n pc ls (v :: st) := by
  obtain ⟨hd, rfl⟩ := hd
  intro p e s m args below meth c H locs lz F hR hL hl
  exact lv_dup F.1.1 F.1.2.1 hd hc (kk p e s m args below meth c H locs lz F hR hL hl)
theorem v_dup2 {v w : Value} (hd : Dc M pc .dup2 1 pc') (hv : v.category = 1) (hw : w.category = 1) (kk : w_V E M R Z G I k n pc' ls (v :: w :: v :: w :: st)) : w_V E M R Z G I k n pc ls (v :: w :: st) := by
  obtain ⟨hd, rfl⟩ := hd
  intro p e s m args below meth c H locs lz F hR hL hl
  exact lv_dup2_11 F.1.1 F.1.2.1 hd hv hw (kk p e s m args below meth c H locs lz F hR hL hl)
theorem v_null (hd : Dc M pc .aconst_null 1 pc') (kk : w_V E M R Z G I k n pc' ls (.null :: st)) : w_V E M R Z G I k n pc ls st := by
  obtain ⟨hd, rfl⟩ := hd
  intro p e s m args below meth c H locs lz F hR hL hl
  exact lv_null F.1.1 F.1.2.1 hd (kk p e s m args below meth c H locs lz F hR hL hl)
theorem v_goto (hd : Dj M pc (.goto off) 3 pc' off tgt) (kk : w_V E M R Z G I k n tgt ls st) : w_V E M R Z G I k n pc ls st := by
  obtain ⟨hd, rfl, ht⟩ := hd
  intro p e s m args below meth c H locs lz F hR hL hl
  exact lv_goto F.1.1 F.1.2.1 hd ht (kk p e s m args below meth c H locs lz F hR hL hl)
theorem v_ifnull {a : Nat} (hd : Dj M pc (.ifnull off) 3 pc' off tgt) (kk : w_V E M R Z G I k n pc' ls st) : w_V E M R Z G I k n pc ls (.ref a :: st) := by
  obtain ⟨hd, rfl, ht⟩ := hd
  intro p e s m args below meth c H locs lz F hR hL hl
  exact lv_ifnull F.1.1 F.1.2.1 hd (kk p e s m args below meth c H locs lz F hR hL hl)
theorem v_ifnullN (hd : Dj M pc (.ifnull off) 3 pc' off tgt) (kk : w_V E M R Z G I k n tgt ls st) : w_V E M R Z G I k n pc ls (.null :: st) := by
  obtain ⟨hd, rfl, ht⟩ := hd
  intro p e s m args below meth c H locs lz F hR hL hl
  exact lv_ifnullN F.1.1 F.1.2.1 hd ht (kk p e s m args below meth c H locs lz F hR hL hl)
theorem v_ifnonnull {a : Nat} (hd : Dj M pc (.ifnonnull off) 3 pc' off tgt) (kk : w_V E M R Z G I k n tgt ls st) : w_V E M R Z G I k n pc ls (.ref a :: st) := by
  obtain ⟨hd, rfl, ht⟩ := hd
  intro p e s m args below meth c H locs lz F hR hL hl
  exact lv_ifnonnull F.1.1 F.1.2.1 hd ht (kk p e s m args below meth c H locs lz F hR hL hl)
theorem v_ifnonnullN (hd : Dj M pc (.ifnonnull off) 3 pc' off tgt) (kk : w_V E M R Z G I k n pc' ls st) : w_V E M R Z G I k n pc ls (.null :: st) := by
  obtain ⟨hd, rfl, ht⟩ := hd
  intro p e s m args below meth c H locs lz F hR hL hl
  exact lv_ifnonnullN F.1.1 F.1.2.1 hd (kk p e s m args below meth c H locs lz F hR hL hl)
theorem v_if_eq {x : Int} (hx : inR x) (hd : Dj M pc (.ifCond .eq off) 3 pc' off tgt) (kt : x = 0 → w_V E M R Z G I k n tgt ls st) (kf : ¬ x = 0 → w_V E M R Z G I k n pc' ls st) : w_V E M R Z G I k n pc ls (iv x :: st) := by
  obtain ⟨hd, rfl, ht⟩ := hd
  intro p e s m args below meth c H locs lz F hR hL hl
  have h0 : inR 0 := ⟨by omega, by omega⟩
  refine lv_if_eq F.1.1 F.1.2.1 hd ht (fun hc => kt ?_ p e s m args below meth c H locs lz F hR hL hl) (fun hc => kf ?_ p e s m args below meth c H locs lz F hR hL hl)
  · simp only [← iv_0, iv_eq hx h0, iv_lt hx h0, iv_le hx h0, iv_lt h0 hx, iv_le h0 hx, ne_eq, gt_iff_lt, ge_iff_le] at hc
    omega
  · simp only [← iv_0, iv_eq hx h0, iv_lt hx h0, iv_le hx h0, iv_lt h0 hx, iv_le h0 hx, ne_eq, gt_iff_lt, ge_iff_le] at hc
    omega
theorem v_icmp_eq {x y : Int} (hx : inR x) (hy : inR y) (hd : Dj M pc (.if_icmp .eq off) 3 pc' off tgt) (kt : x = y → w_V E M R Z G I k n tgt ls st) (kf : ¬ x = y → w_V E M R Z G I k n pc' ls st) : w_V E M R Z G I k n pc ls (iv y :: iv x :: st) := by
  obtain ⟨hd, rfl, ht⟩ := hd
  intro p e s m args below meth c H locs lz F hR hL hl
  refine lv_icmp_eq F.1.1 F.1.2.1 hd ht (fun hc => kt ?_ p e s m args below meth c H locs lz F hR hL hl) (fun hc => kf ?_ p e s m args below meth c H locs lz F hR hL hl)
  · simp only [iv_eq hx hy, iv_lt hx hy, iv_le hx hy, iv_lt hy hx, iv_le hy hx, ne_eq, gt_iff_lt, ge_iff_le] at hc
    omega
  · simp only [iv_eq hx hy, iv_lt hx hy, iv_le hx hy, iv_lt hy hx, iv_le hy hx, ne_eq, gt_iff_lt, ge_iff_le] at hc
    omega
theorem v_if_ne {x : Int} (hx : inR x) (hd : Dj M pc (.ifCond .ne off) 3 pc' off tgt) (kt : ¬ x = 0 → w_V E M R Z G I k n tgt ls st) (kf : x = 0 → w_V E M R Z G I k n pc' ls st) : w_V E M R Z G I k n pc ls (iv x :: st) := by
  obtain ⟨hd, rfl, ht⟩ := hd
  intro p e s m args below meth c H locs lz F hR hL hl
  have h0 : inR 0 := ⟨by omega, by omega⟩
  refine lv_if_ne F.1.1 F.1.2.1 hd ht (fun hc => kt ?_ p e s m args below meth c H locs lz F hR hL hl) (fun hc => kf ?_ p e s m args below meth c H locs lz F hR hL hl)
  · simp only [← iv_0, iv_eq hx h0, iv_lt hx h0, iv_le hx h0, iv_lt h0 hx, iv_le h0 hx, ne_eq, gt_iff_lt, ge_iff_le] at hc
    omega
  · simp only [← iv_0, iv_eq hx h0, iv_lt hx h0, iv_le hx h0, iv_lt h0 hx, iv_le h0 hx, ne_eq, gt_iff_lt, ge_iff_le] at hc
    omega
theorem v_icmp_ne {x y : Int} (hx : inR x) (hy : inR y) (hd : Dj M pc (.if_icmp .ne off) 3 pc' off tgt) (kt : ¬ x = y → w_V E M R Z G I k n tgt ls st) (kf : x = y → w_V E M R Z G I k n pc' ls st) : w_V E M R Z G I k n pc ls (iv y :: iv x :: st) := by
  obtain ⟨hd, rfl, ht⟩ := hd
  intro p e s m args below meth c H locs lz F hR hL hl
  refine lv_icmp_ne F.1.1 F.1.2.1 hd ht (fun hc => kt ?_ p e s m args below meth c H locs lz F hR hL hl) (fun hc => kf ?_ p e s m args below meth c H locs lz F hR hL hl)
  · simp only [iv_eq hx hy, iv_lt hx hy, iv_le hx hy, iv_lt hy hx, iv_le hy hx, ne_eq, gt_iff_lt, ge_iff_le] at hc
    omega
  · simp only [iv_eq hx hy, iv_lt hx hy, iv_le hx hy, iv_lt hy hx, iv_le hy hx, ne_eq, gt_iff_lt, ge_iff_le] at hc
    omega
theorem v_if_lt {x : Int} (hx : inR x) (hd : Dj M pc (.ifCond .lt off) 3 pc' off tgt) (kt : x < 0 → w_V E M R Z G I k n tgt ls st) (kf : 0 ≤ x → w_V E M R Z G I k n pc' ls st) : w_V E M R Z G I k n pc ls (iv x :: st) := by
  obtain ⟨hd, rfl, ht⟩ := hd
  intro p e s m args below meth c H locs lz F hR hL hl
  have h0 : inR 0 := ⟨by omega, by omega⟩
  refine lv_if_lt F.1.1 F.1.2.1 hd ht (fun hc => kt ?_ p e s m args below meth c H locs lz F hR hL hl) (fun hc => kf ?_ p e s m args below meth c H locs lz F hR hL hl)
  · simp only [← iv_0, iv_eq hx h0, iv_lt hx h0, iv_le hx h0, iv_lt h0 hx, iv_le h0 hx, ne_eq, gt_iff_lt, ge_iff_le] at hc
    omega
  · simp only [← iv_0, iv_eq hx h0, iv_lt hx h0, iv_le hx h0, iv_lt h0 hx, iv_le h0 hx, ne_eq, gt_iff_lt, ge_iff_le] at hc
    omega
theorem v_icmp_lt {x y : Int} (hx : inR x) (hy : inR y) (hd : Dj M pc (.if_icmp .lt off) 3 pc' off tgt) (kt : x < y → w_V E M R Z G I k n tgt ls st) (kf : y ≤ x → w_V E M R Z G I k n pc' ls st) : w_V E M R Z G I k n pc ls (iv y :: iv x :: st) := by
  obtain ⟨hd, rfl, ht⟩ := hd
  intro p e s m args below meth c H locs lz F hR hL hl
  refine lv_icmp_lt F.1.1 F.1.2.1 hd ht (fun hc => kt ?_ p e s m args below meth c H locs lz F hR hL hl) (fun hc => kf ?_ p e s m args below meth c H locs lz F hR hL hl)
  · simp only [iv_eq hx hy, iv_lt hx hy, iv_le hx hy, iv_lt hy hx, iv_le hy hx, ne_eq, gt_iff_lt, ge_iff_le] at hc
    omega
  · simp only [iv_eq hx hy, iv_lt hx hy, iv_le hx hy, iv_lt hy hx, iv_le hy hx, ne_eq, gt_iff_lt, ge_iff_le] at hc
    omega
theorem v_if_ge {x : Int} (hx : inR x) (hd : Dj M pc (.ifCond .ge off) 3 pc' off tgt) (kt : 0 ≤ x → w_V E M R Z G I k n tgt ls st) (kf : x < 0 → w_V E M R Z G I k n pc' ls st) : w_V E M R Z G I k n pc ls (iv x :: st) := by
  obtain ⟨hd, rfl, ht⟩ := hd
  intro p e s m args below meth c H locs lz F hR hL hl
  have h0 : inR 0 := ⟨by omega, by omega⟩
  refine lv_if_ge F.1.1 F.1.2.1 hd ht (fun hc => kt ?_ p e s m args below meth c H locs lz F hR hL hl) (fun hc => kf ?_ p e s m args below meth c H locs lz F hR hL hl)
  · simp only [← iv_0, iv_eq hx h0, iv_lt hx h0, iv_le hx h0, iv_lt h0 hx, iv_le h0 hx, ne_eq, gt_iff_lt, ge_iff_le] at hc
    omega
  · simp only [← iv_0, iv_eq hx h0, iv_lt hx h0, iv_le hx h0, iv_lt h0 hx, iv_le h0 hx, ne_eq, gt_iff_lt, ge_iff_le] at hc
    omega
theorem v_icmp_ge {x y : Int} (hx : inR x) (hy : inR y) (hd : Dj M pc (.if_icmp .ge off) 3 pc' off tgt) (kt : y ≤ x → w_V E M R Z G I k n tgt ls st) (kf : x < y → w_V E M R Z G I k n pc' ls st) : w_V E M R Z G I k n pc ls (iv y :: iv x :: st) := by
  obtain ⟨hd, rfl, ht⟩ := hd
  intro p e s m args below meth c H locs lz F hR hL hl
  refine lv_icmp_ge F.1.1 F.1.2.1 hd ht (fun hc => kt ?_ p e s m args below meth c H locs lz F hR hL hl) (fun hc => kf ?_ p e s m args below meth c H locs lz F hR hL hl)
  · simp only [iv_eq hx hy, iv_lt hx hy, iv_le hx hy, iv_lt hy hx, iv_le hy hx, ne_eq, gt_iff_lt, ge_iff_le] at hc
    omega
  · simp only [iv_eq hx hy, iv_lt hx hy, iv_le hx hy, iv_lt hy hx, iv_le hy hx, ne_eq, gt_iff_lt, ge_iff_le] at hc
    omega
theorem v_if_gt {x : Int} (hx : inR x) (hd : Dj M pc (.ifCond .gt off) 3 pc' off tgt) (kt : 0 < x → w_V E M R Z G I k n tgt ls st) (kf : x ≤ 0 → w_V E M R Z G I k n pc' ls st) : w_V E M R Z G I k n pc ls (iv x :: st) := by
  obtain ⟨hd, rfl, ht⟩ := hd
  intro p e s m args below meth c H locs lz F hR hL hl
  have h0 : inR 0 := ⟨by omega, by omega⟩
  refine lv_if_gt F.1.1 F.1.2.1 hd ht (fun hc => kt ?_ p e s m args below meth c H locs lz F hR hL hl) (fun hc => kf ?_ p e s m args below meth c H locs lz F hR hL hl)
  · simp only [← iv_0, iv_eq hx h0, iv_lt hx h0, iv_le hx h0, iv_lt h0 hx, iv_le h0 hx, ne_eq, gt_iff_lt, ge_iff_le] at hc
    omega
  · simp only [← iv_0, iv_eq hx h0, iv_lt hx h0, iv_le hx h0, iv_lt h0 hx, iv_le h0 hx, ne_eq, gt_iff_lt, ge_iff_le] at hc
    omega
theorem v_icmp_gt {x y : Int} (hx : inR x) (hy : inR y) (hd : Dj M pc (.if_icmp .gt off) 3 pc' off tgt) (kt : y < x → w_V E M R Z G I k n tgt ls st) (kf : x ≤ y → w_V E M R Z G I k n pc' ls st) : w_V E M R Z G I k n pc ls (iv y :: iv x :: st) := by
  obtain ⟨hd, rfl, ht⟩ := hd
  intro p e s m args below meth c H locs lz F hR hL hl
  refine lv_icmp_gt F.1.1 F.1.2.1 hd ht (fun hc => kt ?_ p e s m args below meth c H locs lz F hR hL hl) (fun hc => kf ?_ p e s m args below meth c H locs lz F hR hL hl)
  · simp only [iv_eq hx hy, iv_lt hx hy, iv_le hx hy, iv_lt hy hx, iv_le hy hx, ne_eq, gt_iff_lt, ge_iff_le] at hc
    omega
  · simp only [iv_eq hx hy, iv_lt hx hy, iv_le hx hy, iv_lt hy hx, iv_le hy hx, ne_eq, gt_iff_lt, ge_iff_le] at hc
    omega
theorem v_if_le {x : Int} (hx : inR x) (hd : Dj M pc (.ifCond .le off) 3 pc' off tgt) (kt : x ≤ 0 → w_V E M R Z G I k n tgt ls st) (kf : 0 < x → w_V E M R Z G I k n pc' ls st) : w_V E M R Z G I k n pc ls (iv x :: st) := by
  obtain ⟨hd, rfl, ht⟩ := hd
  intro p e s m args below meth c H locs lz F hR hL hl
  have h0 : inR 0 := ⟨by omega, by omega⟩
  refine lv_if_le F.1.1 F.1.2.1 hd ht (fun hc => kt ?_ p e s m args below meth c H locs lz F hR hL hl) (fun hc => kf ?_ p e s m args below meth c H locs lz F hR hL hl)
  · simp only [← iv_0, iv_eq hx h0, iv_lt hx h0, iv_le hx h0, iv_lt h0 hx, iv_le h0 hx, ne_eq, gt_iff_lt, ge_iff_le] at hc
    omega
  · simp only [← iv_0, iv_eq hx h0, iv_lt hx h0, iv_le hx h0, iv_lt h0 hx, iv_le h0 hx, ne_eq, gt_iff_lt, ge_iff_le] at hc
    omega
theorem v_icmp_le {x y : Int} (hx : inR x) (hy : inR y) (hd : Dj M pc (.if_icmp .le off) 3 pc' off tgt) (kt : x ≤ y → w_V E M R Z G I k n tgt ls st) (kf : y < x → w_V E M R Z G I k n pc' ls st) : w_V E M R Z G I k n pc ls (iv y :: iv x :: st) := by
  obtain ⟨hd, rfl, ht⟩ := hd
  intro p e s m args below meth c H locs lz F hR hL hl
  refine lv_icmp_le F.1.1 F.1.2.1 hd ht (fun hc => kt ?_ p e s m args below meth c H locs lz F hR hL hl) (fun hc => kf ?_ p e s m args below meth c H locs lz F hR hL hl)
  · simp only [iv_eq hx hy, iv_lt hx hy, iv_le hx hy, iv_lt hy hx, iv_le hy hx, ne_eq, gt_iff_lt, ge_iff_le] at hc
    omega
  · simp only [iv_eq hx hy, iv_lt hx hy, iv_le hx hy, iv_lt hy hx, iv_le hy hx, ne_eq, gt_iff_lt, ge_iff_le] at hc
    omega
end Rules
end
section
/-! ===== what the tables say of each kind of object ===== -/
theorem lay_0 : ∀ w ∈ wsX00, w ∈ w_good := by decide +kernel
theorem lay_1 : ∀ w ∈ wsX10, w ∈ w_good := by decide +kernel
theorem lay_2 : ∀ w ∈ wsX20, w ∈ w_good := by decide +kernel
theorem lay_3 : ∀ w ∈ wsX30, w ∈ w_good := by decide +kernel
theorem lay_4 : ∀ w ∈ wsX40, w ∈ w_good := by decide +kernel
theorem lay_5 : ∀ w ∈ wsX50, w ∈ w_good := by decide +kernel
theorem lay_6 : ∀ w ∈ wsX60, w ∈ w_good := by decide +kernel
theorem lay_7 : ∀ w ∈ wsX70, w ∈ w_good := by decide +kernel
theorem lay_8 : ∀ w ∈ wsX80, w ∈ w_good := by decide +kernel
theorem lay_9 : ∀ w ∈ wsX90, w ∈ w_good := by decide +kernel
def w_bornOK (ci N : Nat) (ty : Nat → FieldType) : Bool := (List.range N).all fun j => decide (defaultValue (ty j) = w_fv ci (fun _ => none) (fun _ => 0) j)
theorem w_born_of {ci N : Nat} {ty : Nat → FieldType} (h : w_bornOK ci N ty = true) : ∀ j, j < N → defaultValue (ty j) = w_fv ci (fun _ => none) (fun _ => 0) j := fun j hj => by
  have := List.all_eq_true.mp h j (List.mem_range.mpr hj)
  simpa using this
def w_layP (ci : Nat) (q : vw_C) : Prop := (∀ w ∈ u_ws q.1 q.2.1 q.2.2, w ∈ w_good) ∧ ∃ ty : Nat → FieldType, (∀ k, k < q.2.2 → parseFieldDescriptor (q.2.1 k).2.2.1 = some (ty k)) ∧ (∀ a, a < q.2.2 → ∀ b, b < q.2.2 → a ≠ b → (q.2.1 a).2.1 ≠ (q.2.1 b).2.1) ∧ ∀ j, j < q.2.2 → defaultValue (ty j) = w_fv ci (fun _ => none) (fun _ => 0) j
theorem w_lay {ci : Nat} {q : vw_C} (h : w_cl[ci]? = some q) : w_layP ci q := by
  match ci, h with
  | 0, h => cases h; exact ⟨lay_0, tyX0, tyX0_ok, nmX0, w_born_of (by decide +kernel)⟩
  | 1, h => cases h; exact ⟨lay_1, tyX1, tyX1_ok, nmX1, w_born_of (by decide +kernel)⟩
  | 2, h => cases h; exact ⟨lay_2, tyX2, tyX2_ok, nmX2, w_born_of (by decide +kernel)⟩
  | 3, h => cases h; exact ⟨lay_3, tyX3, tyX3_ok, nmX3, w_born_of (by decide +kernel)⟩
  | 4, h => cases h; exact ⟨lay_4, tyX4, tyX4_ok, nmX4, w_born_of (by decide +kernel)⟩
  | 5, h => cases h; exact ⟨lay_5, tyX5, tyX5_ok, nmX5, w_born_of (by decide +kernel)⟩
  | 6, h => cases h; exact ⟨lay_6, tyX6, tyX6_ok, nmX6, w_born_of (by decide +kernel)⟩
  | 7, h => cases h; exact ⟨lay_7, tyX7, tyX7_ok, nmX7, w_born_of (by decide +kernel)⟩
  | 8, h => cases h; exact ⟨lay_8, tyX8, tyX8_ok, nmX8, w_born_of (by decide +kernel)⟩
  | 9, h => cases h; exact ⟨lay_9, tyX9, tyX9_ok, nmX9, w_born_of (by decide +kernel)⟩
  | n + 10, h => simp [w_cl] at h
theorem w_ci {ci : Nat} {q : vw_C} (h : w_cl[ci]? = some q) : ci < 10 := (List.getElem?_eq_some_iff.mp h).1
theorem w_gd {w : Jvm.Cond} (i : Nat) (h : tables_1[i]? = some w) (g : goodWord w = true) : w ∈ w_good :=
  List.mem_filter.mpr ⟨List.mem_append_right _ (List.mem_of_getElem? h), g⟩
theorem w_gs {w : Jvm.Cond} (i : Nat) (h : (k2_sels lw_privs)[i]? = some w) (g : goodWord w = true) : w ∈ w_good :=
  List.mem_filter.mpr ⟨List.mem_append_left _ (List.mem_of_getElem? h), g⟩
theorem w_gn {w : Jvm.Cond} (i : Nat) (h : tables_1[i]? = some w) (g : w_nest w = true) : w ∈ w_nw :=
  List.mem_filter.mpr ⟨List.mem_append_right _ (List.mem_of_getElem? h), g⟩
/-! ===== fields ===== -/
/-- entry idx of the pool of C is field k of the objects of number ci -/
def w_fl (C : String) (idx ci k : Nat) : Prop := ∃ q, w_cl[ci]? = some q ∧ k < q.2.2 ∧ (Jvm.Cond.fieldLink C idx (q.2.1 k).1 (q.2.1 k).2.1 (q.2.1 k).2.2.1 ∈ w_good ∨ ∃ host, Jvm.Cond.fieldLinkNest C idx (q.2.1 k).1 (q.2.1 k).2.1 (q.2.1 k).2.2.1 host ∈ w_nw)
/-- .. and may be written there: its type; final: in the constructor of its own class alone -/
def w_fw (ci k : Nat) (fin : Bool) (ty : FieldType) : Prop := ∃ q, w_cl[ci]? = some q ∧ k < q.2.2 ∧ (q.2.1 k).2.2.2 = fin ∧ parseFieldDescriptor (q.2.1 k).2.2.1 = some ty ∧ (q.2.1 k).1 = q.1
section Heap
variable {E : w_E} {M : w_M} {R : Room} {Z : List Frame → Array Value → State → State → Prop} {G G' : w_Sh} {I I' : w_Mm} {k n pc pc' tgt : Nat} {off : Int} {ls ls' : List (Option Value)} {st : List Value}
theorem w_obj {ci a : Nat} {q : vw_C} {H : Heap} (hR : w_Rel E G I H) (hc : w_cl[ci]? = some q) (hT : G.1 a = (ci, 0)) : t_OB a (E.2.1.1 ci) q.2.2 (E.2.1.2 ci) H (w_fv ci (G.2.1 a) (I a)) := by
  have hci := w_ci hc
  have hat := hR.2.2.1 a (by rw [hT]; show ci < 14; omega)
  rw [hT] at hat
  unfold w_at at hat
  rw [if_pos (show ((ci, 0) : Nat × Nat).1 < 10 from hci)] at hat
  obtain ⟨q', hc', hob⟩ := hat
  cases hc.symm.trans hc'
  exact hob
theorem v_getV {idx ci f a : Nat} (hf : w_fl M.1.cls idx ci f) (hT : G.1 a = (ci, 0)) (hd : Dc M pc (.getfield idx) 3 pc') (kk : w_V E M R Z G I k n pc' ls (w_fv ci (G.2.1 a) (I a) f :: st)) : w_V E M R Z G I k n pc ls (.ref a :: st) := by
  obtain ⟨hd, rfl⟩ := hd
  intro p e s m args below meth c H locs lz F hR hL hl
  obtain ⟨⟨C, T, N⟩, hc, hk, hlink⟩ := hf
  have hob := w_obj hR hc hT
  obtain ⟨hlay, -⟩ := w_lay hc
  have hP : va_P E.2.1 w_cl [(a, .inr (ci, (List.range N).map (w_fv ci (G.2.1 a) (I a))))] H := by
    intro j x hx
    cases j with
    | zero =>
      cases hx
      exact ⟨(C, T, N), hc, hob.to (fun j hj => by simp [vp_V, List.getD_eq_getElem?_getD, hj])⟩
    | succ j => simp at hx
  have hv : ((List.range N).map (w_fv ci (G.2.1 a) (I a)))[f]? = some (w_fv ci (G.2.1 a) (I a) f) := by
    have hk' : f < N := hk
    simp [hk']
  rcases hlink with h | ⟨host, h⟩
  · exact va_get (D := E.2.1) (cl := w_cl) (tys := w_tys E.2.2.1) (T := T) (C := C) (N := N) F.1.1 F.1.2.1 F.1.2.2.2.2 (fun w hw => List.mem_cons_of_mem _ (hlay w hw)) F.1.2.2.2.1 F.2.2.2.1.1 hP 0 rfl hc f hk (F.1.2.2.2.2 _ (List.mem_cons_of_mem _ h)) (fun _ h9 => h9) hv hd (kk p e s m args below meth c H locs lz F hR hL hl)
  · exact va_getN (D := E.2.1) (cl := w_cl) (tys := w_tys E.2.2.1) (T := T) (C := C) (N := N) (host := host) F.1.1 F.1.2.1 F.1.2.2.2.2 (fun w hw => List.mem_cons_of_mem _ (hlay w hw)) F.1.2.2.2.1 F.2.2.2.1.1 hP 0 rfl hc f hk (va_Nw.use rfl (F.2.2.2.1.2.1 _ h)) (fun _ h9 => h9) hv hd (kk p e s m args below meth c H locs lz F hR hL hl)
theorem v_getI {idx ci f a : Nat} (hf : w_fl M.1.cls idx ci f) (hr : w_ref ci f = false) (hT : G.1 a = (ci, 0)) (hd : Dc M pc (.getfield idx) 3 pc') (kk : w_V E M R Z G I k n pc' ls (iv (I a f) :: st)) : w_V E M R Z G I k n pc ls (.ref a :: st) := by
  refine v_getV hf hT hd ?_
  rw [show w_fv ci (G.2.1 a) (I a) f = iv (I a f) by simp [w_fv, hr]]
  exact kk
theorem v_getR {idx ci f a b : Nat} (hf : w_fl M.1.cls idx ci f) (hr : w_ref ci f = true) (hT : G.1 a = (ci, 0)) (hb : G.2.1 a f = some b) (hd : Dc M pc (.getfield idx) 3 pc') (kk : w_V E M R Z G I k n pc' ls (.ref b :: st)) : w_V E M R Z G I k n pc ls (.ref a :: st) := by
  refine v_getV hf hT hd ?_
  rw [show w_fv ci (G.2.1 a) (I a) f = .ref b by simp [w_fv, hr, hb, va_rf]]
  exact kk
theorem v_putV {idx ci f a : Nat} {fin : Bool} {ty : FieldType} {v : Value} (hf : w_fl M.1.cls idx ci f) (hw : w_fw ci f fin ty) (hfin : fin = true → M.1.name = "<init>" ∧ ∀ q, w_cl[ci]? = some q → q.1 = M.1.cls) (hT : G.1 a = (ci, 0)) (hnw : narrow ty v = v) (hft : fits ty v = true)
    (hG : G'.1 = G.1) (ht : G'.2.2 = G.2.2) (hGo : ∀ b, b ≠ a → G'.2.1 b = G.2.1 b) (hIo : ∀ b, b ≠ a → I' b = I b) (hin : ∀ H, w_Rel E G I H → ∀ j, inR (I' a j)) (hval : ∀ j, updV (w_fv ci (G.2.1 a) (I a)) f v j = w_fv ci (G'.2.1 a) (I' a) j)
    (hd : Dc M pc (.putfield idx) 3 pc') (kk : w_V E M R Z G' I' k n pc' ls st) : w_V E M R Z G I k n pc ls (v :: .ref a :: st) := by
  obtain ⟨hd, rfl⟩ := hd
  intro p e s m args below meth c H locs lz F hR hL hl
  obtain ⟨⟨C, T, N⟩, hc, hk, hlink⟩ := hf
  obtain ⟨q', hc', -, hfi, hpd, hdc⟩ := hw
  cases hc.symm.trans hc'
  obtain ⟨cell, q1, q2, q3, q4⟩ := w_obj hR hc hT
  obtain ⟨hlay, ty0, hty, hnm, -⟩ := w_lay hc
  have hin2 : ∀ w ∈ u_ws C T N, w ∈ w_ws M := fun w hw => List.mem_cons_of_mem _ (hlay w hw)
  have hts := F.1.2.2.2.2
  have hown := F.1.2.2.2.1
  have hK := F.2.2.2.1.1
  have hap := va_apart (own := M.1.cls) hts hin2 ty0 hty hnm hK hc
  obtain ⟨hS, hfc, kC, hkC, hkind⟩ := hK.1 ci _ hc
  obtain ⟨cf, kf, fi, fd, hi, hsl⟩ := hS f hk
  have hlayw := hts _ (hin2 _ (u_in_lay hk))
  have hst := (u_facts hfc hkC (u_lays hts hin2 hk) hi).1
  have hTa : (G.1 a).1 < 14 := by rw [hT]; show ci < 14; have := w_ci hc; omega
  have fin2 : ∀ H' : Heap, H'[a]? = some (cell.setSlot fd.slot v) → H'.size = H.size → (∀ q, q ≠ a → H'[q]? = H[q]?) → W p E.1 e R s m args below meth c H' (locs ++ [⟨a, fd.slot⟩]) k n (Z below args s) (F0 m (pc + 3) lz st) := by
    intro H' e1 e2 e3
    rw [hsl] at e1
    refine kk p e s m args below meth c H' _ lz F (hR.set hTa hG ht hGo hIo (hin H hR) e2 e3 ?_) (fun q hq => ?_) hl
    · rw [hT]
      unfold w_at
      rw [if_pos (show ((ci, 0) : Nat × Nat).1 < 10 from w_ci hc)]
      exact ⟨_, hc, t_OB.to (V := updV (w_fv ci (G.2.1 a) (I a)) f v) ⟨_, e1, q2, q3, t_set q4 hap hk v⟩ (fun j _ => hval j)⟩
    · rcases List.mem_append.mp hq with h | h
      · exact hL q h
      · rw [List.mem_singleton.mp h]; exact hR.2.2.2.2.1 a hTa
  cases fin with
  | false =>
    unfold u_lay at hlayw
    rw [if_neg (by rw [hfi]; decide)] at hlayw
    have h6 := u_store hfc hkC hkind hlayw hi hpd hnw hft
    rcases hlink with h | ⟨host, h⟩
    · exact W.putK F.1.1 F.1.2.1 (f := fd) ⟨hown, hts _ (List.mem_cons_of_mem _ h), ⟨_, _, _, hi⟩, hst⟩ (by rw [q2]; exact h6) q1 q3 (by rw [hsl]; exact k2_hasslot (q4 f hk)) rfl rfl hd fin2
    · exact va_WputK F.1.1 F.1.2.1 (f := fd) hown (va_Nw.use rfl (F.2.2.2.1.2.1 _ h)) hi hst (by rw [q2]; exact h6) q1 q3 (by rw [hsl]; exact k2_hasslot (q4 f hk)) rfl rfl hd fin2
  | true =>
    obtain ⟨hinit, hcl⟩ := hfin rfl
    have hcl := hcl _ hc
    unfold u_lay at hlayw
    rw [if_pos hfi] at hlayw
    have hcf : m.cls = cf := by
      obtain ⟨_, _, c', _, _, _, -, -, hf', -, -, -, hown2, -⟩ := Cond.laysFinal_spec hlayw
      have e1 : c' = cf := by have := hi.symm.trans hf'; simp at this; exact this.1.symm
      rw [hdc, hcl] at hown2
      rw [← e1]; exact Option.some.inj (hown.symm.trans hown2)
    have h6 := u_fits hfc hkC hkind (Or.inr hlayw) hi hpd hnw hft
    have hin3 : meth.name = "<init>" := by rw [F.2.2.2.2]; exact hinit
    rcases hlink with h | ⟨host, h⟩
    · exact W.putFinK F.1.1 F.1.2.1 hown (hts _ (List.mem_cons_of_mem _ h)) hi hst hcf hin3 (by rw [q2]; exact h6) q1 q3 (by rw [hsl]; exact k2_hasslot (q4 f hk)) rfl rfl hd fin2
    · have ha : a < H.size := (Array.getElem?_eq_some_iff.mp q1).1
      refine va_Wputf F.1.1 F.1.2.1 hown (va_Nw.use rfl (F.2.2.2.1.2.1 _ h)) hi hst (Or.inr ⟨hcf, hin3⟩) q1 (by rw [q3]; exact fun h => by cases h) (by rw [hsl]; exact k2_hasslot (q4 f hk)) h6.1 (by rw [q2, q3]; exact h6.2) rfl rfl hd ?_
      refine fin2 _ ?_ ?_ ?_
      · simp [Array.getElem?_setIfInBounds, ha]
      · simp
      · intro q hq
        simp [Array.getElem?_setIfInBounds, Ne.symm hq]
theorem w_fv_upI {ci f a : Nat} {z : Int} (hr : w_ref ci f = false) (j : Nat) : updV (w_fv ci (G.2.1 a) (I a)) f (iv z) j = w_fv ci (G.2.1 a) (w_up I a f z a) j := by
  by_cases e : j = f
  · subst e
    simp [updV, w_fv, hr, w_up]
  · simp [updV, w_fv, w_up, e]
theorem w_fv_upR {ci f a b : Nat} (hr : w_ref ci f = true) (j : Nat) : updV (w_fv ci (G.2.1 a) (I a)) f (.ref b) j = w_fv ci (w_upR G.2.1 a f (some b) a) (I a) j := by
  by_cases e : j = f
  · subst e
    simp [updV, w_fv, hr, w_upR, va_rf]
  · simp [updV, w_fv, w_upR, e]
theorem w_up_in {a f : Nat} {z : Int} {H : Heap} (hz : inR z) (hR : w_Rel E G I H) (j : Nat) : inR (w_up I a f z a j) := by
  by_cases e : j = f
  · simp [w_up, e, hz]
  · simp [w_up, e, hR.2.2.2.1 a j]
theorem v_putI {idx ci f a : Nat} {z : Int} (hf : w_fl M.1.cls idx ci f) (hw : w_fw ci f false .int) (hr : w_ref ci f = false) (hz : inR z) (hT : G.1 a = (ci, 0)) (hd : Dc M pc (.putfield idx) 3 pc') (kk : w_V E M R Z G (w_up I a f z) k n pc' ls st) : w_V E M R Z G I k n pc ls (iv z :: .ref a :: st) :=
  v_putV hf hw (fun h => by cases h) hT rfl rfl rfl rfl (fun _ _ => rfl) (fun _ h => w_up_o h) (fun _ h => w_up_in hz h) (w_fv_upI hr) hd kk
theorem v_putIF {idx ci f a : Nat} {z : Int} (hf : w_fl M.1.cls idx ci f) (hw : w_fw ci f true .int) (hr : w_ref ci f = false) (hi : M.1.name = "<init>") (hc : ∀ q, w_cl[ci]? = some q → q.1 = M.1.cls) (hz : inR z) (hT : G.1 a = (ci, 0)) (hd : Dc M pc (.putfield idx) 3 pc') (kk : w_V E M R Z G (w_up I a f z) k n pc' ls st) : w_V E M R Z G I k n pc ls (iv z :: .ref a :: st) :=
  v_putV hf hw (fun _ => ⟨hi, hc⟩) hT rfl rfl rfl rfl (fun _ _ => rfl) (fun _ h => w_up_o h) (fun _ h => w_up_in hz h) (w_fv_upI hr) hd kk
theorem w_nar {z : Int} (hz : z = 0 ∨ z = 1) : narrow .boolean (iv z) = iv z ∧ fits .boolean (iv z) = true := by
  rcases hz with rfl | rfl
  · exact ⟨by decide, by decide⟩
  · exact ⟨by decide, by decide⟩
theorem v_putZ {idx ci f a : Nat} {z : Int} (hf : w_fl M.1.cls idx ci f) (hw : w_fw ci f false .boolean) (hr : w_ref ci f = false) (hz : z = 0 ∨ z = 1) (hT : G.1 a = (ci, 0)) (hd : Dc M pc (.putfield idx) 3 pc') (kk : w_V E M R Z G (w_up I a f z) k n pc' ls st) : w_V E M R Z G I k n pc ls (iv z :: .ref a :: st) :=
  v_putV hf hw (fun h => by cases h) hT (w_nar hz).1 (w_nar hz).2 rfl rfl (fun _ _ => rfl) (fun _ h => w_up_o h) (fun _ h => w_up_in ⟨by omega, by omega⟩ h) (w_fv_upI hr) hd kk
theorem v_putR {idx ci f a b : Nat} {ty : FieldType} (hf : w_fl M.1.cls idx ci f) (hw : w_fw ci f true ty) (hr : w_ref ci f = true) (hi : M.1.name = "<init>") (hc : ∀ q, w_cl[ci]? = some q → q.1 = M.1.cls) (hty : narrow ty (.ref b) = .ref b ∧ fits ty (.ref b) = true) (hT : G.1 a = (ci, 0)) (hd : Dc M pc (.putfield idx) 3 pc') (kk : w_V E M R Z (G.1, w_upR G.2.1 a f (some b), G.2.2) I k n pc' ls st) : w_V E M R Z G I k n pc ls (.ref b :: .ref a :: st) :=
  v_putV (G' := (G.1, w_upR G.2.1 a f (some b), G.2.2)) (I' := I) hf hw (fun _ => ⟨hi, hc⟩) hT hty.1 hty.2 rfl rfl (fun _ h => w_upR_o h) (fun _ _ => rfl) (fun _ h j => h.2.2.2.1 a j) (w_fv_upR hr) hd kk
/-! ===== rows ===== -/
theorem w_row {a t len : Nat} {H : Heap} (hR : w_Rel E G I H) (ht : 10 ≤ t ∧ t < 12) (hT : G.1 a = (t, len)) : H[a]? = some (arrV (E.2.2.1 (t - 10)) len (fun j => iv (I a j))) := by
  have hat := hR.2.2.1 a (by rw [hT]; show t < 14; omega)
  rw [hT] at hat
  unfold w_at at hat
  rw [if_neg (show ¬ ((t, len) : Nat × Nat).1 < 10 from by show ¬ t < 10; omega), if_pos (show ((t, len) : Nat × Nat).1 < 12 from ht.2)] at hat
  exact hat
theorem w_rowR {a t len : Nat} {H : Heap} (hR : w_Rel E G I H) (ht : 12 ≤ t ∧ t < 14) (hT : G.1 a = (t, len)) : H[a]? = some (arrV (E.2.2.1 (t - 10)) len (fun j => va_rf (G.2.1 a j))) := by
  have hat := hR.2.2.1 a (by rw [hT]; show t < 14; omega)
  rw [hT] at hat
  unfold w_at at hat
  rw [if_neg (show ¬ ((t, len) : Nat × Nat).1 < 10 from by show ¬ t < 10; omega), if_neg (show ¬ ((t, len) : Nat × Nat).1 < 12 from by show ¬ t < 12; omega)] at hat
  exact hat
theorem w_ix {x : Int} {i len : Nat} (hx : x = (i : Int)) (hi : i < len) (hl : len < 2147483648) : ¬ (Int32.ofInt x < 0 ∨ len ≤ (Int32.ofInt x).toNatClampNeg) ∧ (Int32.ofInt x).toNatClampNeg = i := by
  subst hx
  have h1 : (Int32.ofInt (i : Int)).toNatClampNeg = i := iv_clamp (by omega)
  refine ⟨fun h => ?_, h1⟩
  rcases h with h | h
  · exact iv_nneg (inR_nat (by omega)) (by omega) h
  · rw [h1] at h; omega
theorem v_iald {a len i : Nat} {x : Int} (hT : G.1 a = (10, len)) (hx : x = (i : Int)) (hi : i < len) (hlen : len < 2147483648) (hd : Dc M pc .iaload 1 pc') (kk : w_V E M R Z G I k n pc' ls (iv (I a i) :: st)) : w_V E M R Z G I k n pc ls (iv x :: .ref a :: st) := by
  obtain ⟨hd, rfl⟩ := hd
  intro p e s m args below meth c H locs lz F hR hL hl
  obtain ⟨h1, h2⟩ := w_ix hx hi hlen
  exact W.iald (v := iv (I a i)) F.1.1 F.1.2.1 (w_row hR ⟨by omega, by omega⟩ hT) ((F.2.2.2.1.1.2 0 _ rfl).1 len (fun j => iv (I a j))) (fun q => by cases q) (by rw [arrV_size]; exact h1) (by rw [h2, arrV_read _ _ hi]) rfl rfl hd (kk p e s m args below meth c H locs lz F hR hL hl)
theorem v_zald {a len i : Nat} {x : Int} (hT : G.1 a = (11, len)) (hx : x = (i : Int)) (hi : i < len) (hlen : len < 2147483648) (hd : Dc M pc .baload 1 pc') (kk : w_V E M R Z G I k n pc' ls (iv (I a i) :: st)) : w_V E M R Z G I k n pc ls (iv x :: .ref a :: st) := by
  obtain ⟨hd, rfl⟩ := hd
  intro p e s m args below meth c H locs lz F hR hL hl
  obtain ⟨h1, h2⟩ := w_ix hx hi hlen
  exact W.zald (v := iv (I a i)) F.1.1 F.1.2.1 (w_row hR ⟨by omega, by omega⟩ hT) ((F.2.2.2.1.1.2 1 _ rfl).1 len (fun j => iv (I a j))) (fun q => by cases q) (by rw [arrV_size]; exact h1) (by rw [h2, arrV_read _ _ hi]) rfl rfl hd (kk p e s m args below meth c H locs lz F hR hL hl)
theorem w_row_set {a t len i : Nat} {z : Int} {H H' : Heap} (hR : w_Rel E G I H) (ht : 10 ≤ t ∧ t < 12) (hT : G.1 a = (t, len)) (hz : inR z) (e1 : H'[a]? = some ((arrV (E.2.2.1 (t - 10)) len (fun j => iv (I a j))).setSlot i (iv z))) (e2 : H'.size = H.size) (e3 : ∀ q, q ≠ a → H'[q]? = H[q]?) : w_Rel E G (w_up I a i z) H' := by
  refine hR.set (a := a) (by rw [hT]; show t < 14; omega) rfl rfl (fun _ _ => rfl) (fun _ h => w_up_o h) (fun j => w_up_in hz hR j) e2 e3 ?_
  rw [hT]
  unfold w_at
  rw [if_neg (show ¬ ((t, len) : Nat × Nat).1 < 10 from by show ¬ t < 10; omega), if_pos (show ((t, len) : Nat × Nat).1 < 12 from ht.2)]
  rw [e1, arrV_store]
  congr 2
  funext j
  by_cases e : j = i
  · subst e
    simp [updV, w_up]
  · simp [updV, w_up, e]
theorem v_iast {a len i : Nat} {x z : Int} (hT : G.1 a = (10, len)) (hx : x = (i : Int)) (hi : i < len) (hlen : len < 2147483648) (hz : inR z) (hd : Dc M pc .iastore 1 pc') (kk : w_V E M R Z G (w_up I a i z) k n pc' ls st) : w_V E M R Z G I k n pc ls (iv z :: iv x :: .ref a :: st) := by
  obtain ⟨hd, rfl⟩ := hd
  intro p e s m args below meth c H locs lz F hR hL hl
  obtain ⟨h1, h2⟩ := w_ix hx hi hlen
  refine W.iast F.1.1 F.1.2.1 (w_row hR ⟨by omega, by omega⟩ hT) ((F.2.2.2.1.1.2 0 _ rfl).1 len (fun j => iv (I a j))) (fun q => by cases q) (by rw [arrV_size]; exact h1) rfl rfl hd fun H' e1 e2 e3 => ?_
  rw [h2] at e1
  refine kk p e s m args below meth c H' _ lz F (w_row_set hR ⟨by omega, by omega⟩ hT hz e1 e2 e3) (fun q hq => ?_) hl
  rcases List.mem_append.mp hq with h | h
  · exact hL q h
  · rw [List.mem_singleton.mp h]; exact hR.2.2.2.2.1 a (by rw [hT]; simp)
theorem v_zast {a len i : Nat} {x z : Int} (hT : G.1 a = (11, len)) (hx : x = (i : Int)) (hi : i < len) (hlen : len < 2147483648) (hz : z = 0 ∨ z = 1) (hd : Dc M pc .bastore 1 pc') (kk : w_V E M R Z G (w_up I a i z) k n pc' ls st) : w_V E M R Z G I k n pc ls (iv z :: iv x :: .ref a :: st) := by
  obtain ⟨hd, rfl⟩ := hd
  intro p e s m args below meth c H locs lz F hR hL hl
  obtain ⟨h1, h2⟩ := w_ix hx hi hlen
  refine W.zast F.1.1 F.1.2.1 (w_row hR ⟨by omega, by omega⟩ hT) ((F.2.2.2.1.1.2 1 _ rfl).1 len (fun j => iv (I a j))) (fun q => by cases q) (by rw [arrV_size]; exact h1) rfl rfl hd fun H' e1 e2 e3 => ?_
  rw [h2, show narrow .boolean (Value.int (Int32.ofInt z)) = iv z from (w_nar hz).1] at e1
  refine kk p e s m args below meth c H' _ lz F (w_row_set hR ⟨by omega, by omega⟩ hT ⟨by omega, by omega⟩ e1 e2 e3) (fun q hq => ?_) hl
  rcases List.mem_append.mp hq with h | h
  · exact hL q h
  · rw [List.mem_singleton.mp h]; exact hR.2.2.2.2.1 a (by rw [hT]; simp)
theorem v_aaldV {a len i t : Nat} {x : Int} (C : String) (htt : 2 ≤ t ∧ t < 4) (hty : (w_tys E.2.2.1)[t]? = some (E.2.2.1 t, .object C)) (hT : G.1 a = (t + 10, len)) (hx : x = (i : Int)) (hi : i < len) (hlen : len < 2147483648) (hd : Dc M pc .aaload 1 pc') (kk : w_V E M R Z G I k n pc' ls (va_rf (G.2.1 a i) :: st)) : w_V E M R Z G I k n pc ls (iv x :: .ref a :: st) := by
  obtain ⟨hd, rfl⟩ := hd
  intro p e s m args below meth c H locs lz F hR hL hl
  obtain ⟨h1, h2⟩ := w_ix hx hi hlen
  have hc := w_rowR hR (t := t + 10) ⟨by omega, by omega⟩ hT
  rw [Nat.add_sub_cancel] at hc
  exact W.aald (v := va_rf (G.2.1 a i)) (ty := .object C) F.1.1 F.1.2.1 hc ((F.2.2.2.1.1.2 t _ hty).1 len (fun j => va_rf (G.2.1 a j))) rfl (fun q => by cases q) (by rw [arrV_size]; exact h1) (by rw [h2, arrV_read _ _ hi]) rfl rfl hd (kk p e s m args below meth c H locs lz F hR hL hl)
theorem v_aaldF {a len i b : Nat} {x : Int} (hT : G.1 a = (12, len)) (hb : G.2.1 a i = some b) (hx : x = (i : Int)) (hi : i < len) (hlen : len < 2147483648) (hd : Dc M pc .aaload 1 pc') (kk : w_V E M R Z G I k n pc' ls (.ref b :: st)) : w_V E M R Z G I k n pc ls (iv x :: .ref a :: st) := by
  refine v_aaldV (t := 2) RX2 ⟨by omega, by omega⟩ rfl hT hx hi hlen hd ?_
  rw [hb]
  exact kk
theorem v_aaldM {a len i b : Nat} {x : Int} (hT : G.1 a = (13, len)) (hb : G.2.1 a i = some b) (hx : x = (i : Int)) (hi : i < len) (hlen : len < 2147483648) (hd : Dc M pc .aaload 1 pc') (kk : w_V E M R Z G I k n pc' ls (.ref b :: st)) : w_V E M R Z G I k n pc ls (iv x :: .ref a :: st) := by
  refine v_aaldV (t := 3) RX4 ⟨by omega, by omega⟩ rfl hT hx hi hlen hd ?_
  rw [hb]
  exact kk
/-- a reference into a row of references: t is the row's kind (2 of RX2, 3 of RX4), ci the object's -/
theorem v_aast {a b len i t ci : Nat} {x : Int} {r : vw_C} (htt : 2 ≤ t ∧ t < 4) (hc : w_cl[ci]? = some r) (hty : (w_tys E.2.2.1)[t]? = some (E.2.2.1 t, .object r.1)) (hT : G.1 a = (t + 10, len)) (hb : G.1 b = (ci, 0)) (hx : x = (i : Int)) (hi : i < len) (hlen : len < 2147483648) (hd : Dc M pc .aastore 1 pc') (kk : w_V E M R Z (G.1, w_upR G.2.1 a i (some b), G.2.2) I k n pc' ls st) : w_V E M R Z G I k n pc ls (.ref b :: iv x :: .ref a :: st) := by
  obtain ⟨hd, rfl⟩ := hd
  intro p e s m args below meth c H locs lz F hR hL hl
  obtain ⟨h1, h2⟩ := w_ix hx hi hlen
  have hrow := w_rowR hR (t := t + 10) ⟨by omega, by omega⟩ hT
  rw [Nat.add_sub_cancel] at hrow
  obtain ⟨cellV, g1, g2, g3, -⟩ := w_obj hR hc hb
  have hcls := (F.2.2.2.1.1.1 ci r hc).2
  obtain ⟨kA, comp, k1, k2, k3, -⟩ := (F.2.2.2.1.1.2 t _ hty).2
  have hcomp : comp = E.2.1.1 ci := Option.some.inj (k3.symm.trans hcls.1)
  subst hcomp
  obtain ⟨kC, hkC, -⟩ := hcls.2
  have hTa : (G.1 a).1 < 14 := by rw [hT]; show t + 10 < 14; omega
  refine W.aast F.1.1 F.1.2.1 hrow (fun q h => by cases h) (fun h => by cases h) k1 k2 rfl hkC ⟨fun q => h1 (Or.inl q), by rw [arrV_size, h2]; exact hi⟩ g1 (fun q h => by rw [g3] at h; cases h) (by rw [g2]; exact hkC) (by rw [g2]; exact va_assign hcls) rfl rfl hd fun H' e1 e2 e3 => ?_
  rw [h2, arrV_store] at e1
  refine kk p e s m args below meth c H' _ lz F (hR.set (G' := (G.1, w_upR G.2.1 a i (some b), G.2.2)) (a := a) hTa rfl rfl (fun _ h => w_upR_o h) (fun _ _ => rfl) (fun j => hR.2.2.2.1 a j) e2 e3 ?_) (fun q hq => ?_) hl
  · rw [hT]
    unfold w_at
    rw [if_neg (show ¬ ((t + 10, len) : Nat × Nat).1 < 10 from by show ¬ t + 10 < 10; omega), if_neg (show ¬ ((t + 10, len) : Nat × Nat).1 < 12 from by show ¬ t + 10 < 12; omega)]
    rw [e1]
    show some (arrV (E.2.2.1 t) len _) = some (arrV (E.2.2.1 (t + 10 - 10)) len _)
    rw [Nat.add_sub_cancel]
    congr 2
    funext j
    by_cases e : j = i
    · subst e
      simp [updV, w_upR, va_rf]
    · simp [updV, w_upR, e]
  · rcases List.mem_append.mp hq with h | h
    · exact hL q h
    · rw [List.mem_singleton.mp h]; exact hR.2.2.2.2.1 a hTa
/-! ===== what is new ===== -/
def w_zI (I : w_Mm) (a : Nat) : w_Mm := fun b j => if b = a then 0 else I b j
def w_zR (r : Nat → Nat → Option Nat) (a : Nat) : Nat → Nat → Option Nat := fun b j => if b = a then none else r b j
/-- the shape with a cell more of tag t -/
def w_new (G : w_Sh) (t : Nat × Nat) : w_Sh := (w_upT G.1 G.2.2 t, w_zR G.2.1 G.2.2, G.2.2 + 1)
theorem w_zI_o {a b : Nat} (h : b ≠ a) : w_zI I a b = I b := by
  funext j
  simp [w_zI, h]
theorem w_zR_o {r : Nat → Nat → Option Nat} {a b : Nat} (h : b ≠ a) : w_zR r a b = r b := by
  funext j
  simp [w_zR, h]
theorem w_Rel.born {t : Nat × Nat} {H H1 : Heap} (hR : w_Rel E G I H) (hs : H1.size = H.size + 1) (ho : ∀ q, q < H.size → H1[q]? = H[q]?) (hat : w_at E G.2.2 t (fun _ => none) (fun _ => 0) H1) : w_Rel E (w_new G t) (w_zI I G.2.2) H1 := by
  refine hR.new (G' := w_new G t) (I' := w_zI I G.2.2) (t := t) (fun b h => by simp [w_new, w_upT, h]) (by simp [w_new, w_upT]) rfl (fun b h => w_zR_o h) (fun b h => w_zI_o h) (fun j => by simp [w_zI, inR]) hs ho ?_
  have e1 : (w_new G t).2.1 G.2.2 = fun _ => none := by funext j; simp [w_new, w_zR]
  have e2 : w_zI I G.2.2 G.2.2 = fun _ => 0 := by funext j; simp [w_zI]
  rw [e1, e2]
  exact hat
theorem v_new {idx ci : Nat} {q : vw_C} (hc : w_cl[ci]? = some q) (h1 : Jvm.Cond.classLink M.1.cls idx q.1 ∈ w_good) (h2 : Jvm.Cond.instantiable q.1 q.2.2 ∈ w_good) (h3 : Jvm.Cond.initialized q.1 ∈ w_good) (hk : k + 1 ≤ R.cells) (hn : n + q.2.2 ≤ R.slots) (hd : Dc M pc (.new idx) 3 pc')
    (kk : w_V E M R Z (w_new G (ci, 0)) (w_zI I G.2.2) (k + 1) (n + q.2.2) pc' ls (.ref G.2.2 :: st)) : w_V E M R Z G I k n pc ls st := by
  obtain ⟨hd, rfl⟩ := hd
  intro p e s m args below meth c H locs lz F hR hL hl
  obtain ⟨C, T, N⟩ := q
  have hts := F.1.2.2.2.2
  have hKn := F.2.2.2.1.1.1 ci _ hc
  obtain ⟨hlay, ty0, hty, -, hborn⟩ := w_lay hc
  refine W.newcK F.1.1 F.1.2.1 F.1.2.2.2.1 (hts _ (List.mem_cons_of_mem _ h1)) (hts _ (List.mem_cons_of_mem _ h2)) (hts _ (List.mem_cons_of_mem _ h3)) rfl hd hk hn hKn.2.1 hR.1 fun H1 kC hkC e1 z1 o1 => ?_
  refine kk p e s m args below meth c H1 locs lz F (hR.born (by rw [z1, hR.1]) (fun q hq => o1 q (by rw [← hR.1]; exact hq)) ?_) hL hl
  unfold w_at
  rw [if_pos (show ((ci, 0) : Nat × Nat).1 < 10 from w_ci hc)]
  exact ⟨_, hc, (u_born ty0 hts (fun w hw => List.mem_cons_of_mem _ (hlay w hw)) hKn hkC e1 hty).to hborn⟩
theorem v_newI {len : Nat} {x : Int} (hx : x = (len : Int)) (hl8 : len < 100000) (hw : Jvm.Cond.arrayClass .int ∈ w_good) (hk : k + 1 ≤ R.cells) (hn : n + len ≤ R.slots) (hd : Dc M pc (.newarray .int) 2 pc')
    (kk : w_V E M R Z (w_new G (10, len)) (w_zI I G.2.2) (k + 1) (n + len) pc' ls (.ref G.2.2 :: st)) : w_V E M R Z G I k n pc ls (iv x :: st) := by
  obtain ⟨hd, rfl⟩ := hd
  intro p e s m args below meth c H locs lz F hR hL hl
  obtain ⟨h1, h2⟩ := w_ix (len := len + 1) hx (by omega) (by omega)
  refine va_newaK (atype := .int) (N := len) F.1.1 F.1.2.1 (F.1.2.2.2.2 _ (List.mem_cons_of_mem _ hw)) rfl hd rfl (fun q => h1 (Or.inl q)) h2 (by show len * 4 ≤ _; omega) hk hn hR.1 fun H1 cA e1 z1 o1 hAr hNm => ?_
  have hcA : cA = E.2.2.1 0 := Option.some.inj (hNm.symm.trans (F.2.2.2.1.1.2 0 _ rfl).2)
  refine kk p e s m args below meth c H1 locs lz F (hR.born (by rw [z1, hR.1]) (fun q hq => o1 q (by rw [← hR.1]; exact hq)) ?_) hL hl
  unfold w_at
  rw [if_neg (by simp), if_pos (by simp), e1, hcA]
  rfl
theorem v_newZ {len : Nat} {x : Int} (hx : x = (len : Int)) (hl8 : len < 100000) (hw : Jvm.Cond.arrayClass .boolean ∈ w_good) (hk : k + 1 ≤ R.cells) (hn : n + len ≤ R.slots) (hd : Dc M pc (.newarray .boolean) 2 pc')
    (kk : w_V E M R Z (w_new G (11, len)) (w_zI I G.2.2) (k + 1) (n + len) pc' ls (.ref G.2.2 :: st)) : w_V E M R Z G I k n pc ls (iv x :: st) := by
  obtain ⟨hd, rfl⟩ := hd
  intro p e s m args below meth c H locs lz F hR hL hl
  obtain ⟨h1, h2⟩ := w_ix (len := len + 1) hx (by omega) (by omega)
  refine va_newaK (atype := .boolean) (N := len) F.1.1 F.1.2.1 (F.1.2.2.2.2 _ (List.mem_cons_of_mem _ hw)) rfl hd rfl (fun q => h1 (Or.inl q)) h2 (by show len * 1 ≤ _; omega) hk hn hR.1 fun H1 cA e1 z1 o1 hAr hNm => ?_
  have hcA : cA = E.2.2.1 1 := Option.some.inj (hNm.symm.trans (F.2.2.2.1.1.2 1 _ rfl).2)
  refine kk p e s m args below meth c H1 locs lz F (hR.born (by rw [z1, hR.1]) (fun q hq => o1 q (by rw [← hR.1]; exact hq)) ?_) hL hl
  unfold w_at
  rw [if_neg (by simp), if_pos (by simp), e1, hcA]
  rfl
theorem v_newQ {len t idx : Nat} {x : Int} {C : String} (htt : 2 ≤ t ∧ t < 4) (hty : (w_tys E.2.2.1)[t]? = some (E.2.2.1 t, .object C)) (hAO : ∀ U, w_K E U → va_AO C U) (hw : Jvm.Cond.classLink M.1.cls idx C ∈ w_good) (hx : x = (len : Int)) (hl8 : len < 100000) (hk : k + 1 ≤ R.cells) (hn : n + len ≤ R.slots) (hd : Dc M pc (.anewarray idx) 3 pc')
    (kk : w_V E M R Z (w_new G (t + 10, len)) (w_zI I G.2.2) (k + 1) (n + len) pc' ls (.ref G.2.2 :: st)) : w_V E M R Z G I k n pc ls (iv x :: st) := by
  obtain ⟨hd, rfl⟩ := hd
  intro p e s m args below meth c H locs lz F hR hL hl
  obtain ⟨h1, h2⟩ := w_ix (len := len + 1) hx (by omega) (by omega)
  refine W.anew F.1.1 F.1.2.1 F.1.2.2.2.1 (F.1.2.2.2.2 _ (List.mem_cons_of_mem _ hw)) (va_AO.use (hAO _ F.2.2.2.1)) rfl hd rfl (fun q => h1 (Or.inl q)) (by rw [h2]; omega) hk (by rw [h2]; exact hn) fun cA kA comp f1 f2 f3 f4 => ?_
  rw [h2]
  obtain ⟨kA', comp', g1, g2, g3, g4⟩ := (F.2.2.2.1.1.2 t _ hty).2
  have hcA : cA = E.2.2.1 t := Option.some.inj (f1.symm.trans g4)
  show W p E.1 e R s m args below meth c _ locs (k + 1) (n + len) (Z below args s) (F0 m (pc + 3) lz (.ref H.size :: st))
  rw [hR.1]
  refine kk p e s m args below meth c _ locs lz F (hR.born (by rw [Array.size_push]) (fun q hq => by rw [Array.getElem?_push, if_neg (Nat.ne_of_lt hq)]) ?_) hL hl
  unfold w_at
  rw [if_neg (show ¬ ((t + 10, len) : Nat × Nat).1 < 10 from by show ¬ t + 10 < 10; omega), if_neg (show ¬ ((t + 10, len) : Nat × Nat).1 < 12 from by show ¬ t + 10 < 12; omega)]
  rw [← hR.1, Array.getElem?_push_size, arrV_new, hcA]
  show some (arrV (E.2.2.1 t) len _) = some (arrV (E.2.2.1 (t + 10 - 10)) len _)
  rw [Nat.add_sub_cancel]
  rfl
end Heap
end
section
/-! ===== answers ===== -/
def w_Pi (post : Int → w_Sh → w_Mm → Prop) : Option Value → w_Sh → w_Mm → Prop := fun v G I => ∃ z, v = some (iv z) ∧ inR z ∧ post z G I
def w_Pv (post : w_Sh → w_Mm → Prop) : Option Value → w_Sh → w_Mm → Prop := fun v G I => v = none ∧ post G I
def w_Pr (post : Option Nat → w_Sh → w_Mm → Prop) : Option Value → w_Sh → w_Mm → Prop := fun v G I => ∃ o, v = some (va_rf o) ∧ post o G I
section Calls
variable {E : w_E} {M : w_M} {R : Room} {Z : List Frame → Array Value → State → State → Prop} {G G' : w_Sh} {I I' : w_Mm} {k n pc pc' tgt d mc ms : Nat} {off : Int} {ls ls' : List (Option Value)} {st : List Value}
theorem v_iret {z : Int} {post : Int → w_Sh → w_Mm → Prop} (hM : M.2.2.2 = some .int) (hk : k ≤ mc) (hn : n ≤ ms) (hz : inR z) (hd : Dc M pc .ireturn 1 pc') (hp : post z G I) : w_V E M R (w_Z E mc ms (w_Pi post)) G I k n pc ls [iv z] := by
  obtain ⟨hd, rfl⟩ := hd
  intro p e s m args below meth c H locs lz F hR hL hl
  refine W.widen hk hn ?_
  exact W.iret F.1.1 F.1.2.1 (by rw [F.2.1, hM]) (fun t ht _ => ⟨_, G, I, rfl, by rw [ht]; exact hR, z, rfl, hz, hp⟩) hL hd F.2.2.1
theorem v_zret {z : Int} {post : Int → w_Sh → w_Mm → Prop} (hM : M.2.2.2 = some .boolean) (hk : k ≤ mc) (hn : n ≤ ms) (hz : z = 0 ∨ z = 1) (hd : Dc M pc .ireturn 1 pc') (hp : post z G I) : w_V E M R (w_Z E mc ms (w_Pi post)) G I k n pc ls [iv z] := by
  obtain ⟨hd, rfl⟩ := hd
  intro p e s m args below meth c H locs lz F hR hL hl
  refine W.widen hk hn ?_
  exact W.zret F.1.1 F.1.2.1 (by rw [F.2.1, hM]) (w_nar hz).1 (fun t ht _ => ⟨_, G, I, rfl, by rw [ht]; exact hR, z, rfl, ⟨by omega, by omega⟩, hp⟩) hL hd F.2.2.1
theorem v_vret {post : w_Sh → w_Mm → Prop} (hM : M.2.2.2 = none) (hk : k ≤ mc) (hn : n ≤ ms) (hd : Dc M pc .return_ 1 pc') (hp : post G I) : w_V E M R (w_Z E mc ms (w_Pv post)) G I k n pc ls [] := by
  obtain ⟨hd, rfl⟩ := hd
  intro p e s m args below meth c H locs lz F hR hL hl
  refine W.widen hk hn ?_
  exact W.vret F.1.1 F.1.2.1 (by rw [F.2.1, hM]) (fun t ht _ => ⟨_, G, I, rfl, by rw [ht]; exact hR, rfl, hp⟩) hL hd F.2.2.1
theorem v_aret {o : Option Nat} {C : String} {post : Option Nat → w_Sh → w_Mm → Prop} (hM : M.2.2.2 = some (.object C)) (hk : k ≤ mc) (hn : n ≤ ms) (hd : Dc M pc .areturn 1 pc') (hp : post o G I) : w_V E M R (w_Z E mc ms (w_Pr post)) G I k n pc ls [va_rf o] := by
  obtain ⟨hd, rfl⟩ := hd
  intro p e s m args below meth c H locs lz F hR hL hl
  refine W.widen hk hn ?_
  exact W.aret (rt := .object C) F.1.1 F.1.2.1 (by rw [F.2.1, hM]) (Or.inl ⟨_, rfl⟩) (by cases o; exact Or.inl rfl; exact Or.inr ⟨_, rfl⟩) (fun t ht _ => ⟨_, G, I, rfl, by rw [ht]; exact hR, o, rfl, hp⟩) hL hd F.2.2.1
/-! ===== calls ===== -/
theorem w_GI {M M' : w_M} (h : Jvm.Cond.code M'.1 M'.2.1 M'.2.2.1 M'.2.2.2 ∈ w_good) : GoodIn (w_ws M) (w_ws M') := by
  intro w hw
  have hg : w ∈ w_good := by
    rcases List.mem_cons.mp hw with e | e
    · rw [e]; exact h
    · exact e
  exact ⟨List.mem_cons_of_mem _ hg, good_of_word (List.mem_filter.mp hg).2⟩
theorem w_good_of {M : w_M} {w : Jvm.Cond} (h : w ∈ w_good) : w ∈ w_ws M ∧ ((w.onTables && w.keeps) = true ∨ ∃ ty, w = .arrayClass ty) := ⟨List.mem_cons_of_mem _ h, good_of_word (List.mem_filter.mp h).2⟩
theorem w_blind (as : List Value) : FrameBlind (w_Pc E as G I) := fun a U g mk q => ⟨q.1, q.2.1, w_K.same (u := U) (U := U.calling g mk a) rfl q.2.2⟩
/-- what a call needs of the callee: its words -/
def w_mw (M' : w_M) (nA : Nat) : Prop := Jvm.Cond.code M'.1 M'.2.1 M'.2.2.1 M'.2.2.2 ∈ w_good ∧ Jvm.Cond.initialized M'.1.cls ∈ w_good ∧ (M'.1.cls ≠ "java/lang/invoke/MethodHandle" ∧ M'.1.cls ≠ "java/lang/invoke/VarHandle") ∧ (parseMethodDescriptor M'.1.desc).map (fun d => d.parameters.length) = some nA
/-- .. of one that belongs to an object of number ci -/
def w_mv (ci : Nat) (M' : w_M) : Prop := (∃ q, w_cl[ci]? = some q ∧ q.1 = M'.1.cls) ∧ Jvm.Cond.instanceMethod M'.1 ∈ w_good ∧ Jvm.Cond.selects M'.1.cls M'.1 M'.1 ∈ w_good
def w_lk (C : String) (idx : Nat) (M' : w_M) : Prop := Jvm.Cond.methodLink C idx M'.1 ∈ w_good ∨ ∃ host, Jvm.Cond.methodLinkNest C idx M'.1 host ∈ w_nw
theorem w_after {Post : Option Value → w_Sh → w_Mm → Prop} {p : Program} {e : Env} {s : State} {m : MethodId} {args : Array Value} {below : List Frame} {meth : Method} {c : Code} {H : Heap} {locs : List Loc} {lz : Array Slot} {st0 rest : List Value} {a : Array Value}
    (hr : va_Run p E.1 e R s m args below meth c H locs k n mc ms (F0 m pc lz st0) rest (w_Qc E Post a) (fun q => E.2.2.2.1.size ≤ q)) (F : w_Fix E M p s m meth c args) (hL : ∀ q ∈ locs, E.2.2.2.1.size ≤ q.base) (hl : w_has lz M.2.2.1 ls)
    (kk : ∀ (v : Option Value) (G' : w_Sh) (I' : w_Mm), Post v G' I' → (∀ a k, inR (I' a k)) → w_V E M R Z G' I' (k + mc) (n + ms) (pc + 3) ls (v.toList ++ rest)) :
    W p E.1 e R s m args below meth c H locs k n (Z below args s) (F0 m pc lz st0) := by
  intro T hT X
  obtain ⟨v, st₀, t, T', L, h0, X', hLL, e1, e2, ⟨v', G', I', hv, hR', hp⟩, stp⟩ := hr T hT X
  cases hv
  obtain ⟨t2, a1, b1⟩ := kk v G' I' hp hR'.2.2.2.1 p e s m args below meth c T'.heap (locs ++ L) lz F (by rw [e1]; exact hR') (fun q hq => by
    rcases List.mem_append.mp hq with h | h
    · exact hL q h
    · exact hLL q h) hl T' rfl X'
  exact ⟨t2, stp t2 a1, b1⟩
theorem v_callV {Post : Option Value → w_Sh → w_Mm → Prop} {M' : w_M} {idx ci nA b : Nat} {As st0 : List Value} (hC : w_Ct E M' d (.ref b :: As) G I mc ms Post) (hw : w_mw M' nA) (hv : w_mv ci M') (hk : w_lk M.1.cls idx M') (hT : G.1 b = (ci, 0)) (hn : As.length = nA) (hst : st0 = As.reverse ++ .ref b :: st)
    (hf : d + 1 ≤ R.frames) (hlo : 8 + (M'.2.2.1 + 11) + 40 * d ≤ R.locals) (hcs : k + mc ≤ R.cells ∧ n + ms ≤ R.slots) (hrest : (st.map fun v => v.category).sum ≤ 8) (hd : Dc M pc (.invokevirtual idx) 3 pc')
    (kk : ∀ (v : Option Value) (G' : w_Sh) (I' : w_Mm), Post v G' I' → (∀ a k, inR (I' a k)) → w_V E M R Z G' I' (k + mc) (n + ms) pc' ls (v.toList ++ st)) : w_V E M R Z G I k n pc ls st0 := by
  obtain ⟨hd, rfl⟩ := hd
  subst hst
  intro p e s m args below meth c H locs lz F hR hL hl
  obtain ⟨hcode, hini, hnm, hds⟩ := hw
  obtain ⟨⟨q, hc, hqc⟩, hinst, hsel⟩ := hv
  have hts := F.1.2.2.2.2
  have ok : ∀ w ∈ w_good, w.before args s = true := fun w h => hts w (List.mem_cons_of_mem _ h)
  obtain ⟨cell, g1, g2, g3, -⟩ := w_obj hR hc hT
  have hrecv : ∃ cellB : Cell, H[b]? = some cellB ∧ cellB.vm.isStatics = false ∧ s.vm.findClass M'.1.cls = some cellB.cls := ⟨cell, g1, by rw [g3]; rfl, by rw [g2, ← hqc]; exact (F.2.2.2.1.1.1 ci q hc).2.1⟩
  have hpre : PreV s H M'.1.cls b (w_Pc E (.ref b :: As) G I) As := ⟨w_blind _, hrecv, fun U hU hW => ⟨rfl, by rw [hU]; exact hR, F.2.2.2.1.warm hW⟩⟩
  rcases hk with hk | ⟨host, hk⟩
  · refine w_after (va_runV (nL := M.2.2.1) (Ts := w_ws M) F.1 hC (cwV nA hts (fun w h => ?_) rfl rfl rfl ⟨rfl, hnm.1, hnm.2, hds⟩ ⟨hf, hlo⟩) hpre rfl hn hl.1 rfl (lv_room hrest) hd hcs) F hL hl kk
    unfold wsV at h
    rcases List.mem_append.mp h with h | h
    · have hg : w ∈ w_good := by
        simp only [List.mem_cons, List.not_mem_nil, or_false] at h
        rcases h with h | h | h | h <;> rw [h] <;> assumption
      exact w_good_of hg
    · exact w_GI hcode w h
  · refine w_after (va_runVN (nL := M.2.2.1) (Ts := w_ws M) (host := host) F.1 hC ⟨va_cnB nA hts (w_GI hcode) rfl rfl rfl (F.2.2.2.1.2.1 _ hk) (ok _ hini) ⟨hnm.1, hnm.2, hds⟩ ⟨hf, hlo⟩, ok _ hinst, ok _ hsel⟩ hpre rfl hn hl.1 rfl (lv_room hrest) hd hcs) F hL hl kk
theorem v_callS {Post : Option Value → w_Sh → w_Mm → Prop} {M' : w_M} {idx nA : Nat} {As st0 : List Value} (hC : w_Ct E M' d As G I mc ms Post) (hw : w_mw M' nA) (hs : Jvm.Cond.static M'.1 ∈ w_good) (hk : w_lk M.1.cls idx M') (hn : As.length = nA) (hst : st0 = As.reverse ++ st)
    (hf : d + 1 ≤ R.frames) (hlo : 8 + (M'.2.2.1 + 11) + 40 * d ≤ R.locals) (hcs : k + mc ≤ R.cells ∧ n + ms ≤ R.slots) (hrest : (st.map fun v => v.category).sum ≤ 8) (hd : Dc M pc (.invokestatic idx) 3 pc')
    (kk : ∀ (v : Option Value) (G' : w_Sh) (I' : w_Mm), Post v G' I' → (∀ a k, inR (I' a k)) → w_V E M R Z G' I' (k + mc) (n + ms) pc' ls (v.toList ++ st)) : w_V E M R Z G I k n pc ls st0 := by
  obtain ⟨hd, rfl⟩ := hd
  subst hst
  intro p e s m args below meth c H locs lz F hR hL hl
  obtain ⟨hcode, hini, hnm, hds⟩ := hw
  have hts := F.1.2.2.2.2
  have ok : ∀ w ∈ w_good, w.before args s = true := fun w h => hts w (List.mem_cons_of_mem _ h)
  have hpre : PreS s H (w_Pc E As G I) As := ⟨w_blind _, fun U hU hW => ⟨rfl, by rw [hU]; exact hR, F.2.2.2.1.warm hW⟩⟩
  rcases hk with hk | ⟨host, hk⟩
  · exact w_after (va_runS (nL := M.2.2.1) (Ts := w_ws M) F.1 hC ⟨callB_of nA hts (w_GI hcode) rfl rfl rfl (ok _ hini) (ok _ hk) ⟨hnm.1, hnm.2, hds⟩ ⟨hf, hlo⟩, ok _ hs⟩ hpre rfl hn hl.1 rfl (lv_room hrest) hd hcs) F hL hl kk
  · exact w_after (va_runSN (nL := M.2.2.1) (Ts := w_ws M) (host := host) F.1 hC ⟨va_cnB nA hts (w_GI hcode) rfl rfl rfl (F.2.2.2.1.2.1 _ hk) (ok _ hini) ⟨hnm.1, hnm.2, hds⟩ ⟨hf, hlo⟩, ok _ hs, trivial⟩ hpre rfl hn hl.1 rfl (lv_room hrest) hd hcs) F hL hl kk
theorem v_callI {Post : Option Value → w_Sh → w_Mm → Prop} {M' : w_M} {idx nA b : Nat} {As st0 : List Value} (hC : w_Ct E M' d (.ref b :: As) G I mc ms Post) (hw : w_mw M' nA) (hret : M'.2.2.2 = none) (hni : M'.1.name = "<init>") (hi : Jvm.Cond.instanceMethod M'.1 ∈ w_good) (hk : w_lk M.1.cls idx M') (hn : As.length = nA) (hst : st0 = As.reverse ++ .ref b :: st)
    (hf : d + 1 ≤ R.frames) (hlo : 8 + (M'.2.2.1 + 11) + 40 * d ≤ R.locals) (hcs : k + mc ≤ R.cells ∧ n + ms ≤ R.slots) (hrest : (st.map fun v => v.category).sum ≤ 8) (hd : Dc M pc (.invokespecial idx) 3 pc')
    (kk : ∀ (v : Option Value) (G' : w_Sh) (I' : w_Mm), Post v G' I' → (∀ a k, inR (I' a k)) → w_V E M R Z G' I' (k + mc) (n + ms) pc' ls (v.toList ++ st)) : w_V E M R Z G I k n pc ls st0 := by
  obtain ⟨hd, rfl⟩ := hd
  subst hst
  intro p e s m args below meth c H locs lz F hR hL hl
  obtain ⟨hcode, hini, hnm, hds⟩ := hw
  have hts := F.1.2.2.2.2
  have ok : ∀ w ∈ w_good, w.before args s = true := fun w h => hts w (List.mem_cons_of_mem _ h)
  have hpre : PreS s H (w_Pc E (.ref b :: As) G I) (.ref b :: As) := ⟨w_blind _, fun U hU hW => ⟨rfl, by rw [hU]; exact hR, F.2.2.2.1.warm hW⟩⟩
  have hws : w_ws M' = Jvm.Cond.code M'.1 M'.2.1 M'.2.2.1 none :: w_good := by rw [← hret]; rfl
  rcases hk with hk | ⟨host, hk⟩
  · exact w_after (va_runI (nL := M.2.2.1) (Ts := w_ws M) F.1 hC ⟨callB_of nA hts (w_GI hcode) hws rfl rfl (ok _ hini) (ok _ hk) ⟨hnm.1, hnm.2, hds⟩ ⟨hf, hlo⟩, hni, ok _ hi⟩ hpre rfl hn hl.1 rfl (lv_room hrest) hd hcs) F hL hl kk
  · exact w_after (va_runIN (nL := M.2.2.1) (Ts := w_ws M) (host := host) F.1 hC ⟨va_cnB nA hts (w_GI hcode) hws rfl rfl (F.2.2.2.1.2.1 _ hk) (ok _ hini) ⟨hnm.1, hnm.2, hds⟩ ⟨hf, hlo⟩, hni, ok _ hi⟩ hpre rfl hn hl.1 rfl (lv_room hrest) hd hcs) F hL hl kk
end Calls
end
section
section More
variable {E : w_E} {M : w_M} {R : Room} {Z : List Frame → Array Value → State → State → Prop} {G G' : w_Sh} {I I' : w_Mm} {k n pc pc' tgt d mc ms : Nat} {off : Int} {ls ls' : List (Option Value)} {st : List Value}
theorem w_rng {a f : Nat} {z : Int} (h : ∀ a k, inR (I a k)) (hz : inR z) : ∀ b j, inR (w_up I a f z b j) := fun b j => by
  by_cases e : b = a ∧ j = f
  · simp [w_up, e, hz]
  · rw [w_up_n e]; exact h b j
/-! ===== calls by what they answer ===== -/
def w_cV (C : String) (idx ci : Nat) (M' : w_M) (nA : Nat) : Prop := w_mw M' nA ∧ w_mv ci M' ∧ w_lk C idx M'
def w_cS (C : String) (idx : Nat) (M' : w_M) (nA : Nat) : Prop := w_mw M' nA ∧ Jvm.Cond.static M'.1 ∈ w_good ∧ w_lk C idx M'
def w_cI (C : String) (idx : Nat) (M' : w_M) (nA : Nat) : Prop := w_mw M' nA ∧ (M'.2.2.2 = none ∧ M'.1.name = "<init>") ∧ Jvm.Cond.instanceMethod M'.1 ∈ w_good ∧ w_lk C idx M'
def w_ro (R : Room) (d : Nat) (M' : w_M) : Prop := d + 1 ≤ R.frames ∧ 8 + (M'.2.2.1 + 11) + 40 * d ≤ R.locals
theorem v_Vi {post : Int → w_Sh → w_Mm → Prop} {M' : w_M} {idx ci nA b : Nat} {As st0 : List Value} (hC : w_Ct E M' d (.ref b :: As) G I mc ms (w_Pi post)) (hw : w_cV M.1.cls idx ci M' nA) (hT : G.1 b = (ci, 0)) (hn : As.length = nA) (hst : st0 = As.reverse ++ .ref b :: st)
    (hro : w_ro R d M') (hcs : k + mc ≤ R.cells ∧ n + ms ≤ R.slots) (hrest : (st.map fun v => v.category).sum ≤ 8) (hd : Dc M pc (.invokevirtual idx) 3 pc')
    (kk : ∀ (z : Int) (G' : w_Sh) (I' : w_Mm), inR z → post z G' I' → (∀ a k, inR (I' a k)) → w_V E M R Z G' I' (k + mc) (n + ms) pc' ls (iv z :: st)) : w_V E M R Z G I k n pc ls st0 :=
  v_callV hC hw.1 hw.2.1 hw.2.2 hT hn hst hro.1 hro.2 hcs hrest hd (fun v G' I' hp hr => by
    obtain ⟨z, rfl, hz, hp⟩ := hp
    exact kk z G' I' hz hp hr)
theorem v_Vv {post : w_Sh → w_Mm → Prop} {M' : w_M} {idx ci nA b : Nat} {As st0 : List Value} (hC : w_Ct E M' d (.ref b :: As) G I mc ms (w_Pv post)) (hw : w_cV M.1.cls idx ci M' nA) (hT : G.1 b = (ci, 0)) (hn : As.length = nA) (hst : st0 = As.reverse ++ .ref b :: st)
    (hro : w_ro R d M') (hcs : k + mc ≤ R.cells ∧ n + ms ≤ R.slots) (hrest : (st.map fun v => v.category).sum ≤ 8) (hd : Dc M pc (.invokevirtual idx) 3 pc')
    (kk : ∀ (G' : w_Sh) (I' : w_Mm), post G' I' → (∀ a k, inR (I' a k)) → w_V E M R Z G' I' (k + mc) (n + ms) pc' ls st) : w_V E M R Z G I k n pc ls st0 :=
  v_callV hC hw.1 hw.2.1 hw.2.2 hT hn hst hro.1 hro.2 hcs hrest hd (fun v G' I' hp hr => by
    obtain ⟨rfl, hp⟩ := hp
    exact kk G' I' hp hr)
theorem v_Vr {post : Option Nat → w_Sh → w_Mm → Prop} {M' : w_M} {idx ci nA b : Nat} {As st0 : List Value} (hC : w_Ct E M' d (.ref b :: As) G I mc ms (w_Pr post)) (hw : w_cV M.1.cls idx ci M' nA) (hT : G.1 b = (ci, 0)) (hn : As.length = nA) (hst : st0 = As.reverse ++ .ref b :: st)
    (hro : w_ro R d M') (hcs : k + mc ≤ R.cells ∧ n + ms ≤ R.slots) (hrest : (st.map fun v => v.category).sum ≤ 8) (hd : Dc M pc (.invokevirtual idx) 3 pc')
    (kk : ∀ (o : Option Nat) (G' : w_Sh) (I' : w_Mm), post o G' I' → (∀ a k, inR (I' a k)) → w_V E M R Z G' I' (k + mc) (n + ms) pc' ls (va_rf o :: st)) : w_V E M R Z G I k n pc ls st0 :=
  v_callV hC hw.1 hw.2.1 hw.2.2 hT hn hst hro.1 hro.2 hcs hrest hd (fun v G' I' hp hr => by
    obtain ⟨o, rfl, hp⟩ := hp
    exact kk o G' I' hp hr)
theorem v_Si {post : Int → w_Sh → w_Mm → Prop} {M' : w_M} {idx nA : Nat} {As st0 : List Value} (hC : w_Ct E M' d As G I mc ms (w_Pi post)) (hw : w_cS M.1.cls idx M' nA) (hn : As.length = nA) (hst : st0 = As.reverse ++ st)
    (hro : w_ro R d M') (hcs : k + mc ≤ R.cells ∧ n + ms ≤ R.slots) (hrest : (st.map fun v => v.category).sum ≤ 8) (hd : Dc M pc (.invokestatic idx) 3 pc')
    (kk : ∀ (z : Int) (G' : w_Sh) (I' : w_Mm), inR z → post z G' I' → (∀ a k, inR (I' a k)) → w_V E M R Z G' I' (k + mc) (n + ms) pc' ls (iv z :: st)) : w_V E M R Z G I k n pc ls st0 :=
  v_callS hC hw.1 hw.2.1 hw.2.2 hn hst hro.1 hro.2 hcs hrest hd (fun v G' I' hp hr => by
    obtain ⟨z, rfl, hz, hp⟩ := hp
    exact kk z G' I' hz hp hr)
theorem v_Iv {post : w_Sh → w_Mm → Prop} {M' : w_M} {idx nA b : Nat} {As st0 : List Value} (hC : w_Ct E M' d (.ref b :: As) G I mc ms (w_Pv post)) (hw : w_cI M.1.cls idx M' nA) (hn : As.length = nA) (hst : st0 = As.reverse ++ .ref b :: st)
    (hro : w_ro R d M') (hcs : k + mc ≤ R.cells ∧ n + ms ≤ R.slots) (hrest : (st.map fun v => v.category).sum ≤ 8) (hd : Dc M pc (.invokespecial idx) 3 pc')
    (kk : ∀ (G' : w_Sh) (I' : w_Mm), post G' I' → (∀ a k, inR (I' a k)) → w_V E M R Z G' I' (k + mc) (n + ms) pc' ls st) : w_V E M R Z G I k n pc ls st0 :=
  v_callI hC hw.1 hw.2.1.1 hw.2.1.2 hw.2.2.1 hw.2.2.2 hn hst hro.1 hro.2 hcs hrest hd (fun v G' I' hp hr => by
    obtain ⟨rfl, hp⟩ := hp
    exact kk G' I' hp hr)
/-- a method that makes nothing: its answer and the memory behind it are told -/
abbrev w_Cm (E : w_E) (M : w_M) (d : Nat) (as : List Value) (G : w_Sh) (I : w_Mm) (z : Int) (I1 : w_Mm) : Prop := w_Ct E M d as G I 0 0 (w_Pi (fun r G' I' => r = z ∧ G' = G ∧ I' = I1))
abbrev w_Cn (E : w_E) (M : w_M) (d : Nat) (as : List Value) (G : w_Sh) (I : w_Mm) (I1 : w_Mm) : Prop := w_Ct E M d as G I 0 0 (w_Pv (fun G' I' => G' = G ∧ I' = I1))
theorem v_Vm {M' : w_M} {idx ci nA b : Nat} {As st0 : List Value} {z : Int} {I1 : w_Mm} (hC : w_Cm E M' d (.ref b :: As) G I z I1) (hw : w_cV M.1.cls idx ci M' nA) (hT : G.1 b = (ci, 0)) (hn : As.length = nA) (hst : st0 = As.reverse ++ .ref b :: st)
    (hro : w_ro R d M') (hcs : k ≤ R.cells ∧ n ≤ R.slots) (hrest : (st.map fun v => v.category).sum ≤ 8) (hd : Dc M pc (.invokevirtual idx) 3 pc')
    (kk : inR z → (∀ a k, inR (I1 a k)) → w_V E M R Z G I1 k n pc' ls (iv z :: st)) : w_V E M R Z G I k n pc ls st0 :=
  v_Vi hC hw hT hn hst hro hcs hrest hd (fun z G' I' hz hp hr => by
    obtain ⟨rfl, rfl, rfl⟩ := hp
    exact kk hz hr)
theorem v_Vn {M' : w_M} {idx ci nA b : Nat} {As st0 : List Value} {I1 : w_Mm} (hC : w_Cn E M' d (.ref b :: As) G I I1) (hw : w_cV M.1.cls idx ci M' nA) (hT : G.1 b = (ci, 0)) (hn : As.length = nA) (hst : st0 = As.reverse ++ .ref b :: st)
    (hro : w_ro R d M') (hcs : k ≤ R.cells ∧ n ≤ R.slots) (hrest : (st.map fun v => v.category).sum ≤ 8) (hd : Dc M pc (.invokevirtual idx) 3 pc')
    (kk : (∀ a k, inR (I1 a k)) → w_V E M R Z G I1 k n pc' ls st) : w_V E M R Z G I k n pc ls st0 :=
  v_Vv hC hw hT hn hst hro hcs hrest hd (fun G' I' hp hr => by
    obtain ⟨rfl, rfl⟩ := hp
    exact kk hr)
theorem v_Sm {M' : w_M} {idx nA : Nat} {As st0 : List Value} {z : Int} {I1 : w_Mm} (hC : w_Cm E M' d As G I z I1) (hw : w_cS M.1.cls idx M' nA) (hn : As.length = nA) (hst : st0 = As.reverse ++ st)
    (hro : w_ro R d M') (hcs : k ≤ R.cells ∧ n ≤ R.slots) (hrest : (st.map fun v => v.category).sum ≤ 8) (hd : Dc M pc (.invokestatic idx) 3 pc')
    (kk : inR z → (∀ a k, inR (I1 a k)) → w_V E M R Z G I1 k n pc' ls (iv z :: st)) : w_V E M R Z G I k n pc ls st0 :=
  v_Si hC hw hn hst hro hcs hrest hd (fun z G' I' hz hp hr => by
    obtain ⟨rfl, rfl, rfl⟩ := hp
    exact kk hz hr)
/-! ===== the library's own ===== -/
theorem v_obj {idx a : Nat} (h1 : Jvm.Cond.methodLink M.1.cls idx Lib.objectInit ∈ w_good) (h2 : Jvm.Cond.instanceMethod Lib.objectInit ∈ w_good) (h3 : Jvm.Cond.code Lib.objectInit ⟨#[0xb1]⟩ 1 none ∈ w_good) (hf : 1 ≤ R.frames) (hlo : (st.map fun v => v.category).sum + 12 ≤ R.locals) (hd : Dc M pc (.invokespecial idx) 3 pc') (kk : w_V E M R Z G I k n pc' ls st) : w_V E M R Z G I k n pc ls (.ref a :: st) := by
  obtain ⟨hd, rfl⟩ := hd
  intro p e s m args below meth c H locs lz F hR hL hl
  have ok : ∀ w ∈ w_good, w.before args s = true := fun w h => F.1.2.2.2.2 w (List.mem_cons_of_mem _ h)
  exact W.objInit F.1.1 F.1.2.1 F.1.2.2.2.1 (ok _ h1) (ok _ h2) (ok _ h3) rfl (by rw [F.1.2.2.1]; exact hl.1) rfl hd hf (by show 2 * 0 + _ + 12 ≤ _; omega) (kk p e s m args below meth c H locs lz F hR hL hl)
theorem v_max {idx : Nat} {x y : Int} (hx : inR x) (hy : inR y) (h1 : Jvm.Cond.methodLink M.1.cls idx Lib.Math.max.name ∈ w_good) (h2 : Jvm.Cond.static Lib.Math.max.name ∈ w_good) (h3 : Jvm.Cond.initialized "java/lang/Math" ∈ w_good) (h4 : Jvm.Cond.code Lib.Math.max.name Lib.Math.max.code 2 (some .int) ∈ w_good) (hf : 1 ≤ R.frames) (hlo : (st.map fun v => v.category).sum + 13 ≤ R.locals) (hcs : k ≤ R.cells ∧ n ≤ R.slots) (hd : Dc M pc (.invokestatic idx) 3 pc') (kk : w_V E M R Z G I k n pc' ls (iv (if x < y then y else x) :: st)) : w_V E M R Z G I k n pc ls (iv y :: iv x :: st) := by
  obtain ⟨hd, rfl⟩ := hd
  intro p e s m args below meth c H locs lz F hR hL hl
  have ok : ∀ w ∈ w_good, w.before args s = true := fun w h => F.1.2.2.2.2 w (List.mem_cons_of_mem _ h)
  refine va_mmax F.1.1 F.1.2.1 (by rw [F.1.2.2.1]; exact hl.1.symm) F.1.2.2.2.1 (ok _ h1) (ok _ h2) (ok _ h3) (ok _ h4) hf hlo hcs.1 hcs.2 hd ?_
  have e1 : Value.int (if Int32.ofInt x < Int32.ofInt y then Int32.ofInt y else Int32.ofInt x) = iv (if x < y then y else x) := by
    by_cases h : x < y
    · rw [if_pos h, if_pos ((iv_lt hx hy).mpr h)]; rfl
    · rw [if_neg h, if_neg (fun q => h ((iv_lt hx hy).mp q))]; rfl
  rw [e1]
  exact kk p e s m args below meth c H locs lz F hR hL hl
theorem v_min {idx : Nat} {x y : Int} (hx : inR x) (hy : inR y) (h1 : Jvm.Cond.methodLink M.1.cls idx Lib.Math.min.name ∈ w_good) (h2 : Jvm.Cond.static Lib.Math.min.name ∈ w_good) (h3 : Jvm.Cond.initialized "java/lang/Math" ∈ w_good) (h4 : Jvm.Cond.code Lib.Math.min.name Lib.Math.min.code 2 (some .int) ∈ w_good) (hf : 1 ≤ R.frames) (hlo : (st.map fun v => v.category).sum + 13 ≤ R.locals) (hcs : k ≤ R.cells ∧ n ≤ R.slots) (hd : Dc M pc (.invokestatic idx) 3 pc') (kk : w_V E M R Z G I k n pc' ls (iv (if y < x then y else x) :: st)) : w_V E M R Z G I k n pc ls (iv y :: iv x :: st) := by
  obtain ⟨hd, rfl⟩ := hd
  intro p e s m args below meth c H locs lz F hR hL hl
  have ok : ∀ w ∈ w_good, w.before args s = true := fun w h => F.1.2.2.2.2 w (List.mem_cons_of_mem _ h)
  refine va_mmin F.1.1 F.1.2.1 (by rw [F.1.2.2.1]; exact hl.1.symm) F.1.2.2.2.1 (ok _ h1) (ok _ h2) (ok _ h3) (ok _ h4) hf hlo hcs.1 hcs.2 hd ?_
  have e1 : Value.int (if Int32.ofInt y < Int32.ofInt x then Int32.ofInt y else Int32.ofInt x) = iv (if y < x then y else x) := by
    by_cases h : y < x
    · rw [if_pos h, if_pos ((iv_lt hy hx).mpr h)]; rfl
    · rw [if_neg h, if_neg (fun q => h ((iv_lt hy hx).mp q))]; rfl
  rw [e1]
  exact kk p e s m args below meth c H locs lz F hR hL hl
/-- the first len places of row b into row a -/
def w_cpy (I : w_Mm) (b a len : Nat) : w_Mm := fun x j => if x = a ∧ j < len then I b j else I x j
theorem w_rngc {a b len : Nat} (h : ∀ a k, inR (I a k)) : ∀ x j, inR (w_cpy I b a len x j) := fun x j => by
  unfold w_cpy
  split
  · exact h b j
  · exact h x j
theorem v_copy {idx a b len : Nat} {x1 x2 x3 : Int} (hTa : G.1 a = (10, len)) (hTb : G.1 b = (10, len)) (hlen : len < 2147483648) (hx1 : x1 = 0) (hx2 : x2 = 0) (hx3 : x3 = (len : Int))
    (h1 : Jvm.Cond.methodLink M.1.cls idx arraycopyName ∈ w_good) (h2 : Jvm.Cond.native arraycopyName ∈ w_good) (h3 : Jvm.Cond.static arraycopyName ∈ w_good) (h4 : Jvm.Cond.initialized "java/lang/System" ∈ w_good) (hf : 1 ≤ R.frames) (hlo : (st.map fun v => v.category).sum + (nativeFrameWords "java/lang/System" "arraycopy" 5 + 11) ≤ R.locals) (hd : Dc M pc (.invokestatic idx) 3 pc')
    (kk : w_V E M R Z G (w_cpy I b a len) k n pc' ls st) : w_V E M R Z G I k n pc ls (iv x3 :: iv x2 :: .ref a :: iv x1 :: .ref b :: st) := by
  obtain ⟨hd, rfl⟩ := hd
  subst hx1; subst hx2; subst hx3
  intro p e s m args below meth c H locs lz F hR hL hl
  have ok : ∀ w ∈ w_good, w.before args s = true := fun w h => F.1.2.2.2.2 w (List.mem_cons_of_mem _ h)
  have hca := w_row hR ⟨by omega, by omega⟩ hTa
  have hcb := w_row hR ⟨by omega, by omega⟩ hTb
  obtain ⟨-, k0, hk0, cm0, hkk0⟩ := (F.2.2.2.1.1.2 0 _ rfl).1 len (fun j => iv (I b j))
  have c0 : (Int32.ofInt 0).toNatClampNeg = 0 := by decide
  have cl : (Int32.ofInt (len : Int)).toNatClampNeg = len := iv_clamp hlen
  have t0 : (Int32.ofInt 0).toInt = 0 := by decide
  have tl : (Int32.ofInt (len : Int)).toInt = (len : Int) := inR_toInt (inR_nat hlen)
  intro T hT X
  obtain ⟨vm', X', step⟩ := X.arraycopy F.1.1 F.1.2.2.2.1 (ok _ h1) (ok _ h2) (ok _ h3) (ok _ h4) (src := b) (dst := a) (cs := arrV (E.2.2.1 0) len (fun j => iv (I b j))) (cd := arrV (E.2.2.1 0) len (fun j => iv (I a j))) (srcPos := Int32.ofInt 0) (destPos := Int32.ofInt 0) (n := Int32.ofInt (len : Int)) (by rw [hT]; exact hcb) (by rw [hT]; exact hca)
    (fun _ h => by cases h) (fun _ h => by cases h) (fun h => by cases h) (fun h => by cases h) hk0 hk0 hkk0 hkk0 (by simp [refKind]) (by decide) (by decide) (iv_nneg (inR_nat hlen) (by omega))
    (by rw [t0, tl, arrV_size]; omega) (by rw [t0, tl, arrV_size]; omega)
    (fun vm₁ _ i hi => by
      rw [cl] at hi
      have e : (arrV (E.2.2.1 0) len (fun j => iv (I b j))).slots.getD ((Int32.ofInt 0).toNatClampNeg + i) .null = iv (I b i) := by
        rw [c0, Nat.zero_add, Array.getD_eq_getD_getElem?, arrV_read _ _ hi]
        rfl
      refine ⟨?_, ?_⟩
      · rw [e]; rfl
      · rw [e]; exact trivial)
    (g := F0 m pc lz (iv (len : Int) :: iv 0 :: .ref a :: iv 0 :: .ref b :: st)) rfl (by rw [F.1.2.2.1]; exact hl.1) (rest := st) rfl (by rw [F.1.2.1]; exact hd) hf (by show 2 * 0 + _ + _ ≤ _; omega)
  have e1 : copied (arrV (E.2.2.1 0) len (fun j => iv (I b j))) (arrV (E.2.2.1 0) len (fun j => iv (I a j))) (Int32.ofInt 0) (Int32.ofInt 0) (Int32.ofInt (len : Int)) = arrV (E.2.2.1 0) len (fun j => iv (va_cpy (I b) (I a) 0 0 len j)) := by
    have := va_copied iv (E.2.2.1 0) (E.2.2.1 0) (n0 := len) (n1 := len) (sp := 0) (dp := 0) (n := len) (I b) (I a) (by omega)
    unfold copied
    rw [c0, cl]
    exact this
  rw [e1] at X' step
  have hla : a < H.size := (Array.getElem?_eq_some_iff.mp hca).1
  have hTa' : (G.1 a).1 < 14 := by rw [hTa]; simp
  obtain ⟨t, a1, b1⟩ := kk p e s m args below meth c (H.setIfInBounds a (arrV (E.2.2.1 0) len (fun j => iv (va_cpy (I b) (I a) 0 0 len j)))) _ lz F (hR.set (I' := w_cpy I b a len) (a := a) hTa' rfl rfl (fun _ _ => rfl) (fun x hx => by funext j; simp [w_cpy, hx]) (fun j => w_rngc hR.2.2.2.1 a j) (by simp) (fun q hq => by simp [Array.getElem?_setIfInBounds, Ne.symm hq]) (by
      rw [hTa]
      unfold w_at
      rw [if_neg (by simp), if_pos (by simp)]
      show (H.setIfInBounds a _)[a]? = some (arrV (E.2.2.1 0) len _)
      rw [Array.getElem?_setIfInBounds, if_pos rfl, if_pos hla]
      congr 2
      funext j
      simp only [va_cpy, w_cpy, Nat.zero_add, Nat.zero_le, true_and, Nat.sub_zero])) (fun q hq => by
      rcases List.mem_append.mp hq with h | h
      · exact hL q h
      · obtain ⟨z, -, hz⟩ := List.mem_map.mp h
        rw [← hz]
        exact hR.2.2.2.2.1 a hTa') hl _ (by rw [← hT]; rfl) X'
  exact ⟨t, step t a1, b1⟩
/-! ===== switches ===== -/
theorem v_tswIn {x dflt lo hi : Int} {offs : Array Int} {len : Nat} (hd : decode M.2.1 pc = .ok (.tableswitch dflt lo hi offs, len)) (hx : inR x) (h1 : lo ≤ x) (h2 : x ≤ hi) (ho : offs[(x - lo).toNat]? = some off) (ht : (pc : Int) + off = (tgt : Int)) (kk : w_V E M R Z G I k n tgt ls st) : w_V E M R Z G I k n pc ls (iv x :: st) := by
  intro p e s m args below meth c H locs lz F hR hL hl
  exact lv_tableIn F.1.1 F.1.2.1 hd (by rw [inR_toInt hx]; omega) (by rw [inR_toInt hx]; omega) (by rw [inR_toInt hx]; exact ho) ht (kk p e s m args below meth c H locs lz F hR hL hl)
theorem v_tswOut {x dflt lo hi : Int} {offs : Array Int} {len : Nat} (hd : decode M.2.1 pc = .ok (.tableswitch dflt lo hi offs, len)) (hx : inR x) (h1 : x < lo ∨ hi < x) (ht : (pc : Int) + dflt = (tgt : Int)) (kk : w_V E M R Z G I k n tgt ls st) : w_V E M R Z G I k n pc ls (iv x :: st) := by
  intro p e s m args below meth c H locs lz F hR hL hl
  exact lv_tableOut F.1.1 F.1.2.1 hd (by rw [inR_toInt hx]; exact h1) ht (kk p e s m args below meth c H locs lz F hR hL hl)
theorem v_lsw {x dflt : Int} {ps : Array (Int × Int)} {len : Nat} (hd : decode M.2.1 pc = .ok (.lookupswitch dflt ps, len)) (hp : (ps.toList.zip (ps.toList.drop 1)).all (fun (a, next) => a.1 < next.1) = true) (hx : inR x) (ho : Op.lookupswitch.offset ps.toList dflt x = off) (ht : (pc : Int) + off = (tgt : Int)) (kk : w_V E M R Z G I k n tgt ls st) : w_V E M R Z G I k n pc ls (iv x :: st) := by
  intro p e s m args below meth c H locs lz F hR hL hl
  exact lv_lookup F.1.1 F.1.2.1 hd hp (by rw [inR_toInt hx]; exact ho) ht (kk p e s m args below meth c H locs lz F hR hL hl)
/-! ===== the law's script ===== -/
theorem v_sld {i : Nat} {x : Int} (hx : x = (i : Int)) (hi : i < E.2.2.2.2.2.1) (hlen : E.2.2.2.2.2.1 < 2147483648) (hd : Dc M pc .iaload 1 pc') (kk : w_V E M R Z G I k n pc' ls (iv (E.2.2.2.2.2.2 i).toInt :: st)) : w_V E M R Z G I k n pc ls (iv x :: .ref E.2.2.2.2.1 :: st) := by
  obtain ⟨hd, rfl⟩ := hd
  intro p e s m args below meth c H locs lz F hR hL hl
  obtain ⟨h1, h2⟩ := w_ix hx hi hlen
  obtain ⟨⟨scr, g1, g2, g3, g4, g5⟩, hb⟩ := F.2.2.2.1.2.2.2.2
  have hk := kk p e s m args below meth c H locs lz F hR hL hl
  rw [← iv_of] at hk
  exact W.iald (v := .int (E.2.2.2.2.2.2 i)) F.1.1 F.1.2.1 (by rw [hR.2.2.2.2.2 _ hb]; exact g1) g2 g3 (by rw [g4]; exact h1) (by rw [h2]; exact g5 i hi) rfl rfl hd hk
theorem v_slen (hlen : E.2.2.2.2.2.1 < 2147483648) (hd : Dc M pc .arraylength 1 pc') (kk : w_V E M R Z G I k n pc' ls (iv (E.2.2.2.2.2.1 : Int) :: st)) : w_V E M R Z G I k n pc ls (.ref E.2.2.2.2.1 :: st) := by
  obtain ⟨hd, rfl⟩ := hd
  intro p e s m args below meth c H locs lz F hR hL hl
  obtain ⟨⟨scr, g1, g2, g3, g4, g5⟩, hb⟩ := F.2.2.2.1.2.2.2.2
  have hk := kk p e s m args below meth c H locs lz F hR hL hl
  exact W.alen (n := Int32.ofInt (E.2.2.2.2.2.1 : Int)) F.1.1 F.1.2.1 (by rw [hR.2.2.2.2.2 _ hb]; exact g1) g2 (by rw [g4, Int32.ofInt_eq_ofNat]) rfl rfl hd hk
end More
end
