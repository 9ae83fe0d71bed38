-- ===== PART A: goes FIRST, ahead of the names: the tables' words, and 'selects' of the private methods out of them =====
/-- a private method of a class that the tables say can be made, by its rows of tables_1 -/
def lw_okq (q : MethodName × Nat) : Prop := (q.1.cls ≠ "java/lang/invoke/MethodHandle" ∧ q.1.cls ≠ "java/lang/invoke/VarHandle") ∧ Cond.instantiable q.1.cls q.2 ∈ tables_1 ∧ Cond.privateMethod q.1 ∈ tables_1 ∧ Cond.instanceMethod q.1 ∈ tables_1
theorem lw_p0 : lw_okq (⟨"SeamMere$Reader", "readNumbers", "([III)I"⟩, 3) := ⟨⟨by decide +kernel, by decide +kernel⟩, List.mem_of_getElem? (i := 26) (by decide +kernel), List.mem_of_getElem? (i := 303) (by decide +kernel), List.mem_of_getElem? (i := 304) (by decide +kernel)⟩
theorem lw_p1 : lw_okq (⟨"SeamMere$Reader", "takeItem", "(ILSeamMere$Mere;)Z"⟩, 3) := ⟨⟨by decide +kernel, by decide +kernel⟩, List.mem_of_getElem? (i := 26) (by decide +kernel), List.mem_of_getElem? (i := 314) (by decide +kernel), List.mem_of_getElem? (i := 315) (by decide +kernel)⟩
theorem lw_p2 : lw_okq (⟨"SeamMere$Reader", "takePieces", "(LSeamMere$Mere;)Z"⟩, 3) := ⟨⟨by decide +kernel, by decide +kernel⟩, List.mem_of_getElem? (i := 26) (by decide +kernel), List.mem_of_getElem? (i := 318) (by decide +kernel), List.mem_of_getElem? (i := 319) (by decide +kernel)⟩
theorem lw_p3 : lw_okq (⟨"SeamMere$Reader", "has", "(III)Z"⟩, 3) := ⟨⟨by decide +kernel, by decide +kernel⟩, List.mem_of_getElem? (i := 26) (by decide +kernel), List.mem_of_getElem? (i := 322) (by decide +kernel), List.mem_of_getElem? (i := 323) (by decide +kernel)⟩
theorem lw_p4 : lw_okq (⟨"SeamMere$Reader", "takeGap", "(LSeamMere$Mere;)Z"⟩, 3) := ⟨⟨by decide +kernel, by decide +kernel⟩, List.mem_of_getElem? (i := 26) (by decide +kernel), List.mem_of_getElem? (i := 326) (by decide +kernel), List.mem_of_getElem? (i := 327) (by decide +kernel)⟩
theorem lw_p5 : lw_okq (⟨"SeamMere$Reader", "takeStitcher", "(LSeamMere$Mere;)Z"⟩, 3) := ⟨⟨by decide +kernel, by decide +kernel⟩, List.mem_of_getElem? (i := 26) (by decide +kernel), List.mem_of_getElem? (i := 336) (by decide +kernel), List.mem_of_getElem? (i := 337) (by decide +kernel)⟩
theorem lw_p6 : lw_okq (⟨"SeamMere$Reader", "takeLight", "(LSeamMere$Mere;)Z"⟩, 3) := ⟨⟨by decide +kernel, by decide +kernel⟩, List.mem_of_getElem? (i := 26) (by decide +kernel), List.mem_of_getElem? (i := 344) (by decide +kernel), List.mem_of_getElem? (i := 345) (by decide +kernel)⟩
theorem lw_p7 : lw_okq (⟨"SeamMere$Reader", "takeRain", "(LSeamMere$Mere;)Z"⟩, 3) := ⟨⟨by decide +kernel, by decide +kernel⟩, List.mem_of_getElem? (i := 26) (by decide +kernel), List.mem_of_getElem? (i := 348) (by decide +kernel), List.mem_of_getElem? (i := 349) (by decide +kernel)⟩
theorem lw_p8 : lw_okq (⟨"SeamMere", "beginAnew", "()V"⟩, 13) := ⟨⟨by decide +kernel, by decide +kernel⟩, List.mem_of_getElem? (i := 18) (by decide +kernel), List.mem_of_getElem? (i := 356) (by decide +kernel), List.mem_of_getElem? (i := 357) (by decide +kernel)⟩
theorem lw_p9 : lw_okq (⟨"SeamMere", "isGap", "(I)Z"⟩, 13) := ⟨⟨by decide +kernel, by decide +kernel⟩, List.mem_of_getElem? (i := 18) (by decide +kernel), List.mem_of_getElem? (i := 438) (by decide +kernel), List.mem_of_getElem? (i := 439) (by decide +kernel)⟩
theorem lw_p10 : lw_okq (⟨"SeamMere", "isStitcher", "(I)Z"⟩, 13) := ⟨⟨by decide +kernel, by decide +kernel⟩, List.mem_of_getElem? (i := 18) (by decide +kernel), List.mem_of_getElem? (i := 464) (by decide +kernel), List.mem_of_getElem? (i := 465) (by decide +kernel)⟩
theorem lw_p11 : lw_okq (⟨"SeamMere", "isPiece", "(I)Z"⟩, 13) := ⟨⟨by decide +kernel, by decide +kernel⟩, List.mem_of_getElem? (i := 18) (by decide +kernel), List.mem_of_getElem? (i := 493) (by decide +kernel), List.mem_of_getElem? (i := 494) (by decide +kernel)⟩
theorem lw_p12 : lw_okq (⟨"SeamMere$Heaps", "merge", "(II)V"⟩, 1) := ⟨⟨by decide +kernel, by decide +kernel⟩, List.mem_of_getElem? (i := 173) (by decide +kernel), List.mem_of_getElem? (i := 515) (by decide +kernel), List.mem_of_getElem? (i := 516) (by decide +kernel)⟩
theorem lw_p13 : lw_okq (⟨"SeamMere$Shelf", "slotOf", "(I)I"⟩, 3) := ⟨⟨by decide +kernel, by decide +kernel⟩, List.mem_of_getElem? (i := 111) (by decide +kernel), List.mem_of_getElem? (i := 531) (by decide +kernel), List.mem_of_getElem? (i := 532) (by decide +kernel)⟩
theorem lw_p14 : lw_okq (⟨"SeamMere$Shelf", "standingAt", "(I)LSeamMere$Standing;"⟩, 3) := ⟨⟨by decide +kernel, by decide +kernel⟩, List.mem_of_getElem? (i := 111) (by decide +kernel), List.mem_of_getElem? (i := 535) (by decide +kernel), List.mem_of_getElem? (i := 536) (by decide +kernel)⟩
theorem lw_p15 : lw_okq (⟨"SeamMere$Standing", "flyOrSew", "(LSeamMere$Mere;I)V"⟩, 4) := ⟨⟨by decide +kernel, by decide +kernel⟩, List.mem_of_getElem? (i := 91) (by decide +kernel), List.mem_of_getElem? (i := 561) (by decide +kernel), List.mem_of_getElem? (i := 562) (by decide +kernel)⟩
def lw_privs_1 : List (MethodName × Nat) := [(⟨"SeamMere$Reader", "readNumbers", "([III)I"⟩, 3), (⟨"SeamMere$Reader", "takeItem", "(ILSeamMere$Mere;)Z"⟩, 3), (⟨"SeamMere$Reader", "takePieces", "(LSeamMere$Mere;)Z"⟩, 3), (⟨"SeamMere$Reader", "has", "(III)Z"⟩, 3), (⟨"SeamMere$Reader", "takeGap", "(LSeamMere$Mere;)Z"⟩, 3), (⟨"SeamMere$Reader", "takeStitcher", "(LSeamMere$Mere;)Z"⟩, 3), (⟨"SeamMere$Reader", "takeLight", "(LSeamMere$Mere;)Z"⟩, 3), (⟨"SeamMere$Reader", "takeRain", "(LSeamMere$Mere;)Z"⟩, 3), (⟨"SeamMere", "beginAnew", "()V"⟩, 13), (⟨"SeamMere", "isGap", "(I)Z"⟩, 13), (⟨"SeamMere", "isStitcher", "(I)Z"⟩, 13), (⟨"SeamMere", "isPiece", "(I)Z"⟩, 13), (⟨"SeamMere$Heaps", "merge", "(II)V"⟩, 1), (⟨"SeamMere$Shelf", "slotOf", "(I)I"⟩, 3), (⟨"SeamMere$Shelf", "standingAt", "(I)LSeamMere$Standing;"⟩, 3), (⟨"SeamMere$Standing", "flyOrSew", "(LSeamMere$Mere;I)V"⟩, 4)]
theorem lw_r1 : ∀ q ∈ lw_privs_1, lw_okq q := List.forall_mem_cons.mpr ⟨lw_p0, List.forall_mem_cons.mpr ⟨lw_p1, List.forall_mem_cons.mpr ⟨lw_p2, List.forall_mem_cons.mpr ⟨lw_p3, List.forall_mem_cons.mpr ⟨lw_p4, List.forall_mem_cons.mpr ⟨lw_p5, List.forall_mem_cons.mpr ⟨lw_p6, List.forall_mem_cons.mpr ⟨lw_p7, List.forall_mem_cons.mpr ⟨lw_p8, List.forall_mem_cons.mpr ⟨lw_p9, List.forall_mem_cons.mpr ⟨lw_p10, List.forall_mem_cons.mpr ⟨lw_p11, List.forall_mem_cons.mpr ⟨lw_p12, List.forall_mem_cons.mpr ⟨lw_p13, List.forall_mem_cons.mpr ⟨lw_p14, List.forall_mem_cons.mpr ⟨lw_p15, fun _ h => absurd h List.not_mem_nil⟩⟩⟩⟩⟩⟩⟩⟩⟩⟩⟩⟩⟩⟩⟩⟩
theorem lw_p16 : lw_okq (⟨"SeamMere$Standing", "callOffFrom", "(I)V"⟩, 4) := ⟨⟨by decide +kernel, by decide +kernel⟩, List.mem_of_getElem? (i := 91) (by decide +kernel), List.mem_of_getElem? (i := 573) (by decide +kernel), List.mem_of_getElem? (i := 574) (by decide +kernel)⟩
theorem lw_p17 : lw_okq (⟨"SeamMere$Standing", "unpick", "(LSeamMere$Mere;)V"⟩, 4) := ⟨⟨by decide +kernel, by decide +kernel⟩, List.mem_of_getElem? (i := 91) (by decide +kernel), List.mem_of_getElem? (i := 577) (by decide +kernel), List.mem_of_getElem? (i := 578) (by decide +kernel)⟩
theorem lw_p18 : lw_okq (⟨"SeamMere$RowSearch", "standingBehind", "(I)LSeamMere$Standing;"⟩, 7) := ⟨⟨by decide +kernel, by decide +kernel⟩, List.mem_of_getElem? (i := 183) (by decide +kernel), List.mem_of_getElem? (i := 629) (by decide +kernel), List.mem_of_getElem? (i := 630) (by decide +kernel)⟩
theorem lw_p19 : lw_okq (⟨"SeamMere$RowSearch", "lengthen", "(LSeamMere$Mere;II)V"⟩, 7) := ⟨⟨by decide +kernel, by decide +kernel⟩, List.mem_of_getElem? (i := 183) (by decide +kernel), List.mem_of_getElem? (i := 638) (by decide +kernel), List.mem_of_getElem? (i := 639) (by decide +kernel)⟩
theorem lw_p20 : lw_okq (⟨"SeamMere$RowSearch", "tryNext", "(LSeamMere$Mere;LSeamMere$Standing;III)V"⟩, 7) := ⟨⟨by decide +kernel, by decide +kernel⟩, List.mem_of_getElem? (i := 183) (by decide +kernel), List.mem_of_getElem? (i := 643) (by decide +kernel), List.mem_of_getElem? (i := 644) (by decide +kernel)⟩
theorem lw_p21 : lw_okq (⟨"SeamMere$RowSearch", "noteIfBetter", "(II)V"⟩, 7) := ⟨⟨by decide +kernel, by decide +kernel⟩, List.mem_of_getElem? (i := 183) (by decide +kernel), List.mem_of_getElem? (i := 650) (by decide +kernel), List.mem_of_getElem? (i := 651) (by decide +kernel)⟩
theorem lw_p22 : lw_okq (⟨"SeamMere$DealSearch", "choose", "(LSeamMere$Mere;III)V"⟩, 5) := ⟨⟨by decide +kernel, by decide +kernel⟩, List.mem_of_getElem? (i := 216) (by decide +kernel), List.mem_of_getElem? (i := 675) (by decide +kernel), List.mem_of_getElem? (i := 676) (by decide +kernel)⟩
theorem lw_p23 : lw_okq (⟨"SeamMere$DealSearch", "noteIfBetter", "(I)V"⟩, 5) := ⟨⟨by decide +kernel, by decide +kernel⟩, List.mem_of_getElem? (i := 216) (by decide +kernel), List.mem_of_getElem? (i := 679) (by decide +kernel), List.mem_of_getElem? (i := 680) (by decide +kernel)⟩
theorem lw_p24 : lw_okq (⟨"SeamMere$DealSearch", "tryGoal", "(LSeamMere$Mere;IIII)V"⟩, 5) := ⟨⟨by decide +kernel, by decide +kernel⟩, List.mem_of_getElem? (i := 216) (by decide +kernel), List.mem_of_getElem? (i := 684) (by decide +kernel), List.mem_of_getElem? (i := 685) (by decide +kernel)⟩
theorem lw_p25 : lw_okq (⟨"SeamMere$Heaps", "sizeWith", "(I)I"⟩, 1) := ⟨⟨by decide +kernel, by decide +kernel⟩, List.mem_of_getElem? (i := 173) (by decide +kernel), List.mem_of_getElem? (i := 711) (by decide +kernel), List.mem_of_getElem? (i := 712) (by decide +kernel)⟩
theorem lw_p26 : lw_okq (⟨"SeamMere$Seen", "clearWeights", "()V"⟩, 9) := ⟨⟨by decide +kernel, by decide +kernel⟩, List.mem_of_getElem? (i := 134) (by decide +kernel), List.mem_of_getElem? (i := 737) (by decide +kernel), List.mem_of_getElem? (i := 738) (by decide +kernel)⟩
theorem lw_p27 : lw_okq (⟨"SeamMere$Seen", "fits", "(LSeamMere$Heaps;)Z"⟩, 9) := ⟨⟨by decide +kernel, by decide +kernel⟩, List.mem_of_getElem? (i := 134) (by decide +kernel), List.mem_of_getElem? (i := 742) (by decide +kernel), List.mem_of_getElem? (i := 743) (by decide +kernel)⟩
theorem lw_p28 : lw_okq (⟨"SeamMere$Seen", "countPairs", "(LSeamMere$Mere;LSeamMere$Heaps;)V"⟩, 9) := ⟨⟨by decide +kernel, by decide +kernel⟩, List.mem_of_getElem? (i := 134) (by decide +kernel), List.mem_of_getElem? (i := 749) (by decide +kernel), List.mem_of_getElem? (i := 750) (by decide +kernel)⟩
theorem lw_p29 : lw_okq (⟨"SeamMere$Seen", "isSeen", "(II)Z"⟩, 9) := ⟨⟨by decide +kernel, by decide +kernel⟩, List.mem_of_getElem? (i := 134) (by decide +kernel), List.mem_of_getElem? (i := 762) (by decide +kernel), List.mem_of_getElem? (i := 763) (by decide +kernel)⟩
theorem lw_p30 : lw_okq (⟨"SeamMere", "isClosedBehind", "(III)Z"⟩, 13) := ⟨⟨by decide +kernel, by decide +kernel⟩, List.mem_of_getElem? (i := 18) (by decide +kernel), List.mem_of_getElem? (i := 774) (by decide +kernel), List.mem_of_getElem? (i := 775) (by decide +kernel)⟩
theorem lw_p31 : lw_okq (⟨"SeamMere", "actByDraw", "(I)V"⟩, 13) := ⟨⟨by decide +kernel, by decide +kernel⟩, List.mem_of_getElem? (i := 18) (by decide +kernel), List.mem_of_getElem? (i := 792) (by decide +kernel), List.mem_of_getElem? (i := 793) (by decide +kernel)⟩
def lw_privs_2 : List (MethodName × Nat) := [(⟨"SeamMere$Standing", "callOffFrom", "(I)V"⟩, 4), (⟨"SeamMere$Standing", "unpick", "(LSeamMere$Mere;)V"⟩, 4), (⟨"SeamMere$RowSearch", "standingBehind", "(I)LSeamMere$Standing;"⟩, 7), (⟨"SeamMere$RowSearch", "lengthen", "(LSeamMere$Mere;II)V"⟩, 7), (⟨"SeamMere$RowSearch", "tryNext", "(LSeamMere$Mere;LSeamMere$Standing;III)V"⟩, 7), (⟨"SeamMere$RowSearch", "noteIfBetter", "(II)V"⟩, 7), (⟨"SeamMere$DealSearch", "choose", "(LSeamMere$Mere;III)V"⟩, 5), (⟨"SeamMere$DealSearch", "noteIfBetter", "(I)V"⟩, 5), (⟨"SeamMere$DealSearch", "tryGoal", "(LSeamMere$Mere;IIII)V"⟩, 5), (⟨"SeamMere$Heaps", "sizeWith", "(I)I"⟩, 1), (⟨"SeamMere$Seen", "clearWeights", "()V"⟩, 9), (⟨"SeamMere$Seen", "fits", "(LSeamMere$Heaps;)Z"⟩, 9), (⟨"SeamMere$Seen", "countPairs", "(LSeamMere$Mere;LSeamMere$Heaps;)V"⟩, 9), (⟨"SeamMere$Seen", "isSeen", "(II)Z"⟩, 9), (⟨"SeamMere", "isClosedBehind", "(III)Z"⟩, 13), (⟨"SeamMere", "actByDraw", "(I)V"⟩, 13)]
theorem lw_r2 : ∀ q ∈ lw_privs_2, lw_okq q := List.forall_mem_cons.mpr ⟨lw_p16, List.forall_mem_cons.mpr ⟨lw_p17, List.forall_mem_cons.mpr ⟨lw_p18, List.forall_mem_cons.mpr ⟨lw_p19, List.forall_mem_cons.mpr ⟨lw_p20, List.forall_mem_cons.mpr ⟨lw_p21, List.forall_mem_cons.mpr ⟨lw_p22, List.forall_mem_cons.mpr ⟨lw_p23, List.forall_mem_cons.mpr ⟨lw_p24, List.forall_mem_cons.mpr ⟨lw_p25, List.forall_mem_cons.mpr ⟨lw_p26, List.forall_mem_cons.mpr ⟨lw_p27, List.forall_mem_cons.mpr ⟨lw_p28, List.forall_mem_cons.mpr ⟨lw_p29, List.forall_mem_cons.mpr ⟨lw_p30, List.forall_mem_cons.mpr ⟨lw_p31, fun _ h => absurd h List.not_mem_nil⟩⟩⟩⟩⟩⟩⟩⟩⟩⟩⟩⟩⟩⟩⟩⟩
theorem lw_p32 : lw_okq (⟨"SeamMereModel", "gapTold", "(IIIII)V"⟩, 19) := ⟨⟨by decide +kernel, by decide +kernel⟩, List.mem_of_getElem? (i := 821) (by decide +kernel), List.mem_of_getElem? (i := 827) (by decide +kernel), List.mem_of_getElem? (i := 828) (by decide +kernel)⟩
theorem lw_p33 : lw_okq (⟨"SeamMereModel", "stitcherTold", "(III)V"⟩, 19) := ⟨⟨by decide +kernel, by decide +kernel⟩, List.mem_of_getElem? (i := 821) (by decide +kernel), List.mem_of_getElem? (i := 831) (by decide +kernel), List.mem_of_getElem? (i := 832) (by decide +kernel)⟩
theorem lw_p34 : lw_okq (⟨"SeamMereModel", "readsItem", "()Z"⟩, 19) := ⟨⟨by decide +kernel, by decide +kernel⟩, List.mem_of_getElem? (i := 821) (by decide +kernel), List.mem_of_getElem? (i := 908) (by decide +kernel), List.mem_of_getElem? (i := 909) (by decide +kernel)⟩
theorem lw_p35 : lw_okq (⟨"SeamMereModel", "letterAt", "(I)I"⟩, 19) := ⟨⟨by decide +kernel, by decide +kernel⟩, List.mem_of_getElem? (i := 821) (by decide +kernel), List.mem_of_getElem? (i := 912) (by decide +kernel), List.mem_of_getElem? (i := 913) (by decide +kernel)⟩
theorem lw_p36 : lw_okq (⟨"SeamMereModel", "readsPieces", "()Z"⟩, 19) := ⟨⟨by decide +kernel, by decide +kernel⟩, List.mem_of_getElem? (i := 821) (by decide +kernel), List.mem_of_getElem? (i := 916) (by decide +kernel), List.mem_of_getElem? (i := 917) (by decide +kernel)⟩
theorem lw_p37 : lw_okq (⟨"SeamMereModel", "readsNumbers", "(I)Z"⟩, 19) := ⟨⟨by decide +kernel, by decide +kernel⟩, List.mem_of_getElem? (i := 821) (by decide +kernel), List.mem_of_getElem? (i := 920) (by decide +kernel), List.mem_of_getElem? (i := 921) (by decide +kernel)⟩
theorem lw_p38 : lw_okq (⟨"SeamMereModel", "readsGap", "()Z"⟩, 19) := ⟨⟨by decide +kernel, by decide +kernel⟩, List.mem_of_getElem? (i := 821) (by decide +kernel), List.mem_of_getElem? (i := 927) (by decide +kernel), List.mem_of_getElem? (i := 928) (by decide +kernel)⟩
theorem lw_p39 : lw_okq (⟨"SeamMereModel", "readsStitcher", "()Z"⟩, 19) := ⟨⟨by decide +kernel, by decide +kernel⟩, List.mem_of_getElem? (i := 821) (by decide +kernel), List.mem_of_getElem? (i := 931) (by decide +kernel), List.mem_of_getElem? (i := 932) (by decide +kernel)⟩
theorem lw_p40 : lw_okq (⟨"SeamMereModel", "readsLight", "()Z"⟩, 19) := ⟨⟨by decide +kernel, by decide +kernel⟩, List.mem_of_getElem? (i := 821) (by decide +kernel), List.mem_of_getElem? (i := 935) (by decide +kernel), List.mem_of_getElem? (i := 936) (by decide +kernel)⟩
theorem lw_p41 : lw_okq (⟨"SeamMereModel", "readsRain", "()Z"⟩, 19) := ⟨⟨by decide +kernel, by decide +kernel⟩, List.mem_of_getElem? (i := 821) (by decide +kernel), List.mem_of_getElem? (i := 939) (by decide +kernel), List.mem_of_getElem? (i := 940) (by decide +kernel)⟩
theorem lw_p42 : lw_okq (⟨"SeamMereModel", "isGap", "(I)Z"⟩, 19) := ⟨⟨by decide +kernel, by decide +kernel⟩, List.mem_of_getElem? (i := 821) (by decide +kernel), List.mem_of_getElem? (i := 952) (by decide +kernel), List.mem_of_getElem? (i := 953) (by decide +kernel)⟩
theorem lw_p43 : lw_okq (⟨"SeamMereModel", "of", "(II)I"⟩, 19) := ⟨⟨by decide +kernel, by decide +kernel⟩, List.mem_of_getElem? (i := 821) (by decide +kernel), List.mem_of_getElem? (i := 956) (by decide +kernel), List.mem_of_getElem? (i := 957) (by decide +kernel)⟩
theorem lw_p44 : lw_okq (⟨"SeamMereModel", "isClosed", "([II)Z"⟩, 19) := ⟨⟨by decide +kernel, by decide +kernel⟩, List.mem_of_getElem? (i := 821) (by decide +kernel), List.mem_of_getElem? (i := 960) (by decide +kernel), List.mem_of_getElem? (i := 961) (by decide +kernel)⟩
theorem lw_p45 : lw_okq (⟨"SeamMereModel", "isStitcher", "(I)Z"⟩, 19) := ⟨⟨by decide +kernel, by decide +kernel⟩, List.mem_of_getElem? (i := 821) (by decide +kernel), List.mem_of_getElem? (i := 968) (by decide +kernel), List.mem_of_getElem? (i := 969) (by decide +kernel)⟩
theorem lw_p46 : lw_okq (⟨"SeamMereModel", "isLight", "(I)Z"⟩, 19) := ⟨⟨by decide +kernel, by decide +kernel⟩, List.mem_of_getElem? (i := 821) (by decide +kernel), List.mem_of_getElem? (i := 976) (by decide +kernel), List.mem_of_getElem? (i := 977) (by decide +kernel)⟩
theorem lw_p47 : lw_okq (⟨"SeamMereModel", "rains", "(I)Z"⟩, 19) := ⟨⟨by decide +kernel, by decide +kernel⟩, List.mem_of_getElem? (i := 821) (by decide +kernel), List.mem_of_getElem? (i := 980) (by decide +kernel), List.mem_of_getElem? (i := 981) (by decide +kernel)⟩
def lw_privs_3 : List (MethodName × Nat) := [(⟨"SeamMereModel", "gapTold", "(IIIII)V"⟩, 19), (⟨"SeamMereModel", "stitcherTold", "(III)V"⟩, 19), (⟨"SeamMereModel", "readsItem", "()Z"⟩, 19), (⟨"SeamMereModel", "letterAt", "(I)I"⟩, 19), (⟨"SeamMereModel", "readsPieces", "()Z"⟩, 19), (⟨"SeamMereModel", "readsNumbers", "(I)Z"⟩, 19), (⟨"SeamMereModel", "readsGap", "()Z"⟩, 19), (⟨"SeamMereModel", "readsStitcher", "()Z"⟩, 19), (⟨"SeamMereModel", "readsLight", "()Z"⟩, 19), (⟨"SeamMereModel", "readsRain", "()Z"⟩, 19), (⟨"SeamMereModel", "isGap", "(I)Z"⟩, 19), (⟨"SeamMereModel", "of", "(II)I"⟩, 19), (⟨"SeamMereModel", "isClosed", "([II)Z"⟩, 19), (⟨"SeamMereModel", "isStitcher", "(I)Z"⟩, 19), (⟨"SeamMereModel", "isLight", "(I)Z"⟩, 19), (⟨"SeamMereModel", "rains", "(I)Z"⟩, 19)]
theorem lw_r3 : ∀ q ∈ lw_privs_3, lw_okq q := List.forall_mem_cons.mpr ⟨lw_p32, List.forall_mem_cons.mpr ⟨lw_p33, List.forall_mem_cons.mpr ⟨lw_p34, List.forall_mem_cons.mpr ⟨lw_p35, List.forall_mem_cons.mpr ⟨lw_p36, List.forall_mem_cons.mpr ⟨lw_p37, List.forall_mem_cons.mpr ⟨lw_p38, List.forall_mem_cons.mpr ⟨lw_p39, List.forall_mem_cons.mpr ⟨lw_p40, List.forall_mem_cons.mpr ⟨lw_p41, List.forall_mem_cons.mpr ⟨lw_p42, List.forall_mem_cons.mpr ⟨lw_p43, List.forall_mem_cons.mpr ⟨lw_p44, List.forall_mem_cons.mpr ⟨lw_p45, List.forall_mem_cons.mpr ⟨lw_p46, List.forall_mem_cons.mpr ⟨lw_p47, fun _ h => absurd h List.not_mem_nil⟩⟩⟩⟩⟩⟩⟩⟩⟩⟩⟩⟩⟩⟩⟩⟩
theorem lw_p48 : lw_okq (⟨"SeamMereModel", "isPiece", "(I)Z"⟩, 19) := ⟨⟨by decide +kernel, by decide +kernel⟩, List.mem_of_getElem? (i := 821) (by decide +kernel), List.mem_of_getElem? (i := 988) (by decide +kernel), List.mem_of_getElem? (i := 989) (by decide +kernel)⟩
theorem lw_p49 : lw_okq (⟨"SeamMereModel", "closed", "([I)I"⟩, 19) := ⟨⟨by decide +kernel, by decide +kernel⟩, List.mem_of_getElem? (i := 821) (by decide +kernel), List.mem_of_getElem? (i := 992) (by decide +kernel), List.mem_of_getElem? (i := 993) (by decide +kernel)⟩
theorem lw_p50 : lw_okq (⟨"SeamMereModel", "reached", "(II)I"⟩, 19) := ⟨⟨by decide +kernel, by decide +kernel⟩, List.mem_of_getElem? (i := 821) (by decide +kernel), List.mem_of_getElem? (i := 996) (by decide +kernel), List.mem_of_getElem? (i := 997) (by decide +kernel)⟩
theorem lw_p51 : lw_okq (⟨"SeamMereModel", "onward", "(II)I"⟩, 19) := ⟨⟨by decide +kernel, by decide +kernel⟩, List.mem_of_getElem? (i := 821) (by decide +kernel), List.mem_of_getElem? (i := 1000) (by decide +kernel), List.mem_of_getElem? (i := 1001) (by decide +kernel)⟩
theorem lw_p52 : lw_okq (⟨"SeamMereModel", "isSendable", "([III)Z"⟩, 19) := ⟨⟨by decide +kernel, by decide +kernel⟩, List.mem_of_getElem? (i := 821) (by decide +kernel), List.mem_of_getElem? (i := 1011) (by decide +kernel), List.mem_of_getElem? (i := 1012) (by decide +kernel)⟩
theorem lw_p53 : lw_okq (⟨"SeamMereModel", "remember", "()V"⟩, 19) := ⟨⟨by decide +kernel, by decide +kernel⟩, List.mem_of_getElem? (i := 821) (by decide +kernel), List.mem_of_getElem? (i := 1015) (by decide +kernel), List.mem_of_getElem? (i := 1016) (by decide +kernel)⟩
theorem lw_p54 : lw_okq (⟨"SeamMereModel", "goes", "([I)V"⟩, 19) := ⟨⟨by decide +kernel, by decide +kernel⟩, List.mem_of_getElem? (i := 821) (by decide +kernel), List.mem_of_getElem? (i := 1023) (by decide +kernel), List.mem_of_getElem? (i := 1024) (by decide +kernel)⟩
theorem lw_p55 : lw_okq (⟨"SeamMereModel", "passes", "([IZ)V"⟩, 19) := ⟨⟨by decide +kernel, by decide +kernel⟩, List.mem_of_getElem? (i := 821) (by decide +kernel), List.mem_of_getElem? (i := 1027) (by decide +kernel), List.mem_of_getElem? (i := 1028) (by decide +kernel)⟩
theorem lw_p56 : lw_okq (⟨"SeamMereModel", "flies", "([II)V"⟩, 19) := ⟨⟨by decide +kernel, by decide +kernel⟩, List.mem_of_getElem? (i := 821) (by decide +kernel), List.mem_of_getElem? (i := 1031) (by decide +kernel), List.mem_of_getElem? (i := 1032) (by decide +kernel)⟩
theorem lw_p57 : lw_okq (⟨"SeamMereModel", "sews", "(II)I"⟩, 19) := ⟨⟨by decide +kernel, by decide +kernel⟩, List.mem_of_getElem? (i := 821) (by decide +kernel), List.mem_of_getElem? (i := 1035) (by decide +kernel), List.mem_of_getElem? (i := 1036) (by decide +kernel)⟩
theorem lw_p58 : lw_okq (⟨"SeamMereModel", "copyNow", "()V"⟩, 19) := ⟨⟨by decide +kernel, by decide +kernel⟩, List.mem_of_getElem? (i := 821) (by decide +kernel), List.mem_of_getElem? (i := 1054) (by decide +kernel), List.mem_of_getElem? (i := 1055) (by decide +kernel)⟩
theorem lw_p59 : lw_okq (⟨"SeamMereModel", "rowMany", "(I)I"⟩, 19) := ⟨⟨by decide +kernel, by decide +kernel⟩, List.mem_of_getElem? (i := 821) (by decide +kernel), List.mem_of_getElem? (i := 1066) (by decide +kernel), List.mem_of_getElem? (i := 1067) (by decide +kernel)⟩
theorem lw_p60 : lw_okq (⟨"SeamMereModel", "inRow", "(II)I"⟩, 19) := ⟨⟨by decide +kernel, by decide +kernel⟩, List.mem_of_getElem? (i := 821) (by decide +kernel), List.mem_of_getElem? (i := 1070) (by decide +kernel), List.mem_of_getElem? (i := 1071) (by decide +kernel)⟩
theorem lw_p61 : lw_okq (⟨"SeamMereModel", "rowHours", "(III)I"⟩, 19) := ⟨⟨by decide +kernel, by decide +kernel⟩, List.mem_of_getElem? (i := 821) (by decide +kernel), List.mem_of_getElem? (i := 1075) (by decide +kernel), List.mem_of_getElem? (i := 1076) (by decide +kernel)⟩
theorem lw_p62 : lw_okq (⟨"SeamMereModel", "closedBy", "(II)I"⟩, 19) := ⟨⟨by decide +kernel, by decide +kernel⟩, List.mem_of_getElem? (i := 821) (by decide +kernel), List.mem_of_getElem? (i := 1083) (by decide +kernel), List.mem_of_getElem? (i := 1084) (by decide +kernel)⟩
theorem lw_p63 : lw_okq (⟨"SeamMereModel", "dealt", "(II)I"⟩, 19) := ⟨⟨by decide +kernel, by decide +kernel⟩, List.mem_of_getElem? (i := 821) (by decide +kernel), List.mem_of_getElem? (i := 1087) (by decide +kernel), List.mem_of_getElem? (i := 1088) (by decide +kernel)⟩
def lw_privs_4 : List (MethodName × Nat) := [(⟨"SeamMereModel", "isPiece", "(I)Z"⟩, 19), (⟨"SeamMereModel", "closed", "([I)I"⟩, 19), (⟨"SeamMereModel", "reached", "(II)I"⟩, 19), (⟨"SeamMereModel", "onward", "(II)I"⟩, 19), (⟨"SeamMereModel", "isSendable", "([III)Z"⟩, 19), (⟨"SeamMereModel", "remember", "()V"⟩, 19), (⟨"SeamMereModel", "goes", "([I)V"⟩, 19), (⟨"SeamMereModel", "passes", "([IZ)V"⟩, 19), (⟨"SeamMereModel", "flies", "([II)V"⟩, 19), (⟨"SeamMereModel", "sews", "(II)I"⟩, 19), (⟨"SeamMereModel", "copyNow", "()V"⟩, 19), (⟨"SeamMereModel", "rowMany", "(I)I"⟩, 19), (⟨"SeamMereModel", "inRow", "(II)I"⟩, 19), (⟨"SeamMereModel", "rowHours", "(III)I"⟩, 19), (⟨"SeamMereModel", "closedBy", "(II)I"⟩, 19), (⟨"SeamMereModel", "dealt", "(II)I"⟩, 19)]
theorem lw_r4 : ∀ q ∈ lw_privs_4, lw_okq q := List.forall_mem_cons.mpr ⟨lw_p48, List.forall_mem_cons.mpr ⟨lw_p49, List.forall_mem_cons.mpr ⟨lw_p50, List.forall_mem_cons.mpr ⟨lw_p51, List.forall_mem_cons.mpr ⟨lw_p52, List.forall_mem_cons.mpr ⟨lw_p53, List.forall_mem_cons.mpr ⟨lw_p54, List.forall_mem_cons.mpr ⟨lw_p55, List.forall_mem_cons.mpr ⟨lw_p56, List.forall_mem_cons.mpr ⟨lw_p57, List.forall_mem_cons.mpr ⟨lw_p58, List.forall_mem_cons.mpr ⟨lw_p59, List.forall_mem_cons.mpr ⟨lw_p60, List.forall_mem_cons.mpr ⟨lw_p61, List.forall_mem_cons.mpr ⟨lw_p62, List.forall_mem_cons.mpr ⟨lw_p63, fun _ h => absurd h List.not_mem_nil⟩⟩⟩⟩⟩⟩⟩⟩⟩⟩⟩⟩⟩⟩⟩⟩
theorem lw_p64 : lw_okq (⟨"SeamMereModel", "pairs", "(I)I"⟩, 19) := ⟨⟨by decide +kernel, by decide +kernel⟩, List.mem_of_getElem? (i := 821) (by decide +kernel), List.mem_of_getElem? (i := 1103) (by decide +kernel), List.mem_of_getElem? (i := 1104) (by decide +kernel)⟩
theorem lw_p65 : lw_okq (⟨"SeamMereModel", "isSo", "(I)Z"⟩, 19) := ⟨⟨by decide +kernel, by decide +kernel⟩, List.mem_of_getElem? (i := 821) (by decide +kernel), List.mem_of_getElem? (i := 1119) (by decide +kernel), List.mem_of_getElem? (i := 1120) (by decide +kernel)⟩
theorem lw_p66 : lw_okq (⟨"SeamMereModel", "isSeen", "(II)Z"⟩, 19) := ⟨⟨by decide +kernel, by decide +kernel⟩, List.mem_of_getElem? (i := 821) (by decide +kernel), List.mem_of_getElem? (i := 1128) (by decide +kernel), List.mem_of_getElem? (i := 1129) (by decide +kernel)⟩
theorem lw_p67 : lw_okq (⟨"SeamMereModel", "draws", "([II)V"⟩, 19) := ⟨⟨by decide +kernel, by decide +kernel⟩, List.mem_of_getElem? (i := 821) (by decide +kernel), List.mem_of_getElem? (i := 1146) (by decide +kernel), List.mem_of_getElem? (i := 1147) (by decide +kernel)⟩
theorem lw_p68 : lw_okq (⟨"SeamMereModel", "stitches", "([I)I"⟩, 19) := ⟨⟨by decide +kernel, by decide +kernel⟩, List.mem_of_getElem? (i := 821) (by decide +kernel), List.mem_of_getElem? (i := 1150) (by decide +kernel), List.mem_of_getElem? (i := 1151) (by decide +kernel)⟩
theorem lw_p69 : lw_okq (⟨"SeamMereModel", "sent", "()I"⟩, 19) := ⟨⟨by decide +kernel, by decide +kernel⟩, List.mem_of_getElem? (i := 821) (by decide +kernel), List.mem_of_getElem? (i := 1166) (by decide +kernel), List.mem_of_getElem? (i := 1167) (by decide +kernel)⟩
theorem lw_p70 : lw_okq (⟨"SeamMereModel", "heaps", "(I)I"⟩, 19) := ⟨⟨by decide +kernel, by decide +kernel⟩, List.mem_of_getElem? (i := 821) (by decide +kernel), List.mem_of_getElem? (i := 1170) (by decide +kernel), List.mem_of_getElem? (i := 1171) (by decide +kernel)⟩
def lw_privs_5 : List (MethodName × Nat) := [(⟨"SeamMereModel", "pairs", "(I)I"⟩, 19), (⟨"SeamMereModel", "isSo", "(I)Z"⟩, 19), (⟨"SeamMereModel", "isSeen", "(II)Z"⟩, 19), (⟨"SeamMereModel", "draws", "([II)V"⟩, 19), (⟨"SeamMereModel", "stitches", "([I)I"⟩, 19), (⟨"SeamMereModel", "sent", "()I"⟩, 19), (⟨"SeamMereModel", "heaps", "(I)I"⟩, 19)]
theorem lw_r5 : ∀ q ∈ lw_privs_5, lw_okq q := List.forall_mem_cons.mpr ⟨lw_p64, List.forall_mem_cons.mpr ⟨lw_p65, List.forall_mem_cons.mpr ⟨lw_p66, List.forall_mem_cons.mpr ⟨lw_p67, List.forall_mem_cons.mpr ⟨lw_p68, List.forall_mem_cons.mpr ⟨lw_p69, List.forall_mem_cons.mpr ⟨lw_p70, fun _ h => absurd h List.not_mem_nil⟩⟩⟩⟩⟩⟩⟩
def lw_privs : List (MethodName × Nat) := lw_privs_1 ++ (lw_privs_2 ++ (lw_privs_3 ++ (lw_privs_4 ++ (lw_privs_5))))
def lw_tbl : List Cond := k2_sels lw_privs ++ tables_1
theorem lw_privs_ok : ∀ q ∈ lw_privs, lw_okq q := by
  show ∀ q ∈ lw_privs_1 ++ (lw_privs_2 ++ (lw_privs_3 ++ (lw_privs_4 ++ (lw_privs_5)))), lw_okq q
  exact List.forall_mem_append.mpr ⟨lw_r1, List.forall_mem_append.mpr ⟨lw_r2, List.forall_mem_append.mpr ⟨lw_r3, List.forall_mem_append.mpr ⟨lw_r4, lw_r5⟩⟩⟩⟩
def RX0 : String := "SeamMere$DealSearch"
def TX0 : u_T := fun k => match k with
  | 0 => ("SeamMere$DealSearch", "most", "I", false)
  | 1 => ("SeamMere$DealSearch", "best", "[I", true)
  | 2 => ("SeamMere$DealSearch", "goals", "[I", true)
  | 3 => ("SeamMere$DealSearch", "crews", "[I", true)
  | _ => ("SeamMere$DealSearch", "closers", "[I", true)
def tyX0 : Nat → FieldType := fun k => match k with
  | 0 => .int
  | 1 => .array .int
  | 2 => .array .int
  | 3 => .array .int
  | _ => .array .int
abbrev wsX00 : List Cond := u_ws RX0 TX0 5
theorem nmX0 : ∀ a, a < 5 → ∀ b, b < 5 → a ≠ b → (TX0 a).2.1 ≠ (TX0 b).2.1 := by decide +kernel
theorem tyX0_ok : ∀ k, k < 5 → parseFieldDescriptor (TX0 k).2.2.1 = some (tyX0 k) := by decide +kernel
abbrev cX0_init : ByteArray := prog_2_method_1_code
def yX0_init : MethodName := ⟨RX0, "<init>", "()V"⟩
abbrev cX0_find : ByteArray := prog_2_method_2_code
def yX0_find : MethodName := ⟨RX0, "find", "(LSeamMere$Mere;LSeamMere$Standing;LSeamMere$Standing;I)V"⟩
abbrev cX0_sendCrew : ByteArray := prog_2_method_3_code
def yX0_sendCrew : MethodName := ⟨RX0, "sendCrew", "(LSeamMere$Standing;II)V"⟩
abbrev cX0_choose : ByteArray := prog_2_method_4_code
def yX0_choose : MethodName := ⟨RX0, "choose", "(LSeamMere$Mere;III)V"⟩
abbrev cX0_tryGoal : ByteArray := prog_2_method_5_code
def yX0_tryGoal : MethodName := ⟨RX0, "tryGoal", "(LSeamMere$Mere;IIII)V"⟩
abbrev cX0_noteIfBetter : ByteArray := prog_2_method_6_code
def yX0_noteIfBetter : MethodName := ⟨RX0, "noteIfBetter", "(I)V"⟩
def RX1 : String := "SeamMere$Heaps"
def TX1 : u_T := fun k => match k with
  | _ => ("SeamMere$Heaps", "heapOf", "[I", true)
def tyX1 : Nat → FieldType := fun k => match k with
  | _ => .array .int
abbrev wsX10 : List Cond := u_ws RX1 TX1 1
theorem nmX1 : ∀ a, a < 1 → ∀ b, b < 1 → a ≠ b → (TX1 a).2.1 ≠ (TX1 b).2.1 := by decide +kernel
theorem tyX1_ok : ∀ k, k < 1 → parseFieldDescriptor (TX1 k).2.2.1 = some (tyX1 k) := by decide +kernel
abbrev cX1_init : ByteArray := prog_3_method_1_code
def yX1_init : MethodName := ⟨RX1, "<init>", "()V"⟩
abbrev cX1_form : ByteArray := prog_3_method_2_code
def yX1_form : MethodName := ⟨RX1, "form", "(LSeamMere$Mere;I)V"⟩
abbrev cX1_merge : ByteArray := prog_3_method_3_code
def yX1_merge : MethodName := ⟨RX1, "merge", "(II)V"⟩
abbrev cX1_areOne : ByteArray := prog_3_method_4_code
def yX1_areOne : MethodName := ⟨RX1, "areOne", "(II)Z"⟩
abbrev cX1_pairsJoined : ByteArray := prog_3_method_5_code
def yX1_pairsJoined : MethodName := ⟨RX1, "pairsJoined", "(II)I"⟩
abbrev cX1_sizeWith : ByteArray := prog_3_method_6_code
def yX1_sizeWith : MethodName := ⟨RX1, "sizeWith", "(I)I"⟩
abbrev cX1_howMany : ByteArray := prog_3_method_7_code
def yX1_howMany : MethodName := ⟨RX1, "howMany", "(LSeamMere$Mere;)I"⟩
def RX2 : String := "SeamMere$Mere"
def TX2 : u_T := fun k => match k with
  | 0 => ("SeamMere$Mere", "pieces", "I", false)
  | 1 => ("SeamMere$Mere", "gaps", "I", false)
  | 2 => ("SeamMere$Mere", "stitchers", "I", false)
  | 3 => ("SeamMere$Mere", "light", "I", false)
  | 4 => ("SeamMere$Mere", "rains", "I", false)
  | 5 => ("SeamMere$Mere", "gapRow", "[I", true)
  | 6 => ("SeamMere$Mere", "stitcherRow", "[I", true)
  | _ => ("SeamMere$Mere", "rainRow", "[I", true)
def tyX2 : Nat → FieldType := fun k => match k with
  | 0 => .int
  | 1 => .int
  | 2 => .int
  | 3 => .int
  | 4 => .int
  | 5 => .array .int
  | 6 => .array .int
  | _ => .array .int
abbrev wsX20 : List Cond := u_ws RX2 TX2 8
theorem nmX2 : ∀ a, a < 8 → ∀ b, b < 8 → a ≠ b → (TX2 a).2.1 ≠ (TX2 b).2.1 := by decide +kernel
theorem tyX2_ok : ∀ k, k < 8 → parseFieldDescriptor (TX2 k).2.2.1 = some (tyX2 k) := by decide +kernel
abbrev cX2_init : ByteArray := prog_4_method_1_code
def yX2_init : MethodName := ⟨RX2, "<init>", "()V"⟩
abbrev cX2_clear : ByteArray := prog_4_method_2_code
def yX2_clear : MethodName := ⟨RX2, "clear", "()V"⟩
abbrev cX2_addGap : ByteArray := prog_4_method_3_code
def yX2_addGap : MethodName := ⟨RX2, "addGap", "([I)V"⟩
abbrev cX2_addStitcher : ByteArray := prog_4_method_4_code
def yX2_addStitcher : MethodName := ⟨RX2, "addStitcher", "([I)V"⟩
abbrev cX2_addRain : ByteArray := prog_4_method_5_code
def yX2_addRain : MethodName := ⟨RX2, "addRain", "(I)V"⟩
abbrev cX2_ofGap : ByteArray := prog_4_method_6_code
def yX2_ofGap : MethodName := ⟨RX2, "ofGap", "(II)I"⟩
abbrev cX2_ofStitcher : ByteArray := prog_4_method_7_code
def yX2_ofStitcher : MethodName := ⟨RX2, "ofStitcher", "(II)I"⟩
abbrev cX2_isLight : ByteArray := prog_4_method_8_code
def yX2_isLight : MethodName := ⟨RX2, "isLight", "(I)Z"⟩
abbrev cX2_lightLeft : ByteArray := prog_4_method_9_code
def yX2_lightLeft : MethodName := ⟨RX2, "lightLeft", "(I)I"⟩
abbrev cX2_rainsIn : ByteArray := prog_4_method_10_code
def yX2_rainsIn : MethodName := ⟨RX2, "rainsIn", "(I)Z"⟩
abbrev cX2_sewnInHour : ByteArray := prog_4_method_11_code
def yX2_sewnInHour : MethodName := ⟨RX2, "sewnInHour", "(II)I"⟩
abbrev cX2_oneSeamOn : ByteArray := prog_4_method_12_code
def yX2_oneSeamOn : MethodName := ⟨RX2, "oneSeamOn", "(II)I"⟩
def RX3 : String := "SeamMere$Reader"
def TX3 : u_T := fun k => match k with
  | 0 => ("SeamMere$Reader", "numbers", "[I", true)
  | 1 => ("SeamMere$Reader", "amount", "I", false)
  | _ => ("SeamMere$Reader", "onlyPieces", "Z", false)
def tyX3 : Nat → FieldType := fun k => match k with
  | 0 => .array .int
  | 1 => .int
  | _ => .boolean
abbrev wsX30 : List Cond := u_ws RX3 TX3 3
theorem nmX3 : ∀ a, a < 3 → ∀ b, b < 3 → a ≠ b → (TX3 a).2.1 ≠ (TX3 b).2.1 := by decide +kernel
theorem tyX3_ok : ∀ k, k < 3 → parseFieldDescriptor (TX3 k).2.2.1 = some (tyX3 k) := by decide +kernel
abbrev cX3_init : ByteArray := prog_5_method_1_code
def yX3_init : MethodName := ⟨RX3, "<init>", "()V"⟩
abbrev cX3_read : ByteArray := prog_5_method_2_code
def yX3_read : MethodName := ⟨RX3, "read", "([IILSeamMere$Mere;)I"⟩
abbrev cX3_readNumbers : ByteArray := prog_5_method_3_code
def yX3_readNumbers : MethodName := ⟨RX3, "readNumbers", "([III)I"⟩
abbrev cX3_takeItem : ByteArray := prog_5_method_4_code
def yX3_takeItem : MethodName := ⟨RX3, "takeItem", "(ILSeamMere$Mere;)Z"⟩
abbrev cX3_takePieces : ByteArray := prog_5_method_5_code
def yX3_takePieces : MethodName := ⟨RX3, "takePieces", "(LSeamMere$Mere;)Z"⟩
abbrev cX3_takeGap : ByteArray := prog_5_method_6_code
def yX3_takeGap : MethodName := ⟨RX3, "takeGap", "(LSeamMere$Mere;)Z"⟩
abbrev cX3_takeStitcher : ByteArray := prog_5_method_7_code
def yX3_takeStitcher : MethodName := ⟨RX3, "takeStitcher", "(LSeamMere$Mere;)Z"⟩
abbrev cX3_takeLight : ByteArray := prog_5_method_8_code
def yX3_takeLight : MethodName := ⟨RX3, "takeLight", "(LSeamMere$Mere;)Z"⟩
abbrev cX3_takeRain : ByteArray := prog_5_method_9_code
def yX3_takeRain : MethodName := ⟨RX3, "takeRain", "(LSeamMere$Mere;)Z"⟩
abbrev cX3_has : ByteArray := prog_5_method_10_code
def yX3_has : MethodName := ⟨RX3, "has", "(III)Z"⟩
def RX4 : String := "SeamMere$RowSearch"
def TX4 : u_T := fun k => match k with
  | 0 => ("SeamMere$RowSearch", "most", "I", false)
  | 1 => ("SeamMere$RowSearch", "fewestHours", "I", false)
  | 2 => ("SeamMere$RowSearch", "best", "[I", true)
  | 3 => ("SeamMere$RowSearch", "row", "[I", true)
  | 4 => ("SeamMere$RowSearch", "behind", "[LSeamMere$Standing;", true)
  | 5 => ("SeamMere$RowSearch", "sewer", "I", false)
  | _ => ("SeamMere$RowSearch", "limit", "I", false)
def tyX4 : Nat → FieldType := fun k => match k with
  | 0 => .int
  | 1 => .int
  | 2 => .array .int
  | 3 => .array .int
  | 4 => .array (.object "SeamMere$Standing")
  | 5 => .int
  | _ => .int
abbrev wsX40 : List Cond := u_ws RX4 TX4 7
theorem nmX4 : ∀ a, a < 7 → ∀ b, b < 7 → a ≠ b → (TX4 a).2.1 ≠ (TX4 b).2.1 := by decide +kernel
theorem tyX4_ok : ∀ k, k < 7 → parseFieldDescriptor (TX4 k).2.2.1 = some (tyX4 k) := by decide +kernel
abbrev cX4_init : ByteArray := prog_6_method_1_code
def yX4_init : MethodName := ⟨RX4, "<init>", "()V"⟩
abbrev cX4_start : ByteArray := prog_6_method_2_code
def yX4_start : MethodName := ⟨RX4, "start", "(LSeamMere$Standing;II)V"⟩
abbrev cX4_lengthen : ByteArray := prog_6_method_3_code
def yX4_lengthen : MethodName := ⟨RX4, "lengthen", "(LSeamMere$Mere;II)V"⟩
abbrev cX4_tryNext : ByteArray := prog_6_method_4_code
def yX4_tryNext : MethodName := ⟨RX4, "tryNext", "(LSeamMere$Mere;LSeamMere$Standing;III)V"⟩
abbrev cX4_noteIfBetter : ByteArray := prog_6_method_5_code
def yX4_noteIfBetter : MethodName := ⟨RX4, "noteIfBetter", "(II)V"⟩
abbrev cX4_standingBehind : ByteArray := prog_6_method_6_code
def yX4_standingBehind : MethodName := ⟨RX4, "standingBehind", "(I)LSeamMere$Standing;"⟩
def RX5 : String := "SeamMere$Seen"
def TX5 : u_T := fun k => match k with
  | 0 => ("SeamMere$Seen", "held", "I", false)
  | 1 => ("SeamMere$Seen", "sets", "I", false)
  | 2 => ("SeamMere$Seen", "lowestSet", "I", false)
  | 3 => ("SeamMere$Seen", "bestPair", "I", false)
  | 4 => ("SeamMere$Seen", "bestPart", "I", false)
  | 5 => ("SeamMere$Seen", "ones", "[I", true)
  | 6 => ("SeamMere$Seen", "others", "[I", true)
  | 7 => ("SeamMere$Seen", "hung", "[I", true)
  | _ => ("SeamMere$Seen", "setsByPair", "[I", true)
def tyX5 : Nat → FieldType := fun k => match k with
  | 0 => .int
  | 1 => .int
  | 2 => .int
  | 3 => .int
  | 4 => .int
  | 5 => .array .int
  | 6 => .array .int
  | 7 => .array .int
  | _ => .array .int
abbrev wsX50 : List Cond := u_ws RX5 TX5 9
theorem nmX5 : ∀ a, a < 9 → ∀ b, b < 9 → a ≠ b → (TX5 a).2.1 ≠ (TX5 b).2.1 := by decide +kernel
theorem tyX5_ok : ∀ k, k < 9 → parseFieldDescriptor (TX5 k).2.2.1 = some (tyX5 k) := by decide +kernel
abbrev cX5_init : ByteArray := prog_7_method_1_code
def yX5_init : MethodName := ⟨RX5, "<init>", "()V"⟩
abbrev cX5_clear : ByteArray := prog_7_method_2_code
def yX5_clear : MethodName := ⟨RX5, "clear", "()V"⟩
abbrev cX5_add : ByteArray := prog_7_method_3_code
def yX5_add : MethodName := ⟨RX5, "add", "(III)V"⟩
abbrev cX5_weigh : ByteArray := prog_7_method_4_code
def yX5_weigh : MethodName := ⟨RX5, "weigh", "(LSeamMere$Mere;LSeamMere$Heaps;)V"⟩
abbrev cX5_clearWeights : ByteArray := prog_7_method_5_code
def yX5_clearWeights : MethodName := ⟨RX5, "clearWeights", "()V"⟩
abbrev cX5_fits : ByteArray := prog_7_method_6_code
def yX5_fits : MethodName := ⟨RX5, "fits", "(LSeamMere$Heaps;)Z"⟩
abbrev cX5_countPairs : ByteArray := prog_7_method_7_code
def yX5_countPairs : MethodName := ⟨RX5, "countPairs", "(LSeamMere$Mere;LSeamMere$Heaps;)V"⟩
abbrev cX5_choosePair : ByteArray := prog_7_method_8_code
def yX5_choosePair : MethodName := ⟨RX5, "choosePair", "(LSeamMere$Mere;)V"⟩
abbrev cX5_isSeen : ByteArray := prog_7_method_9_code
def yX5_isSeen : MethodName := ⟨RX5, "isSeen", "(II)Z"⟩
def RX6 : String := "SeamMere$Shelf"
def TX6 : u_T := fun k => match k with
  | 0 => ("SeamMere$Shelf", "held", "I", false)
  | 1 => ("SeamMere$Shelf", "oldest", "I", false)
  | _ => ("SeamMere$Shelf", "standings", "[LSeamMere$Standing;", true)
def tyX6 : Nat → FieldType := fun k => match k with
  | 0 => .int
  | 1 => .int
  | _ => .array (.object "SeamMere$Standing")
abbrev wsX60 : List Cond := u_ws RX6 TX6 3
theorem nmX6 : ∀ a, a < 3 → ∀ b, b < 3 → a ≠ b → (TX6 a).2.1 ≠ (TX6 b).2.1 := by decide +kernel
theorem tyX6_ok : ∀ k, k < 3 → parseFieldDescriptor (TX6 k).2.2.1 = some (tyX6 k) := by decide +kernel
abbrev cX6_init : ByteArray := prog_8_method_1_code
def yX6_init : MethodName := ⟨RX6, "<init>", "(I)V"⟩
abbrev cX6_clear : ByteArray := prog_8_method_2_code
def yX6_clear : MethodName := ⟨RX6, "clear", "()V"⟩
abbrev cX6_add : ByteArray := prog_8_method_3_code
def yX6_add : MethodName := ⟨RX6, "add", "(LSeamMere$Standing;)V"⟩
abbrev cX6_takeLast : ByteArray := prog_8_method_4_code
def yX6_takeLast : MethodName := ⟨RX6, "takeLast", "(LSeamMere$Standing;)V"⟩
abbrev cX6_standingAt : ByteArray := prog_8_method_5_code
def yX6_standingAt : MethodName := ⟨RX6, "standingAt", "(I)LSeamMere$Standing;"⟩
abbrev cX6_slotOf : ByteArray := prog_8_method_6_code
def yX6_slotOf : MethodName := ⟨RX6, "slotOf", "(I)I"⟩
def RX7 : String := "SeamMere$Standing"
def TX7 : u_T := fun k => match k with
  | 0 => ("SeamMere$Standing", "hour", "I", false)
  | 1 => ("SeamMere$Standing", "stitches", "[I", true)
  | 2 => ("SeamMere$Standing", "goals", "[I", true)
  | _ => ("SeamMere$Standing", "places", "[I", true)
def tyX7 : Nat → FieldType := fun k => match k with
  | 0 => .int
  | 1 => .array .int
  | 2 => .array .int
  | _ => .array .int
abbrev wsX70 : List Cond := u_ws RX7 TX7 4
theorem nmX7 : ∀ a, a < 4 → ∀ b, b < 4 → a ≠ b → (TX7 a).2.1 ≠ (TX7 b).2.1 := by decide +kernel
theorem tyX7_ok : ∀ k, k < 4 → parseFieldDescriptor (TX7 k).2.2.1 = some (tyX7 k) := by decide +kernel
abbrev cX7_init : ByteArray := prog_9_method_1_code
def yX7_init : MethodName := ⟨RX7, "<init>", "()V"⟩
abbrev cX7_begin : ByteArray := prog_9_method_2_code
def yX7_begin : MethodName := ⟨RX7, "begin", "(LSeamMere$Mere;)V"⟩
abbrev cX7_copyFrom : ByteArray := prog_9_method_3_code
def yX7_copyFrom : MethodName := ⟨RX7, "copyFrom", "(LSeamMere$Standing;)V"⟩
abbrev cX7_stitchesOf : ByteArray := prog_9_method_4_code
def yX7_stitchesOf : MethodName := ⟨RX7, "stitchesOf", "(I)I"⟩
abbrev cX7_placeOf : ByteArray := prog_9_method_5_code
def yX7_placeOf : MethodName := ⟨RX7, "placeOf", "(I)I"⟩
abbrev cX7_goalOf : ByteArray := prog_9_method_6_code
def yX7_goalOf : MethodName := ⟨RX7, "goalOf", "(I)I"⟩
abbrev cX7_isClosed : ByteArray := prog_9_method_7_code
def yX7_isClosed : MethodName := ⟨RX7, "isClosed", "(LSeamMere$Mere;I)Z"⟩
abbrev cX7_closedBits : ByteArray := prog_9_method_8_code
def yX7_closedBits : MethodName := ⟨RX7, "closedBits", "(LSeamMere$Mere;)I"⟩
abbrev cX7_allStitches : ByteArray := prog_9_method_9_code
def yX7_allStitches : MethodName := ⟨RX7, "allStitches", "(LSeamMere$Mere;)I"⟩
abbrev cX7_sentOnes : ByteArray := prog_9_method_10_code
def yX7_sentOnes : MethodName := ⟨RX7, "sentOnes", "(LSeamMere$Mere;)I"⟩
abbrev cX7_aim : ByteArray := prog_9_method_11_code
def yX7_aim : MethodName := ⟨RX7, "aim", "(II)V"⟩
abbrev cX7_callAllOff : ByteArray := prog_9_method_12_code
def yX7_callAllOff : MethodName := ⟨RX7, "callAllOff", "()V"⟩
abbrev cX7_cutOpen : ByteArray := prog_9_method_13_code
def yX7_cutOpen : MethodName := ⟨RX7, "cutOpen", "(I)V"⟩
abbrev cX7_liveThrough : ByteArray := prog_9_method_14_code
def yX7_liveThrough : MethodName := ⟨RX7, "liveThrough", "(LSeamMere$Mere;I)V"⟩
abbrev cX7_closeWithin : ByteArray := prog_9_method_15_code
def yX7_closeWithin : MethodName := ⟨RX7, "closeWithin", "(LSeamMere$Mere;II)I"⟩
abbrev cX7_liveHour : ByteArray := prog_9_method_16_code
def yX7_liveHour : MethodName := ⟨RX7, "liveHour", "(LSeamMere$Mere;Z)V"⟩
abbrev cX7_flyOrSew : ByteArray := prog_9_method_17_code
def yX7_flyOrSew : MethodName := ⟨RX7, "flyOrSew", "(LSeamMere$Mere;I)V"⟩
abbrev cX7_callOffFrom : ByteArray := prog_9_method_18_code
def yX7_callOffFrom : MethodName := ⟨RX7, "callOffFrom", "(I)V"⟩
abbrev cX7_unpick : ByteArray := prog_9_method_19_code
def yX7_unpick : MethodName := ⟨RX7, "unpick", "(LSeamMere$Mere;)V"⟩
def RX8 : String := "SeamMere"
def TX8 : u_T := fun k => match k with
  | 0 => ("SeamMere", "text", "[I", true)
  | 1 => ("SeamMere", "letters", "I", false)
  | 2 => ("SeamMere", "reader", "LSeamMere$Reader;", true)
  | 3 => ("SeamMere", "laid", "LSeamMere$Mere;", false)
  | 4 => ("SeamMere", "spare", "LSeamMere$Mere;", false)
  | 5 => ("SeamMere", "now", "LSeamMere$Standing;", true)
  | 6 => ("SeamMere", "trial", "LSeamMere$Standing;", true)
  | 7 => ("SeamMere", "past", "LSeamMere$Shelf;", true)
  | 8 => ("SeamMere", "kept", "LSeamMere$Shelf;", true)
  | 9 => ("SeamMere", "seen", "LSeamMere$Seen;", true)
  | 10 => ("SeamMere", "heaps", "LSeamMere$Heaps;", true)
  | 11 => ("SeamMere", "rowSearch", "LSeamMere$RowSearch;", true)
  | _ => ("SeamMere", "dealSearch", "LSeamMere$DealSearch;", true)
def tyX8 : Nat → FieldType := fun k => match k with
  | 0 => .array .int
  | 1 => .int
  | 2 => .object "SeamMere$Reader"
  | 3 => .object "SeamMere$Mere"
  | 4 => .object "SeamMere$Mere"
  | 5 => .object "SeamMere$Standing"
  | 6 => .object "SeamMere$Standing"
  | 7 => .object "SeamMere$Shelf"
  | 8 => .object "SeamMere$Shelf"
  | 9 => .object "SeamMere$Seen"
  | 10 => .object "SeamMere$Heaps"
  | 11 => .object "SeamMere$RowSearch"
  | _ => .object "SeamMere$DealSearch"
abbrev wsX80 : List Cond := u_ws RX8 TX8 13
theorem nmX8 : ∀ a, a < 13 → ∀ b, b < 13 → a ≠ b → (TX8 a).2.1 ≠ (TX8 b).2.1 := by decide +kernel
theorem tyX8_ok : ∀ k, k < 13 → parseFieldDescriptor (TX8 k).2.2.1 = some (tyX8 k) := by decide +kernel
abbrev cX8_init : ByteArray := prog_1_method_1_code
def yX8_init : MethodName := ⟨RX8, "<init>", "()V"⟩
abbrev cX8_write : ByteArray := prog_1_method_2_code
def yX8_write : MethodName := ⟨RX8, "write", "(I)I"⟩
abbrev cX8_wipe : ByteArray := prog_1_method_3_code
def yX8_wipe : MethodName := ⟨RX8, "wipe", "()I"⟩
abbrev cX8_fault : ByteArray := prog_1_method_4_code
def yX8_fault : MethodName := ⟨RX8, "fault", "()I"⟩
abbrev cX8_lay : ByteArray := prog_1_method_5_code
def yX8_lay : MethodName := ⟨RX8, "lay", "()I"⟩
abbrev cX8_gap : ByteArray := prog_1_method_6_code
def yX8_gap : MethodName := ⟨RX8, "gap", "(II)I"⟩
abbrev cX8_stitcher : ByteArray := prog_1_method_7_code
def yX8_stitcher : MethodName := ⟨RX8, "stitcher", "(II)I"⟩
abbrev cX8_sky : ByteArray := prog_1_method_8_code
def yX8_sky : MethodName := ⟨RX8, "sky", "(II)I"⟩
abbrev cX8_together : ByteArray := prog_1_method_9_code
def yX8_together : MethodName := ⟨RX8, "together", "(II)I"⟩
abbrev cX8_send : ByteArray := prog_1_method_10_code
def yX8_send : MethodName := ⟨RX8, "send", "(II)I"⟩
abbrev cX8_pass : ByteArray := prog_1_method_11_code
def yX8_pass : MethodName := ⟨RX8, "pass", "(I)I"⟩
abbrev cX8_frog : ByteArray := prog_1_method_12_code
def yX8_frog : MethodName := ⟨RX8, "frog", "(I)I"⟩
abbrev cX8_undo : ByteArray := prog_1_method_13_code
def yX8_undo : MethodName := ⟨RX8, "undo", "()I"⟩
abbrev cX8_closes : ByteArray := prog_1_method_14_code
def yX8_closes : MethodName := ⟨RX8, "closes", "(I)I"⟩
abbrev cX8_dusk : ByteArray := prog_1_method_15_code
def yX8_dusk : MethodName := ⟨RX8, "dusk", "()I"⟩
abbrev cX8_order : ByteArray := prog_1_method_16_code
def yX8_order : MethodName := ⟨RX8, "order", "(III)I"⟩
abbrev cX8_deal : ByteArray := prog_1_method_17_code
def yX8_deal : MethodName := ⟨RX8, "deal", "(II)I"⟩
abbrev cX8_cut : ByteArray := prog_1_method_18_code
def yX8_cut : MethodName := ⟨RX8, "cut", "(II)I"⟩
abbrev cX8_between : ByteArray := prog_1_method_19_code
def yX8_between : MethodName := ⟨RX8, "between", "(II)I"⟩
abbrev cX8_joins : ByteArray := prog_1_method_20_code
def yX8_joins : MethodName := ⟨RX8, "joins", "(I)I"⟩
abbrev cX8_see : ByteArray := prog_1_method_21_code
def yX8_see : MethodName := ⟨RX8, "see", "(III)I"⟩
abbrev cX8_forget : ByteArray := prog_1_method_22_code
def yX8_forget : MethodName := ⟨RX8, "forget", "()I"⟩
abbrev cX8_seamed : ByteArray := prog_1_method_23_code
def yX8_seamed : MethodName := ⟨RX8, "seamed", "(I)I"⟩
abbrev cX8_tells : ByteArray := prog_1_method_24_code
def yX8_tells : MethodName := ⟨RX8, "tells", "(I)I"⟩
abbrev cX8_showers : ByteArray := prog_1_method_25_code
def yX8_showers : MethodName := ⟨RX8, "showers", "(IIII)I"⟩
abbrev cX8_summer : ByteArray := prog_1_method_26_code
def yX8_summer : MethodName := ⟨RX8, "summer", "(III)I"⟩
abbrev cX8_keep : ByteArray := prog_1_method_27_code
def yX8_keep : MethodName := ⟨RX8, "keep", "()I"⟩
abbrev cX8_back : ByteArray := prog_1_method_28_code
def yX8_back : MethodName := ⟨RX8, "back", "()I"⟩
abbrev cX8_count : ByteArray := prog_1_method_29_code
def yX8_count : MethodName := ⟨RX8, "count", "(I)I"⟩
abbrev cX8_beginAnew : ByteArray := prog_1_method_30_code
def yX8_beginAnew : MethodName := ⟨RX8, "beginAnew", "()V"⟩
abbrev cX8_isGap : ByteArray := prog_1_method_31_code
def yX8_isGap : MethodName := ⟨RX8, "isGap", "(I)Z"⟩
abbrev cX8_isStitcher : ByteArray := prog_1_method_32_code
def yX8_isStitcher : MethodName := ⟨RX8, "isStitcher", "(I)Z"⟩
abbrev cX8_isPiece : ByteArray := prog_1_method_33_code
def yX8_isPiece : MethodName := ⟨RX8, "isPiece", "(I)Z"⟩
abbrev cX8_weightOf : ByteArray := prog_1_method_34_code
def yX8_weightOf : MethodName := ⟨RX8, "weightOf", "(III)I"⟩
abbrev cX8_isClosedBehind : ByteArray := prog_1_method_35_code
def yX8_isClosedBehind : MethodName := ⟨RX8, "isClosedBehind", "(III)Z"⟩
abbrev cX8_drawOf : ByteArray := prog_1_method_36_code
def yX8_drawOf : MethodName := ⟨RX8, "drawOf", "(II)I"⟩
abbrev cX8_actByDraw : ByteArray := prog_1_method_37_code
def yX8_actByDraw : MethodName := ⟨RX8, "actByDraw", "(I)V"⟩
abbrev cX8_commonDivisor : ByteArray := prog_1_method_38_code
def yX8_commonDivisor : MethodName := ⟨RX8, "commonDivisor", "(II)I"⟩
abbrev cX8_isIn : ByteArray := prog_1_method_39_code
def yX8_isIn : MethodName := ⟨RX8, "isIn", "(III)Z"⟩
abbrev cX8_isBit : ByteArray := prog_1_method_40_code
def yX8_isBit : MethodName := ⟨RX8, "isBit", "(II)Z"⟩
abbrev cX8_bitOf : ByteArray := prog_1_method_41_code
def yX8_bitOf : MethodName := ⟨RX8, "bitOf", "(II)I"⟩
abbrev cX8_asNumber : ByteArray := prog_1_method_42_code
def yX8_asNumber : MethodName := ⟨RX8, "asNumber", "(Z)I"⟩
abbrev cX8_at : ByteArray := prog_1_method_43_code
def yX8_at : MethodName := ⟨RX8, "at", "([II)I"⟩
abbrev cX8_setAt : ByteArray := prog_1_method_44_code
def yX8_setAt : MethodName := ⟨RX8, "setAt", "([III)V"⟩
def RX9 : String := "SeamMereModel"
def TX9 : u_T := fun k => match k with
  | 0 => ("SeamMereModel", "letterMany", "I", false)
  | 1 => ("SeamMereModel", "text", "[I", true)
  | 2 => ("SeamMereModel", "readAt", "I", false)
  | 3 => ("SeamMereModel", "told", "[I", true)
  | 4 => ("SeamMereModel", "readLaw", "[I", true)
  | 5 => ("SeamMereModel", "readNow", "[I", true)
  | 6 => ("SeamMereModel", "isBegun", "Z", false)
  | 7 => ("SeamMereModel", "law", "[I", true)
  | 8 => ("SeamMereModel", "now", "[I", true)
  | 9 => ("SeamMereModel", "tried", "[I", true)
  | 10 => ("SeamMereModel", "undoMany", "I", false)
  | 11 => ("SeamMereModel", "undoAt", "I", false)
  | 12 => ("SeamMereModel", "undos", "[I", true)
  | 13 => ("SeamMereModel", "seenMany", "I", false)
  | 14 => ("SeamMereModel", "seenA", "[I", true)
  | 15 => ("SeamMereModel", "seenB", "[I", true)
  | 16 => ("SeamMereModel", "seenIs", "[I", true)
  | 17 => ("SeamMereModel", "keptMany", "I", false)
  | _ => ("SeamMereModel", "kept", "[I", true)
def tyX9 : Nat → FieldType := fun k => match k with
  | 0 => .int
  | 1 => .array .int
  | 2 => .int
  | 3 => .array .int
  | 4 => .array .int
  | 5 => .array .int
  | 6 => .boolean
  | 7 => .array .int
  | 8 => .array .int
  | 9 => .array .int
  | 10 => .int
  | 11 => .int
  | 12 => .array .int
  | 13 => .int
  | 14 => .array .int
  | 15 => .array .int
  | 16 => .array .int
  | 17 => .int
  | _ => .array .int
abbrev wsX90 : List Cond := u_ws RX9 TX9 19
theorem nmX9 : ∀ a, a < 19 → ∀ b, b < 19 → a ≠ b → (TX9 a).2.1 ≠ (TX9 b).2.1 := by decide +kernel
theorem tyX9_ok : ∀ k, k < 19 → parseFieldDescriptor (TX9 k).2.2.1 = some (tyX9 k) := by decide +kernel
abbrev cX9_init : ByteArray := prog_11_method_1_code
def yX9_init : MethodName := ⟨RX9, "<init>", "()V"⟩
abbrev cX9_gapTold : ByteArray := prog_11_method_2_code
def yX9_gapTold : MethodName := ⟨RX9, "gapTold", "(IIIII)V"⟩
abbrev cX9_stitcherTold : ByteArray := prog_11_method_3_code
def yX9_stitcherTold : MethodName := ⟨RX9, "stitcherTold", "(III)V"⟩
abbrev cX9_in : ByteArray := prog_11_method_4_code
def yX9_in : MethodName := ⟨RX9, "in", "(III)Z"⟩
abbrev cX9_has : ByteArray := prog_11_method_5_code
def yX9_has : MethodName := ⟨RX9, "has", "(II)Z"⟩
abbrev cX9_bits : ByteArray := prog_11_method_6_code
def yX9_bits : MethodName := ⟨RX9, "bits", "(I)I"⟩
abbrev cX9_write : ByteArray := prog_11_method_7_code
def yX9_write : MethodName := ⟨RX9, "write", "(I)I"⟩
abbrev cX9_wipe : ByteArray := prog_11_method_8_code
def yX9_wipe : MethodName := ⟨RX9, "wipe", "()I"⟩
abbrev cX9_letterAt : ByteArray := prog_11_method_9_code
def yX9_letterAt : MethodName := ⟨RX9, "letterAt", "(I)I"⟩
abbrev cX9_isFigure : ByteArray := prog_11_method_10_code
def yX9_isFigure : MethodName := ⟨RX9, "isFigure", "(I)Z"⟩
abbrev cX9_readsNumbers : ByteArray := prog_11_method_11_code
def yX9_readsNumbers : MethodName := ⟨RX9, "readsNumbers", "(I)Z"⟩
abbrev cX9_readsPieces : ByteArray := prog_11_method_12_code
def yX9_readsPieces : MethodName := ⟨RX9, "readsPieces", "()Z"⟩
abbrev cX9_readsGap : ByteArray := prog_11_method_13_code
def yX9_readsGap : MethodName := ⟨RX9, "readsGap", "()Z"⟩
abbrev cX9_readsStitcher : ByteArray := prog_11_method_14_code
def yX9_readsStitcher : MethodName := ⟨RX9, "readsStitcher", "()Z"⟩
abbrev cX9_readsLight : ByteArray := prog_11_method_15_code
def yX9_readsLight : MethodName := ⟨RX9, "readsLight", "()Z"⟩
abbrev cX9_readsRain : ByteArray := prog_11_method_16_code
def yX9_readsRain : MethodName := ⟨RX9, "readsRain", "()Z"⟩
abbrev cX9_readsItem : ByteArray := prog_11_method_17_code
def yX9_readsItem : MethodName := ⟨RX9, "readsItem", "()Z"⟩
abbrev cX9_fault : ByteArray := prog_11_method_18_code
def yX9_fault : MethodName := ⟨RX9, "fault", "()I"⟩
abbrev cX9_lay : ByteArray := prog_11_method_19_code
def yX9_lay : MethodName := ⟨RX9, "lay", "()I"⟩
abbrev cX9_isGap : ByteArray := prog_11_method_20_code
def yX9_isGap : MethodName := ⟨RX9, "isGap", "(I)Z"⟩
abbrev cX9_isStitcher : ByteArray := prog_11_method_21_code
def yX9_isStitcher : MethodName := ⟨RX9, "isStitcher", "(I)Z"⟩
abbrev cX9_isPiece : ByteArray := prog_11_method_22_code
def yX9_isPiece : MethodName := ⟨RX9, "isPiece", "(I)Z"⟩
abbrev cX9_of : ByteArray := prog_11_method_23_code
def yX9_of : MethodName := ⟨RX9, "of", "(II)I"⟩
abbrev cX9_isClosed : ByteArray := prog_11_method_24_code
def yX9_isClosed : MethodName := ⟨RX9, "isClosed", "([II)Z"⟩
abbrev cX9_closed : ByteArray := prog_11_method_25_code
def yX9_closed : MethodName := ⟨RX9, "closed", "([I)I"⟩
abbrev cX9_isLight : ByteArray := prog_11_method_26_code
def yX9_isLight : MethodName := ⟨RX9, "isLight", "(I)Z"⟩
abbrev cX9_rains : ByteArray := prog_11_method_27_code
def yX9_rains : MethodName := ⟨RX9, "rains", "(I)Z"⟩
abbrev cX9_sews : ByteArray := prog_11_method_28_code
def yX9_sews : MethodName := ⟨RX9, "sews", "(II)I"⟩
abbrev cX9_flies : ByteArray := prog_11_method_29_code
def yX9_flies : MethodName := ⟨RX9, "flies", "([II)V"⟩
abbrev cX9_passes : ByteArray := prog_11_method_30_code
def yX9_passes : MethodName := ⟨RX9, "passes", "([IZ)V"⟩
abbrev cX9_goes : ByteArray := prog_11_method_31_code
def yX9_goes : MethodName := ⟨RX9, "goes", "([I)V"⟩
abbrev cX9_gap : ByteArray := prog_11_method_32_code
def yX9_gap : MethodName := ⟨RX9, "gap", "(II)I"⟩
abbrev cX9_stitcher : ByteArray := prog_11_method_33_code
def yX9_stitcher : MethodName := ⟨RX9, "stitcher", "(II)I"⟩
abbrev cX9_sky : ByteArray := prog_11_method_34_code
def yX9_sky : MethodName := ⟨RX9, "sky", "(II)I"⟩
abbrev cX9_onward : ByteArray := prog_11_method_35_code
def yX9_onward : MethodName := ⟨RX9, "onward", "(II)I"⟩
abbrev cX9_reached : ByteArray := prog_11_method_36_code
def yX9_reached : MethodName := ⟨RX9, "reached", "(II)I"⟩
abbrev cX9_pairs : ByteArray := prog_11_method_37_code
def yX9_pairs : MethodName := ⟨RX9, "pairs", "(I)I"⟩
abbrev cX9_heaps : ByteArray := prog_11_method_38_code
def yX9_heaps : MethodName := ⟨RX9, "heaps", "(I)I"⟩
abbrev cX9_together : ByteArray := prog_11_method_39_code
def yX9_together : MethodName := ⟨RX9, "together", "(II)I"⟩
abbrev cX9_remember : ByteArray := prog_11_method_40_code
def yX9_remember : MethodName := ⟨RX9, "remember", "()V"⟩
abbrev cX9_isSendable : ByteArray := prog_11_method_41_code
def yX9_isSendable : MethodName := ⟨RX9, "isSendable", "([III)Z"⟩
abbrev cX9_send : ByteArray := prog_11_method_42_code
def yX9_send : MethodName := ⟨RX9, "send", "(II)I"⟩
abbrev cX9_pass : ByteArray := prog_11_method_43_code
def yX9_pass : MethodName := ⟨RX9, "pass", "(I)I"⟩
abbrev cX9_frog : ByteArray := prog_11_method_44_code
def yX9_frog : MethodName := ⟨RX9, "frog", "(I)I"⟩
abbrev cX9_undo : ByteArray := prog_11_method_45_code
def yX9_undo : MethodName := ⟨RX9, "undo", "()I"⟩
abbrev cX9_copyNow : ByteArray := prog_11_method_46_code
def yX9_copyNow : MethodName := ⟨RX9, "copyNow", "()V"⟩
abbrev cX9_closes : ByteArray := prog_11_method_47_code
def yX9_closes : MethodName := ⟨RX9, "closes", "(I)I"⟩
abbrev cX9_dusk : ByteArray := prog_11_method_48_code
def yX9_dusk : MethodName := ⟨RX9, "dusk", "()I"⟩
abbrev cX9_inRow : ByteArray := prog_11_method_49_code
def yX9_inRow : MethodName := ⟨RX9, "inRow", "(II)I"⟩
abbrev cX9_rowHours : ByteArray := prog_11_method_50_code
def yX9_rowHours : MethodName := ⟨RX9, "rowHours", "(III)I"⟩
abbrev cX9_rowMany : ByteArray := prog_11_method_51_code
def yX9_rowMany : MethodName := ⟨RX9, "rowMany", "(I)I"⟩
abbrev cX9_order : ByteArray := prog_11_method_52_code
def yX9_order : MethodName := ⟨RX9, "order", "(III)I"⟩
abbrev cX9_dealt : ByteArray := prog_11_method_53_code
def yX9_dealt : MethodName := ⟨RX9, "dealt", "(II)I"⟩
abbrev cX9_closedBy : ByteArray := prog_11_method_54_code
def yX9_closedBy : MethodName := ⟨RX9, "closedBy", "(II)I"⟩
abbrev cX9_deal : ByteArray := prog_11_method_55_code
def yX9_deal : MethodName := ⟨RX9, "deal", "(II)I"⟩
abbrev cX9_cut : ByteArray := prog_11_method_56_code
def yX9_cut : MethodName := ⟨RX9, "cut", "(II)I"⟩
abbrev cX9_between : ByteArray := prog_11_method_57_code
def yX9_between : MethodName := ⟨RX9, "between", "(II)I"⟩
abbrev cX9_joins : ByteArray := prog_11_method_58_code
def yX9_joins : MethodName := ⟨RX9, "joins", "(I)I"⟩
abbrev cX9_see : ByteArray := prog_11_method_59_code
def yX9_see : MethodName := ⟨RX9, "see", "(III)I"⟩
abbrev cX9_forget : ByteArray := prog_11_method_60_code
def yX9_forget : MethodName := ⟨RX9, "forget", "()I"⟩
abbrev cX9_isSo : ByteArray := prog_11_method_61_code
def yX9_isSo : MethodName := ⟨RX9, "isSo", "(I)Z"⟩
abbrev cX9_seamed : ByteArray := prog_11_method_62_code
def yX9_seamed : MethodName := ⟨RX9, "seamed", "(I)I"⟩
abbrev cX9_isSeen : ByteArray := prog_11_method_63_code
def yX9_isSeen : MethodName := ⟨RX9, "isSeen", "(II)Z"⟩
abbrev cX9_tells : ByteArray := prog_11_method_64_code
def yX9_tells : MethodName := ⟨RX9, "tells", "(I)I"⟩
abbrev cX9_common : ByteArray := prog_11_method_65_code
def yX9_common : MethodName := ⟨RX9, "common", "(II)I"⟩
abbrev cX9_showers : ByteArray := prog_11_method_66_code
def yX9_showers : MethodName := ⟨RX9, "showers", "(IIII)I"⟩
abbrev cX9_stitches : ByteArray := prog_11_method_67_code
def yX9_stitches : MethodName := ⟨RX9, "stitches", "([I)I"⟩
abbrev cX9_draws : ByteArray := prog_11_method_68_code
def yX9_draws : MethodName := ⟨RX9, "draws", "([II)V"⟩
abbrev cX9_summer : ByteArray := prog_11_method_69_code
def yX9_summer : MethodName := ⟨RX9, "summer", "(III)I"⟩
abbrev cX9_keep : ByteArray := prog_11_method_70_code
def yX9_keep : MethodName := ⟨RX9, "keep", "()I"⟩
abbrev cX9_back : ByteArray := prog_11_method_71_code
def yX9_back : MethodName := ⟨RX9, "back", "()I"⟩
abbrev cX9_sent : ByteArray := prog_11_method_72_code
def yX9_sent : MethodName := ⟨RX9, "sent", "()I"⟩
abbrev cX9_count : ByteArray := prog_11_method_73_code
def yX9_count : MethodName := ⟨RX9, "count", "(I)I"⟩
def RJ6 : String := "java/lang/Integer"
abbrev cJ6_bitCount_0f7a4 : ByteArray := prog_12_method_49_code
def yJ6_bitCount_0f7a4 : MethodName := ⟨RJ6, "bitCount", "(I)I"⟩
def RJ9 : String := "java/lang/Math"
abbrev cJ9_max_7cf53 : ByteArray := prog_13_method_65_code
def yJ9_max_7cf53 : MethodName := ⟨RJ9, "max", "(II)I"⟩
abbrev cJ9_min_7cf53 : ByteArray := prog_13_method_69_code
def yJ9_min_7cf53 : MethodName := ⟨RJ9, "min", "(II)I"⟩
def RJ0 : String := "java/lang/String"
abbrev cJ0_length_8abf5 : ByteArray := prog_14_method_54_code
def yJ0_length_8abf5 : MethodName := ⟨RJ0, "length", "()I"⟩
abbrev cJ0_charAt_5068e : ByteArray := prog_14_method_56_code
def yJ0_charAt_5068e : MethodName := ⟨RJ0, "charAt", "(I)C"⟩
abbrev cJ0_coder_7d493 : ByteArray := prog_14_method_152_code
def yJ0_coder_7d493 : MethodName := ⟨RJ0, "coder", "()B"⟩
abbrev cJ0_isLatin1_aae02 : ByteArray := prog_14_method_154_code
def yJ0_isLatin1_aae02 : MethodName := ⟨RJ0, "isLatin1", "()Z"⟩
abbrev cJ0_checkIndex_df160 : ByteArray := prog_14_method_155_code
def yJ0_checkIndex_df160 : MethodName := ⟨RJ0, "checkIndex", "(II)V"⟩
def RJ1 : String := "java/lang/StringLatin1"
abbrev cJ1_charAt_3b067 : ByteArray := prog_15_method_2_code
def yJ1_charAt_3b067 : MethodName := ⟨RJ1, "charAt", "([BI)C"⟩
def RJ2 : String := "java/lang/StringUTF16"
abbrev cJ2_getChar_3b067 : ByteArray := prog_16_method_5_code
def yJ2_getChar_3b067 : MethodName := ⟨RJ2, "getChar", "([BI)C"⟩
abbrev cJ2_length_9d52b : ByteArray := prog_16_method_6_code
def yJ2_length_9d52b : MethodName := ⟨RJ2, "length", "([B)I"⟩
abbrev cJ2_charAt_3b067 : ByteArray := prog_16_method_83_code
def yJ2_charAt_3b067 : MethodName := ⟨RJ2, "charAt", "([BI)C"⟩
abbrev cJ2_checkIndex_2214a : ByteArray := prog_16_method_91_code
def yJ2_checkIndex_2214a : MethodName := ⟨RJ2, "checkIndex", "(I[B)V"⟩
def RJ3 : String := "jdk/internal/util/Preconditions"
abbrev cJ3_checkIndex_8e157 : ByteArray := prog_17_method_11_code
def yJ3_checkIndex_8e157 : MethodName := ⟨RJ3, "checkIndex", "(IILjava/util/function/BiFunction;)I"⟩
def RL : String := "SeamMereLaw"
abbrev cL_law : ByteArray := code
def yL_law : MethodName := ⟨RL, "law", "([I)Z"⟩
