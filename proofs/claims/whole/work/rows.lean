section
-- ===== PART A: goes FIRST, ahead of the names: the tables' words, and 'selects' of the private methods out of them =====
/-- a private method of a class that the tables say can be made, by its rows of tables_1 -/
def lw_okq (q : MethodName × Nat) : Prop := (q.1.cls ≠ "java/lang/invoke/MethodHandle" ∧ q.1.cls ≠ "java/lang/invoke/VarHandle") ∧ Cond.instantiable q.1.cls q.2 ∈ tables_1 ∧ Cond.privateMethod q.1 ∈ tables_1 ∧ Cond.instanceMethod q.1 ∈ tables_1
theorem lw_p0 : lw_okq (⟨"WeftShop", "addSlit", "(III)I"⟩, 8) := ⟨⟨by decide +kernel, by decide +kernel⟩, List.mem_of_getElem? (i := 15) (by decide +kernel), List.mem_of_getElem? (i := 382) (by decide +kernel), List.mem_of_getElem? (i := 383) (by decide +kernel)⟩
theorem lw_p1 : lw_okq (⟨"WeftShop$FieldMap", "spread", "(LWeftShop$Board;I)V"⟩, 8) := ⟨⟨by decide +kernel, by decide +kernel⟩, List.mem_of_getElem? (i := 154) (by decide +kernel), List.mem_of_getElem? (i := 408) (by decide +kernel), List.mem_of_getElem? (i := 409) (by decide +kernel)⟩
theorem lw_p2 : lw_okq (⟨"WeftShop$FieldMap", "join", "(I)V"⟩, 8) := ⟨⟨by decide +kernel, by decide +kernel⟩, List.mem_of_getElem? (i := 154) (by decide +kernel), List.mem_of_getElem? (i := 413) (by decide +kernel), List.mem_of_getElem? (i := 414) (by decide +kernel)⟩
theorem lw_p3 : lw_okq (⟨"WeftShop$FieldMap", "look", "(LWeftShop$Board;II)V"⟩, 8) := ⟨⟨by decide +kernel, by decide +kernel⟩, List.mem_of_getElem? (i := 154) (by decide +kernel), List.mem_of_getElem? (i := 417) (by decide +kernel), List.mem_of_getElem? (i := 418) (by decide +kernel)⟩
theorem lw_p4 : lw_okq (⟨"WeftShop", "findDealing", "(I)Z"⟩, 8) := ⟨⟨by decide +kernel, by decide +kernel⟩, List.mem_of_getElem? (i := 15) (by decide +kernel), List.mem_of_getElem? (i := 438) (by decide +kernel), List.mem_of_getElem? (i := 439) (by decide +kernel)⟩
theorem lw_p5 : lw_okq (⟨"WeftShop$Dealing", "gatherFields", "(ILWeftShop$FieldMap;)Z"⟩, 9) := ⟨⟨by decide +kernel, by decide +kernel⟩, List.mem_of_getElem? (i := 194) (by decide +kernel), List.mem_of_getElem? (i := 446) (by decide +kernel), List.mem_of_getElem? (i := 447) (by decide +kernel)⟩
theorem lw_p6 : lw_okq (⟨"WeftShop$Dealing", "gatherLots", "(ILWeftShop$Lots;)Z"⟩, 9) := ⟨⟨by decide +kernel, by decide +kernel⟩, List.mem_of_getElem? (i := 194) (by decide +kernel), List.mem_of_getElem? (i := 450) (by decide +kernel), List.mem_of_getElem? (i := 451) (by decide +kernel)⟩
theorem lw_p7 : lw_okq (⟨"WeftShop$Dealing", "weighSets", "(LWeftShop$FieldMap;)V"⟩, 9) := ⟨⟨by decide +kernel, by decide +kernel⟩, List.mem_of_getElem? (i := 194) (by decide +kernel), List.mem_of_getElem? (i := 454) (by decide +kernel), List.mem_of_getElem? (i := 455) (by decide +kernel)⟩
theorem lw_p8 : lw_okq (⟨"WeftShop$Dealing", "addLot", "(II)V"⟩, 9) := ⟨⟨by decide +kernel, by decide +kernel⟩, List.mem_of_getElem? (i := 194) (by decide +kernel), List.mem_of_getElem? (i := 458) (by decide +kernel), List.mem_of_getElem? (i := 459) (by decide +kernel)⟩
theorem lw_p9 : lw_okq (⟨"WeftShop$Dealing", "readChoices", "()V"⟩, 9) := ⟨⟨by decide +kernel, by decide +kernel⟩, List.mem_of_getElem? (i := 194) (by decide +kernel), List.mem_of_getElem? (i := 463) (by decide +kernel), List.mem_of_getElem? (i := 464) (by decide +kernel)⟩
theorem lw_p10 : lw_okq (⟨"WeftShop$Sharing", "takeIfBetter", "(II)V"⟩, 9) := ⟨⟨by decide +kernel, by decide +kernel⟩, List.mem_of_getElem? (i := 229) (by decide +kernel), List.mem_of_getElem? (i := 526) (by decide +kernel), List.mem_of_getElem? (i := 527) (by decide +kernel)⟩
theorem lw_p11 : lw_okq (⟨"WeftShop$Sharing", "daysOfStrip", "(LWeftShop$Weavers;III)I"⟩, 9) := ⟨⟨by decide +kernel, by decide +kernel⟩, List.mem_of_getElem? (i := 229) (by decide +kernel), List.mem_of_getElem? (i := 533) (by decide +kernel), List.mem_of_getElem? (i := 534) (by decide +kernel)⟩
theorem lw_p12 : lw_okq (⟨"WeftShop$Loom", "measure", "(LWeftShop$Board;I)V"⟩, 9) := ⟨⟨by decide +kernel, by decide +kernel⟩, List.mem_of_getElem? (i := 97) (by decide +kernel), List.mem_of_getElem? (i := 559) (by decide +kernel), List.mem_of_getElem? (i := 560) (by decide +kernel)⟩
theorem lw_p13 : lw_okq (⟨"WeftShop$Loom", "workInPick", "(LWeftShop$Board;III)I"⟩, 9) := ⟨⟨by decide +kernel, by decide +kernel⟩, List.mem_of_getElem? (i := 97) (by decide +kernel), List.mem_of_getElem? (i := 563) (by decide +kernel), List.mem_of_getElem? (i := 564) (by decide +kernel)⟩
theorem lw_p14 : lw_okq (⟨"WeftShop$Loom", "beginDay", "()V"⟩, 9) := ⟨⟨by decide +kernel, by decide +kernel⟩, List.mem_of_getElem? (i := 97) (by decide +kernel), List.mem_of_getElem? (i := 584) (by decide +kernel), List.mem_of_getElem? (i := 585) (by decide +kernel)⟩
theorem lw_p15 : lw_okq (⟨"WeftShop$Loom", "isTooFarAhead", "(II)Z"⟩, 9) := ⟨⟨by decide +kernel, by decide +kernel⟩, List.mem_of_getElem? (i := 97) (by decide +kernel), List.mem_of_getElem? (i := 592) (by decide +kernel), List.mem_of_getElem? (i := 593) (by decide +kernel)⟩
def lw_privs_1 : List (MethodName × Nat) := [(⟨"WeftShop", "addSlit", "(III)I"⟩, 8), (⟨"WeftShop$FieldMap", "spread", "(LWeftShop$Board;I)V"⟩, 8), (⟨"WeftShop$FieldMap", "join", "(I)V"⟩, 8), (⟨"WeftShop$FieldMap", "look", "(LWeftShop$Board;II)V"⟩, 8), (⟨"WeftShop", "findDealing", "(I)Z"⟩, 8), (⟨"WeftShop$Dealing", "gatherFields", "(ILWeftShop$FieldMap;)Z"⟩, 9), (⟨"WeftShop$Dealing", "gatherLots", "(ILWeftShop$Lots;)Z"⟩, 9), (⟨"WeftShop$Dealing", "weighSets", "(LWeftShop$FieldMap;)V"⟩, 9), (⟨"WeftShop$Dealing", "addLot", "(II)V"⟩, 9), (⟨"WeftShop$Dealing", "readChoices", "()V"⟩, 9), (⟨"WeftShop$Sharing", "takeIfBetter", "(II)V"⟩, 9), (⟨"WeftShop$Sharing", "daysOfStrip", "(LWeftShop$Weavers;III)I"⟩, 9), (⟨"WeftShop$Loom", "measure", "(LWeftShop$Board;I)V"⟩, 9), (⟨"WeftShop$Loom", "workInPick", "(LWeftShop$Board;III)I"⟩, 9), (⟨"WeftShop$Loom", "beginDay", "()V"⟩, 9), (⟨"WeftShop$Loom", "isTooFarAhead", "(II)Z"⟩, 9)]
theorem lw_r1 : ∀ q ∈ lw_privs_1, lw_okq q := List.forall_mem_cons.mpr ⟨lw_p0, List.forall_mem_cons.mpr ⟨lw_p1, List.forall_mem_cons.mpr ⟨lw_p2, List.forall_mem_cons.mpr ⟨lw_p3, List.forall_mem_cons.mpr ⟨lw_p4, List.forall_mem_cons.mpr ⟨lw_p5, List.forall_mem_cons.mpr ⟨lw_p6, List.forall_mem_cons.mpr ⟨lw_p7, List.forall_mem_cons.mpr ⟨lw_p8, List.forall_mem_cons.mpr ⟨lw_p9, List.forall_mem_cons.mpr ⟨lw_p10, List.forall_mem_cons.mpr ⟨lw_p11, List.forall_mem_cons.mpr ⟨lw_p12, List.forall_mem_cons.mpr ⟨lw_p13, List.forall_mem_cons.mpr ⟨lw_p14, List.forall_mem_cons.mpr ⟨lw_p15, fun _ h => absurd h List.not_mem_nil⟩⟩⟩⟩⟩⟩⟩⟩⟩⟩⟩⟩⟩⟩⟩⟩
theorem lw_p16 : lw_okq (⟨"WeftShop$Loom", "stripAt", "(I)I"⟩, 9) := ⟨⟨by decide +kernel, by decide +kernel⟩, List.mem_of_getElem? (i := 97) (by decide +kernel), List.mem_of_getElem? (i := 625) (by decide +kernel), List.mem_of_getElem? (i := 626) (by decide +kernel)⟩
theorem lw_p17 : lw_okq (⟨"WeftShop$Loom", "countWovenOf", "(LWeftShop$Board;I)I"⟩, 9) := ⟨⟨by decide +kernel, by decide +kernel⟩, List.mem_of_getElem? (i := 97) (by decide +kernel), List.mem_of_getElem? (i := 645) (by decide +kernel), List.mem_of_getElem? (i := 646) (by decide +kernel)⟩
theorem lw_p18 : lw_okq (⟨"WeftShopModel", "isSquare", "(II)Z"⟩, 44) := ⟨⟨by decide +kernel, by decide +kernel⟩, List.mem_of_getElem? (i := 684) (by decide +kernel), List.mem_of_getElem? (i := 834) (by decide +kernel), List.mem_of_getElem? (i := 835) (by decide +kernel)⟩
theorem lw_p19 : lw_okq (⟨"WeftShopModel", "spot", "(II)I"⟩, 44) := ⟨⟨by decide +kernel, by decide +kernel⟩, List.mem_of_getElem? (i := 684) (by decide +kernel), List.mem_of_getElem? (i := 838) (by decide +kernel), List.mem_of_getElem? (i := 839) (by decide +kernel)⟩
theorem lw_p20 : lw_okq (⟨"WeftShopModel", "toldAt", "(I)I"⟩, 44) := ⟨⟨by decide +kernel, by decide +kernel⟩, List.mem_of_getElem? (i := 684) (by decide +kernel), List.mem_of_getElem? (i := 850) (by decide +kernel), List.mem_of_getElem? (i := 851) (by decide +kernel)⟩
theorem lw_p21 : lw_okq (⟨"WeftShopModel", "slitFrom", "(II)I"⟩, 44) := ⟨⟨by decide +kernel, by decide +kernel⟩, List.mem_of_getElem? (i := 684) (by decide +kernel), List.mem_of_getElem? (i := 866) (by decide +kernel), List.mem_of_getElem? (i := 867) (by decide +kernel)⟩
theorem lw_p22 : lw_okq (⟨"WeftShopModel", "isUnlike", "(II)Z"⟩, 44) := ⟨⟨by decide +kernel, by decide +kernel⟩, List.mem_of_getElem? (i := 684) (by decide +kernel), List.mem_of_getElem? (i := 870) (by decide +kernel), List.mem_of_getElem? (i := 871) (by decide +kernel)⟩
theorem lw_p23 : lw_okq (⟨"WeftShopModel", "findFields", "()V"⟩, 44) := ⟨⟨by decide +kernel, by decide +kernel⟩, List.mem_of_getElem? (i := 684) (by decide +kernel), List.mem_of_getElem? (i := 882) (by decide +kernel), List.mem_of_getElem? (i := 883) (by decide +kernel)⟩
theorem lw_p24 : lw_okq (⟨"WeftShopModel", "lesser", "(III)I"⟩, 44) := ⟨⟨by decide +kernel, by decide +kernel⟩, List.mem_of_getElem? (i := 684) (by decide +kernel), List.mem_of_getElem? (i := 886) (by decide +kernel), List.mem_of_getElem? (i := 887) (by decide +kernel)⟩
theorem lw_p25 : lw_okq (⟨"WeftShopModel", "number", "()V"⟩, 44) := ⟨⟨by decide +kernel, by decide +kernel⟩, List.mem_of_getElem? (i := 684) (by decide +kernel), List.mem_of_getElem? (i := 890) (by decide +kernel), List.mem_of_getElem? (i := 891) (by decide +kernel)⟩
theorem lw_p26 : lw_okq (⟨"WeftShopModel", "sides", "(II)I"⟩, 44) := ⟨⟨by decide +kernel, by decide +kernel⟩, List.mem_of_getElem? (i := 684) (by decide +kernel), List.mem_of_getElem? (i := 894) (by decide +kernel), List.mem_of_getElem? (i := 895) (by decide +kernel)⟩
theorem lw_p27 : lw_okq (⟨"WeftShopModel", "findDealing", "(I)Z"⟩, 44) := ⟨⟨by decide +kernel, by decide +kernel⟩, List.mem_of_getElem? (i := 684) (by decide +kernel), List.mem_of_getElem? (i := 910) (by decide +kernel), List.mem_of_getElem? (i := 911) (by decide +kernel)⟩
theorem lw_p28 : lw_okq (⟨"WeftShopModel", "gather", "(I)Z"⟩, 44) := ⟨⟨by decide +kernel, by decide +kernel⟩, List.mem_of_getElem? (i := 684) (by decide +kernel), List.mem_of_getElem? (i := 914) (by decide +kernel), List.mem_of_getElem? (i := 915) (by decide +kernel)⟩
theorem lw_p29 : lw_okq (⟨"WeftShopModel", "yarnFrom", "(I)I"⟩, 44) := ⟨⟨by decide +kernel, by decide +kernel⟩, List.mem_of_getElem? (i := 684) (by decide +kernel), List.mem_of_getElem? (i := 918) (by decide +kernel), List.mem_of_getElem? (i := 919) (by decide +kernel)⟩
theorem lw_p30 : lw_okq (⟨"WeftShopModel", "findSharing", "()Z"⟩, 44) := ⟨⟨by decide +kernel, by decide +kernel⟩, List.mem_of_getElem? (i := 684) (by decide +kernel), List.mem_of_getElem? (i := 942) (by decide +kernel), List.mem_of_getElem? (i := 943) (by decide +kernel)⟩
theorem lw_p31 : lw_okq (⟨"WeftShopModel", "isTaken", "(II)Z"⟩, 44) := ⟨⟨by decide +kernel, by decide +kernel⟩, List.mem_of_getElem? (i := 684) (by decide +kernel), List.mem_of_getElem? (i := 946) (by decide +kernel), List.mem_of_getElem? (i := 947) (by decide +kernel)⟩
def lw_privs_2 : List (MethodName × Nat) := [(⟨"WeftShop$Loom", "stripAt", "(I)I"⟩, 9), (⟨"WeftShop$Loom", "countWovenOf", "(LWeftShop$Board;I)I"⟩, 9), (⟨"WeftShopModel", "isSquare", "(II)Z"⟩, 44), (⟨"WeftShopModel", "spot", "(II)I"⟩, 44), (⟨"WeftShopModel", "toldAt", "(I)I"⟩, 44), (⟨"WeftShopModel", "slitFrom", "(II)I"⟩, 44), (⟨"WeftShopModel", "isUnlike", "(II)Z"⟩, 44), (⟨"WeftShopModel", "findFields", "()V"⟩, 44), (⟨"WeftShopModel", "lesser", "(III)I"⟩, 44), (⟨"WeftShopModel", "number", "()V"⟩, 44), (⟨"WeftShopModel", "sides", "(II)I"⟩, 44), (⟨"WeftShopModel", "findDealing", "(I)Z"⟩, 44), (⟨"WeftShopModel", "gather", "(I)Z"⟩, 44), (⟨"WeftShopModel", "yarnFrom", "(I)I"⟩, 44), (⟨"WeftShopModel", "findSharing", "()Z"⟩, 44), (⟨"WeftShopModel", "isTaken", "(II)Z"⟩, 44)]
theorem lw_r2 : ∀ q ∈ lw_privs_2, lw_okq q := List.forall_mem_cons.mpr ⟨lw_p16, List.forall_mem_cons.mpr ⟨lw_p17, List.forall_mem_cons.mpr ⟨lw_p18, List.forall_mem_cons.mpr ⟨lw_p19, List.forall_mem_cons.mpr ⟨lw_p20, List.forall_mem_cons.mpr ⟨lw_p21, List.forall_mem_cons.mpr ⟨lw_p22, List.forall_mem_cons.mpr ⟨lw_p23, List.forall_mem_cons.mpr ⟨lw_p24, List.forall_mem_cons.mpr ⟨lw_p25, List.forall_mem_cons.mpr ⟨lw_p26, List.forall_mem_cons.mpr ⟨lw_p27, List.forall_mem_cons.mpr ⟨lw_p28, List.forall_mem_cons.mpr ⟨lw_p29, List.forall_mem_cons.mpr ⟨lw_p30, List.forall_mem_cons.mpr ⟨lw_p31, fun _ h => absurd h List.not_mem_nil⟩⟩⟩⟩⟩⟩⟩⟩⟩⟩⟩⟩⟩⟩⟩⟩
theorem lw_p32 : lw_okq (⟨"WeftShopModel", "daysOf", "(III)I"⟩, 44) := ⟨⟨by decide +kernel, by decide +kernel⟩, List.mem_of_getElem? (i := 684) (by decide +kernel), List.mem_of_getElem? (i := 950) (by decide +kernel), List.mem_of_getElem? (i := 951) (by decide +kernel)⟩
theorem lw_p33 : lw_okq (⟨"WeftShopModel", "hasFace", "(II)Z"⟩, 44) := ⟨⟨by decide +kernel, by decide +kernel⟩, List.mem_of_getElem? (i := 684) (by decide +kernel), List.mem_of_getElem? (i := 954) (by decide +kernel), List.mem_of_getElem? (i := 955) (by decide +kernel)⟩
theorem lw_p34 : lw_okq (⟨"WeftShopModel", "work", "(III)I"⟩, 44) := ⟨⟨by decide +kernel, by decide +kernel⟩, List.mem_of_getElem? (i := 684) (by decide +kernel), List.mem_of_getElem? (i := 958) (by decide +kernel), List.mem_of_getElem? (i := 959) (by decide +kernel)⟩
theorem lw_p35 : lw_okq (⟨"WeftShopModel", "workAt", "(II)I"⟩, 44) := ⟨⟨by decide +kernel, by decide +kernel⟩, List.mem_of_getElem? (i := 684) (by decide +kernel), List.mem_of_getElem? (i := 962) (by decide +kernel), List.mem_of_getElem? (i := 963) (by decide +kernel)⟩
theorem lw_p36 : lw_okq (⟨"WeftShopModel", "findWhole", "()V"⟩, 44) := ⟨⟨by decide +kernel, by decide +kernel⟩, List.mem_of_getElem? (i := 684) (by decide +kernel), List.mem_of_getElem? (i := 978) (by decide +kernel), List.mem_of_getElem? (i := 979) (by decide +kernel)⟩
theorem lw_p37 : lw_okq (⟨"WeftShopModel", "wholeOf", "(I)I"⟩, 44) := ⟨⟨by decide +kernel, by decide +kernel⟩, List.mem_of_getElem? (i := 684) (by decide +kernel), List.mem_of_getElem? (i := 982) (by decide +kernel), List.mem_of_getElem? (i := 983) (by decide +kernel)⟩
theorem lw_p38 : lw_okq (⟨"WeftShopModel", "allOf", "(I)I"⟩, 44) := ⟨⟨by decide +kernel, by decide +kernel⟩, List.mem_of_getElem? (i := 684) (by decide +kernel), List.mem_of_getElem? (i := 986) (by decide +kernel), List.mem_of_getElem? (i := 987) (by decide +kernel)⟩
theorem lw_p39 : lw_okq (⟨"WeftShopModel", "isAhead", "(I)Z"⟩, 44) := ⟨⟨by decide +kernel, by decide +kernel⟩, List.mem_of_getElem? (i := 684) (by decide +kernel), List.mem_of_getElem? (i := 990) (by decide +kernel), List.mem_of_getElem? (i := 991) (by decide +kernel)⟩
theorem lw_p40 : lw_okq (⟨"WeftShopModel", "isWoven", "(II)Z"⟩, 44) := ⟨⟨by decide +kernel, by decide +kernel⟩, List.mem_of_getElem? (i := 684) (by decide +kernel), List.mem_of_getElem? (i := 1002) (by decide +kernel), List.mem_of_getElem? (i := 1003) (by decide +kernel)⟩
theorem lw_p41 : lw_okq (⟨"WeftShopModel", "manyWoven", "()I"⟩, 44) := ⟨⟨by decide +kernel, by decide +kernel⟩, List.mem_of_getElem? (i := 684) (by decide +kernel), List.mem_of_getElem? (i := 1014) (by decide +kernel), List.mem_of_getElem? (i := 1015) (by decide +kernel)⟩
theorem lw_p42 : lw_okq (⟨"WeftShopModel", "manyFaces", "()I"⟩, 44) := ⟨⟨by decide +kernel, by decide +kernel⟩, List.mem_of_getElem? (i := 684) (by decide +kernel), List.mem_of_getElem? (i := 1018) (by decide +kernel), List.mem_of_getElem? (i := 1019) (by decide +kernel)⟩
def lw_privs_3 : List (MethodName × Nat) := [(⟨"WeftShopModel", "daysOf", "(III)I"⟩, 44), (⟨"WeftShopModel", "hasFace", "(II)Z"⟩, 44), (⟨"WeftShopModel", "work", "(III)I"⟩, 44), (⟨"WeftShopModel", "workAt", "(II)I"⟩, 44), (⟨"WeftShopModel", "findWhole", "()V"⟩, 44), (⟨"WeftShopModel", "wholeOf", "(I)I"⟩, 44), (⟨"WeftShopModel", "allOf", "(I)I"⟩, 44), (⟨"WeftShopModel", "isAhead", "(I)Z"⟩, 44), (⟨"WeftShopModel", "isWoven", "(II)Z"⟩, 44), (⟨"WeftShopModel", "manyWoven", "()I"⟩, 44), (⟨"WeftShopModel", "manyFaces", "()I"⟩, 44)]
theorem lw_r3 : ∀ q ∈ lw_privs_3, lw_okq q := List.forall_mem_cons.mpr ⟨lw_p32, List.forall_mem_cons.mpr ⟨lw_p33, List.forall_mem_cons.mpr ⟨lw_p34, List.forall_mem_cons.mpr ⟨lw_p35, List.forall_mem_cons.mpr ⟨lw_p36, List.forall_mem_cons.mpr ⟨lw_p37, List.forall_mem_cons.mpr ⟨lw_p38, List.forall_mem_cons.mpr ⟨lw_p39, List.forall_mem_cons.mpr ⟨lw_p40, List.forall_mem_cons.mpr ⟨lw_p41, List.forall_mem_cons.mpr ⟨lw_p42, fun _ h => absurd h List.not_mem_nil⟩⟩⟩⟩⟩⟩⟩⟩⟩⟩⟩
def lw_privs : List (MethodName × Nat) := lw_privs_1 ++ (lw_privs_2 ++ (lw_privs_3))
def lw_tbl : List Cond := k2_sels lw_privs ++ tables_1
theorem lw_privs_ok : ∀ q ∈ lw_privs, lw_okq q := by
  show ∀ q ∈ lw_privs_1 ++ (lw_privs_2 ++ (lw_privs_3)), lw_okq q
  exact List.forall_mem_append.mpr ⟨lw_r1, List.forall_mem_append.mpr ⟨lw_r2, lw_r3⟩⟩

def RX0 : String := "WeftShop$Board"
def TX0 : u_T := fun k => match k with
  | 0 => ("WeftShop$Board", "columns", "I", false)
  | 1 => ("WeftShop$Board", "rows", "I", false)
  | _ => ("WeftShop$Board", "squares", "[I", true)
def tyX0 : Nat → FieldType := fun k => match k with
  | 0 => .int
  | 1 => .int
  | _ => .array .int
theorem nmX0 : ∀ a, a < 3 → ∀ b, b < 3 → a ≠ b → (TX0 a).2.1 ≠ (TX0 b).2.1 := by decide +kernel
theorem tyX0_ok : ∀ k, k < 3 → parseFieldDescriptor (TX0 k).2.2.1 = some (tyX0 k) := by decide +kernel
abbrev cX0_init : ByteArray := prog_2_method_1_code
def yX0_init : MethodName := ⟨RX0, "<init>", "()V"⟩
abbrev cX0_renew : ByteArray := prog_2_method_2_code
def yX0_renew : MethodName := ⟨RX0, "renew", "(II)V"⟩
abbrev cX0_copyFrom : ByteArray := prog_2_method_3_code
def yX0_copyFrom : MethodName := ⟨RX0, "copyFrom", "(LWeftShop$Board;)V"⟩
abbrev cX0_hasSquare : ByteArray := prog_2_method_4_code
def yX0_hasSquare : MethodName := ⟨RX0, "hasSquare", "(II)Z"⟩
abbrev cX0_cellOfCartoon : ByteArray := prog_2_method_5_code
def yX0_cellOfCartoon : MethodName := ⟨RX0, "cellOfCartoon", "(II)I"⟩
abbrev cX0_colourAt : ByteArray := prog_2_method_6_code
def yX0_colourAt : MethodName := ⟨RX0, "colourAt", "(I)I"⟩
abbrev cX0_hasFace : ByteArray := prog_2_method_7_code
def yX0_hasFace : MethodName := ⟨RX0, "hasFace", "(I)Z"⟩
abbrev cX0_workAt : ByteArray := prog_2_method_8_code
def yX0_workAt : MethodName := ⟨RX0, "workAt", "(I)I"⟩
abbrev cX0_dip : ByteArray := prog_2_method_9_code
def yX0_dip : MethodName := ⟨RX0, "dip", "(II)V"⟩
abbrev cX0_turnFace : ByteArray := prog_2_method_10_code
def yX0_turnFace : MethodName := ⟨RX0, "turnFace", "(I)V"⟩
abbrev cX0_countFaces : ByteArray := prog_2_method_11_code
def yX0_countFaces : MethodName := ⟨RX0, "countFaces", "()I"⟩
abbrev cX0_facesOfWarp : ByteArray := prog_2_method_12_code
def yX0_facesOfWarp : MethodName := ⟨RX0, "facesOfWarp", "(I)I"⟩
abbrev cX0_workOfWarp : ByteArray := prog_2_method_13_code
def yX0_workOfWarp : MethodName := ⟨RX0, "workOfWarp", "(I)I"⟩
abbrev cX0_isSlitAt : ByteArray := prog_2_method_14_code
def yX0_isSlitAt : MethodName := ⟨RX0, "isSlitAt", "(II)Z"⟩
abbrev cX0_slitLength : ByteArray := prog_2_method_15_code
def yX0_slitLength : MethodName := ⟨RX0, "slitLength", "(II)I"⟩
abbrev cX0_lengthOfSlitFrom : ByteArray := prog_2_method_16_code
def yX0_lengthOfSlitFrom : MethodName := ⟨RX0, "lengthOfSlitFrom", "(II)I"⟩
def RX1 : String := "WeftShop$Dealing"
def TX1 : u_T := fun k => match k with
  | 0 => ("WeftShop$Dealing", "fieldCount", "I", false)
  | 1 => ("WeftShop$Dealing", "fieldNumbers", "[I", true)
  | 2 => ("WeftShop$Dealing", "gotten", "[I", true)
  | 3 => ("WeftShop$Dealing", "lotCount", "I", false)
  | 4 => ("WeftShop$Dealing", "lotNumbers", "[I", true)
  | 5 => ("WeftShop$Dealing", "yarnOfSet", "[I", true)
  | 6 => ("WeftShop$Dealing", "orderOfSet", "[I", true)
  | 7 => ("WeftShop$Dealing", "bestOfSet", "[I", true)
  | _ => ("WeftShop$Dealing", "choices", "[I", true)
def tyX1 : Nat → FieldType := fun k => match k with
  | 0 => .int
  | 1 => .array .int
  | 2 => .array .int
  | 3 => .int
  | 4 => .array .int
  | 5 => .array .int
  | 6 => .array .int
  | 7 => .array .int
  | _ => .array .int
theorem nmX1 : ∀ a, a < 9 → ∀ b, b < 9 → a ≠ b → (TX1 a).2.1 ≠ (TX1 b).2.1 := by decide +kernel
theorem tyX1_ok : ∀ k, k < 9 → parseFieldDescriptor (TX1 k).2.2.1 = some (tyX1 k) := by decide +kernel
abbrev cX1_init : ByteArray := prog_3_method_1_code
def yX1_init : MethodName := ⟨RX1, "<init>", "()V"⟩
abbrev cX1_find : ByteArray := prog_3_method_2_code
def yX1_find : MethodName := ⟨RX1, "find", "(ILWeftShop$FieldMap;LWeftShop$Lots;)Z"⟩
abbrev cX1_gatherFields : ByteArray := prog_3_method_3_code
def yX1_gatherFields : MethodName := ⟨RX1, "gatherFields", "(ILWeftShop$FieldMap;)Z"⟩
abbrev cX1_gatherLots : ByteArray := prog_3_method_4_code
def yX1_gatherLots : MethodName := ⟨RX1, "gatherLots", "(ILWeftShop$Lots;)Z"⟩
abbrev cX1_weighSets : ByteArray := prog_3_method_5_code
def yX1_weighSets : MethodName := ⟨RX1, "weighSets", "(LWeftShop$FieldMap;)V"⟩
abbrev cX1_addLot : ByteArray := prog_3_method_6_code
def yX1_addLot : MethodName := ⟨RX1, "addLot", "(II)V"⟩
abbrev cX1_readChoices : ByteArray := prog_3_method_7_code
def yX1_readChoices : MethodName := ⟨RX1, "readChoices", "()V"⟩
abbrev cX1_lotFor : ByteArray := prog_3_method_8_code
def yX1_lotFor : MethodName := ⟨RX1, "lotFor", "(I)I"⟩
abbrev cX1_yarnFrom : ByteArray := prog_3_method_9_code
def yX1_yarnFrom : MethodName := ⟨RX1, "yarnFrom", "(ILWeftShop$FieldMap;)I"⟩
abbrev cX1_yarnInAll : ByteArray := prog_3_method_10_code
def yX1_yarnInAll : MethodName := ⟨RX1, "yarnInAll", "(LWeftShop$FieldMap;)I"⟩
abbrev cX1_countServed : ByteArray := prog_3_method_11_code
def yX1_countServed : MethodName := ⟨RX1, "countServed", "()I"⟩
def RX2 : String := "WeftShop$FieldMap"
def TX2 : u_T := fun k => match k with
  | 0 => ("WeftShop$FieldMap", "count", "I", false)
  | 1 => ("WeftShop$FieldMap", "fieldAt", "[I", true)
  | 2 => ("WeftShop$FieldMap", "colours", "[I", true)
  | 3 => ("WeftShop$FieldMap", "areas", "[I", true)
  | 4 => ("WeftShop$FieldMap", "yarns", "[I", true)
  | 5 => ("WeftShop$FieldMap", "leastPlaces", "[I", true)
  | 6 => ("WeftShop$FieldMap", "queue", "[I", true)
  | _ => ("WeftShop$FieldMap", "queued", "I", false)
def tyX2 : Nat → FieldType := fun k => match k with
  | 0 => .int
  | 1 => .array .int
  | 2 => .array .int
  | 3 => .array .int
  | 4 => .array .int
  | 5 => .array .int
  | 6 => .array .int
  | _ => .int
theorem nmX2 : ∀ a, a < 8 → ∀ b, b < 8 → a ≠ b → (TX2 a).2.1 ≠ (TX2 b).2.1 := by decide +kernel
theorem tyX2_ok : ∀ k, k < 8 → parseFieldDescriptor (TX2 k).2.2.1 = some (tyX2 k) := by decide +kernel
abbrev cX2_init : ByteArray := prog_4_method_1_code
def yX2_init : MethodName := ⟨RX2, "<init>", "()V"⟩
abbrev cX2_find : ByteArray := prog_4_method_2_code
def yX2_find : MethodName := ⟨RX2, "find", "(LWeftShop$Board;)V"⟩
abbrev cX2_spread : ByteArray := prog_4_method_3_code
def yX2_spread : MethodName := ⟨RX2, "spread", "(LWeftShop$Board;I)V"⟩
abbrev cX2_look : ByteArray := prog_4_method_4_code
def yX2_look : MethodName := ⟨RX2, "look", "(LWeftShop$Board;II)V"⟩
abbrev cX2_join : ByteArray := prog_4_method_5_code
def yX2_join : MethodName := ⟨RX2, "join", "(I)V"⟩
def RX3 : String := "WeftShop$Loom"
def TX3 : u_T := fun k => match k with
  | 0 => ("WeftShop$Loom", "strips", "I", false)
  | 1 => ("WeftShop$Loom", "days", "I", false)
  | 2 => ("WeftShop$Loom", "weavers", "[I", true)
  | 3 => ("WeftShop$Loom", "firstWarps", "[I", true)
  | 4 => ("WeftShop$Loom", "widths", "[I", true)
  | 5 => ("WeftShop$Loom", "done", "[I", true)
  | 6 => ("WeftShop$Loom", "picks", "I", false)
  | 7 => ("WeftShop$Loom", "workBelow", "[I", true)
  | _ => ("WeftShop$Loom", "wholeAtDawn", "[I", true)
def tyX3 : Nat → FieldType := fun k => match k with
  | 0 => .int
  | 1 => .int
  | 2 => .array .int
  | 3 => .array .int
  | 4 => .array .int
  | 5 => .array .int
  | 6 => .int
  | 7 => .array .int
  | _ => .array .int
theorem nmX3 : ∀ a, a < 9 → ∀ b, b < 9 → a ≠ b → (TX3 a).2.1 ≠ (TX3 b).2.1 := by decide +kernel
theorem tyX3_ok : ∀ k, k < 9 → parseFieldDescriptor (TX3 k).2.2.1 = some (tyX3 k) := by decide +kernel
abbrev cX3_init : ByteArray := prog_5_method_1_code
def yX3_init : MethodName := ⟨RX3, "<init>", "()V"⟩
abbrev cX3_isUp : ByteArray := prog_5_method_2_code
def yX3_isUp : MethodName := ⟨RX3, "isUp", "()Z"⟩
abbrev cX3_takeDown : ByteArray := prog_5_method_3_code
def yX3_takeDown : MethodName := ⟨RX3, "takeDown", "()V"⟩
abbrev cX3_setUp : ByteArray := prog_5_method_4_code
def yX3_setUp : MethodName := ⟨RX3, "setUp", "(LWeftShop$Sharing;LWeftShop$Board;)V"⟩
abbrev cX3_measure : ByteArray := prog_5_method_5_code
def yX3_measure : MethodName := ⟨RX3, "measure", "(LWeftShop$Board;I)V"⟩
abbrev cX3_workInPick : ByteArray := prog_5_method_6_code
def yX3_workInPick : MethodName := ⟨RX3, "workInPick", "(LWeftShop$Board;III)I"⟩
abbrev cX3_workOf : ByteArray := prog_5_method_7_code
def yX3_workOf : MethodName := ⟨RX3, "workOf", "(I)I"⟩
abbrev cX3_wholePicks : ByteArray := prog_5_method_8_code
def yX3_wholePicks : MethodName := ⟨RX3, "wholePicks", "(I)I"⟩
abbrev cX3_fewestWholePicks : ByteArray := prog_5_method_9_code
def yX3_fewestWholePicks : MethodName := ⟨RX3, "fewestWholePicks", "()I"⟩
abbrev cX3_weaveDay : ByteArray := prog_5_method_10_code
def yX3_weaveDay : MethodName := ⟨RX3, "weaveDay", "(LWeftShop$Weavers;I)V"⟩
abbrev cX3_wouldGoOn : ByteArray := prog_5_method_11_code
def yX3_wouldGoOn : MethodName := ⟨RX3, "wouldGoOn", "(II)Z"⟩
abbrev cX3_beginDay : ByteArray := prog_5_method_12_code
def yX3_beginDay : MethodName := ⟨RX3, "beginDay", "()V"⟩
abbrev cX3_isTooFarAhead : ByteArray := prog_5_method_13_code
def yX3_isTooFarAhead : MethodName := ⟨RX3, "isTooFarAhead", "(II)Z"⟩
abbrev cX3_isWoven : ByteArray := prog_5_method_14_code
def yX3_isWoven : MethodName := ⟨RX3, "isWoven", "(LWeftShop$Board;II)Z"⟩
abbrev cX3_stripAt : ByteArray := prog_5_method_15_code
def yX3_stripAt : MethodName := ⟨RX3, "stripAt", "(I)I"⟩
abbrev cX3_countWoven : ByteArray := prog_5_method_16_code
def yX3_countWoven : MethodName := ⟨RX3, "countWoven", "(LWeftShop$Board;)I"⟩
abbrev cX3_countWovenOf : ByteArray := prog_5_method_17_code
def yX3_countWovenOf : MethodName := ⟨RX3, "countWovenOf", "(LWeftShop$Board;I)I"⟩
abbrev cX3_unweaveFrom : ByteArray := prog_5_method_18_code
def yX3_unweaveFrom : MethodName := ⟨RX3, "unweaveFrom", "(II)I"⟩
abbrev cX3_copyFrom : ByteArray := prog_5_method_19_code
def yX3_copyFrom : MethodName := ⟨RX3, "copyFrom", "(LWeftShop$Loom;)V"⟩
def RX4 : String := "WeftShop$Lots"
def TX4 : u_T := fun k => match k with
  | 0 => ("WeftShop$Lots", "count", "I", false)
  | 1 => ("WeftShop$Lots", "colours", "[I", true)
  | _ => ("WeftShop$Lots", "yarns", "[I", true)
def tyX4 : Nat → FieldType := fun k => match k with
  | 0 => .int
  | 1 => .array .int
  | _ => .array .int
theorem nmX4 : ∀ a, a < 3 → ∀ b, b < 3 → a ≠ b → (TX4 a).2.1 ≠ (TX4 b).2.1 := by decide +kernel
theorem tyX4_ok : ∀ k, k < 3 → parseFieldDescriptor (TX4 k).2.2.1 = some (tyX4 k) := by decide +kernel
abbrev cX4_init : ByteArray := prog_6_method_1_code
def yX4_init : MethodName := ⟨RX4, "<init>", "()V"⟩
abbrev cX4_add : ByteArray := prog_6_method_2_code
def yX4_add : MethodName := ⟨RX4, "add", "(II)I"⟩
abbrev cX4_copyFrom : ByteArray := prog_6_method_3_code
def yX4_copyFrom : MethodName := ⟨RX4, "copyFrom", "(LWeftShop$Lots;)V"⟩
def RX5 : String := "WeftShop$Sharing"
def TX5 : u_T := fun k => match k with
  | 0 => ("WeftShop$Sharing", "days", "I", false)
  | 1 => ("WeftShop$Sharing", "strips", "I", false)
  | 2 => ("WeftShop$Sharing", "weavers", "[I", true)
  | 3 => ("WeftShop$Sharing", "widths", "[I", true)
  | 4 => ("WeftShop$Sharing", "columns", "I", false)
  | 5 => ("WeftShop$Sharing", "workTo", "[I", true)
  | 6 => ("WeftShop$Sharing", "facesTo", "[I", true)
  | 7 => ("WeftShop$Sharing", "triedWeavers", "[I", true)
  | _ => ("WeftShop$Sharing", "triedWidths", "[I", true)
def tyX5 : Nat → FieldType := fun k => match k with
  | 0 => .int
  | 1 => .int
  | 2 => .array .int
  | 3 => .array .int
  | 4 => .int
  | 5 => .array .int
  | 6 => .array .int
  | 7 => .array .int
  | _ => .array .int
theorem nmX5 : ∀ a, a < 9 → ∀ b, b < 9 → a ≠ b → (TX5 a).2.1 ≠ (TX5 b).2.1 := by decide +kernel
theorem tyX5_ok : ∀ k, k < 9 → parseFieldDescriptor (TX5 k).2.2.1 = some (tyX5 k) := by decide +kernel
abbrev cX5_init : ByteArray := prog_7_method_1_code
def yX5_init : MethodName := ⟨RX5, "<init>", "()V"⟩
abbrev cX5_find : ByteArray := prog_7_method_2_code
def yX5_find : MethodName := ⟨RX5, "find", "(LWeftShop$Board;LWeftShop$Weavers;)Z"⟩
abbrev cX5_tryFrom : ByteArray := prog_7_method_3_code
def yX5_tryFrom : MethodName := ⟨RX5, "tryFrom", "(LWeftShop$Sharing;LWeftShop$Weavers;IIII)V"⟩
abbrev cX5_daysOfStrip : ByteArray := prog_7_method_4_code
def yX5_daysOfStrip : MethodName := ⟨RX5, "daysOfStrip", "(LWeftShop$Weavers;III)I"⟩
abbrev cX5_takeIfBetter : ByteArray := prog_7_method_5_code
def yX5_takeIfBetter : MethodName := ⟨RX5, "takeIfBetter", "(II)V"⟩
abbrev cX5_weaverAt : ByteArray := prog_7_method_6_code
def yX5_weaverAt : MethodName := ⟨RX5, "weaverAt", "(I)I"⟩
def RX6 : String := "WeftShop$Shop"
def TX6 : u_T := fun k => match k with
  | 0 => ("WeftShop$Shop", "board", "LWeftShop$Board;", true)
  | 1 => ("WeftShop$Shop", "lots", "LWeftShop$Lots;", true)
  | 2 => ("WeftShop$Shop", "weavers", "LWeftShop$Weavers;", true)
  | _ => ("WeftShop$Shop", "loom", "LWeftShop$Loom;", true)
def tyX6 : Nat → FieldType := fun k => match k with
  | 0 => .object "WeftShop$Board"
  | 1 => .object "WeftShop$Lots"
  | 2 => .object "WeftShop$Weavers"
  | _ => .object "WeftShop$Loom"
theorem nmX6 : ∀ a, a < 4 → ∀ b, b < 4 → a ≠ b → (TX6 a).2.1 ≠ (TX6 b).2.1 := by decide +kernel
theorem tyX6_ok : ∀ k, k < 4 → parseFieldDescriptor (TX6 k).2.2.1 = some (tyX6 k) := by decide +kernel
abbrev cX6_init : ByteArray := prog_8_method_1_code
def yX6_init : MethodName := ⟨RX6, "<init>", "()V"⟩
abbrev cX6_copyFrom : ByteArray := prog_8_method_2_code
def yX6_copyFrom : MethodName := ⟨RX6, "copyFrom", "(LWeftShop$Shop;)V"⟩
def RX7 : String := "WeftShop$Weavers"
def TX7 : u_T := fun k => match k with
  | 0 => ("WeftShop$Weavers", "count", "I", false)
  | 1 => ("WeftShop$Weavers", "speeds", "[I", true)
  | _ => ("WeftShop$Weavers", "masters", "[Z", true)
def tyX7 : Nat → FieldType := fun k => match k with
  | 0 => .int
  | 1 => .array .int
  | _ => .array .boolean
theorem nmX7 : ∀ a, a < 3 → ∀ b, b < 3 → a ≠ b → (TX7 a).2.1 ≠ (TX7 b).2.1 := by decide +kernel
theorem tyX7_ok : ∀ k, k < 3 → parseFieldDescriptor (TX7 k).2.2.1 = some (tyX7 k) := by decide +kernel
abbrev cX7_init : ByteArray := prog_9_method_1_code
def yX7_init : MethodName := ⟨RX7, "<init>", "()V"⟩
abbrev cX7_add : ByteArray := prog_9_method_2_code
def yX7_add : MethodName := ⟨RX7, "add", "(IZ)I"⟩
abbrev cX7_daysFor : ByteArray := prog_9_method_3_code
def yX7_daysFor : MethodName := ⟨RX7, "daysFor", "(II)I"⟩
abbrev cX7_copyFrom : ByteArray := prog_9_method_4_code
def yX7_copyFrom : MethodName := ⟨RX7, "copyFrom", "(LWeftShop$Weavers;)V"⟩
def RX8 : String := "WeftShop"
def TX8 : u_T := fun k => match k with
  | 0 => ("WeftShop", "now", "LWeftShop$Shop;", true)
  | 1 => ("WeftShop", "kept", "LWeftShop$Shop;", true)
  | 2 => ("WeftShop", "hasKept", "Z", false)
  | 3 => ("WeftShop", "longestOpen", "I", false)
  | 4 => ("WeftShop", "gap", "I", false)
  | 5 => ("WeftShop", "fields", "LWeftShop$FieldMap;", true)
  | 6 => ("WeftShop", "dealing", "LWeftShop$Dealing;", true)
  | _ => ("WeftShop", "sharing", "LWeftShop$Sharing;", true)
def tyX8 : Nat → FieldType := fun k => match k with
  | 0 => .object "WeftShop$Shop"
  | 1 => .object "WeftShop$Shop"
  | 2 => .boolean
  | 3 => .int
  | 4 => .int
  | 5 => .object "WeftShop$FieldMap"
  | 6 => .object "WeftShop$Dealing"
  | _ => .object "WeftShop$Sharing"
theorem nmX8 : ∀ a, a < 8 → ∀ b, b < 8 → a ≠ b → (TX8 a).2.1 ≠ (TX8 b).2.1 := by decide +kernel
theorem tyX8_ok : ∀ k, k < 8 → parseFieldDescriptor (TX8 k).2.2.1 = some (tyX8 k) := by decide +kernel
abbrev cX8_init : ByteArray := prog_1_method_1_code
def yX8_init : MethodName := ⟨RX8, "<init>", "()V"⟩
abbrev cX8_size : ByteArray := prog_1_method_2_code
def yX8_size : MethodName := ⟨RX8, "size", "(II)I"⟩
abbrev cX8_paint : ByteArray := prog_1_method_3_code
def yX8_paint : MethodName := ⟨RX8, "paint", "(IIIII)I"⟩
abbrev cX8_face : ByteArray := prog_1_method_4_code
def yX8_face : MethodName := ⟨RX8, "face", "(IIZ)I"⟩
abbrev cX8_cartoon : ByteArray := prog_1_method_5_code
def yX8_cartoon : MethodName := ⟨RX8, "cartoon", "(II)I"⟩
abbrev cX8_loom : ByteArray := prog_1_method_6_code
def yX8_loom : MethodName := ⟨RX8, "loom", "(II)I"⟩
abbrev cX8_rule : ByteArray := prog_1_method_7_code
def yX8_rule : MethodName := ⟨RX8, "rule", "(II)I"⟩
abbrev cX8_slits : ByteArray := prog_1_method_8_code
def yX8_slits : MethodName := ⟨RX8, "slits", "(I)I"⟩
abbrev cX8_slit : ByteArray := prog_1_method_9_code
def yX8_slit : MethodName := ⟨RX8, "slit", "(II)I"⟩
abbrev cX8_field : ByteArray := prog_1_method_10_code
def yX8_field : MethodName := ⟨RX8, "field", "(II)I"⟩
abbrev cX8_of : ByteArray := prog_1_method_11_code
def yX8_of : MethodName := ⟨RX8, "of", "(II)I"⟩
abbrev cX8_dye : ByteArray := prog_1_method_12_code
def yX8_dye : MethodName := ⟨RX8, "dye", "(II)I"⟩
abbrev cX8_lot : ByteArray := prog_1_method_13_code
def yX8_lot : MethodName := ⟨RX8, "lot", "(II)I"⟩
abbrev cX8_deal : ByteArray := prog_1_method_14_code
def yX8_deal : MethodName := ⟨RX8, "deal", "(I)I"⟩
abbrev cX8_dealt : ByteArray := prog_1_method_15_code
def yX8_dealt : MethodName := ⟨RX8, "dealt", "(II)I"⟩
abbrev cX8_weaver : ByteArray := prog_1_method_16_code
def yX8_weaver : MethodName := ⟨RX8, "weaver", "(IZ)I"⟩
abbrev cX8_speed : ByteArray := prog_1_method_17_code
def yX8_speed : MethodName := ⟨RX8, "speed", "(II)I"⟩
abbrev cX8_share : ByteArray := prog_1_method_18_code
def yX8_share : MethodName := ⟨RX8, "share", "(I)I"⟩
abbrev cX8_who : ByteArray := prog_1_method_19_code
def yX8_who : MethodName := ⟨RX8, "who", "(I)I"⟩
abbrev cX8_up : ByteArray := prog_1_method_20_code
def yX8_up : MethodName := ⟨RX8, "up", "()I"⟩
abbrev cX8_days : ByteArray := prog_1_method_21_code
def yX8_days : MethodName := ⟨RX8, "days", "(I)I"⟩
abbrev cX8_strip : ByteArray := prog_1_method_22_code
def yX8_strip : MethodName := ⟨RX8, "strip", "(II)I"⟩
abbrev cX8_woven : ByteArray := prog_1_method_23_code
def yX8_woven : MethodName := ⟨RX8, "woven", "(II)I"⟩
abbrev cX8_unweave : ByteArray := prog_1_method_24_code
def yX8_unweave : MethodName := ⟨RX8, "unweave", "(II)I"⟩
abbrev cX8_many : ByteArray := prog_1_method_25_code
def yX8_many : MethodName := ⟨RX8, "many", "(I)I"⟩
abbrev cX8_keep : ByteArray := prog_1_method_26_code
def yX8_keep : MethodName := ⟨RX8, "keep", "()I"⟩
abbrev cX8_back : ByteArray := prog_1_method_27_code
def yX8_back : MethodName := ⟨RX8, "back", "()I"⟩
abbrev cX8_findDealing : ByteArray := prog_1_method_28_code
def yX8_findDealing : MethodName := ⟨RX8, "findDealing", "(I)Z"⟩
abbrev cX8_isFromTo : ByteArray := prog_1_method_29_code
def yX8_isFromTo : MethodName := ⟨RX8, "isFromTo", "(III)Z"⟩
abbrev cX8_isBelow : ByteArray := prog_1_method_30_code
def yX8_isBelow : MethodName := ⟨RX8, "isBelow", "(II)Z"⟩
abbrev cX8_isColour : ByteArray := prog_1_method_31_code
def yX8_isColour : MethodName := ⟨RX8, "isColour", "(I)Z"⟩
abbrev cX8_isOnBoard : ByteArray := prog_1_method_32_code
def yX8_isOnBoard : MethodName := ⟨RX8, "isOnBoard", "(III)Z"⟩
abbrev cX8_cellOf : ByteArray := prog_1_method_33_code
def yX8_cellOf : MethodName := ⟨RX8, "cellOf", "(II)I"⟩
abbrev cX8_addSlit : ByteArray := prog_1_method_34_code
def yX8_addSlit : MethodName := ⟨RX8, "addSlit", "(III)I"⟩
def RX9 : String := "WeftShopModel"
def TX9 : u_T := fun k => match k with
  | 0 => ("WeftShopModel", "columns", "I", false)
  | 1 => ("WeftShopModel", "rows", "I", false)
  | 2 => ("WeftShopModel", "colours", "[I", true)
  | 3 => ("WeftShopModel", "faces", "[Z", true)
  | 4 => ("WeftShopModel", "lots", "I", false)
  | 5 => ("WeftShopModel", "lotColour", "[I", true)
  | 6 => ("WeftShopModel", "lotYarn", "[I", true)
  | 7 => ("WeftShopModel", "weavers", "I", false)
  | 8 => ("WeftShopModel", "speeds", "[I", true)
  | 9 => ("WeftShopModel", "masters", "[Z", true)
  | 10 => ("WeftShopModel", "seam", "I", false)
  | 11 => ("WeftShopModel", "lead", "I", false)
  | 12 => ("WeftShopModel", "strips", "I", false)
  | 13 => ("WeftShopModel", "since", "I", false)
  | 14 => ("WeftShopModel", "stripWeaver", "[I", true)
  | 15 => ("WeftShopModel", "stripFirst", "[I", true)
  | 16 => ("WeftShopModel", "stripWarps", "[I", true)
  | 17 => ("WeftShopModel", "done", "[I", true)
  | 18 => ("WeftShopModel", "isKept", "Z", false)
  | 19 => ("WeftShopModel", "keptNumbers", "[I", true)
  | 20 => ("WeftShopModel", "keptBoard", "[I", true)
  | 21 => ("WeftShopModel", "keptLots", "[I", true)
  | 22 => ("WeftShopModel", "keptWeavers", "[I", true)
  | 23 => ("WeftShopModel", "keptStrips", "[I", true)
  | 24 => ("WeftShopModel", "fields", "I", false)
  | 25 => ("WeftShopModel", "fieldAt", "[I", true)
  | 26 => ("WeftShopModel", "least", "[I", true)
  | 27 => ("WeftShopModel", "squares", "[I", true)
  | 28 => ("WeftShopModel", "yarns", "[I", true)
  | 29 => ("WeftShopModel", "theseFields", "I", false)
  | 30 => ("WeftShopModel", "theseField", "[I", true)
  | 31 => ("WeftShopModel", "theseLots", "I", false)
  | 32 => ("WeftShopModel", "theseLot", "[I", true)
  | 33 => ("WeftShopModel", "left", "[I", true)
  | 34 => ("WeftShopModel", "choice", "[I", true)
  | 35 => ("WeftShopModel", "best", "[I", true)
  | 36 => ("WeftShopModel", "bestYarn", "I", false)
  | 37 => ("WeftShopModel", "option", "[I", true)
  | 38 => ("WeftShopModel", "firsts", "[I", true)
  | 39 => ("WeftShopModel", "daysTo", "[I", true)
  | 40 => ("WeftShopModel", "shared", "[I", true)
  | 41 => ("WeftShopModel", "sharedMany", "I", false)
  | 42 => ("WeftShopModel", "sharedDays", "I", false)
  | _ => ("WeftShopModel", "whole", "[I", true)
def tyX9 : Nat → FieldType := fun k => match k with
  | 0 => .int
  | 1 => .int
  | 2 => .array .int
  | 3 => .array .boolean
  | 4 => .int
  | 5 => .array .int
  | 6 => .array .int
  | 7 => .int
  | 8 => .array .int
  | 9 => .array .boolean
  | 10 => .int
  | 11 => .int
  | 12 => .int
  | 13 => .int
  | 14 => .array .int
  | 15 => .array .int
  | 16 => .array .int
  | 17 => .array .int
  | 18 => .boolean
  | 19 => .array .int
  | 20 => .array .int
  | 21 => .array .int
  | 22 => .array .int
  | 23 => .array .int
  | 24 => .int
  | 25 => .array .int
  | 26 => .array .int
  | 27 => .array .int
  | 28 => .array .int
  | 29 => .int
  | 30 => .array .int
  | 31 => .int
  | 32 => .array .int
  | 33 => .array .int
  | 34 => .array .int
  | 35 => .array .int
  | 36 => .int
  | 37 => .array .int
  | 38 => .array .int
  | 39 => .array .int
  | 40 => .array .int
  | 41 => .int
  | 42 => .int
  | _ => .array .int
theorem nmX9 : ∀ a, a < 44 → ∀ b, b < 44 → a ≠ b → (TX9 a).2.1 ≠ (TX9 b).2.1 := by decide +kernel
theorem tyX9_ok : ∀ k, k < 44 → parseFieldDescriptor (TX9 k).2.2.1 = some (tyX9 k) := by decide +kernel
abbrev cX9_init : ByteArray := prog_11_method_1_code
def yX9_init : MethodName := ⟨RX9, "<init>", "()V"⟩
abbrev cX9_in : ByteArray := prog_11_method_2_code
def yX9_in : MethodName := ⟨RX9, "in", "(III)Z"⟩
abbrev cX9_isSquare : ByteArray := prog_11_method_3_code
def yX9_isSquare : MethodName := ⟨RX9, "isSquare", "(II)Z"⟩
abbrev cX9_spot : ByteArray := prog_11_method_4_code
def yX9_spot : MethodName := ⟨RX9, "spot", "(II)I"⟩
abbrev cX9_size : ByteArray := prog_11_method_5_code
def yX9_size : MethodName := ⟨RX9, "size", "(II)I"⟩
abbrev cX9_paint : ByteArray := prog_11_method_6_code
def yX9_paint : MethodName := ⟨RX9, "paint", "(IIIII)I"⟩
abbrev cX9_face : ByteArray := prog_11_method_7_code
def yX9_face : MethodName := ⟨RX9, "face", "(IIZ)I"⟩
abbrev cX9_toldAt : ByteArray := prog_11_method_8_code
def yX9_toldAt : MethodName := ⟨RX9, "toldAt", "(I)I"⟩
abbrev cX9_cartoon : ByteArray := prog_11_method_9_code
def yX9_cartoon : MethodName := ⟨RX9, "cartoon", "(II)I"⟩
abbrev cX9_loom : ByteArray := prog_11_method_10_code
def yX9_loom : MethodName := ⟨RX9, "loom", "(II)I"⟩
abbrev cX9_rule : ByteArray := prog_11_method_11_code
def yX9_rule : MethodName := ⟨RX9, "rule", "(II)I"⟩
abbrev cX9_isUnlike : ByteArray := prog_11_method_12_code
def yX9_isUnlike : MethodName := ⟨RX9, "isUnlike", "(II)Z"⟩
abbrev cX9_slitFrom : ByteArray := prog_11_method_13_code
def yX9_slitFrom : MethodName := ⟨RX9, "slitFrom", "(II)I"⟩
abbrev cX9_slits : ByteArray := prog_11_method_14_code
def yX9_slits : MethodName := ⟨RX9, "slits", "(I)I"⟩
abbrev cX9_slit : ByteArray := prog_11_method_15_code
def yX9_slit : MethodName := ⟨RX9, "slit", "(II)I"⟩
abbrev cX9_findFields : ByteArray := prog_11_method_16_code
def yX9_findFields : MethodName := ⟨RX9, "findFields", "()V"⟩
abbrev cX9_lesser : ByteArray := prog_11_method_17_code
def yX9_lesser : MethodName := ⟨RX9, "lesser", "(III)I"⟩
abbrev cX9_number : ByteArray := prog_11_method_18_code
def yX9_number : MethodName := ⟨RX9, "number", "()V"⟩
abbrev cX9_sides : ByteArray := prog_11_method_19_code
def yX9_sides : MethodName := ⟨RX9, "sides", "(II)I"⟩
abbrev cX9_field : ByteArray := prog_11_method_20_code
def yX9_field : MethodName := ⟨RX9, "field", "(II)I"⟩
abbrev cX9_of : ByteArray := prog_11_method_21_code
def yX9_of : MethodName := ⟨RX9, "of", "(II)I"⟩
abbrev cX9_dye : ByteArray := prog_11_method_22_code
def yX9_dye : MethodName := ⟨RX9, "dye", "(II)I"⟩
abbrev cX9_gather : ByteArray := prog_11_method_23_code
def yX9_gather : MethodName := ⟨RX9, "gather", "(I)Z"⟩
abbrev cX9_yarnFrom : ByteArray := prog_11_method_24_code
def yX9_yarnFrom : MethodName := ⟨RX9, "yarnFrom", "(I)I"⟩
abbrev cX9_findDealing : ByteArray := prog_11_method_25_code
def yX9_findDealing : MethodName := ⟨RX9, "findDealing", "(I)Z"⟩
abbrev cX9_lot : ByteArray := prog_11_method_26_code
def yX9_lot : MethodName := ⟨RX9, "lot", "(II)I"⟩
abbrev cX9_deal : ByteArray := prog_11_method_27_code
def yX9_deal : MethodName := ⟨RX9, "deal", "(I)I"⟩
abbrev cX9_dealt : ByteArray := prog_11_method_28_code
def yX9_dealt : MethodName := ⟨RX9, "dealt", "(II)I"⟩
abbrev cX9_weaver : ByteArray := prog_11_method_29_code
def yX9_weaver : MethodName := ⟨RX9, "weaver", "(IZ)I"⟩
abbrev cX9_speed : ByteArray := prog_11_method_30_code
def yX9_speed : MethodName := ⟨RX9, "speed", "(II)I"⟩
abbrev cX9_workAt : ByteArray := prog_11_method_31_code
def yX9_workAt : MethodName := ⟨RX9, "workAt", "(II)I"⟩
abbrev cX9_work : ByteArray := prog_11_method_32_code
def yX9_work : MethodName := ⟨RX9, "work", "(III)I"⟩
abbrev cX9_hasFace : ByteArray := prog_11_method_33_code
def yX9_hasFace : MethodName := ⟨RX9, "hasFace", "(II)Z"⟩
abbrev cX9_daysOf : ByteArray := prog_11_method_34_code
def yX9_daysOf : MethodName := ⟨RX9, "daysOf", "(III)I"⟩
abbrev cX9_isTaken : ByteArray := prog_11_method_35_code
def yX9_isTaken : MethodName := ⟨RX9, "isTaken", "(II)Z"⟩
abbrev cX9_findSharing : ByteArray := prog_11_method_36_code
def yX9_findSharing : MethodName := ⟨RX9, "findSharing", "()Z"⟩
abbrev cX9_share : ByteArray := prog_11_method_37_code
def yX9_share : MethodName := ⟨RX9, "share", "(I)I"⟩
abbrev cX9_who : ByteArray := prog_11_method_38_code
def yX9_who : MethodName := ⟨RX9, "who", "(I)I"⟩
abbrev cX9_up : ByteArray := prog_11_method_39_code
def yX9_up : MethodName := ⟨RX9, "up", "()I"⟩
abbrev cX9_allOf : ByteArray := prog_11_method_40_code
def yX9_allOf : MethodName := ⟨RX9, "allOf", "(I)I"⟩
abbrev cX9_wholeOf : ByteArray := prog_11_method_41_code
def yX9_wholeOf : MethodName := ⟨RX9, "wholeOf", "(I)I"⟩
abbrev cX9_findWhole : ByteArray := prog_11_method_42_code
def yX9_findWhole : MethodName := ⟨RX9, "findWhole", "()V"⟩
abbrev cX9_isAhead : ByteArray := prog_11_method_43_code
def yX9_isAhead : MethodName := ⟨RX9, "isAhead", "(I)Z"⟩
abbrev cX9_days : ByteArray := prog_11_method_44_code
def yX9_days : MethodName := ⟨RX9, "days", "(I)I"⟩
abbrev cX9_strip : ByteArray := prog_11_method_45_code
def yX9_strip : MethodName := ⟨RX9, "strip", "(II)I"⟩
abbrev cX9_isWoven : ByteArray := prog_11_method_46_code
def yX9_isWoven : MethodName := ⟨RX9, "isWoven", "(II)Z"⟩
abbrev cX9_woven : ByteArray := prog_11_method_47_code
def yX9_woven : MethodName := ⟨RX9, "woven", "(II)I"⟩
abbrev cX9_unweave : ByteArray := prog_11_method_48_code
def yX9_unweave : MethodName := ⟨RX9, "unweave", "(II)I"⟩
abbrev cX9_manyWoven : ByteArray := prog_11_method_49_code
def yX9_manyWoven : MethodName := ⟨RX9, "manyWoven", "()I"⟩
abbrev cX9_manyFaces : ByteArray := prog_11_method_50_code
def yX9_manyFaces : MethodName := ⟨RX9, "manyFaces", "()I"⟩
abbrev cX9_many : ByteArray := prog_11_method_51_code
def yX9_many : MethodName := ⟨RX9, "many", "(I)I"⟩
abbrev cX9_keep : ByteArray := prog_11_method_52_code
def yX9_keep : MethodName := ⟨RX9, "keep", "()I"⟩
abbrev cX9_back : ByteArray := prog_11_method_53_code
def yX9_back : MethodName := ⟨RX9, "back", "()I"⟩
def RJ9 : String := "java/lang/Math"
abbrev cJ9_max_7cf53 : ByteArray := prog_12_method_65_code
def yJ9_max_7cf53 : MethodName := ⟨RJ9, "max", "(II)I"⟩
abbrev cJ9_min_7cf53 : ByteArray := prog_12_method_69_code
def yJ9_min_7cf53 : MethodName := ⟨RJ9, "min", "(II)I"⟩
def RJ10 : String := "java/lang/System"
def RJ7 : String := "java/util/Arrays"
abbrev cJ7_fill_53178 : ByteArray := prog_14_method_103_code
def yJ7_fill_53178 : MethodName := ⟨RJ7, "fill", "([II)V"⟩
def RL : String := "WeftShopLaw"
abbrev cL_law : ByteArray := code
def yL_law : MethodName := ⟨RL, "law", "([I)Z"⟩
abbrev vwCl : List vw_C := [(RX0, TX0, 3), (RX1, TX1, 9), (RX2, TX2, 8), (RX3, TX3, 9), (RX4, TX4, 3), (RX5, TX5, 9), (RX6, TX6, 4), (RX7, TX7, 3), (RX8, TX8, 8), (RX9, TX9, 44)]
def ab_tb : List Cond := lw_tbl.filter goodWord
theorem ab_in {w : Cond} (i : Nat) (h : lw_tbl[i]? = some w) (g : goodWord w = true) : w ∈ ab_tb := List.mem_filter.mpr ⟨List.mem_of_getElem? h, g⟩
theorem ab_in0 {w : Cond} (i : Nat) (h : (k2_sels lw_privs)[i]? = some w) (g : goodWord w = true) : w ∈ ab_tb := List.mem_filter.mpr ⟨List.mem_append_left _ (List.mem_of_getElem? h), g⟩
theorem ab_in1 {w : Cond} (i : Nat) (h : tables_1_1[i]? = some w) (g : goodWord w = true) : w ∈ ab_tb := List.mem_filter.mpr ⟨List.mem_append_right _ (List.mem_append_left _ (List.mem_of_getElem? h)), g⟩
theorem ab_in2 {w : Cond} (i : Nat) (h : tables_1_2[i]? = some w) (g : goodWord w = true) : w ∈ ab_tb := List.mem_filter.mpr ⟨List.mem_append_right _ (List.mem_append_right _ (List.mem_append_left _ (List.mem_of_getElem? h))), g⟩
theorem ab_in3 {w : Cond} (i : Nat) (h : tables_1_3[i]? = some w) (g : goodWord w = true) : w ∈ ab_tb := List.mem_filter.mpr ⟨List.mem_append_right _ (List.mem_append_right _ (List.mem_append_right _ (List.mem_append_left _ (List.mem_of_getElem? h)))), g⟩
theorem ab_in4 {w : Cond} (i : Nat) (h : tables_1_4[i]? = some w) (g : goodWord w = true) : w ∈ ab_tb := List.mem_filter.mpr ⟨List.mem_append_right _ (List.mem_append_right _ (List.mem_append_right _ (List.mem_append_right _ (List.mem_append_left _ (List.mem_of_getElem? h))))), g⟩
theorem ab_in5 {w : Cond} (i : Nat) (h : tables_1_5[i]? = some w) (g : goodWord w = true) : w ∈ ab_tb := List.mem_filter.mpr ⟨List.mem_append_right _ (List.mem_append_right _ (List.mem_append_right _ (List.mem_append_right _ (List.mem_append_right _ (List.mem_of_getElem? h))))), g⟩
def ab_ty : Nat → Nat → FieldType := fun c => match c with
  | 0 => tyX0
  | 1 => tyX1
  | 2 => tyX2
  | 3 => tyX3
  | 4 => tyX4
  | 5 => tyX5
  | 6 => tyX6
  | 7 => tyX7
  | 8 => tyX8
  | _ => tyX9
abbrev ab_M : Type := MethodName × ByteArray × Nat × Option FieldType × Nat
def ab_mok (M : ab_M) : Prop := Cond.code M.1 M.2.1 M.2.2.1 M.2.2.2.1 ∈ ab_tb ∧ Cond.initialized M.1.cls ∈ ab_tb ∧ plainName M.1.cls = true ∧ (M.1.cls ≠ "java/lang/invoke/MethodHandle" ∧ M.1.cls ≠ "java/lang/invoke/VarHandle") ∧ M.2.2.1 ≤ 20
def mX0_init : ab_M := (yX0_init, cX0_init, 1, none, 1)
theorem mokX0_init : ab_mok mX0_init := ⟨(ab_in1 32 rfl rfl), (ab_in1 3 rfl rfl), by decide, ⟨by decide, by decide⟩, by decide⟩
def mX0_renew : ab_M := (yX0_renew, cX0_renew, 3, none, 3)
theorem mokX0_renew : ab_mok mX0_renew := ⟨(ab_in2 63 rfl rfl), (ab_in1 3 rfl rfl), by decide, ⟨by decide, by decide⟩, by decide⟩
def mX0_copyFrom : ab_M := (yX0_copyFrom, cX0_copyFrom, 2, none, 2)
theorem mokX0_copyFrom : ab_mok mX0_copyFrom := ⟨(ab_in3 183 rfl rfl), (ab_in1 3 rfl rfl), by decide, ⟨by decide, by decide⟩, by decide⟩
def mX0_hasSquare : ab_M := (yX0_hasSquare, cX0_hasSquare, 3, (some .boolean), 3)
theorem mokX0_hasSquare : ab_mok mX0_hasSquare := ⟨(ab_in2 102 rfl rfl), (ab_in1 3 rfl rfl), by decide, ⟨by decide, by decide⟩, by decide⟩
def mX0_cellOfCartoon : ab_M := (yX0_cellOfCartoon, cX0_cellOfCartoon, 3, (some .int), 3)
theorem mokX0_cellOfCartoon : ab_mok mX0_cellOfCartoon := ⟨(ab_in2 87 rfl rfl), (ab_in1 3 rfl rfl), by decide, ⟨by decide, by decide⟩, by decide⟩
def mX0_colourAt : ab_M := (yX0_colourAt, cX0_colourAt, 2, (some .int), 2)
theorem mokX0_colourAt : ab_mok mX0_colourAt := ⟨(ab_in2 140 rfl rfl), (ab_in1 3 rfl rfl), by decide, ⟨by decide, by decide⟩, by decide⟩
def mX0_hasFace : ab_M := (yX0_hasFace, cX0_hasFace, 2, (some .boolean), 2)
theorem mokX0_hasFace : ab_mok mX0_hasFace := ⟨(ab_in2 107 rfl rfl), (ab_in1 3 rfl rfl), by decide, ⟨by decide, by decide⟩, by decide⟩
def mX0_workAt : ab_M := (yX0_workAt, cX0_workAt, 2, (some .int), 2)
theorem mokX0_workAt : ab_mok mX0_workAt := ⟨(ab_in3 90 rfl rfl), (ab_in1 3 rfl rfl), by decide, ⟨by decide, by decide⟩, by decide⟩
def mX0_dip : ab_M := (yX0_dip, cX0_dip, 3, none, 3)
theorem mokX0_dip : ab_mok mX0_dip := ⟨(ab_in2 94 rfl rfl), (ab_in1 3 rfl rfl), by decide, ⟨by decide, by decide⟩, by decide⟩
def mX0_turnFace : ab_M := (yX0_turnFace, cX0_turnFace, 2, none, 2)
theorem mokX0_turnFace : ab_mok mX0_turnFace := ⟨(ab_in2 111 rfl rfl), (ab_in1 3 rfl rfl), by decide, ⟨by decide, by decide⟩, by decide⟩
def mX0_countFaces : ab_M := (yX0_countFaces, cX0_countFaces, 3, (some .int), 1)
theorem mokX0_countFaces : ab_mok mX0_countFaces := ⟨(ab_in3 171 rfl rfl), (ab_in1 3 rfl rfl), by decide, ⟨by decide, by decide⟩, by decide⟩
def mX0_facesOfWarp : ab_M := (yX0_facesOfWarp, cX0_facesOfWarp, 4, (some .int), 2)
theorem mokX0_facesOfWarp : ab_mok mX0_facesOfWarp := ⟨(ab_in3 39 rfl rfl), (ab_in1 3 rfl rfl), by decide, ⟨by decide, by decide⟩, by decide⟩
def mX0_workOfWarp : ab_M := (yX0_workOfWarp, cX0_workOfWarp, 2, (some .int), 2)
theorem mokX0_workOfWarp : ab_mok mX0_workOfWarp := ⟨(ab_in3 35 rfl rfl), (ab_in1 3 rfl rfl), by decide, ⟨by decide, by decide⟩, by decide⟩
def mX0_isSlitAt : ab_M := (yX0_isSlitAt, cX0_isSlitAt, 3, (some .boolean), 3)
theorem mokX0_isSlitAt : ab_mok mX0_isSlitAt := ⟨(ab_in2 136 rfl rfl), (ab_in1 3 rfl rfl), by decide, ⟨by decide, by decide⟩, by decide⟩
def mX0_slitLength : ab_M := (yX0_slitLength, cX0_slitLength, 4, (some .int), 3)
theorem mokX0_slitLength : ab_mok mX0_slitLength := ⟨(ab_in2 155 rfl rfl), (ab_in1 3 rfl rfl), by decide, ⟨by decide, by decide⟩, by decide⟩
def mX0_lengthOfSlitFrom : ab_M := (yX0_lengthOfSlitFrom, cX0_lengthOfSlitFrom, 4, (some .int), 3)
theorem mokX0_lengthOfSlitFrom : ab_mok mX0_lengthOfSlitFrom := ⟨(ab_in2 132 rfl rfl), (ab_in1 3 rfl rfl), by decide, ⟨by decide, by decide⟩, by decide⟩
def mX1_init : ab_M := (yX1_init, cX1_init, 1, none, 1)
theorem mokX1_init : ab_mok mX1_init := ⟨(ab_in1 197 rfl rfl), (ab_in1 8 rfl rfl), by decide, ⟨by decide, by decide⟩, by decide⟩
def mX1_find : ab_M := (yX1_find, cX1_find, 5, (some .boolean), 4)
theorem mokX1_find : ab_mok mX1_find := ⟨(ab_in2 204 rfl rfl), (ab_in1 8 rfl rfl), by decide, ⟨by decide, by decide⟩, by decide⟩
def mX1_gatherFields : ab_M := (yX1_gatherFields, cX1_gatherFields, 4, (some .boolean), 3)
theorem mokX1_gatherFields : ab_mok mX1_gatherFields := ⟨(ab_in2 208 rfl rfl), (ab_in1 8 rfl rfl), by decide, ⟨by decide, by decide⟩, by decide⟩
def mX1_gatherLots : ab_M := (yX1_gatherLots, cX1_gatherLots, 4, (some .boolean), 3)
theorem mokX1_gatherLots : ab_mok mX1_gatherLots := ⟨(ab_in2 212 rfl rfl), (ab_in1 8 rfl rfl), by decide, ⟨by decide, by decide⟩, by decide⟩
def mX1_weighSets : ab_M := (yX1_weighSets, cX1_weighSets, 7, none, 2)
theorem mokX1_weighSets : ab_mok mX1_weighSets := ⟨(ab_in2 216 rfl rfl), (ab_in1 8 rfl rfl), by decide, ⟨by decide, by decide⟩, by decide⟩
def mX1_addLot : ab_M := (yX1_addLot, cX1_addLot, 8, none, 3)
theorem mokX1_addLot : ab_mok mX1_addLot := ⟨(ab_in2 220 rfl rfl), (ab_in1 8 rfl rfl), by decide, ⟨by decide, by decide⟩, by decide⟩
def mX1_readChoices : ab_M := (yX1_readChoices, cX1_readChoices, 5, none, 1)
theorem mokX1_readChoices : ab_mok mX1_readChoices := ⟨(ab_in2 225 rfl rfl), (ab_in1 8 rfl rfl), by decide, ⟨by decide, by decide⟩, by decide⟩
def mX1_lotFor : ab_M := (yX1_lotFor, cX1_lotFor, 3, (some .int), 2)
theorem mokX1_lotFor : ab_mok mX1_lotFor := ⟨(ab_in2 238 rfl rfl), (ab_in1 8 rfl rfl), by decide, ⟨by decide, by decide⟩, by decide⟩
def mX1_yarnFrom : ab_M := (yX1_yarnFrom, cX1_yarnFrom, 5, (some .int), 3)
theorem mokX1_yarnFrom : ab_mok mX1_yarnFrom := ⟨(ab_in2 230 rfl rfl), (ab_in1 8 rfl rfl), by decide, ⟨by decide, by decide⟩, by decide⟩
def mX1_yarnInAll : ab_M := (yX1_yarnInAll, cX1_yarnInAll, 4, (some .int), 2)
theorem mokX1_yarnInAll : ab_mok mX1_yarnInAll := ⟨(ab_in3 6 rfl rfl), (ab_in1 8 rfl rfl), by decide, ⟨by decide, by decide⟩, by decide⟩
def mX1_countServed : ab_M := (yX1_countServed, cX1_countServed, 3, (some .int), 1)
theorem mokX1_countServed : ab_mok mX1_countServed := ⟨(ab_in3 11 rfl rfl), (ab_in1 8 rfl rfl), by decide, ⟨by decide, by decide⟩, by decide⟩
def mX2_init : ab_M := (yX2_init, cX2_init, 1, none, 1)
theorem mokX2_init : ab_mok mX2_init := ⟨(ab_in1 157 rfl rfl), (ab_in1 7 rfl rfl), by decide, ⟨by decide, by decide⟩, by decide⟩
def mX2_find : ab_M := (yX2_find, cX2_find, 4, none, 2)
theorem mokX2_find : ab_mok mX2_find := ⟨(ab_in2 164 rfl rfl), (ab_in1 7 rfl rfl), by decide, ⟨by decide, by decide⟩, by decide⟩
def mX2_spread : ab_M := (yX2_spread, cX2_spread, 6, none, 3)
theorem mokX2_spread : ab_mok mX2_spread := ⟨(ab_in2 170 rfl rfl), (ab_in1 7 rfl rfl), by decide, ⟨by decide, by decide⟩, by decide⟩
def mX2_look : ab_M := (yX2_look, cX2_look, 5, none, 4)
theorem mokX2_look : ab_mok mX2_look := ⟨(ab_in2 179 rfl rfl), (ab_in1 7 rfl rfl), by decide, ⟨by decide, by decide⟩, by decide⟩
def mX2_join : ab_M := (yX2_join, cX2_join, 2, none, 2)
theorem mokX2_join : ab_mok mX2_join := ⟨(ab_in2 175 rfl rfl), (ab_in1 7 rfl rfl), by decide, ⟨by decide, by decide⟩, by decide⟩
def mX3_init : ab_M := (yX3_init, cX3_init, 1, none, 1)
theorem mokX3_init : ab_mok mX3_init := ⟨(ab_in1 100 rfl rfl), (ab_in1 6 rfl rfl), by decide, ⟨by decide, by decide⟩, by decide⟩
def mX3_isUp : ab_M := (yX3_isUp, cX3_isUp, 1, (some .boolean), 1)
theorem mokX3_isUp : ab_mok mX3_isUp := ⟨(ab_in3 98 rfl rfl), (ab_in1 6 rfl rfl), by decide, ⟨by decide, by decide⟩, by decide⟩
def mX3_takeDown : ab_M := (yX3_takeDown, cX3_takeDown, 1, none, 1)
theorem mokX3_takeDown : ab_mok mX3_takeDown := ⟨(ab_in2 70 rfl rfl), (ab_in1 6 rfl rfl), by decide, ⟨by decide, by decide⟩, by decide⟩
def mX3_setUp : ab_M := (yX3_setUp, cX3_setUp, 5, none, 3)
theorem mokX3_setUp : ab_mok mX3_setUp := ⟨(ab_in3 77 rfl rfl), (ab_in1 6 rfl rfl), by decide, ⟨by decide, by decide⟩, by decide⟩
def mX3_measure : ab_M := (yX3_measure, cX3_measure, 5, none, 3)
theorem mokX3_measure : ab_mok mX3_measure := ⟨(ab_in3 81 rfl rfl), (ab_in1 6 rfl rfl), by decide, ⟨by decide, by decide⟩, by decide⟩
def mX3_workInPick : ab_M := (yX3_workInPick, cX3_workInPick, 7, (some .int), 5)
theorem mokX3_workInPick : ab_mok mX3_workInPick := ⟨(ab_in3 85 rfl rfl), (ab_in1 6 rfl rfl), by decide, ⟨by decide, by decide⟩, by decide⟩
def mX3_workOf : ab_M := (yX3_workOf, cX3_workOf, 2, (some .int), 2)
theorem mokX3_workOf : ab_mok mX3_workOf := ⟨(ab_in3 118 rfl rfl), (ab_in1 6 rfl rfl), by decide, ⟨by decide, by decide⟩, by decide⟩
def mX3_wholePicks : ab_M := (yX3_wholePicks, cX3_wholePicks, 3, (some .int), 2)
theorem mokX3_wholePicks : ab_mok mX3_wholePicks := ⟨(ab_in3 110 rfl rfl), (ab_in1 6 rfl rfl), by decide, ⟨by decide, by decide⟩, by decide⟩
def mX3_fewestWholePicks : ab_M := (yX3_fewestWholePicks, cX3_fewestWholePicks, 3, (some .int), 1)
theorem mokX3_fewestWholePicks : ab_mok mX3_fewestWholePicks := ⟨(ab_in3 125 rfl rfl), (ab_in1 6 rfl rfl), by decide, ⟨by decide, by decide⟩, by decide⟩
def mX3_weaveDay : ab_M := (yX3_weaveDay, cX3_weaveDay, 4, none, 3)
theorem mokX3_weaveDay : ab_mok mX3_weaveDay := ⟨(ab_in3 102 rfl rfl), (ab_in1 6 rfl rfl), by decide, ⟨by decide, by decide⟩, by decide⟩
def mX3_wouldGoOn : ab_M := (yX3_wouldGoOn, cX3_wouldGoOn, 3, (some .boolean), 3)
theorem mokX3_wouldGoOn : ab_mok mX3_wouldGoOn := ⟨(ab_in3 135 rfl rfl), (ab_in1 6 rfl rfl), by decide, ⟨by decide, by decide⟩, by decide⟩
def mX3_beginDay : ab_M := (yX3_beginDay, cX3_beginDay, 2, none, 1)
theorem mokX3_beginDay : ab_mok mX3_beginDay := ⟨(ab_in3 106 rfl rfl), (ab_in1 6 rfl rfl), by decide, ⟨by decide, by decide⟩, by decide⟩
def mX3_isTooFarAhead : ab_M := (yX3_isTooFarAhead, cX3_isTooFarAhead, 4, (some .boolean), 3)
theorem mokX3_isTooFarAhead : ab_mok mX3_isTooFarAhead := ⟨(ab_in3 114 rfl rfl), (ab_in1 6 rfl rfl), by decide, ⟨by decide, by decide⟩, by decide⟩
def mX3_isWoven : ab_M := (yX3_isWoven, cX3_isWoven, 6, (some .boolean), 4)
theorem mokX3_isWoven : ab_mok mX3_isWoven := ⟨(ab_in3 143 rfl rfl), (ab_in1 6 rfl rfl), by decide, ⟨by decide, by decide⟩, by decide⟩
def mX3_stripAt : ab_M := (yX3_stripAt, cX3_stripAt, 3, (some .int), 2)
theorem mokX3_stripAt : ab_mok mX3_stripAt := ⟨(ab_in3 147 rfl rfl), (ab_in1 6 rfl rfl), by decide, ⟨by decide, by decide⟩, by decide⟩
def mX3_countWoven : ab_M := (yX3_countWoven, cX3_countWoven, 4, (some .int), 2)
theorem mokX3_countWoven : ab_mok mX3_countWoven := ⟨(ab_in3 163 rfl rfl), (ab_in1 6 rfl rfl), by decide, ⟨by decide, by decide⟩, by decide⟩
def mX3_countWovenOf : ab_M := (yX3_countWovenOf, cX3_countWovenOf, 7, (some .int), 3)
theorem mokX3_countWovenOf : ab_mok mX3_countWovenOf := ⟨(ab_in3 167 rfl rfl), (ab_in1 6 rfl rfl), by decide, ⟨by decide, by decide⟩, by decide⟩
def mX3_unweaveFrom : ab_M := (yX3_unweaveFrom, cX3_unweaveFrom, 4, (some .int), 3)
theorem mokX3_unweaveFrom : ab_mok mX3_unweaveFrom := ⟨(ab_in3 155 rfl rfl), (ab_in1 6 rfl rfl), by decide, ⟨by decide, by decide⟩, by decide⟩
def mX3_copyFrom : ab_M := (yX3_copyFrom, cX3_copyFrom, 2, none, 2)
theorem mokX3_copyFrom : ab_mok mX3_copyFrom := ⟨(ab_in3 197 rfl rfl), (ab_in1 6 rfl rfl), by decide, ⟨by decide, by decide⟩, by decide⟩
def mX4_init : ab_M := (yX4_init, cX4_init, 1, none, 1)
theorem mokX4_init : ab_mok mX4_init := ⟨(ab_in1 56 rfl rfl), (ab_in1 4 rfl rfl), by decide, ⟨by decide, by decide⟩, by decide⟩
def mX4_add : ab_M := (yX4_add, cX4_add, 3, (some .int), 3)
theorem mokX4_add : ab_mok mX4_add := ⟨(ab_in2 192 rfl rfl), (ab_in1 4 rfl rfl), by decide, ⟨by decide, by decide⟩, by decide⟩
def mX4_copyFrom : ab_M := (yX4_copyFrom, cX4_copyFrom, 2, none, 2)
theorem mokX4_copyFrom : ab_mok mX4_copyFrom := ⟨(ab_in3 188 rfl rfl), (ab_in1 4 rfl rfl), by decide, ⟨by decide, by decide⟩, by decide⟩
def mX5_init : ab_M := (yX5_init, cX5_init, 1, none, 1)
theorem mokX5_init : ab_mok mX5_init := ⟨(ab_in1 232 rfl rfl), (ab_in1 9 rfl rfl), by decide, ⟨by decide, by decide⟩, by decide⟩
def mX5_find : ab_M := (yX5_find, cX5_find, 4, (some .boolean), 3)
theorem mokX5_find : ab_mok mX5_find := ⟨(ab_in3 31 rfl rfl), (ab_in1 9 rfl rfl), by decide, ⟨by decide, by decide⟩, by decide⟩
def mX5_tryFrom : ab_M := (yX5_tryFrom, cX5_tryFrom, 9, none, 6)
theorem mokX5_tryFrom : ab_mok mX5_tryFrom := ⟨(ab_in3 44 rfl rfl), (ab_in1 9 rfl rfl), by decide, ⟨by decide, by decide⟩, by decide⟩
def mX5_daysOfStrip : ab_M := (yX5_daysOfStrip, cX5_daysOfStrip, 5, (some .int), 5)
theorem mokX5_daysOfStrip : ab_mok mX5_daysOfStrip := ⟨(ab_in3 55 rfl rfl), (ab_in1 9 rfl rfl), by decide, ⟨by decide, by decide⟩, by decide⟩
def mX5_takeIfBetter : ab_M := (yX5_takeIfBetter, cX5_takeIfBetter, 3, none, 3)
theorem mokX5_takeIfBetter : ab_mok mX5_takeIfBetter := ⟨(ab_in3 48 rfl rfl), (ab_in1 9 rfl rfl), by decide, ⟨by decide, by decide⟩, by decide⟩
def mX5_weaverAt : ab_M := (yX5_weaverAt, cX5_weaverAt, 4, (some .int), 2)
theorem mokX5_weaverAt : ab_mok mX5_weaverAt := ⟨(ab_in3 69 rfl rfl), (ab_in1 9 rfl rfl), by decide, ⟨by decide, by decide⟩, by decide⟩
def mX6_init : ab_M := (yX6_init, cX6_init, 1, none, 1)
theorem mokX6_init : ab_mok mX6_init := ⟨(ab_in1 26 rfl rfl), (ab_in1 2 rfl rfl), by decide, ⟨by decide, by decide⟩, by decide⟩
def mX6_copyFrom : ab_M := (yX6_copyFrom, cX6_copyFrom, 2, none, 2)
theorem mokX6_copyFrom : ab_mok mX6_copyFrom := ⟨(ab_in3 179 rfl rfl), (ab_in1 2 rfl rfl), by decide, ⟨by decide, by decide⟩, by decide⟩
def mX7_init : ab_M := (yX7_init, cX7_init, 1, none, 1)
theorem mokX7_init : ab_mok mX7_init := ⟨(ab_in1 78 rfl rfl), (ab_in1 5 rfl rfl), by decide, ⟨by decide, by decide⟩, by decide⟩
def mX7_add : ab_M := (yX7_add, cX7_add, 3, (some .int), 3)
theorem mokX7_add : ab_mok mX7_add := ⟨(ab_in3 19 rfl rfl), (ab_in1 5 rfl rfl), by decide, ⟨by decide, by decide⟩, by decide⟩
def mX7_daysFor : ab_M := (yX7_daysFor, cX7_daysFor, 4, (some .int), 3)
theorem mokX7_daysFor : ab_mok mX7_daysFor := ⟨(ab_in3 59 rfl rfl), (ab_in1 5 rfl rfl), by decide, ⟨by decide, by decide⟩, by decide⟩
def mX7_copyFrom : ab_M := (yX7_copyFrom, cX7_copyFrom, 3, none, 2)
theorem mokX7_copyFrom : ab_mok mX7_copyFrom := ⟨(ab_in3 193 rfl rfl), (ab_in1 5 rfl rfl), by decide, ⟨by decide, by decide⟩, by decide⟩
def mX8_init : ab_M := (yX8_init, cX8_init, 1, none, 1)
theorem mokX8_init : ab_mok mX8_init := ⟨(ab_in1 18 rfl rfl), (ab_in1 1 rfl rfl), by decide, ⟨by decide, by decide⟩, by decide⟩
def mX8_size : ab_M := (yX8_size, cX8_size, 3, (some .int), 3)
theorem mokX8_size : ab_mok mX8_size := ⟨(ab_in2 56 rfl rfl), (ab_in1 1 rfl rfl), by decide, ⟨by decide, by decide⟩, by decide⟩
def mX8_paint : ab_M := (yX8_paint, cX8_paint, 9, (some .int), 6)
theorem mokX8_paint : ab_mok mX8_paint := ⟨(ab_in2 74 rfl rfl), (ab_in1 1 rfl rfl), by decide, ⟨by decide, by decide⟩, by decide⟩
def mX8_face : ab_M := (yX8_face, cX8_face, 6, (some .int), 4)
theorem mokX8_face : ab_mok mX8_face := ⟨(ab_in2 98 rfl rfl), (ab_in1 1 rfl rfl), by decide, ⟨by decide, by decide⟩, by decide⟩
def mX8_cartoon : ab_M := (yX8_cartoon, cX8_cartoon, 4, (some .int), 3)
theorem mokX8_cartoon : ab_mok mX8_cartoon := ⟨(ab_in2 115 rfl rfl), (ab_in1 1 rfl rfl), by decide, ⟨by decide, by decide⟩, by decide⟩
def mX8_loom : ab_M := (yX8_loom, cX8_loom, 4, (some .int), 3)
theorem mokX8_loom : ab_mok mX8_loom := ⟨(ab_in2 119 rfl rfl), (ab_in1 1 rfl rfl), by decide, ⟨by decide, by decide⟩, by decide⟩
def mX8_rule : ab_M := (yX8_rule, cX8_rule, 4, (some .int), 3)
theorem mokX8_rule : ab_mok mX8_rule := ⟨(ab_in2 124 rfl rfl), (ab_in1 1 rfl rfl), by decide, ⟨by decide, by decide⟩, by decide⟩
def mX8_slits : ab_M := (yX8_slits, cX8_slits, 6, (some .int), 2)
theorem mokX8_slits : ab_mok mX8_slits := ⟨(ab_in2 128 rfl rfl), (ab_in1 1 rfl rfl), by decide, ⟨by decide, by decide⟩, by decide⟩
def mX8_slit : ab_M := (yX8_slit, cX8_slit, 4, (some .int), 3)
theorem mokX8_slit : ab_mok mX8_slit := ⟨(ab_in2 151 rfl rfl), (ab_in1 1 rfl rfl), by decide, ⟨by decide, by decide⟩, by decide⟩
def mX8_field : ab_M := (yX8_field, cX8_field, 3, (some .int), 3)
theorem mokX8_field : ab_mok mX8_field := ⟨(ab_in2 160 rfl rfl), (ab_in1 1 rfl rfl), by decide, ⟨by decide, by decide⟩, by decide⟩
def mX8_of : ab_M := (yX8_of, cX8_of, 3, (some .int), 3)
theorem mokX8_of : ab_mok mX8_of := ⟨(ab_in2 184 rfl rfl), (ab_in1 1 rfl rfl), by decide, ⟨by decide, by decide⟩, by decide⟩
def mX8_dye : ab_M := (yX8_dye, cX8_dye, 3, (some .int), 3)
theorem mokX8_dye : ab_mok mX8_dye := ⟨(ab_in2 188 rfl rfl), (ab_in1 1 rfl rfl), by decide, ⟨by decide, by decide⟩, by decide⟩
def mX8_lot : ab_M := (yX8_lot, cX8_lot, 3, (some .int), 3)
theorem mokX8_lot : ab_mok mX8_lot := ⟨(ab_in2 196 rfl rfl), (ab_in1 1 rfl rfl), by decide, ⟨by decide, by decide⟩, by decide⟩
def mX8_deal : ab_M := (yX8_deal, cX8_deal, 2, (some .int), 2)
theorem mokX8_deal : ab_mok mX8_deal := ⟨(ab_in2 234 rfl rfl), (ab_in1 1 rfl rfl), by decide, ⟨by decide, by decide⟩, by decide⟩
def mX8_dealt : ab_M := (yX8_dealt, cX8_dealt, 4, (some .int), 3)
theorem mokX8_dealt : ab_mok mX8_dealt := ⟨(ab_in3 2 rfl rfl), (ab_in1 1 rfl rfl), by decide, ⟨by decide, by decide⟩, by decide⟩
def mX8_weaver : ab_M := (yX8_weaver, cX8_weaver, 3, (some .int), 3)
theorem mokX8_weaver : ab_mok mX8_weaver := ⟨(ab_in3 15 rfl rfl), (ab_in1 1 rfl rfl), by decide, ⟨by decide, by decide⟩, by decide⟩
def mX8_speed : ab_M := (yX8_speed, cX8_speed, 4, (some .int), 3)
theorem mokX8_speed : ab_mok mX8_speed := ⟨(ab_in3 23 rfl rfl), (ab_in1 1 rfl rfl), by decide, ⟨by decide, by decide⟩, by decide⟩
def mX8_share : ab_M := (yX8_share, cX8_share, 2, (some .int), 2)
theorem mokX8_share : ab_mok mX8_share := ⟨(ab_in3 27 rfl rfl), (ab_in1 1 rfl rfl), by decide, ⟨by decide, by decide⟩, by decide⟩
def mX8_who : ab_M := (yX8_who, cX8_who, 2, (some .int), 2)
theorem mokX8_who : ab_mok mX8_who := ⟨(ab_in3 65 rfl rfl), (ab_in1 1 rfl rfl), by decide, ⟨by decide, by decide⟩, by decide⟩
def mX8_up : ab_M := (yX8_up, cX8_up, 1, (some .int), 1)
theorem mokX8_up : ab_mok mX8_up := ⟨(ab_in3 73 rfl rfl), (ab_in1 1 rfl rfl), by decide, ⟨by decide, by decide⟩, by decide⟩
def mX8_days : ab_M := (yX8_days, cX8_days, 3, (some .int), 2)
theorem mokX8_days : ab_mok mX8_days := ⟨(ab_in3 94 rfl rfl), (ab_in1 1 rfl rfl), by decide, ⟨by decide, by decide⟩, by decide⟩
def mX8_strip : ab_M := (yX8_strip, cX8_strip, 4, (some .int), 3)
theorem mokX8_strip : ab_mok mX8_strip := ⟨(ab_in3 129 rfl rfl), (ab_in1 1 rfl rfl), by decide, ⟨by decide, by decide⟩, by decide⟩
def mX8_woven : ab_M := (yX8_woven, cX8_woven, 3, (some .int), 3)
theorem mokX8_woven : ab_mok mX8_woven := ⟨(ab_in3 139 rfl rfl), (ab_in1 1 rfl rfl), by decide, ⟨by decide, by decide⟩, by decide⟩
def mX8_unweave : ab_M := (yX8_unweave, cX8_unweave, 3, (some .int), 3)
theorem mokX8_unweave : ab_mok mX8_unweave := ⟨(ab_in3 151 rfl rfl), (ab_in1 1 rfl rfl), by decide, ⟨by decide, by decide⟩, by decide⟩
def mX8_many : ab_M := (yX8_many, cX8_many, 2, (some .int), 2)
theorem mokX8_many : ab_mok mX8_many := ⟨(ab_in3 159 rfl rfl), (ab_in1 1 rfl rfl), by decide, ⟨by decide, by decide⟩, by decide⟩
def mX8_keep : ab_M := (yX8_keep, cX8_keep, 1, (some .int), 1)
theorem mokX8_keep : ab_mok mX8_keep := ⟨(ab_in3 175 rfl rfl), (ab_in1 1 rfl rfl), by decide, ⟨by decide, by decide⟩, by decide⟩
def mX8_back : ab_M := (yX8_back, cX8_back, 1, (some .int), 1)
theorem mokX8_back : ab_mok mX8_back := ⟨(ab_in3 202 rfl rfl), (ab_in1 1 rfl rfl), by decide, ⟨by decide, by decide⟩, by decide⟩
def mX8_findDealing : ab_M := (yX8_findDealing, cX8_findDealing, 2, (some .boolean), 2)
theorem mokX8_findDealing : ab_mok mX8_findDealing := ⟨(ab_in2 200 rfl rfl), (ab_in1 1 rfl rfl), by decide, ⟨by decide, by decide⟩, by decide⟩
def mX8_isFromTo : ab_M := (yX8_isFromTo, cX8_isFromTo, 3, (some .boolean), 3)
theorem mokX8_isFromTo : ab_mok mX8_isFromTo := ⟨(ab_in2 59 rfl rfl), (ab_in1 1 rfl rfl), by decide, ⟨by decide, by decide⟩, by decide⟩
def mX8_isBelow : ab_M := (yX8_isBelow, cX8_isBelow, 2, (some .boolean), 2)
theorem mokX8_isBelow : ab_mok mX8_isBelow := ⟨(ab_in2 83 rfl rfl), (ab_in1 1 rfl rfl), by decide, ⟨by decide, by decide⟩, by decide⟩
def mX8_isColour : ab_M := (yX8_isColour, cX8_isColour, 1, (some .boolean), 1)
theorem mokX8_isColour : ab_mok mX8_isColour := ⟨(ab_in2 80 rfl rfl), (ab_in1 1 rfl rfl), by decide, ⟨by decide, by decide⟩, by decide⟩
def mX8_isOnBoard : ab_M := (yX8_isOnBoard, cX8_isOnBoard, 3, (some .boolean), 3)
theorem mokX8_isOnBoard : ab_mok mX8_isOnBoard := ⟨(ab_in2 77 rfl rfl), (ab_in1 1 rfl rfl), by decide, ⟨by decide, by decide⟩, by decide⟩
def mX8_cellOf : ab_M := (yX8_cellOf, cX8_cellOf, 2, (some .int), 2)
theorem mokX8_cellOf : ab_mok mX8_cellOf := ⟨(ab_in2 90 rfl rfl), (ab_in1 1 rfl rfl), by decide, ⟨by decide, by decide⟩, by decide⟩
def mX8_addSlit : ab_M := (yX8_addSlit, cX8_addSlit, 5, (some .int), 4)
theorem mokX8_addSlit : ab_mok mX8_addSlit := ⟨(ab_in2 144 rfl rfl), (ab_in1 1 rfl rfl), by decide, ⟨by decide, by decide⟩, by decide⟩
def mX9_init : ab_M := (yX9_init, cX9_init, 1, none, 1)
theorem mokX9_init : ab_mok mX9_init := ⟨(ab_in3 207 rfl rfl), (ab_in1 10 rfl rfl), by decide, ⟨by decide, by decide⟩, by decide⟩
def mX9_in : ab_M := (yX9_in, cX9_in, 3, (some .boolean), 3)
theorem mokX9_in : ab_mok mX9_in := ⟨(ab_in4 108 rfl rfl), (ab_in1 10 rfl rfl), by decide, ⟨by decide, by decide⟩, by decide⟩
def mX9_isSquare : ab_M := (yX9_isSquare, cX9_isSquare, 3, (some .boolean), 3)
theorem mokX9_isSquare : ab_mok mX9_isSquare := ⟨(ab_in4 116 rfl rfl), (ab_in1 10 rfl rfl), by decide, ⟨by decide, by decide⟩, by decide⟩
def mX9_spot : ab_M := (yX9_spot, cX9_spot, 3, (some .int), 3)
theorem mokX9_spot : ab_mok mX9_spot := ⟨(ab_in4 120 rfl rfl), (ab_in1 10 rfl rfl), by decide, ⟨by decide, by decide⟩, by decide⟩
def mX9_size : ab_M := (yX9_size, cX9_size, 4, (some .int), 3)
theorem mokX9_size : ab_mok mX9_size := ⟨(ab_in4 105 rfl rfl), (ab_in1 10 rfl rfl), by decide, ⟨by decide, by decide⟩, by decide⟩
def mX9_paint : ab_M := (yX9_paint, cX9_paint, 8, (some .int), 6)
theorem mokX9_paint : ab_mok mX9_paint := ⟨(ab_in4 112 rfl rfl), (ab_in1 10 rfl rfl), by decide, ⟨by decide, by decide⟩, by decide⟩
def mX9_face : ab_M := (yX9_face, cX9_face, 4, (some .int), 4)
theorem mokX9_face : ab_mok mX9_face := ⟨(ab_in4 124 rfl rfl), (ab_in1 10 rfl rfl), by decide, ⟨by decide, by decide⟩, by decide⟩
def mX9_toldAt : ab_M := (yX9_toldAt, cX9_toldAt, 2, (some .int), 2)
theorem mokX9_toldAt : ab_mok mX9_toldAt := ⟨(ab_in4 132 rfl rfl), (ab_in1 10 rfl rfl), by decide, ⟨by decide, by decide⟩, by decide⟩
def mX9_cartoon : ab_M := (yX9_cartoon, cX9_cartoon, 3, (some .int), 3)
theorem mokX9_cartoon : ab_mok mX9_cartoon := ⟨(ab_in4 128 rfl rfl), (ab_in1 10 rfl rfl), by decide, ⟨by decide, by decide⟩, by decide⟩
def mX9_loom : ab_M := (yX9_loom, cX9_loom, 3, (some .int), 3)
theorem mokX9_loom : ab_mok mX9_loom := ⟨(ab_in4 136 rfl rfl), (ab_in1 10 rfl rfl), by decide, ⟨by decide, by decide⟩, by decide⟩
def mX9_rule : ab_M := (yX9_rule, cX9_rule, 4, (some .int), 3)
theorem mokX9_rule : ab_mok mX9_rule := ⟨(ab_in4 140 rfl rfl), (ab_in1 10 rfl rfl), by decide, ⟨by decide, by decide⟩, by decide⟩
def mX9_isUnlike : ab_M := (yX9_isUnlike, cX9_isUnlike, 3, (some .boolean), 3)
theorem mokX9_isUnlike : ab_mok mX9_isUnlike := ⟨(ab_in4 152 rfl rfl), (ab_in1 10 rfl rfl), by decide, ⟨by decide, by decide⟩, by decide⟩
def mX9_slitFrom : ab_M := (yX9_slitFrom, cX9_slitFrom, 4, (some .int), 3)
theorem mokX9_slitFrom : ab_mok mX9_slitFrom := ⟨(ab_in4 148 rfl rfl), (ab_in1 10 rfl rfl), by decide, ⟨by decide, by decide⟩, by decide⟩
def mX9_slits : ab_M := (yX9_slits, cX9_slits, 9, (some .int), 2)
theorem mokX9_slits : ab_mok mX9_slits := ⟨(ab_in4 144 rfl rfl), (ab_in1 10 rfl rfl), by decide, ⟨by decide, by decide⟩, by decide⟩
def mX9_slit : ab_M := (yX9_slit, cX9_slit, 4, (some .int), 3)
theorem mokX9_slit : ab_mok mX9_slit := ⟨(ab_in4 156 rfl rfl), (ab_in1 10 rfl rfl), by decide, ⟨by decide, by decide⟩, by decide⟩
def mX9_findFields : ab_M := (yX9_findFields, cX9_findFields, 6, none, 1)
theorem mokX9_findFields : ab_mok mX9_findFields := ⟨(ab_in4 164 rfl rfl), (ab_in1 10 rfl rfl), by decide, ⟨by decide, by decide⟩, by decide⟩
def mX9_lesser : ab_M := (yX9_lesser, cX9_lesser, 4, (some .int), 4)
theorem mokX9_lesser : ab_mok mX9_lesser := ⟨(ab_in4 168 rfl rfl), (ab_in1 10 rfl rfl), by decide, ⟨by decide, by decide⟩, by decide⟩
def mX9_number : ab_M := (yX9_number, cX9_number, 5, none, 1)
theorem mokX9_number : ab_mok mX9_number := ⟨(ab_in4 172 rfl rfl), (ab_in1 10 rfl rfl), by decide, ⟨by decide, by decide⟩, by decide⟩
def mX9_sides : ab_M := (yX9_sides, cX9_sides, 5, (some .int), 3)
theorem mokX9_sides : ab_mok mX9_sides := ⟨(ab_in4 176 rfl rfl), (ab_in1 10 rfl rfl), by decide, ⟨by decide, by decide⟩, by decide⟩
def mX9_field : ab_M := (yX9_field, cX9_field, 4, (some .int), 3)
theorem mokX9_field : ab_mok mX9_field := ⟨(ab_in4 160 rfl rfl), (ab_in1 10 rfl rfl), by decide, ⟨by decide, by decide⟩, by decide⟩
def mX9_of : ab_M := (yX9_of, cX9_of, 3, (some .int), 3)
theorem mokX9_of : ab_mok mX9_of := ⟨(ab_in4 180 rfl rfl), (ab_in1 10 rfl rfl), by decide, ⟨by decide, by decide⟩, by decide⟩
def mX9_dye : ab_M := (yX9_dye, cX9_dye, 3, (some .int), 3)
theorem mokX9_dye : ab_mok mX9_dye := ⟨(ab_in4 184 rfl rfl), (ab_in1 10 rfl rfl), by decide, ⟨by decide, by decide⟩, by decide⟩
def mX9_gather : ab_M := (yX9_gather, cX9_gather, 5, (some .boolean), 2)
theorem mokX9_gather : ab_mok mX9_gather := ⟨(ab_in4 196 rfl rfl), (ab_in1 10 rfl rfl), by decide, ⟨by decide, by decide⟩, by decide⟩
def mX9_yarnFrom : ab_M := (yX9_yarnFrom, cX9_yarnFrom, 4, (some .int), 2)
theorem mokX9_yarnFrom : ab_mok mX9_yarnFrom := ⟨(ab_in4 200 rfl rfl), (ab_in1 10 rfl rfl), by decide, ⟨by decide, by decide⟩, by decide⟩
def mX9_findDealing : ab_M := (yX9_findDealing, cX9_findDealing, 8, (some .boolean), 2)
theorem mokX9_findDealing : ab_mok mX9_findDealing := ⟨(ab_in4 192 rfl rfl), (ab_in1 10 rfl rfl), by decide, ⟨by decide, by decide⟩, by decide⟩
def mX9_lot : ab_M := (yX9_lot, cX9_lot, 5, (some .int), 3)
theorem mokX9_lot : ab_mok mX9_lot := ⟨(ab_in4 188 rfl rfl), (ab_in1 10 rfl rfl), by decide, ⟨by decide, by decide⟩, by decide⟩
def mX9_deal : ab_M := (yX9_deal, cX9_deal, 4, (some .int), 2)
theorem mokX9_deal : ab_mok mX9_deal := ⟨(ab_in4 204 rfl rfl), (ab_in1 10 rfl rfl), by decide, ⟨by decide, by decide⟩, by decide⟩
def mX9_dealt : ab_M := (yX9_dealt, cX9_dealt, 5, (some .int), 3)
theorem mokX9_dealt : ab_mok mX9_dealt := ⟨(ab_in4 208 rfl rfl), (ab_in1 10 rfl rfl), by decide, ⟨by decide, by decide⟩, by decide⟩
def mX9_weaver : ab_M := (yX9_weaver, cX9_weaver, 3, (some .int), 3)
theorem mokX9_weaver : ab_mok mX9_weaver := ⟨(ab_in4 212 rfl rfl), (ab_in1 10 rfl rfl), by decide, ⟨by decide, by decide⟩, by decide⟩
def mX9_speed : ab_M := (yX9_speed, cX9_speed, 4, (some .int), 3)
theorem mokX9_speed : ab_mok mX9_speed := ⟨(ab_in4 216 rfl rfl), (ab_in1 10 rfl rfl), by decide, ⟨by decide, by decide⟩, by decide⟩
def mX9_workAt : ab_M := (yX9_workAt, cX9_workAt, 3, (some .int), 3)
theorem mokX9_workAt : ab_mok mX9_workAt := ⟨(ab_in5 4 rfl rfl), (ab_in1 10 rfl rfl), by decide, ⟨by decide, by decide⟩, by decide⟩
def mX9_work : ab_M := (yX9_work, cX9_work, 7, (some .int), 4)
theorem mokX9_work : ab_mok mX9_work := ⟨(ab_in5 0 rfl rfl), (ab_in1 10 rfl rfl), by decide, ⟨by decide, by decide⟩, by decide⟩
def mX9_hasFace : ab_M := (yX9_hasFace, cX9_hasFace, 6, (some .boolean), 3)
theorem mokX9_hasFace : ab_mok mX9_hasFace := ⟨(ab_in4 236 rfl rfl), (ab_in1 10 rfl rfl), by decide, ⟨by decide, by decide⟩, by decide⟩
def mX9_daysOf : ab_M := (yX9_daysOf, cX9_daysOf, 4, (some .int), 4)
theorem mokX9_daysOf : ab_mok mX9_daysOf := ⟨(ab_in4 232 rfl rfl), (ab_in1 10 rfl rfl), by decide, ⟨by decide, by decide⟩, by decide⟩
def mX9_isTaken : ab_M := (yX9_isTaken, cX9_isTaken, 5, (some .boolean), 3)
theorem mokX9_isTaken : ab_mok mX9_isTaken := ⟨(ab_in4 228 rfl rfl), (ab_in1 10 rfl rfl), by decide, ⟨by decide, by decide⟩, by decide⟩
def mX9_findSharing : ab_M := (yX9_findSharing, cX9_findSharing, 7, (some .boolean), 1)
theorem mokX9_findSharing : ab_mok mX9_findSharing := ⟨(ab_in4 224 rfl rfl), (ab_in1 10 rfl rfl), by decide, ⟨by decide, by decide⟩, by decide⟩
def mX9_share : ab_M := (yX9_share, cX9_share, 2, (some .int), 2)
theorem mokX9_share : ab_mok mX9_share := ⟨(ab_in4 220 rfl rfl), (ab_in1 10 rfl rfl), by decide, ⟨by decide, by decide⟩, by decide⟩
def mX9_who : ab_M := (yX9_who, cX9_who, 4, (some .int), 2)
theorem mokX9_who : ab_mok mX9_who := ⟨(ab_in5 8 rfl rfl), (ab_in1 10 rfl rfl), by decide, ⟨by decide, by decide⟩, by decide⟩
def mX9_up : ab_M := (yX9_up, cX9_up, 3, (some .int), 1)
theorem mokX9_up : ab_mok mX9_up := ⟨(ab_in5 12 rfl rfl), (ab_in1 10 rfl rfl), by decide, ⟨by decide, by decide⟩, by decide⟩
def mX9_allOf : ab_M := (yX9_allOf, cX9_allOf, 2, (some .int), 2)
theorem mokX9_allOf : ab_mok mX9_allOf := ⟨(ab_in5 28 rfl rfl), (ab_in1 10 rfl rfl), by decide, ⟨by decide, by decide⟩, by decide⟩
def mX9_wholeOf : ab_M := (yX9_wholeOf, cX9_wholeOf, 3, (some .int), 2)
theorem mokX9_wholeOf : ab_mok mX9_wholeOf := ⟨(ab_in5 24 rfl rfl), (ab_in1 10 rfl rfl), by decide, ⟨by decide, by decide⟩, by decide⟩
def mX9_findWhole : ab_M := (yX9_findWhole, cX9_findWhole, 2, none, 1)
theorem mokX9_findWhole : ab_mok mX9_findWhole := ⟨(ab_in5 20 rfl rfl), (ab_in1 10 rfl rfl), by decide, ⟨by decide, by decide⟩, by decide⟩
def mX9_isAhead : ab_M := (yX9_isAhead, cX9_isAhead, 2, (some .boolean), 2)
theorem mokX9_isAhead : ab_mok mX9_isAhead := ⟨(ab_in5 32 rfl rfl), (ab_in1 10 rfl rfl), by decide, ⟨by decide, by decide⟩, by decide⟩
def mX9_days : ab_M := (yX9_days, cX9_days, 6, (some .int), 2)
theorem mokX9_days : ab_mok mX9_days := ⟨(ab_in5 16 rfl rfl), (ab_in1 10 rfl rfl), by decide, ⟨by decide, by decide⟩, by decide⟩
def mX9_strip : ab_M := (yX9_strip, cX9_strip, 3, (some .int), 3)
theorem mokX9_strip : ab_mok mX9_strip := ⟨(ab_in5 36 rfl rfl), (ab_in1 10 rfl rfl), by decide, ⟨by decide, by decide⟩, by decide⟩
def mX9_isWoven : ab_M := (yX9_isWoven, cX9_isWoven, 6, (some .boolean), 3)
theorem mokX9_isWoven : ab_mok mX9_isWoven := ⟨(ab_in5 44 rfl rfl), (ab_in1 10 rfl rfl), by decide, ⟨by decide, by decide⟩, by decide⟩
def mX9_woven : ab_M := (yX9_woven, cX9_woven, 3, (some .int), 3)
theorem mokX9_woven : ab_mok mX9_woven := ⟨(ab_in5 40 rfl rfl), (ab_in1 10 rfl rfl), by decide, ⟨by decide, by decide⟩, by decide⟩
def mX9_unweave : ab_M := (yX9_unweave, cX9_unweave, 5, (some .int), 3)
theorem mokX9_unweave : ab_mok mX9_unweave := ⟨(ab_in5 48 rfl rfl), (ab_in1 10 rfl rfl), by decide, ⟨by decide, by decide⟩, by decide⟩
def mX9_manyWoven : ab_M := (yX9_manyWoven, cX9_manyWoven, 4, (some .int), 1)
theorem mokX9_manyWoven : ab_mok mX9_manyWoven := ⟨(ab_in5 56 rfl rfl), (ab_in1 10 rfl rfl), by decide, ⟨by decide, by decide⟩, by decide⟩
def mX9_manyFaces : ab_M := (yX9_manyFaces, cX9_manyFaces, 3, (some .int), 1)
theorem mokX9_manyFaces : ab_mok mX9_manyFaces := ⟨(ab_in5 60 rfl rfl), (ab_in1 10 rfl rfl), by decide, ⟨by decide, by decide⟩, by decide⟩
def mX9_many : ab_M := (yX9_many, cX9_many, 2, (some .int), 2)
theorem mokX9_many : ab_mok mX9_many := ⟨(ab_in5 52 rfl rfl), (ab_in1 10 rfl rfl), by decide, ⟨by decide, by decide⟩, by decide⟩
def mX9_keep : ab_M := (yX9_keep, cX9_keep, 2, (some .int), 1)
theorem mokX9_keep : ab_mok mX9_keep := ⟨(ab_in5 64 rfl rfl), (ab_in1 10 rfl rfl), by decide, ⟨by decide, by decide⟩, by decide⟩
def mX9_back : ab_M := (yX9_back, cX9_back, 2, (some .int), 1)
theorem mokX9_back : ab_mok mX9_back := ⟨(ab_in5 68 rfl rfl), (ab_in1 10 rfl rfl), by decide, ⟨by decide, by decide⟩, by decide⟩
def mJ9_max_7cf53 : ab_M := (yJ9_max_7cf53, cJ9_max_7cf53, 2, (some .int), 2)
def mJ9_min_7cf53 : ab_M := (yJ9_min_7cf53, cJ9_min_7cf53, 2, (some .int), 2)
def mJ7_fill_53178 : ab_M := (yJ7_fill_53178, cJ7_fill_53178, 4, none, 2)
theorem mokJ7_fill_53178 : ab_mok mJ7_fill_53178 := ⟨(ab_in2 66 rfl rfl), (ab_in1 11 rfl rfl), by decide, ⟨by decide, by decide⟩, by decide⟩
def mL_law : ab_M := (yL_law, cL_law, 4, (some .boolean), 1)
def ab_cok (ci : Nat) (C : String) (T : u_T) (N : Nat) : Prop := vwCl[ci]? = some (C, T, N) ∧ (∀ w ∈ u_ws C T N, w ∈ ab_tb) ∧ (∀ k, k < N → parseFieldDescriptor (T k).2.2.1 = some (ab_ty ci k)) ∧ (∀ a, a < N → ∀ b, b < N → a ≠ b → (T a).2.1 ≠ (T b).2.1) ∧ Cond.instantiable C N ∈ ab_tb ∧ Cond.initialized C ∈ ab_tb ∧ (∀ k, k < N → (T k).1 = C)
theorem cw_0 : ∀ k, k < 3 → u_lay RX0 TX0 k ∈ ab_tb := fun k hk => match k, hk with
  | 0, _ => (ab_in1 44 rfl rfl)
  | 1, _ => (ab_in1 46 rfl rfl)
  | 2, _ => (ab_in1 48 rfl rfl)
  | k + 3, h => absurd h (by omega)
theorem cok_0 : ab_cok 0 RX0 TX0 3 := ⟨rfl, fun w hw => by obtain ⟨k, hk, rfl⟩ := List.mem_map.mp hw; exact cw_0 k (List.mem_range.mp hk), tyX0_ok, nmX0, (ab_in1 29 rfl rfl), (ab_in1 3 rfl rfl), by decide +kernel⟩
theorem cw_1 : ∀ k, k < 9 → u_lay RX1 TX1 k ∈ ab_tb := fun k hk => match k, hk with
  | 0, _ => (ab_in1 209 rfl rfl)
  | 1, _ => (ab_in1 211 rfl rfl)
  | 2, _ => (ab_in1 213 rfl rfl)
  | 3, _ => (ab_in1 215 rfl rfl)
  | 4, _ => (ab_in1 217 rfl rfl)
  | 5, _ => (ab_in1 219 rfl rfl)
  | 6, _ => (ab_in1 221 rfl rfl)
  | 7, _ => (ab_in1 223 rfl rfl)
  | 8, _ => (ab_in1 225 rfl rfl)
  | k + 9, h => absurd h (by omega)
theorem cok_1 : ab_cok 1 RX1 TX1 9 := ⟨rfl, fun w hw => by obtain ⟨k, hk, rfl⟩ := List.mem_map.mp hw; exact cw_1 k (List.mem_range.mp hk), tyX1_ok, nmX1, (ab_in1 194 rfl rfl), (ab_in1 8 rfl rfl), by decide +kernel⟩
theorem cw_2 : ∀ k, k < 8 → u_lay RX2 TX2 k ∈ ab_tb := fun k hk => match k, hk with
  | 0, _ => (ab_in1 176 rfl rfl)
  | 1, _ => (ab_in1 178 rfl rfl)
  | 2, _ => (ab_in1 180 rfl rfl)
  | 3, _ => (ab_in1 182 rfl rfl)
  | 4, _ => (ab_in1 184 rfl rfl)
  | 5, _ => (ab_in1 186 rfl rfl)
  | 6, _ => (ab_in1 188 rfl rfl)
  | 7, _ => (ab_in1 190 rfl rfl)
  | k + 8, h => absurd h (by omega)
theorem cok_2 : ab_cok 2 RX2 TX2 8 := ⟨rfl, fun w hw => by obtain ⟨k, hk, rfl⟩ := List.mem_map.mp hw; exact cw_2 k (List.mem_range.mp hk), tyX2_ok, nmX2, (ab_in1 154 rfl rfl), (ab_in1 7 rfl rfl), by decide +kernel⟩
theorem cw_3 : ∀ k, k < 9 → u_lay RX3 TX3 k ∈ ab_tb := fun k hk => match k, hk with
  | 0, _ => (ab_in1 117 rfl rfl)
  | 1, _ => (ab_in1 119 rfl rfl)
  | 2, _ => (ab_in1 121 rfl rfl)
  | 3, _ => (ab_in1 123 rfl rfl)
  | 4, _ => (ab_in1 125 rfl rfl)
  | 5, _ => (ab_in1 127 rfl rfl)
  | 6, _ => (ab_in1 129 rfl rfl)
  | 7, _ => (ab_in1 131 rfl rfl)
  | 8, _ => (ab_in1 133 rfl rfl)
  | k + 9, h => absurd h (by omega)
theorem cok_3 : ab_cok 3 RX3 TX3 9 := ⟨rfl, fun w hw => by obtain ⟨k, hk, rfl⟩ := List.mem_map.mp hw; exact cw_3 k (List.mem_range.mp hk), tyX3_ok, nmX3, (ab_in1 97 rfl rfl), (ab_in1 6 rfl rfl), by decide +kernel⟩
theorem cw_4 : ∀ k, k < 3 → u_lay RX4 TX4 k ∈ ab_tb := fun k hk => match k, hk with
  | 0, _ => (ab_in1 67 rfl rfl)
  | 1, _ => (ab_in1 69 rfl rfl)
  | 2, _ => (ab_in1 71 rfl rfl)
  | k + 3, h => absurd h (by omega)
theorem cok_4 : ab_cok 4 RX4 TX4 3 := ⟨rfl, fun w hw => by obtain ⟨k, hk, rfl⟩ := List.mem_map.mp hw; exact cw_4 k (List.mem_range.mp hk), tyX4_ok, nmX4, (ab_in1 53 rfl rfl), (ab_in1 4 rfl rfl), by decide +kernel⟩
theorem cw_5 : ∀ k, k < 9 → u_lay RX5 TX5 k ∈ ab_tb := fun k hk => match k, hk with
  | 0, _ => (ab_in2 9 rfl rfl)
  | 1, _ => (ab_in2 11 rfl rfl)
  | 2, _ => (ab_in2 13 rfl rfl)
  | 3, _ => (ab_in2 15 rfl rfl)
  | 4, _ => (ab_in2 17 rfl rfl)
  | 5, _ => (ab_in2 19 rfl rfl)
  | 6, _ => (ab_in2 21 rfl rfl)
  | 7, _ => (ab_in2 23 rfl rfl)
  | 8, _ => (ab_in2 25 rfl rfl)
  | k + 9, h => absurd h (by omega)
theorem cok_5 : ab_cok 5 RX5 TX5 9 := ⟨rfl, fun w hw => by obtain ⟨k, hk, rfl⟩ := List.mem_map.mp hw; exact cw_5 k (List.mem_range.mp hk), tyX5_ok, nmX5, (ab_in1 229 rfl rfl), (ab_in1 9 rfl rfl), by decide +kernel⟩
theorem cw_6 : ∀ k, k < 4 → u_lay RX6 TX6 k ∈ ab_tb := fun k hk => match k, hk with
  | 0, _ => (ab_in1 144 rfl rfl)
  | 1, _ => (ab_in1 146 rfl rfl)
  | 2, _ => (ab_in1 148 rfl rfl)
  | 3, _ => (ab_in1 150 rfl rfl)
  | k + 4, h => absurd h (by omega)
theorem cok_6 : ab_cok 6 RX6 TX6 4 := ⟨rfl, fun w hw => by obtain ⟨k, hk, rfl⟩ := List.mem_map.mp hw; exact cw_6 k (List.mem_range.mp hk), tyX6_ok, nmX6, (ab_in1 23 rfl rfl), (ab_in1 2 rfl rfl), by decide +kernel⟩
theorem cw_7 : ∀ k, k < 3 → u_lay RX7 TX7 k ∈ ab_tb := fun k hk => match k, hk with
  | 0, _ => (ab_in1 88 rfl rfl)
  | 1, _ => (ab_in1 90 rfl rfl)
  | 2, _ => (ab_in1 92 rfl rfl)
  | k + 3, h => absurd h (by omega)
theorem cok_7 : ab_cok 7 RX7 TX7 3 := ⟨rfl, fun w hw => by obtain ⟨k, hk, rfl⟩ := List.mem_map.mp hw; exact cw_7 k (List.mem_range.mp hk), tyX7_ok, nmX7, (ab_in1 75 rfl rfl), (ab_in1 5 rfl rfl), by decide +kernel⟩
theorem cw_8 : ∀ k, k < 8 → u_lay RX8 TX8 k ∈ ab_tb := fun k hk => match k, hk with
  | 0, _ => (ab_in2 36 rfl rfl)
  | 1, _ => (ab_in2 38 rfl rfl)
  | 2, _ => (ab_in2 40 rfl rfl)
  | 3, _ => (ab_in2 42 rfl rfl)
  | 4, _ => (ab_in2 44 rfl rfl)
  | 5, _ => (ab_in2 46 rfl rfl)
  | 6, _ => (ab_in2 48 rfl rfl)
  | 7, _ => (ab_in2 50 rfl rfl)
  | k + 8, h => absurd h (by omega)
theorem cok_8 : ab_cok 8 RX8 TX8 8 := ⟨rfl, fun w hw => by obtain ⟨k, hk, rfl⟩ := List.mem_map.mp hw; exact cw_8 k (List.mem_range.mp hk), tyX8_ok, nmX8, (ab_in1 15 rfl rfl), (ab_in1 1 rfl rfl), by decide +kernel⟩
theorem cw_9 : ∀ k, k < 44 → u_lay RX9 TX9 k ∈ ab_tb := fun k hk => match k, hk with
  | 0, _ => (ab_in4 13 rfl rfl)
  | 1, _ => (ab_in4 15 rfl rfl)
  | 2, _ => (ab_in4 17 rfl rfl)
  | 3, _ => (ab_in4 19 rfl rfl)
  | 4, _ => (ab_in4 21 rfl rfl)
  | 5, _ => (ab_in4 23 rfl rfl)
  | 6, _ => (ab_in4 25 rfl rfl)
  | 7, _ => (ab_in4 27 rfl rfl)
  | 8, _ => (ab_in4 29 rfl rfl)
  | 9, _ => (ab_in4 31 rfl rfl)
  | 10, _ => (ab_in4 33 rfl rfl)
  | 11, _ => (ab_in4 35 rfl rfl)
  | 12, _ => (ab_in4 37 rfl rfl)
  | 13, _ => (ab_in4 39 rfl rfl)
  | 14, _ => (ab_in4 41 rfl rfl)
  | 15, _ => (ab_in4 43 rfl rfl)
  | 16, _ => (ab_in4 45 rfl rfl)
  | 17, _ => (ab_in4 47 rfl rfl)
  | 18, _ => (ab_in4 49 rfl rfl)
  | 19, _ => (ab_in4 51 rfl rfl)
  | 20, _ => (ab_in4 53 rfl rfl)
  | 21, _ => (ab_in4 55 rfl rfl)
  | 22, _ => (ab_in4 57 rfl rfl)
  | 23, _ => (ab_in4 59 rfl rfl)
  | 24, _ => (ab_in4 61 rfl rfl)
  | 25, _ => (ab_in4 63 rfl rfl)
  | 26, _ => (ab_in4 65 rfl rfl)
  | 27, _ => (ab_in4 67 rfl rfl)
  | 28, _ => (ab_in4 69 rfl rfl)
  | 29, _ => (ab_in4 71 rfl rfl)
  | 30, _ => (ab_in4 73 rfl rfl)
  | 31, _ => (ab_in4 75 rfl rfl)
  | 32, _ => (ab_in4 77 rfl rfl)
  | 33, _ => (ab_in4 79 rfl rfl)
  | 34, _ => (ab_in4 81 rfl rfl)
  | 35, _ => (ab_in4 83 rfl rfl)
  | 36, _ => (ab_in4 85 rfl rfl)
  | 37, _ => (ab_in4 87 rfl rfl)
  | 38, _ => (ab_in4 89 rfl rfl)
  | 39, _ => (ab_in4 91 rfl rfl)
  | 40, _ => (ab_in4 93 rfl rfl)
  | 41, _ => (ab_in4 95 rfl rfl)
  | 42, _ => (ab_in4 97 rfl rfl)
  | 43, _ => (ab_in4 99 rfl rfl)
  | k + 44, h => absurd h (by omega)
theorem cok_9 : ab_cok 9 RX9 TX9 44 := ⟨rfl, fun w hw => by obtain ⟨k, hk, rfl⟩ := List.mem_map.mp hw; exact cw_9 k (List.mem_range.mp hk), tyX9_ok, nmX9, (ab_in3 204 rfl rfl), (ab_in1 10 rfl rfl), by decide +kernel⟩
def ab_F (own : String) (ix ci k : Nat) : Prop := ∃ (C : String) (T : u_T) (N : Nat), ab_cok ci C T N ∧ k < N ∧ Cond.fieldLink own ix C (T k).2.1 (T k).2.2.1 ∈ ab_tb
theorem fl_0_9 : ab_F RX0 9 0 0 := ⟨_, _, _, cok_0, by decide, (ab_in1 34 rfl rfl)⟩
theorem fl_5_41 : ab_F RX5 41 0 0 := ⟨_, _, _, cok_0, by decide, (ab_in1 35 rfl rfl)⟩
theorem fl_2_48 : ab_F RX2 48 0 0 := ⟨_, _, _, cok_0, by decide, (ab_in1 36 rfl rfl)⟩
theorem fl_8_74 : ab_F RX8 74 0 0 := ⟨_, _, _, cok_0, by decide, (ab_in1 37 rfl rfl)⟩
theorem fl_0_15 : ab_F RX0 15 0 1 := ⟨_, _, _, cok_0, by decide, (ab_in1 38 rfl rfl)⟩
theorem fl_2_43 : ab_F RX2 43 0 1 := ⟨_, _, _, cok_0, by decide, (ab_in1 39 rfl rfl)⟩
theorem fl_8_80 : ab_F RX8 80 0 1 := ⟨_, _, _, cok_0, by decide, (ab_in1 40 rfl rfl)⟩
theorem fl_3_43 : ab_F RX3 43 0 1 := ⟨_, _, _, cok_0, by decide, (ab_in1 41 rfl rfl)⟩
theorem fl_0_18 : ab_F RX0 18 0 2 := ⟨_, _, _, cok_0, by decide, (ab_in1 42 rfl rfl)⟩
theorem fl_8_105 : ab_F RX8 105 0 2 := ⟨_, _, _, cok_0, by decide, (ab_in1 43 rfl rfl)⟩
theorem fl_4_9 : ab_F RX4 9 4 0 := ⟨_, _, _, cok_4, by decide, (ab_in1 58 rfl rfl)⟩
theorem fl_1_72 : ab_F RX1 72 4 0 := ⟨_, _, _, cok_4, by decide, (ab_in1 59 rfl rfl)⟩
theorem fl_8_151 : ab_F RX8 151 4 0 := ⟨_, _, _, cok_4, by decide, (ab_in1 60 rfl rfl)⟩
theorem fl_4_15 : ab_F RX4 15 4 1 := ⟨_, _, _, cok_4, by decide, (ab_in1 61 rfl rfl)⟩
theorem fl_1_73 : ab_F RX1 73 4 1 := ⟨_, _, _, cok_4, by decide, (ab_in1 62 rfl rfl)⟩
theorem fl_8_157 : ab_F RX8 157 4 1 := ⟨_, _, _, cok_4, by decide, (ab_in1 63 rfl rfl)⟩
theorem fl_4_19 : ab_F RX4 19 4 2 := ⟨_, _, _, cok_4, by decide, (ab_in1 64 rfl rfl)⟩
theorem fl_1_52 : ab_F RX1 52 4 2 := ⟨_, _, _, cok_4, by decide, (ab_in1 65 rfl rfl)⟩
theorem fl_8_158 : ab_F RX8 158 4 2 := ⟨_, _, _, cok_4, by decide, (ab_in1 66 rfl rfl)⟩
theorem fl_7_9 : ab_F RX7 9 7 0 := ⟨_, _, _, cok_7, by decide, (ab_in1 80 rfl rfl)⟩
theorem fl_5_59 : ab_F RX5 59 7 0 := ⟨_, _, _, cok_7, by decide, (ab_in1 81 rfl rfl)⟩
theorem fl_8_185 : ab_F RX8 185 7 0 := ⟨_, _, _, cok_7, by decide, (ab_in1 82 rfl rfl)⟩
theorem fl_7_15 : ab_F RX7 15 7 1 := ⟨_, _, _, cok_7, by decide, (ab_in1 83 rfl rfl)⟩
theorem fl_3_81 : ab_F RX3 81 7 1 := ⟨_, _, _, cok_7, by decide, (ab_in1 84 rfl rfl)⟩
theorem fl_8_191 : ab_F RX8 191 7 1 := ⟨_, _, _, cok_7, by decide, (ab_in1 85 rfl rfl)⟩
theorem fl_7_19 : ab_F RX7 19 7 2 := ⟨_, _, _, cok_7, by decide, (ab_in1 86 rfl rfl)⟩
theorem fl_5_74 : ab_F RX5 74 7 2 := ⟨_, _, _, cok_7, by decide, (ab_in1 87 rfl rfl)⟩
theorem fl_3_9 : ab_F RX3 9 3 0 := ⟨_, _, _, cok_3, by decide, (ab_in1 102 rfl rfl)⟩
theorem fl_8_210 : ab_F RX8 210 3 0 := ⟨_, _, _, cok_3, by decide, (ab_in1 103 rfl rfl)⟩
theorem fl_3_15 : ab_F RX3 15 3 1 := ⟨_, _, _, cok_3, by decide, (ab_in1 104 rfl rfl)⟩
theorem fl_8_253 : ab_F RX8 253 3 1 := ⟨_, _, _, cok_3, by decide, (ab_in1 105 rfl rfl)⟩
theorem fl_3_18 : ab_F RX3 18 3 2 := ⟨_, _, _, cok_3, by decide, (ab_in1 106 rfl rfl)⟩
theorem fl_8_222 : ab_F RX8 222 3 2 := ⟨_, _, _, cok_3, by decide, (ab_in1 107 rfl rfl)⟩
theorem fl_3_22 : ab_F RX3 22 3 3 := ⟨_, _, _, cok_3, by decide, (ab_in1 108 rfl rfl)⟩
theorem fl_8_224 : ab_F RX8 224 3 3 := ⟨_, _, _, cok_3, by decide, (ab_in1 109 rfl rfl)⟩
theorem fl_3_25 : ab_F RX3 25 3 4 := ⟨_, _, _, cok_3, by decide, (ab_in1 110 rfl rfl)⟩
theorem fl_8_227 : ab_F RX8 227 3 4 := ⟨_, _, _, cok_3, by decide, (ab_in1 111 rfl rfl)⟩
theorem fl_3_28 : ab_F RX3 28 3 5 := ⟨_, _, _, cok_3, by decide, (ab_in1 112 rfl rfl)⟩
theorem fl_8_230 : ab_F RX8 230 3 5 := ⟨_, _, _, cok_3, by decide, (ab_in1 113 rfl rfl)⟩
theorem fl_3_31 : ab_F RX3 31 3 6 := ⟨_, _, _, cok_3, by decide, (ab_in1 114 rfl rfl)⟩
theorem fl_3_34 : ab_F RX3 34 3 7 := ⟨_, _, _, cok_3, by decide, (ab_in1 115 rfl rfl)⟩
theorem fl_3_37 : ab_F RX3 37 3 8 := ⟨_, _, _, cok_3, by decide, (ab_in1 116 rfl rfl)⟩
theorem fl_6_10 : ab_F RX6 10 6 0 := ⟨_, _, _, cok_6, by decide, (ab_in1 136 rfl rfl)⟩
theorem fl_8_55 : ab_F RX8 55 6 0 := ⟨_, _, _, cok_6, by decide, (ab_in1 137 rfl rfl)⟩
theorem fl_6_19 : ab_F RX6 19 6 1 := ⟨_, _, _, cok_6, by decide, (ab_in1 138 rfl rfl)⟩
theorem fl_8_147 : ab_F RX8 147 6 1 := ⟨_, _, _, cok_6, by decide, (ab_in1 139 rfl rfl)⟩
theorem fl_6_26 : ab_F RX6 26 6 2 := ⟨_, _, _, cok_6, by decide, (ab_in1 140 rfl rfl)⟩
theorem fl_8_181 : ab_F RX8 181 6 2 := ⟨_, _, _, cok_6, by decide, (ab_in1 141 rfl rfl)⟩
theorem fl_6_33 : ab_F RX6 33 6 3 := ⟨_, _, _, cok_6, by decide, (ab_in1 142 rfl rfl)⟩
theorem fl_8_65 : ab_F RX8 65 6 3 := ⟨_, _, _, cok_6, by decide, (ab_in1 143 rfl rfl)⟩
theorem fl_2_9 : ab_F RX2 9 2 0 := ⟨_, _, _, cok_2, by decide, (ab_in1 159 rfl rfl)⟩
theorem fl_1_64 : ab_F RX1 64 2 0 := ⟨_, _, _, cok_2, by decide, (ab_in1 160 rfl rfl)⟩
theorem fl_8_129 : ab_F RX8 129 2 0 := ⟨_, _, _, cok_2, by decide, (ab_in1 161 rfl rfl)⟩
theorem fl_2_15 : ab_F RX2 15 2 1 := ⟨_, _, _, cok_2, by decide, (ab_in1 162 rfl rfl)⟩
theorem fl_8_126 : ab_F RX8 126 2 1 := ⟨_, _, _, cok_2, by decide, (ab_in1 163 rfl rfl)⟩
theorem fl_2_19 : ab_F RX2 19 2 2 := ⟨_, _, _, cok_2, by decide, (ab_in1 164 rfl rfl)⟩
theorem fl_1_69 : ab_F RX1 69 2 2 := ⟨_, _, _, cok_2, by decide, (ab_in1 165 rfl rfl)⟩
theorem fl_8_135 : ab_F RX8 135 2 2 := ⟨_, _, _, cok_2, by decide, (ab_in1 166 rfl rfl)⟩
theorem fl_2_22 : ab_F RX2 22 2 3 := ⟨_, _, _, cok_2, by decide, (ab_in1 167 rfl rfl)⟩
theorem fl_8_138 : ab_F RX8 138 2 3 := ⟨_, _, _, cok_2, by decide, (ab_in1 168 rfl rfl)⟩
theorem fl_2_25 : ab_F RX2 25 2 4 := ⟨_, _, _, cok_2, by decide, (ab_in1 169 rfl rfl)⟩
theorem fl_1_74 : ab_F RX1 74 2 4 := ⟨_, _, _, cok_2, by decide, (ab_in1 170 rfl rfl)⟩
theorem fl_8_141 : ab_F RX8 141 2 4 := ⟨_, _, _, cok_2, by decide, (ab_in1 171 rfl rfl)⟩
theorem fl_2_28 : ab_F RX2 28 2 5 := ⟨_, _, _, cok_2, by decide, (ab_in1 172 rfl rfl)⟩
theorem fl_8_144 : ab_F RX8 144 2 5 := ⟨_, _, _, cok_2, by decide, (ab_in1 173 rfl rfl)⟩
theorem fl_2_31 : ab_F RX2 31 2 6 := ⟨_, _, _, cok_2, by decide, (ab_in1 174 rfl rfl)⟩
theorem fl_2_34 : ab_F RX2 34 2 7 := ⟨_, _, _, cok_2, by decide, (ab_in1 175 rfl rfl)⟩
theorem fl_1_9 : ab_F RX1 9 1 0 := ⟨_, _, _, cok_1, by decide, (ab_in1 199 rfl rfl)⟩
theorem fl_8_178 : ab_F RX8 178 1 0 := ⟨_, _, _, cok_1, by decide, (ab_in1 200 rfl rfl)⟩
theorem fl_1_15 : ab_F RX1 15 1 1 := ⟨_, _, _, cok_1, by decide, (ab_in1 201 rfl rfl)⟩
theorem fl_1_19 : ab_F RX1 19 1 2 := ⟨_, _, _, cok_1, by decide, (ab_in1 202 rfl rfl)⟩
theorem fl_1_22 : ab_F RX1 22 1 3 := ⟨_, _, _, cok_1, by decide, (ab_in1 203 rfl rfl)⟩
theorem fl_1_25 : ab_F RX1 25 1 4 := ⟨_, _, _, cok_1, by decide, (ab_in1 204 rfl rfl)⟩
theorem fl_1_28 : ab_F RX1 28 1 5 := ⟨_, _, _, cok_1, by decide, (ab_in1 205 rfl rfl)⟩
theorem fl_1_31 : ab_F RX1 31 1 6 := ⟨_, _, _, cok_1, by decide, (ab_in1 206 rfl rfl)⟩
theorem fl_1_34 : ab_F RX1 34 1 7 := ⟨_, _, _, cok_1, by decide, (ab_in1 207 rfl rfl)⟩
theorem fl_1_37 : ab_F RX1 37 1 8 := ⟨_, _, _, cok_1, by decide, (ab_in1 208 rfl rfl)⟩
theorem fl_5_10 : ab_F RX5 10 5 0 := ⟨_, _, _, cok_5, by decide, (ab_in1 235 rfl rfl)⟩
theorem fl_8_197 : ab_F RX8 197 5 0 := ⟨_, _, _, cok_5, by decide, (ab_in1 236 rfl rfl)⟩
theorem fl_5_16 : ab_F RX5 16 5 1 := ⟨_, _, _, cok_5, by decide, (ab_in1 237 rfl rfl)⟩
theorem fl_3_40 : ab_F RX3 40 5 1 := ⟨_, _, _, cok_5, by decide, (ab_in1 238 rfl rfl)⟩
theorem fl_8_200 : ab_F RX8 200 5 1 := ⟨_, _, _, cok_5, by decide, (ab_in1 239 rfl rfl)⟩
theorem fl_5_19 : ab_F RX5 19 5 2 := ⟨_, _, _, cok_5, by decide, (ab_in2 0 rfl rfl)⟩
theorem fl_3_48 : ab_F RX3 48 5 2 := ⟨_, _, _, cok_5, by decide, (ab_in2 1 rfl rfl)⟩
theorem fl_5_23 : ab_F RX5 23 5 3 := ⟨_, _, _, cok_5, by decide, (ab_in2 2 rfl rfl)⟩
theorem fl_3_49 : ab_F RX3 49 5 3 := ⟨_, _, _, cok_5, by decide, (ab_in2 3 rfl rfl)⟩
theorem fl_5_26 : ab_F RX5 26 5 4 := ⟨_, _, _, cok_5, by decide, (ab_in2 4 rfl rfl)⟩
theorem fl_5_29 : ab_F RX5 29 5 5 := ⟨_, _, _, cok_5, by decide, (ab_in2 5 rfl rfl)⟩
theorem fl_5_32 : ab_F RX5 32 5 6 := ⟨_, _, _, cok_5, by decide, (ab_in2 6 rfl rfl)⟩
theorem fl_5_35 : ab_F RX5 35 5 7 := ⟨_, _, _, cok_5, by decide, (ab_in2 7 rfl rfl)⟩
theorem fl_5_38 : ab_F RX5 38 5 8 := ⟨_, _, _, cok_5, by decide, (ab_in2 8 rfl rfl)⟩
theorem fl_8_10 : ab_F RX8 10 8 0 := ⟨_, _, _, cok_8, by decide, (ab_in2 28 rfl rfl)⟩
theorem fl_8_16 : ab_F RX8 16 8 1 := ⟨_, _, _, cok_8, by decide, (ab_in2 29 rfl rfl)⟩
theorem fl_8_19 : ab_F RX8 19 8 2 := ⟨_, _, _, cok_8, by decide, (ab_in2 30 rfl rfl)⟩
theorem fl_8_23 : ab_F RX8 23 8 3 := ⟨_, _, _, cok_8, by decide, (ab_in2 31 rfl rfl)⟩
theorem fl_8_27 : ab_F RX8 27 8 4 := ⟨_, _, _, cok_8, by decide, (ab_in2 32 rfl rfl)⟩
theorem fl_8_33 : ab_F RX8 33 8 5 := ⟨_, _, _, cok_8, by decide, (ab_in2 33 rfl rfl)⟩
theorem fl_8_40 : ab_F RX8 40 8 6 := ⟨_, _, _, cok_8, by decide, (ab_in2 34 rfl rfl)⟩
theorem fl_8_47 : ab_F RX8 47 8 7 := ⟨_, _, _, cok_8, by decide, (ab_in2 35 rfl rfl)⟩
theorem fl_9_7 : ab_F RX9 7 9 0 := ⟨_, _, _, cok_9, by decide, (ab_in3 209 rfl rfl)⟩
theorem fl_9_13 : ab_F RX9 13 9 1 := ⟨_, _, _, cok_9, by decide, (ab_in3 210 rfl rfl)⟩
theorem fl_9_16 : ab_F RX9 16 9 2 := ⟨_, _, _, cok_9, by decide, (ab_in3 211 rfl rfl)⟩
theorem fl_9_20 : ab_F RX9 20 9 3 := ⟨_, _, _, cok_9, by decide, (ab_in3 212 rfl rfl)⟩
theorem fl_9_152 : ab_F RX9 152 9 4 := ⟨_, _, _, cok_9, by decide, (ab_in3 213 rfl rfl)⟩
theorem fl_9_24 : ab_F RX9 24 9 5 := ⟨_, _, _, cok_9, by decide, (ab_in3 214 rfl rfl)⟩
theorem fl_9_27 : ab_F RX9 27 9 6 := ⟨_, _, _, cok_9, by decide, (ab_in3 215 rfl rfl)⟩
theorem fl_9_174 : ab_F RX9 174 9 7 := ⟨_, _, _, cok_9, by decide, (ab_in3 216 rfl rfl)⟩
theorem fl_9_30 : ab_F RX9 30 9 8 := ⟨_, _, _, cok_9, by decide, (ab_in3 217 rfl rfl)⟩
theorem fl_9_33 : ab_F RX9 33 9 9 := ⟨_, _, _, cok_9, by decide, (ab_in3 218 rfl rfl)⟩
theorem fl_9_36 : ab_F RX9 36 9 10 := ⟨_, _, _, cok_9, by decide, (ab_in3 219 rfl rfl)⟩
theorem fl_9_39 : ab_F RX9 39 9 11 := ⟨_, _, _, cok_9, by decide, (ab_in3 220 rfl rfl)⟩
theorem fl_9_115 : ab_F RX9 115 9 12 := ⟨_, _, _, cok_9, by decide, (ab_in3 221 rfl rfl)⟩
theorem fl_9_202 : ab_F RX9 202 9 13 := ⟨_, _, _, cok_9, by decide, (ab_in3 222 rfl rfl)⟩
theorem fl_9_42 : ab_F RX9 42 9 14 := ⟨_, _, _, cok_9, by decide, (ab_in3 223 rfl rfl)⟩
theorem fl_9_45 : ab_F RX9 45 9 15 := ⟨_, _, _, cok_9, by decide, (ab_in3 224 rfl rfl)⟩
theorem fl_9_48 : ab_F RX9 48 9 16 := ⟨_, _, _, cok_9, by decide, (ab_in3 225 rfl rfl)⟩
theorem fl_9_51 : ab_F RX9 51 9 17 := ⟨_, _, _, cok_9, by decide, (ab_in3 226 rfl rfl)⟩
theorem fl_9_227 : ab_F RX9 227 9 18 := ⟨_, _, _, cok_9, by decide, (ab_in3 227 rfl rfl)⟩
theorem fl_9_54 : ab_F RX9 54 9 19 := ⟨_, _, _, cok_9, by decide, (ab_in3 228 rfl rfl)⟩
theorem fl_9_57 : ab_F RX9 57 9 20 := ⟨_, _, _, cok_9, by decide, (ab_in3 229 rfl rfl)⟩
theorem fl_9_60 : ab_F RX9 60 9 21 := ⟨_, _, _, cok_9, by decide, (ab_in3 230 rfl rfl)⟩
theorem fl_9_63 : ab_F RX9 63 9 22 := ⟨_, _, _, cok_9, by decide, (ab_in3 231 rfl rfl)⟩
theorem fl_9_66 : ab_F RX9 66 9 23 := ⟨_, _, _, cok_9, by decide, (ab_in3 232 rfl rfl)⟩
theorem fl_9_143 : ab_F RX9 143 9 24 := ⟨_, _, _, cok_9, by decide, (ab_in3 233 rfl rfl)⟩
theorem fl_9_69 : ab_F RX9 69 9 25 := ⟨_, _, _, cok_9, by decide, (ab_in3 234 rfl rfl)⟩
theorem fl_9_72 : ab_F RX9 72 9 26 := ⟨_, _, _, cok_9, by decide, (ab_in3 235 rfl rfl)⟩
theorem fl_9_75 : ab_F RX9 75 9 27 := ⟨_, _, _, cok_9, by decide, (ab_in3 236 rfl rfl)⟩
theorem fl_9_78 : ab_F RX9 78 9 28 := ⟨_, _, _, cok_9, by decide, (ab_in3 237 rfl rfl)⟩
theorem fl_9_155 : ab_F RX9 155 9 29 := ⟨_, _, _, cok_9, by decide, (ab_in3 238 rfl rfl)⟩
theorem fl_9_81 : ab_F RX9 81 9 30 := ⟨_, _, _, cok_9, by decide, (ab_in3 239 rfl rfl)⟩
theorem fl_9_158 : ab_F RX9 158 9 31 := ⟨_, _, _, cok_9, by decide, (ab_in4 0 rfl rfl)⟩
theorem fl_9_84 : ab_F RX9 84 9 32 := ⟨_, _, _, cok_9, by decide, (ab_in4 1 rfl rfl)⟩
theorem fl_9_87 : ab_F RX9 87 9 33 := ⟨_, _, _, cok_9, by decide, (ab_in4 2 rfl rfl)⟩
theorem fl_9_90 : ab_F RX9 90 9 34 := ⟨_, _, _, cok_9, by decide, (ab_in4 3 rfl rfl)⟩
theorem fl_9_93 : ab_F RX9 93 9 35 := ⟨_, _, _, cok_9, by decide, (ab_in4 4 rfl rfl)⟩
theorem fl_9_165 : ab_F RX9 165 9 36 := ⟨_, _, _, cok_9, by decide, (ab_in4 5 rfl rfl)⟩
theorem fl_9_96 : ab_F RX9 96 9 37 := ⟨_, _, _, cok_9, by decide, (ab_in4 6 rfl rfl)⟩
theorem fl_9_99 : ab_F RX9 99 9 38 := ⟨_, _, _, cok_9, by decide, (ab_in4 7 rfl rfl)⟩
theorem fl_9_102 : ab_F RX9 102 9 39 := ⟨_, _, _, cok_9, by decide, (ab_in4 8 rfl rfl)⟩
theorem fl_9_105 : ab_F RX9 105 9 40 := ⟨_, _, _, cok_9, by decide, (ab_in4 9 rfl rfl)⟩
theorem fl_9_186 : ab_F RX9 186 9 41 := ⟨_, _, _, cok_9, by decide, (ab_in4 10 rfl rfl)⟩
theorem fl_9_189 : ab_F RX9 189 9 42 := ⟨_, _, _, cok_9, by decide, (ab_in4 11 rfl rfl)⟩
theorem fl_9_108 : ab_F RX9 108 9 43 := ⟨_, _, _, cok_9, by decide, (ab_in4 12 rfl rfl)⟩
end
section
abbrev ab_np (M : ab_M) (n : Nat) : Prop := (parseMethodDescriptor M.1.desc).map (fun d => d.parameters.length) = some n
def ab_lV (own : String) (ix : Nat) (M : ab_M) (ci : Nat) : Prop := ab_mok M ∧ Cond.methodLink own ix M.1 ∈ ab_tb ∧ Cond.instanceMethod M.1 ∈ ab_tb ∧ Cond.selects M.1.cls M.1 M.1 ∈ ab_tb ∧ (vwCl[ci]?).map (fun q => q.1) = some M.1.cls ∧ ab_np M (M.2.2.2.2 - 1) ∧ 1 ≤ M.2.2.2.2
def ab_lS (own : String) (ix : Nat) (M : ab_M) : Prop := ab_mok M ∧ Cond.methodLink own ix M.1 ∈ ab_tb ∧ Cond.static M.1 ∈ ab_tb ∧ ab_np M M.2.2.2.2
def ab_lI (own : String) (ix : Nat) (M : ab_M) : Prop := ab_mok M ∧ Cond.methodLink own ix M.1 ∈ ab_tb ∧ Cond.instanceMethod M.1 ∈ ab_tb ∧ M.1.name = "<init>" ∧ M.2.2.2.1 = none ∧ ab_np M (M.2.2.2.2 - 1) ∧ 1 ≤ M.2.2.2.2
def ab_nl : List Cond := [.methodLinkNest RX0 38 yX8_cellOf "WeftShop", .methodLinkNest RX0 34 yX8_isBelow "WeftShop", .methodLinkNest RX2 51 yX8_cellOf "WeftShop", .methodLinkNest RX3 58 yX8_cellOf "WeftShop"]
theorem ab_nl_0 : Cond.methodLinkNest RX0 38 yX8_cellOf "WeftShop" ∈ lw_tbl := List.mem_of_getElem? (i := 371) (by decide +kernel)
theorem ab_nl_1 : Cond.methodLinkNest RX0 34 yX8_isBelow "WeftShop" ∈ lw_tbl := List.mem_of_getElem? (i := 386) (by decide +kernel)
theorem ab_nl_2 : Cond.methodLinkNest RX2 51 yX8_cellOf "WeftShop" ∈ lw_tbl := List.mem_of_getElem? (i := 449) (by decide +kernel)
theorem ab_nl_3 : Cond.methodLinkNest RX3 58 yX8_cellOf "WeftShop" ∈ lw_tbl := List.mem_of_getElem? (i := 609) (by decide +kernel)
theorem ab_nl_in : ∀ w ∈ ab_nl, w ∈ lw_tbl := by
  intro w hw
  simp only [ab_nl, List.mem_cons, List.not_mem_nil, or_false] at hw
  rcases hw with rfl | rfl | rfl | rfl
  · exact ab_nl_0
  · exact ab_nl_1
  · exact ab_nl_2
  · exact ab_nl_3
def ab_lN (own : String) (ix : Nat) (M : ab_M) : Prop := ab_mok M ∧ (∃ host, Cond.methodLinkNest own ix M.1 host ∈ ab_nl) ∧ Cond.static M.1 ∈ ab_tb ∧ ab_np M M.2.2.2.2
def ab_lO (own : String) (ix : Nat) : Prop := Cond.methodLink own ix Lib.objectInit ∈ ab_tb ∧ Cond.instanceMethod Lib.objectInit ∈ ab_tb ∧ Cond.code Lib.objectInit ⟨#[0xb1]⟩ 1 none ∈ ab_tb
def ab_lX (own : String) (ix : Nat) : Prop := Cond.methodLink own ix Lib.Math.max.name ∈ ab_tb ∧ Cond.static Lib.Math.max.name ∈ ab_tb ∧ Cond.initialized "java/lang/Math" ∈ ab_tb ∧ Cond.code Lib.Math.max.name Lib.Math.max.code 2 (some .int) ∈ ab_tb
def ab_lY (own : String) (ix : Nat) : Prop := Cond.methodLink own ix Lib.Math.min.name ∈ ab_tb ∧ Cond.static Lib.Math.min.name ∈ ab_tb ∧ Cond.initialized "java/lang/Math" ∈ ab_tb ∧ Cond.code Lib.Math.min.name Lib.Math.min.code 2 (some .int) ∈ ab_tb
def ab_lC (own : String) (ix : Nat) : Prop := Cond.methodLink own ix arraycopyName ∈ ab_tb ∧ Cond.native arraycopyName ∈ ab_tb ∧ Cond.static arraycopyName ∈ ab_tb ∧ Cond.initialized "java/lang/System" ∈ ab_tb
theorem ml_0_38 : ab_lN RX0 38 mX8_cellOf := ⟨mokX8_cellOf, ⟨"WeftShop", by simp [ab_nl, mX8_cellOf]⟩, (ab_in2 89 rfl rfl), by decide⟩
theorem ml_0_34 : ab_lN RX0 34 mX8_isBelow := ⟨mokX8_isBelow, ⟨"WeftShop", by simp [ab_nl, mX8_isBelow]⟩, (ab_in2 82 rfl rfl), by decide⟩
theorem ml_2_51 : ab_lN RX2 51 mX8_cellOf := ⟨mokX8_cellOf, ⟨"WeftShop", by simp [ab_nl, mX8_cellOf]⟩, (ab_in2 89 rfl rfl), by decide⟩
theorem ml_3_58 : ab_lN RX3 58 mX8_cellOf := ⟨mokX8_cellOf, ⟨"WeftShop", by simp [ab_nl, mX8_cellOf]⟩, (ab_in2 89 rfl rfl), by decide⟩
theorem ml_L_9 : ab_lI RL 9 mX8_init := ⟨mokX8_init, (ab_in1 16 rfl rfl), (ab_in1 17 rfl rfl), rfl, rfl, by decide, by decide⟩
theorem ml_8_1 : ab_lO RX8 1 := ⟨(ab_in1 19 rfl rfl), (ab_in1 20 rfl rfl), (ab_in1 21 rfl rfl)⟩
theorem ml_8_9 : ab_lI RX8 9 mX6_init := ⟨mokX6_init, (ab_in1 24 rfl rfl), (ab_in1 25 rfl rfl), rfl, rfl, by decide, by decide⟩
theorem ml_6_1 : ab_lO RX6 1 := ⟨(ab_in1 27 rfl rfl), (ab_in1 20 rfl rfl), (ab_in1 21 rfl rfl)⟩
theorem ml_6_9 : ab_lI RX6 9 mX0_init := ⟨mokX0_init, (ab_in1 30 rfl rfl), (ab_in1 31 rfl rfl), rfl, rfl, by decide, by decide⟩
theorem ml_0_3 : ab_lO RX0 3 := ⟨(ab_in1 33 rfl rfl), (ab_in1 20 rfl rfl), (ab_in1 21 rfl rfl)⟩
theorem ml_6_18 : ab_lI RX6 18 mX4_init := ⟨mokX4_init, (ab_in1 54 rfl rfl), (ab_in1 55 rfl rfl), rfl, rfl, by decide, by decide⟩
theorem ml_4_3 : ab_lO RX4 3 := ⟨(ab_in1 57 rfl rfl), (ab_in1 20 rfl rfl), (ab_in1 21 rfl rfl)⟩
theorem ml_6_25 : ab_lI RX6 25 mX7_init := ⟨mokX7_init, (ab_in1 76 rfl rfl), (ab_in1 77 rfl rfl), rfl, rfl, by decide, by decide⟩
theorem ml_7_3 : ab_lO RX7 3 := ⟨(ab_in1 79 rfl rfl), (ab_in1 20 rfl rfl), (ab_in1 21 rfl rfl)⟩
theorem ml_6_32 : ab_lI RX6 32 mX3_init := ⟨mokX3_init, (ab_in1 98 rfl rfl), (ab_in1 99 rfl rfl), rfl, rfl, by decide, by decide⟩
theorem ml_3_3 : ab_lO RX3 3 := ⟨(ab_in1 101 rfl rfl), (ab_in1 20 rfl rfl), (ab_in1 21 rfl rfl)⟩
theorem ml_8_32 : ab_lI RX8 32 mX2_init := ⟨mokX2_init, (ab_in1 155 rfl rfl), (ab_in1 156 rfl rfl), rfl, rfl, by decide, by decide⟩
theorem ml_2_3 : ab_lO RX2 3 := ⟨(ab_in1 158 rfl rfl), (ab_in1 20 rfl rfl), (ab_in1 21 rfl rfl)⟩
theorem ml_8_39 : ab_lI RX8 39 mX1_init := ⟨mokX1_init, (ab_in1 195 rfl rfl), (ab_in1 196 rfl rfl), rfl, rfl, by decide, by decide⟩
theorem ml_1_3 : ab_lO RX1 3 := ⟨(ab_in1 198 rfl rfl), (ab_in1 20 rfl rfl), (ab_in1 21 rfl rfl)⟩
theorem ml_8_46 : ab_lI RX8 46 mX5_init := ⟨mokX5_init, (ab_in1 230 rfl rfl), (ab_in1 231 rfl rfl), rfl, rfl, by decide, by decide⟩
theorem ml_5_3 : ab_lO RX5 3 := ⟨(ab_in1 233 rfl rfl), (ab_in1 20 rfl rfl), (ab_in1 21 rfl rfl)⟩
theorem ml_L_13 : ab_lV RL 13 mX8_size 8 := ⟨mokX8_size, (ab_in2 53 rfl rfl), (ab_in2 54 rfl rfl), (ab_in2 55 rfl rfl), rfl, by decide, by decide⟩
theorem ml_8_51 : ab_lS RX8 51 mX8_isFromTo := ⟨mokX8_isFromTo, (ab_in2 57 rfl rfl), (ab_in2 58 rfl rfl), by decide⟩
theorem ml_8_59 : ab_lV RX8 59 mX0_renew 0 := ⟨mokX0_renew, (ab_in2 60 rfl rfl), (ab_in2 61 rfl rfl), (ab_in2 62 rfl rfl), rfl, by decide, by decide⟩
theorem ml_0_22 : ab_lS RX0 22 mJ7_fill_53178 := ⟨mokJ7_fill_53178, (ab_in2 64 rfl rfl), (ab_in2 65 rfl rfl), by decide⟩
theorem ml_8_69 : ab_lV RX8 69 mX3_takeDown 3 := ⟨mokX3_takeDown, (ab_in2 67 rfl rfl), (ab_in2 68 rfl rfl), (ab_in2 69 rfl rfl), rfl, by decide, by decide⟩
theorem ml_L_18 : ab_lV RL 18 mX8_paint 8 := ⟨mokX8_paint, (ab_in2 71 rfl rfl), (ab_in2 72 rfl rfl), (ab_in2 73 rfl rfl), rfl, by decide, by decide⟩
theorem ml_8_77 : ab_lS RX8 77 mX8_isOnBoard := ⟨mokX8_isOnBoard, (ab_in2 75 rfl rfl), (ab_in2 76 rfl rfl), by decide⟩
theorem ml_8_83 : ab_lS RX8 83 mX8_isColour := ⟨mokX8_isColour, (ab_in2 78 rfl rfl), (ab_in2 79 rfl rfl), by decide⟩
theorem ml_8_132 : ab_lS RX8 132 mX8_isBelow := ⟨mokX8_isBelow, (ab_in2 81 rfl rfl), (ab_in2 82 rfl rfl), by decide⟩
theorem ml_8_87 : ab_lV RX8 87 mX0_cellOfCartoon 0 := ⟨mokX0_cellOfCartoon, (ab_in2 84 rfl rfl), (ab_in2 85 rfl rfl), (ab_in2 86 rfl rfl), rfl, by decide, by decide⟩
theorem ml_8_91 : ab_lV RX8 91 mX0_dip 0 := ⟨mokX0_dip, (ab_in2 91 rfl rfl), (ab_in2 92 rfl rfl), (ab_in2 93 rfl rfl), rfl, by decide, by decide⟩
theorem ml_L_23 : ab_lV RL 23 mX8_face 8 := ⟨mokX8_face, (ab_in2 95 rfl rfl), (ab_in2 96 rfl rfl), (ab_in2 97 rfl rfl), rfl, by decide, by decide⟩
theorem ml_8_94 : ab_lV RX8 94 mX0_hasSquare 0 := ⟨mokX0_hasSquare, (ab_in2 99 rfl rfl), (ab_in2 100 rfl rfl), (ab_in2 101 rfl rfl), rfl, by decide, by decide⟩
theorem ml_8_98 : ab_lV RX8 98 mX0_hasFace 0 := ⟨mokX0_hasFace, (ab_in2 104 rfl rfl), (ab_in2 105 rfl rfl), (ab_in2 106 rfl rfl), rfl, by decide, by decide⟩
theorem ml_8_101 : ab_lV RX8 101 mX0_turnFace 0 := ⟨mokX0_turnFace, (ab_in2 108 rfl rfl), (ab_in2 109 rfl rfl), (ab_in2 110 rfl rfl), rfl, by decide, by decide⟩
theorem ml_L_28 : ab_lV RL 28 mX8_cartoon 8 := ⟨mokX8_cartoon, (ab_in2 112 rfl rfl), (ab_in2 113 rfl rfl), (ab_in2 114 rfl rfl), rfl, by decide, by decide⟩
theorem ml_L_32 : ab_lV RL 32 mX8_loom 8 := ⟨mokX8_loom, (ab_in2 116 rfl rfl), (ab_in2 117 rfl rfl), (ab_in2 118 rfl rfl), rfl, by decide, by decide⟩
theorem ml_8_109 : ab_lS RX8 109 mX8_cellOf := ⟨mokX8_cellOf, (ab_in2 120 rfl rfl), (ab_in2 89 rfl rfl), by decide⟩
theorem ml_L_36 : ab_lV RL 36 mX8_rule 8 := ⟨mokX8_rule, (ab_in2 121 rfl rfl), (ab_in2 122 rfl rfl), (ab_in2 123 rfl rfl), rfl, by decide, by decide⟩
theorem ml_L_40 : ab_lV RL 40 mX8_slits 8 := ⟨mokX8_slits, (ab_in2 125 rfl rfl), (ab_in2 126 rfl rfl), (ab_in2 127 rfl rfl), rfl, by decide, by decide⟩
theorem ml_8_112 : ab_lV RX8 112 mX0_lengthOfSlitFrom 0 := ⟨mokX0_lengthOfSlitFrom, (ab_in2 129 rfl rfl), (ab_in2 130 rfl rfl), (ab_in2 131 rfl rfl), rfl, by decide, by decide⟩
theorem ml_0_53 : ab_lV RX0 53 mX0_isSlitAt 0 := ⟨mokX0_isSlitAt, (ab_in2 133 rfl rfl), (ab_in2 134 rfl rfl), (ab_in2 135 rfl rfl), rfl, by decide, by decide⟩
theorem ml_0_50 : ab_lV RX0 50 mX0_colourAt 0 := ⟨mokX0_colourAt, (ab_in2 137 rfl rfl), (ab_in2 138 rfl rfl), (ab_in2 139 rfl rfl), rfl, by decide, by decide⟩
theorem ml_8_115 : ab_lV RX8 115 mX8_addSlit 8 := ⟨mokX8_addSlit, (ab_in2 141 rfl rfl), (ab_in2 143 rfl rfl), (ab_in0 0 rfl rfl), rfl, by decide, by decide⟩
theorem ml_8_264 : ab_lX RX8 264 := ⟨(ab_in2 145 rfl rfl), (ab_in2 146 rfl rfl), (ab_in1 12 rfl rfl), (ab_in2 147 rfl rfl)⟩
theorem ml_L_45 : ab_lV RL 45 mX8_slit 8 := ⟨mokX8_slit, (ab_in2 148 rfl rfl), (ab_in2 149 rfl rfl), (ab_in2 150 rfl rfl), rfl, by decide, by decide⟩
theorem ml_8_119 : ab_lV RX8 119 mX0_slitLength 0 := ⟨mokX0_slitLength, (ab_in2 152 rfl rfl), (ab_in2 153 rfl rfl), (ab_in2 154 rfl rfl), rfl, by decide, by decide⟩
theorem ml_0_56 : ab_lV RX0 56 mX0_lengthOfSlitFrom 0 := ⟨mokX0_lengthOfSlitFrom, (ab_in2 156 rfl rfl), (ab_in2 130 rfl rfl), (ab_in2 131 rfl rfl), rfl, by decide, by decide⟩
theorem ml_L_49 : ab_lV RL 49 mX8_field 8 := ⟨mokX8_field, (ab_in2 157 rfl rfl), (ab_in2 158 rfl rfl), (ab_in2 159 rfl rfl), rfl, by decide, by decide⟩
theorem ml_8_122 : ab_lV RX8 122 mX2_find 2 := ⟨mokX2_find, (ab_in2 161 rfl rfl), (ab_in2 162 rfl rfl), (ab_in2 163 rfl rfl), rfl, by decide, by decide⟩
theorem ml_2_37 : ab_lS RX2 37 mJ7_fill_53178 := ⟨mokJ7_fill_53178, (ab_in2 165 rfl rfl), (ab_in2 65 rfl rfl), by decide⟩
theorem ml_2_55 : ab_lV RX2 55 mX2_spread 2 := ⟨mokX2_spread, (ab_in2 167 rfl rfl), (ab_in2 169 rfl rfl), (ab_in0 1 rfl rfl), rfl, by decide, by decide⟩
theorem ml_2_59 : ab_lV RX2 59 mX0_colourAt 0 := ⟨mokX0_colourAt, (ab_in2 171 rfl rfl), (ab_in2 138 rfl rfl), (ab_in2 139 rfl rfl), rfl, by decide, by decide⟩
theorem ml_2_63 : ab_lV RX2 63 mX2_join 2 := ⟨mokX2_join, (ab_in2 172 rfl rfl), (ab_in2 174 rfl rfl), (ab_in0 2 rfl rfl), rfl, by decide, by decide⟩
theorem ml_2_67 : ab_lV RX2 67 mX2_look 2 := ⟨mokX2_look, (ab_in2 176 rfl rfl), (ab_in2 178 rfl rfl), (ab_in0 3 rfl rfl), rfl, by decide, by decide⟩
theorem ml_2_71 : ab_lV RX2 71 mX0_hasSquare 0 := ⟨mokX0_hasSquare, (ab_in2 180 rfl rfl), (ab_in2 100 rfl rfl), (ab_in2 101 rfl rfl), rfl, by decide, by decide⟩
theorem ml_L_53 : ab_lV RL 53 mX8_of 8 := ⟨mokX8_of, (ab_in2 181 rfl rfl), (ab_in2 182 rfl rfl), (ab_in2 183 rfl rfl), rfl, by decide, by decide⟩
theorem ml_L_57 : ab_lV RL 57 mX8_dye 8 := ⟨mokX8_dye, (ab_in2 185 rfl rfl), (ab_in2 186 rfl rfl), (ab_in2 187 rfl rfl), rfl, by decide, by decide⟩
theorem ml_8_154 : ab_lV RX8 154 mX4_add 4 := ⟨mokX4_add, (ab_in2 189 rfl rfl), (ab_in2 190 rfl rfl), (ab_in2 191 rfl rfl), rfl, by decide, by decide⟩
theorem ml_L_61 : ab_lV RL 61 mX8_lot 8 := ⟨mokX8_lot, (ab_in2 193 rfl rfl), (ab_in2 194 rfl rfl), (ab_in2 195 rfl rfl), rfl, by decide, by decide⟩
theorem ml_8_159 : ab_lV RX8 159 mX8_findDealing 8 := ⟨mokX8_findDealing, (ab_in2 197 rfl rfl), (ab_in2 199 rfl rfl), (ab_in0 4 rfl rfl), rfl, by decide, by decide⟩
theorem ml_8_261 : ab_lV RX8 261 mX1_find 1 := ⟨mokX1_find, (ab_in2 201 rfl rfl), (ab_in2 202 rfl rfl), (ab_in2 203 rfl rfl), rfl, by decide, by decide⟩
theorem ml_1_40 : ab_lV RX1 40 mX1_gatherFields 1 := ⟨mokX1_gatherFields, (ab_in2 205 rfl rfl), (ab_in2 207 rfl rfl), (ab_in0 5 rfl rfl), rfl, by decide, by decide⟩
theorem ml_1_44 : ab_lV RX1 44 mX1_gatherLots 1 := ⟨mokX1_gatherLots, (ab_in2 209 rfl rfl), (ab_in2 211 rfl rfl), (ab_in0 6 rfl rfl), rfl, by decide, by decide⟩
theorem ml_1_48 : ab_lV RX1 48 mX1_weighSets 1 := ⟨mokX1_weighSets, (ab_in2 213 rfl rfl), (ab_in2 215 rfl rfl), (ab_in0 7 rfl rfl), rfl, by decide, by decide⟩
theorem ml_1_57 : ab_lV RX1 57 mX1_addLot 1 := ⟨mokX1_addLot, (ab_in2 217 rfl rfl), (ab_in2 219 rfl rfl), (ab_in0 8 rfl rfl), rfl, by decide, by decide⟩
theorem ml_1_61 : ab_lV RX1 61 mX1_readChoices 1 := ⟨mokX1_readChoices, (ab_in2 222 rfl rfl), (ab_in2 224 rfl rfl), (ab_in0 9 rfl rfl), rfl, by decide, by decide⟩
theorem ml_1_76 : ab_lS RX1 76 mJ7_fill_53178 := ⟨mokJ7_fill_53178, (ab_in2 226 rfl rfl), (ab_in2 65 rfl rfl), by decide⟩
theorem ml_8_162 : ab_lV RX8 162 mX1_yarnFrom 1 := ⟨mokX1_yarnFrom, (ab_in2 227 rfl rfl), (ab_in2 228 rfl rfl), (ab_in2 229 rfl rfl), rfl, by decide, by decide⟩
theorem ml_L_65 : ab_lV RL 65 mX8_deal 8 := ⟨mokX8_deal, (ab_in2 231 rfl rfl), (ab_in2 232 rfl rfl), (ab_in2 233 rfl rfl), rfl, by decide, by decide⟩
theorem ml_8_166 : ab_lV RX8 166 mX1_lotFor 1 := ⟨mokX1_lotFor, (ab_in2 235 rfl rfl), (ab_in2 236 rfl rfl), (ab_in2 237 rfl rfl), rfl, by decide, by decide⟩
theorem ml_L_69 : ab_lV RL 69 mX8_dealt 8 := ⟨mokX8_dealt, (ab_in2 239 rfl rfl), (ab_in3 0 rfl rfl), (ab_in3 1 rfl rfl), rfl, by decide, by decide⟩
theorem ml_8_170 : ab_lV RX8 170 mX1_yarnInAll 1 := ⟨mokX1_yarnInAll, (ab_in3 3 rfl rfl), (ab_in3 4 rfl rfl), (ab_in3 5 rfl rfl), rfl, by decide, by decide⟩
theorem ml_1_82 : ab_lV RX1 82 mX1_yarnFrom 1 := ⟨mokX1_yarnFrom, (ab_in3 7 rfl rfl), (ab_in2 228 rfl rfl), (ab_in2 229 rfl rfl), rfl, by decide, by decide⟩
theorem ml_8_174 : ab_lV RX8 174 mX1_countServed 1 := ⟨mokX1_countServed, (ab_in3 8 rfl rfl), (ab_in3 9 rfl rfl), (ab_in3 10 rfl rfl), rfl, by decide, by decide⟩
theorem ml_L_73 : ab_lV RL 73 mX8_weaver 8 := ⟨mokX8_weaver, (ab_in3 12 rfl rfl), (ab_in3 13 rfl rfl), (ab_in3 14 rfl rfl), rfl, by decide, by decide⟩
theorem ml_8_188 : ab_lV RX8 188 mX7_add 7 := ⟨mokX7_add, (ab_in3 16 rfl rfl), (ab_in3 17 rfl rfl), (ab_in3 18 rfl rfl), rfl, by decide, by decide⟩
theorem ml_L_78 : ab_lV RL 78 mX8_speed 8 := ⟨mokX8_speed, (ab_in3 20 rfl rfl), (ab_in3 21 rfl rfl), (ab_in3 22 rfl rfl), rfl, by decide, by decide⟩
theorem ml_L_82 : ab_lV RL 82 mX8_share 8 := ⟨mokX8_share, (ab_in3 24 rfl rfl), (ab_in3 25 rfl rfl), (ab_in3 26 rfl rfl), rfl, by decide, by decide⟩
theorem ml_8_194 : ab_lV RX8 194 mX5_find 5 := ⟨mokX5_find, (ab_in3 28 rfl rfl), (ab_in3 29 rfl rfl), (ab_in3 30 rfl rfl), rfl, by decide, by decide⟩
theorem ml_5_44 : ab_lV RX5 44 mX0_workOfWarp 0 := ⟨mokX0_workOfWarp, (ab_in3 32 rfl rfl), (ab_in3 33 rfl rfl), (ab_in3 34 rfl rfl), rfl, by decide, by decide⟩
theorem ml_0_46 : ab_lV RX0 46 mX0_facesOfWarp 0 := ⟨mokX0_facesOfWarp, (ab_in3 36 rfl rfl), (ab_in3 37 rfl rfl), (ab_in3 38 rfl rfl), rfl, by decide, by decide⟩
theorem ml_0_42 : ab_lV RX0 42 mX0_hasFace 0 := ⟨mokX0_hasFace, (ab_in3 40 rfl rfl), (ab_in2 105 rfl rfl), (ab_in2 106 rfl rfl), rfl, by decide, by decide⟩
theorem ml_5_48 : ab_lV RX5 48 mX0_facesOfWarp 0 := ⟨mokX0_facesOfWarp, (ab_in3 41 rfl rfl), (ab_in3 37 rfl rfl), (ab_in3 38 rfl rfl), rfl, by decide, by decide⟩
theorem ml_5_51 : ab_lS RX5 51 mX5_tryFrom := ⟨mokX5_tryFrom, (ab_in3 42 rfl rfl), (ab_in3 43 rfl rfl), by decide⟩
theorem ml_5_55 : ab_lV RX5 55 mX5_takeIfBetter 5 := ⟨mokX5_takeIfBetter, (ab_in3 45 rfl rfl), (ab_in3 47 rfl rfl), (ab_in0 10 rfl rfl), rfl, by decide, by decide⟩
theorem ml_5_81 : ab_lC RX5 81 := ⟨(ab_in3 49 rfl rfl), (ab_in3 51 rfl rfl), (ab_in3 50 rfl rfl), (ab_in1 13 rfl rfl)⟩
theorem ml_5_64 : ab_lV RX5 64 mX5_daysOfStrip 5 := ⟨mokX5_daysOfStrip, (ab_in3 52 rfl rfl), (ab_in3 54 rfl rfl), (ab_in0 11 rfl rfl), rfl, by decide, by decide⟩
theorem ml_5_78 : ab_lV RX5 78 mX7_daysFor 7 := ⟨mokX7_daysFor, (ab_in3 56 rfl rfl), (ab_in3 57 rfl rfl), (ab_in3 58 rfl rfl), rfl, by decide, by decide⟩
theorem ml_5_68 : ab_lX RX5 68 := ⟨(ab_in3 61 rfl rfl), (ab_in2 146 rfl rfl), (ab_in1 12 rfl rfl), (ab_in2 147 rfl rfl)⟩
theorem ml_L_86 : ab_lV RL 86 mX8_who 8 := ⟨mokX8_who, (ab_in3 62 rfl rfl), (ab_in3 63 rfl rfl), (ab_in3 64 rfl rfl), rfl, by decide, by decide⟩
theorem ml_8_203 : ab_lV RX8 203 mX5_weaverAt 5 := ⟨mokX5_weaverAt, (ab_in3 66 rfl rfl), (ab_in3 67 rfl rfl), (ab_in3 68 rfl rfl), rfl, by decide, by decide⟩
theorem ml_L_90 : ab_lV RL 90 mX8_up 8 := ⟨mokX8_up, (ab_in3 70 rfl rfl), (ab_in3 71 rfl rfl), (ab_in3 72 rfl rfl), rfl, by decide, by decide⟩
theorem ml_8_206 : ab_lV RX8 206 mX3_setUp 3 := ⟨mokX3_setUp, (ab_in3 74 rfl rfl), (ab_in3 75 rfl rfl), (ab_in3 76 rfl rfl), rfl, by decide, by decide⟩
theorem ml_3_50 : ab_lV RX3 50 mX3_measure 3 := ⟨mokX3_measure, (ab_in3 78 rfl rfl), (ab_in3 80 rfl rfl), (ab_in0 12 rfl rfl), rfl, by decide, by decide⟩
theorem ml_3_54 : ab_lV RX3 54 mX3_workInPick 3 := ⟨mokX3_workInPick, (ab_in3 82 rfl rfl), (ab_in3 84 rfl rfl), (ab_in0 13 rfl rfl), rfl, by decide, by decide⟩
theorem ml_3_62 : ab_lV RX3 62 mX0_workAt 0 := ⟨mokX0_workAt, (ab_in3 87 rfl rfl), (ab_in3 88 rfl rfl), (ab_in3 89 rfl rfl), rfl, by decide, by decide⟩
theorem ml_L_95 : ab_lV RL 95 mX8_days 8 := ⟨mokX8_days, (ab_in3 91 rfl rfl), (ab_in3 92 rfl rfl), (ab_in3 93 rfl rfl), rfl, by decide, by decide⟩
theorem ml_8_211 : ab_lV RX8 211 mX3_isUp 3 := ⟨mokX3_isUp, (ab_in3 95 rfl rfl), (ab_in3 96 rfl rfl), (ab_in3 97 rfl rfl), rfl, by decide, by decide⟩
theorem ml_8_215 : ab_lV RX8 215 mX3_weaveDay 3 := ⟨mokX3_weaveDay, (ab_in3 99 rfl rfl), (ab_in3 100 rfl rfl), (ab_in3 101 rfl rfl), rfl, by decide, by decide⟩
theorem ml_3_74 : ab_lV RX3 74 mX3_beginDay 3 := ⟨mokX3_beginDay, (ab_in3 103 rfl rfl), (ab_in3 105 rfl rfl), (ab_in0 14 rfl rfl), rfl, by decide, by decide⟩
theorem ml_3_66 : ab_lV RX3 66 mX3_wholePicks 3 := ⟨mokX3_wholePicks, (ab_in3 107 rfl rfl), (ab_in3 108 rfl rfl), (ab_in3 109 rfl rfl), rfl, by decide, by decide⟩
theorem ml_3_77 : ab_lV RX3 77 mX3_isTooFarAhead 3 := ⟨mokX3_isTooFarAhead, (ab_in3 111 rfl rfl), (ab_in3 113 rfl rfl), (ab_in0 15 rfl rfl), rfl, by decide, by decide⟩
theorem ml_3_86 : ab_lV RX3 86 mX3_workOf 3 := ⟨mokX3_workOf, (ab_in3 115 rfl rfl), (ab_in3 116 rfl rfl), (ab_in3 117 rfl rfl), rfl, by decide, by decide⟩
theorem ml_3_69 : ab_lY RX3 69 := ⟨(ab_in3 119 rfl rfl), (ab_in3 120 rfl rfl), (ab_in1 12 rfl rfl), (ab_in3 121 rfl rfl)⟩
theorem ml_8_219 : ab_lV RX8 219 mX3_fewestWholePicks 3 := ⟨mokX3_fewestWholePicks, (ab_in3 122 rfl rfl), (ab_in3 123 rfl rfl), (ab_in3 124 rfl rfl), rfl, by decide, by decide⟩
theorem ml_L_99 : ab_lV RL 99 mX8_strip 8 := ⟨mokX8_strip, (ab_in3 126 rfl rfl), (ab_in3 127 rfl rfl), (ab_in3 128 rfl rfl), rfl, by decide, by decide⟩
theorem ml_8_233 : ab_lV RX8 233 mX3_workOf 3 := ⟨mokX3_workOf, (ab_in3 130 rfl rfl), (ab_in3 116 rfl rfl), (ab_in3 117 rfl rfl), rfl, by decide, by decide⟩
theorem ml_8_236 : ab_lV RX8 236 mX3_wholePicks 3 := ⟨mokX3_wholePicks, (ab_in3 131 rfl rfl), (ab_in3 108 rfl rfl), (ab_in3 109 rfl rfl), rfl, by decide, by decide⟩
theorem ml_8_239 : ab_lV RX8 239 mX3_wouldGoOn 3 := ⟨mokX3_wouldGoOn, (ab_in3 132 rfl rfl), (ab_in3 133 rfl rfl), (ab_in3 134 rfl rfl), rfl, by decide, by decide⟩
theorem ml_L_103 : ab_lV RL 103 mX8_woven 8 := ⟨mokX8_woven, (ab_in3 136 rfl rfl), (ab_in3 137 rfl rfl), (ab_in3 138 rfl rfl), rfl, by decide, by decide⟩
theorem ml_8_242 : ab_lV RX8 242 mX3_isWoven 3 := ⟨mokX3_isWoven, (ab_in3 140 rfl rfl), (ab_in3 141 rfl rfl), (ab_in3 142 rfl rfl), rfl, by decide, by decide⟩
theorem ml_3_89 : ab_lV RX3 89 mX3_stripAt 3 := ⟨mokX3_stripAt, (ab_in3 144 rfl rfl), (ab_in3 146 rfl rfl), (ab_in0 16 rfl rfl), rfl, by decide, by decide⟩
theorem ml_L_107 : ab_lV RL 107 mX8_unweave 8 := ⟨mokX8_unweave, (ab_in3 148 rfl rfl), (ab_in3 149 rfl rfl), (ab_in3 150 rfl rfl), rfl, by decide, by decide⟩
theorem ml_8_246 : ab_lV RX8 246 mX3_unweaveFrom 3 := ⟨mokX3_unweaveFrom, (ab_in3 152 rfl rfl), (ab_in3 153 rfl rfl), (ab_in3 154 rfl rfl), rfl, by decide, by decide⟩
theorem ml_L_111 : ab_lV RL 111 mX8_many 8 := ⟨mokX8_many, (ab_in3 156 rfl rfl), (ab_in3 157 rfl rfl), (ab_in3 158 rfl rfl), rfl, by decide, by decide⟩
theorem ml_8_249 : ab_lV RX8 249 mX3_countWoven 3 := ⟨mokX3_countWoven, (ab_in3 160 rfl rfl), (ab_in3 161 rfl rfl), (ab_in3 162 rfl rfl), rfl, by decide, by decide⟩
theorem ml_3_92 : ab_lV RX3 92 mX3_countWovenOf 3 := ⟨mokX3_countWovenOf, (ab_in3 164 rfl rfl), (ab_in3 166 rfl rfl), (ab_in0 17 rfl rfl), rfl, by decide, by decide⟩
theorem ml_8_254 : ab_lV RX8 254 mX0_countFaces 0 := ⟨mokX0_countFaces, (ab_in3 168 rfl rfl), (ab_in3 169 rfl rfl), (ab_in3 170 rfl rfl), rfl, by decide, by decide⟩
theorem ml_L_115 : ab_lV RL 115 mX8_keep 8 := ⟨mokX8_keep, (ab_in3 172 rfl rfl), (ab_in3 173 rfl rfl), (ab_in3 174 rfl rfl), rfl, by decide, by decide⟩
theorem ml_8_257 : ab_lV RX8 257 mX6_copyFrom 6 := ⟨mokX6_copyFrom, (ab_in3 176 rfl rfl), (ab_in3 177 rfl rfl), (ab_in3 178 rfl rfl), rfl, by decide, by decide⟩
theorem ml_6_37 : ab_lV RX6 37 mX0_copyFrom 0 := ⟨mokX0_copyFrom, (ab_in3 180 rfl rfl), (ab_in3 181 rfl rfl), (ab_in3 182 rfl rfl), rfl, by decide, by decide⟩
theorem ml_0_28 : ab_lC RX0 28 := ⟨(ab_in3 184 rfl rfl), (ab_in3 51 rfl rfl), (ab_in3 50 rfl rfl), (ab_in1 13 rfl rfl)⟩
theorem ml_6_41 : ab_lV RX6 41 mX4_copyFrom 4 := ⟨mokX4_copyFrom, (ab_in3 185 rfl rfl), (ab_in3 186 rfl rfl), (ab_in3 187 rfl rfl), rfl, by decide, by decide⟩
theorem ml_4_22 : ab_lC RX4 22 := ⟨(ab_in3 189 rfl rfl), (ab_in3 51 rfl rfl), (ab_in3 50 rfl rfl), (ab_in1 13 rfl rfl)⟩
theorem ml_6_44 : ab_lV RX6 44 mX7_copyFrom 7 := ⟨mokX7_copyFrom, (ab_in3 190 rfl rfl), (ab_in3 191 rfl rfl), (ab_in3 192 rfl rfl), rfl, by decide, by decide⟩
theorem ml_6_47 : ab_lV RX6 47 mX3_copyFrom 3 := ⟨mokX3_copyFrom, (ab_in3 194 rfl rfl), (ab_in3 195 rfl rfl), (ab_in3 196 rfl rfl), rfl, by decide, by decide⟩
theorem ml_3_96 : ab_lC RX3 96 := ⟨(ab_in3 198 rfl rfl), (ab_in3 51 rfl rfl), (ab_in3 50 rfl rfl), (ab_in1 13 rfl rfl)⟩
theorem ml_L_119 : ab_lV RL 119 mX8_back 8 := ⟨mokX8_back, (ab_in3 199 rfl rfl), (ab_in3 200 rfl rfl), (ab_in3 201 rfl rfl), rfl, by decide, by decide⟩
theorem ml_L_12 : ab_lI RL 12 mX9_init := ⟨mokX9_init, (ab_in3 205 rfl rfl), (ab_in3 206 rfl rfl), rfl, rfl, by decide, by decide⟩
theorem ml_9_1 : ab_lO RX9 1 := ⟨(ab_in3 208 rfl rfl), (ab_in1 20 rfl rfl), (ab_in1 21 rfl rfl)⟩
theorem ml_L_17 : ab_lV RL 17 mX9_size 9 := ⟨mokX9_size, (ab_in4 102 rfl rfl), (ab_in4 103 rfl rfl), (ab_in4 104 rfl rfl), rfl, by decide, by decide⟩
theorem ml_9_111 : ab_lS RX9 111 mX9_in := ⟨mokX9_in, (ab_in4 106 rfl rfl), (ab_in4 107 rfl rfl), by decide⟩
theorem ml_L_22 : ab_lV RL 22 mX9_paint 9 := ⟨mokX9_paint, (ab_in4 109 rfl rfl), (ab_in4 110 rfl rfl), (ab_in4 111 rfl rfl), rfl, by decide, by decide⟩
theorem ml_9_118 : ab_lV RX9 118 mX9_isSquare 9 := ⟨mokX9_isSquare, (ab_in4 113 rfl rfl), (ab_in4 115 rfl rfl), (ab_in0 18 rfl rfl), rfl, by decide, by decide⟩
theorem ml_9_122 : ab_lV RX9 122 mX9_spot 9 := ⟨mokX9_spot, (ab_in4 117 rfl rfl), (ab_in4 119 rfl rfl), (ab_in0 19 rfl rfl), rfl, by decide, by decide⟩
theorem ml_L_27 : ab_lV RL 27 mX9_face 9 := ⟨mokX9_face, (ab_in4 121 rfl rfl), (ab_in4 122 rfl rfl), (ab_in4 123 rfl rfl), rfl, by decide, by decide⟩
theorem ml_L_31 : ab_lV RL 31 mX9_cartoon 9 := ⟨mokX9_cartoon, (ab_in4 125 rfl rfl), (ab_in4 126 rfl rfl), (ab_in4 127 rfl rfl), rfl, by decide, by decide⟩
theorem ml_9_126 : ab_lV RX9 126 mX9_toldAt 9 := ⟨mokX9_toldAt, (ab_in4 129 rfl rfl), (ab_in4 131 rfl rfl), (ab_in0 20 rfl rfl), rfl, by decide, by decide⟩
theorem ml_L_35 : ab_lV RL 35 mX9_loom 9 := ⟨mokX9_loom, (ab_in4 133 rfl rfl), (ab_in4 134 rfl rfl), (ab_in4 135 rfl rfl), rfl, by decide, by decide⟩
theorem ml_L_39 : ab_lV RL 39 mX9_rule 9 := ⟨mokX9_rule, (ab_in4 137 rfl rfl), (ab_in4 138 rfl rfl), (ab_in4 139 rfl rfl), rfl, by decide, by decide⟩
theorem ml_L_44 : ab_lV RL 44 mX9_slits 9 := ⟨mokX9_slits, (ab_in4 141 rfl rfl), (ab_in4 142 rfl rfl), (ab_in4 143 rfl rfl), rfl, by decide, by decide⟩
theorem ml_9_133 : ab_lV RX9 133 mX9_slitFrom 9 := ⟨mokX9_slitFrom, (ab_in4 145 rfl rfl), (ab_in4 147 rfl rfl), (ab_in0 21 rfl rfl), rfl, by decide, by decide⟩
theorem ml_9_130 : ab_lV RX9 130 mX9_isUnlike 9 := ⟨mokX9_isUnlike, (ab_in4 149 rfl rfl), (ab_in4 151 rfl rfl), (ab_in0 22 rfl rfl), rfl, by decide, by decide⟩
theorem ml_L_48 : ab_lV RL 48 mX9_slit 9 := ⟨mokX9_slit, (ab_in4 153 rfl rfl), (ab_in4 154 rfl rfl), (ab_in4 155 rfl rfl), rfl, by decide, by decide⟩
theorem ml_L_52 : ab_lV RL 52 mX9_field 9 := ⟨mokX9_field, (ab_in4 157 rfl rfl), (ab_in4 158 rfl rfl), (ab_in4 159 rfl rfl), rfl, by decide, by decide⟩
theorem ml_9_149 : ab_lV RX9 149 mX9_findFields 9 := ⟨mokX9_findFields, (ab_in4 161 rfl rfl), (ab_in4 163 rfl rfl), (ab_in0 23 rfl rfl), rfl, by decide, by decide⟩
theorem ml_9_136 : ab_lV RX9 136 mX9_lesser 9 := ⟨mokX9_lesser, (ab_in4 165 rfl rfl), (ab_in4 167 rfl rfl), (ab_in0 24 rfl rfl), rfl, by decide, by decide⟩
theorem ml_9_140 : ab_lV RX9 140 mX9_number 9 := ⟨mokX9_number, (ab_in4 169 rfl rfl), (ab_in4 171 rfl rfl), (ab_in0 25 rfl rfl), rfl, by decide, by decide⟩
theorem ml_9_146 : ab_lV RX9 146 mX9_sides 9 := ⟨mokX9_sides, (ab_in4 173 rfl rfl), (ab_in4 175 rfl rfl), (ab_in0 26 rfl rfl), rfl, by decide, by decide⟩
theorem ml_L_56 : ab_lV RL 56 mX9_of 9 := ⟨mokX9_of, (ab_in4 177 rfl rfl), (ab_in4 178 rfl rfl), (ab_in4 179 rfl rfl), rfl, by decide, by decide⟩
theorem ml_L_60 : ab_lV RL 60 mX9_dye 9 := ⟨mokX9_dye, (ab_in4 181 rfl rfl), (ab_in4 182 rfl rfl), (ab_in4 183 rfl rfl), rfl, by decide, by decide⟩
theorem ml_L_64 : ab_lV RL 64 mX9_lot 9 := ⟨mokX9_lot, (ab_in4 185 rfl rfl), (ab_in4 186 rfl rfl), (ab_in4 187 rfl rfl), rfl, by decide, by decide⟩
theorem ml_9_171 : ab_lV RX9 171 mX9_findDealing 9 := ⟨mokX9_findDealing, (ab_in4 189 rfl rfl), (ab_in4 191 rfl rfl), (ab_in0 27 rfl rfl), rfl, by decide, by decide⟩
theorem ml_9_161 : ab_lV RX9 161 mX9_gather 9 := ⟨mokX9_gather, (ab_in4 193 rfl rfl), (ab_in4 195 rfl rfl), (ab_in0 28 rfl rfl), rfl, by decide, by decide⟩
theorem ml_9_168 : ab_lV RX9 168 mX9_yarnFrom 9 := ⟨mokX9_yarnFrom, (ab_in4 197 rfl rfl), (ab_in4 199 rfl rfl), (ab_in0 29 rfl rfl), rfl, by decide, by decide⟩
theorem ml_L_68 : ab_lV RL 68 mX9_deal 9 := ⟨mokX9_deal, (ab_in4 201 rfl rfl), (ab_in4 202 rfl rfl), (ab_in4 203 rfl rfl), rfl, by decide, by decide⟩
theorem ml_L_72 : ab_lV RL 72 mX9_dealt 9 := ⟨mokX9_dealt, (ab_in4 205 rfl rfl), (ab_in4 206 rfl rfl), (ab_in4 207 rfl rfl), rfl, by decide, by decide⟩
theorem ml_L_77 : ab_lV RL 77 mX9_weaver 9 := ⟨mokX9_weaver, (ab_in4 209 rfl rfl), (ab_in4 210 rfl rfl), (ab_in4 211 rfl rfl), rfl, by decide, by decide⟩
theorem ml_L_81 : ab_lV RL 81 mX9_speed 9 := ⟨mokX9_speed, (ab_in4 213 rfl rfl), (ab_in4 214 rfl rfl), (ab_in4 215 rfl rfl), rfl, by decide, by decide⟩
theorem ml_L_85 : ab_lV RL 85 mX9_share 9 := ⟨mokX9_share, (ab_in4 217 rfl rfl), (ab_in4 218 rfl rfl), (ab_in4 219 rfl rfl), rfl, by decide, by decide⟩
theorem ml_9_198 : ab_lV RX9 198 mX9_findSharing 9 := ⟨mokX9_findSharing, (ab_in4 221 rfl rfl), (ab_in4 223 rfl rfl), (ab_in0 30 rfl rfl), rfl, by decide, by decide⟩
theorem ml_9_192 : ab_lV RX9 192 mX9_isTaken 9 := ⟨mokX9_isTaken, (ab_in4 225 rfl rfl), (ab_in4 227 rfl rfl), (ab_in0 31 rfl rfl), rfl, by decide, by decide⟩
theorem ml_9_195 : ab_lV RX9 195 mX9_daysOf 9 := ⟨mokX9_daysOf, (ab_in4 229 rfl rfl), (ab_in4 231 rfl rfl), (ab_in0 32 rfl rfl), rfl, by decide, by decide⟩
theorem ml_9_180 : ab_lV RX9 180 mX9_hasFace 9 := ⟨mokX9_hasFace, (ab_in4 233 rfl rfl), (ab_in4 235 rfl rfl), (ab_in0 33 rfl rfl), rfl, by decide, by decide⟩
theorem ml_9_183 : ab_lV RX9 183 mX9_work 9 := ⟨mokX9_work, (ab_in4 237 rfl rfl), (ab_in4 239 rfl rfl), (ab_in0 34 rfl rfl), rfl, by decide, by decide⟩
theorem ml_9_177 : ab_lV RX9 177 mX9_workAt 9 := ⟨mokX9_workAt, (ab_in5 1 rfl rfl), (ab_in5 3 rfl rfl), (ab_in0 35 rfl rfl), rfl, by decide, by decide⟩
theorem ml_L_89 : ab_lV RL 89 mX9_who 9 := ⟨mokX9_who, (ab_in5 5 rfl rfl), (ab_in5 6 rfl rfl), (ab_in5 7 rfl rfl), rfl, by decide, by decide⟩
theorem ml_L_94 : ab_lV RL 94 mX9_up 9 := ⟨mokX9_up, (ab_in5 9 rfl rfl), (ab_in5 10 rfl rfl), (ab_in5 11 rfl rfl), rfl, by decide, by decide⟩
theorem ml_L_98 : ab_lV RL 98 mX9_days 9 := ⟨mokX9_days, (ab_in5 13 rfl rfl), (ab_in5 14 rfl rfl), (ab_in5 15 rfl rfl), rfl, by decide, by decide⟩
theorem ml_9_208 : ab_lV RX9 208 mX9_findWhole 9 := ⟨mokX9_findWhole, (ab_in5 17 rfl rfl), (ab_in5 19 rfl rfl), (ab_in0 36 rfl rfl), rfl, by decide, by decide⟩
theorem ml_9_205 : ab_lV RX9 205 mX9_wholeOf 9 := ⟨mokX9_wholeOf, (ab_in5 21 rfl rfl), (ab_in5 23 rfl rfl), (ab_in0 37 rfl rfl), rfl, by decide, by decide⟩
theorem ml_9_211 : ab_lV RX9 211 mX9_allOf 9 := ⟨mokX9_allOf, (ab_in5 25 rfl rfl), (ab_in5 27 rfl rfl), (ab_in0 38 rfl rfl), rfl, by decide, by decide⟩
theorem ml_9_214 : ab_lV RX9 214 mX9_isAhead 9 := ⟨mokX9_isAhead, (ab_in5 29 rfl rfl), (ab_in5 31 rfl rfl), (ab_in0 39 rfl rfl), rfl, by decide, by decide⟩
theorem ml_L_102 : ab_lV RL 102 mX9_strip 9 := ⟨mokX9_strip, (ab_in5 33 rfl rfl), (ab_in5 34 rfl rfl), (ab_in5 35 rfl rfl), rfl, by decide, by decide⟩
theorem ml_L_106 : ab_lV RL 106 mX9_woven 9 := ⟨mokX9_woven, (ab_in5 37 rfl rfl), (ab_in5 38 rfl rfl), (ab_in5 39 rfl rfl), rfl, by decide, by decide⟩
theorem ml_9_217 : ab_lV RX9 217 mX9_isWoven 9 := ⟨mokX9_isWoven, (ab_in5 41 rfl rfl), (ab_in5 43 rfl rfl), (ab_in0 40 rfl rfl), rfl, by decide, by decide⟩
theorem ml_L_110 : ab_lV RL 110 mX9_unweave 9 := ⟨mokX9_unweave, (ab_in5 45 rfl rfl), (ab_in5 46 rfl rfl), (ab_in5 47 rfl rfl), rfl, by decide, by decide⟩
theorem ml_L_114 : ab_lV RL 114 mX9_many 9 := ⟨mokX9_many, (ab_in5 49 rfl rfl), (ab_in5 50 rfl rfl), (ab_in5 51 rfl rfl), rfl, by decide, by decide⟩
theorem ml_9_220 : ab_lV RX9 220 mX9_manyWoven 9 := ⟨mokX9_manyWoven, (ab_in5 53 rfl rfl), (ab_in5 55 rfl rfl), (ab_in0 41 rfl rfl), rfl, by decide, by decide⟩
theorem ml_9_224 : ab_lV RX9 224 mX9_manyFaces 9 := ⟨mokX9_manyFaces, (ab_in5 57 rfl rfl), (ab_in5 59 rfl rfl), (ab_in0 42 rfl rfl), rfl, by decide, by decide⟩
theorem ml_L_118 : ab_lV RL 118 mX9_keep 9 := ⟨mokX9_keep, (ab_in5 61 rfl rfl), (ab_in5 62 rfl rfl), (ab_in5 63 rfl rfl), rfl, by decide, by decide⟩
theorem ml_L_122 : ab_lV RL 122 mX9_back 9 := ⟨mokX9_back, (ab_in5 65 rfl rfl), (ab_in5 66 rfl rfl), (ab_in5 67 rfl rfl), rfl, by decide, by decide⟩
def ab_C (own : String) (ix ci : Nat) : Prop := ∃ (C : String) (T : u_T) (N : Nat), ab_cok ci C T N ∧ Cond.classLink own ix C ∈ ab_tb
def ab_K (own : String) (ix : Nat) (z : Int) : Prop := Cond.constant own ix (Int32.ofInt z) ∈ ab_tb
theorem cl_L_7 : ab_C RL 7 8 := ⟨_, _, _, cok_8, (ab_in1 14 rfl rfl)⟩
theorem cl_8_7 : ab_C RX8 7 6 := ⟨_, _, _, cok_6, (ab_in1 22 rfl rfl)⟩
theorem cl_6_7 : ab_C RX6 7 0 := ⟨_, _, _, cok_0, (ab_in1 28 rfl rfl)⟩
theorem ab_arr_int : Cond.arrayClass .int ∈ ab_tb := (ab_in1 51 rfl rfl)
theorem cl_6_16 : ab_C RX6 16 4 := ⟨_, _, _, cok_4, (ab_in1 52 rfl rfl)⟩
theorem cl_6_23 : ab_C RX6 23 7 := ⟨_, _, _, cok_7, (ab_in1 74 rfl rfl)⟩
theorem ab_arr_boolean : Cond.arrayClass .boolean ∈ ab_tb := (ab_in1 95 rfl rfl)
theorem cl_6_30 : ab_C RX6 30 3 := ⟨_, _, _, cok_3, (ab_in1 96 rfl rfl)⟩
theorem cl_8_30 : ab_C RX8 30 2 := ⟨_, _, _, cok_2, (ab_in1 153 rfl rfl)⟩
theorem cl_8_37 : ab_C RX8 37 1 := ⟨_, _, _, cok_1, (ab_in1 193 rfl rfl)⟩
theorem cl_8_44 : ab_C RX8 44 5 := ⟨_, _, _, cok_5, (ab_in1 228 rfl rfl)⟩
theorem kl_5_9 : ab_K RX5 9 1000000 := (ab_in1 234 rfl rfl)
theorem kl_1_75 : ab_K RX1 75 390625 := (ab_in2 221 rfl rfl)
theorem kl_7_23 : ab_K RX7 23 1000000 := (ab_in3 60 rfl rfl)
theorem cl_L_10 : ab_C RL 10 9 := ⟨_, _, _, cok_9, (ab_in3 203 rfl rfl)⟩
end
section
/-! ===== the small machine: ints are numbers in range, cells have small numbers, what is a reference in a field is in the layout ===== -/
abbrev ab_V : Type := Int ⊕ Nat
abbrev ab_CD : Type := (Nat × List Nat) ⊕ (Nat × Nat)
abbrev ab_H : Type := List ab_CD × (Nat → Nat → Int)
abbrev ab_L : Type := List (Option ab_V)
def ab_u1 (f : Nat → Int) (k : Nat) (z : Int) : Nat → Int := fun j => if j = k then z else f j
def ab_up (M : Nat → Nat → Int) (a k : Nat) (z : Int) : Nat → Nat → Int := fun a' => if a' = a then ab_u1 (M a) k z else M a'
def ab_rw (M : Nat → Nat → Int) (a : Nat) (f : Nat → Int) : Nat → Nat → Int := fun a' => if a' = a then f else M a'
def ab_isR (ci k : Nat) : Bool := match ab_ty ci k with
  | .object _ => true
  | .array _ => true
  | _ => false
def ab_gt (t : FieldType) : Bool := match t with
  | .int => true
  | .boolean => true
  | .object _ => true
  | .array _ => true
  | _ => false
def ab_ok (z : Int) : Prop := -2147483648 ≤ z ∧ z < 2147483648
def ab_b (f : Int32 → Int32 → Int32) (x y : Int) : Int := (f (Int32.ofInt x) (Int32.ofInt y)).toInt
def ab_cmp (c : Jvm.ClassFile.Cond) (x y : Int) : Bool := match c with
  | .eq => decide (x = y)
  | .ne => decide (¬ x = y)
  | .lt => decide (x < y)
  | .ge => decide (y ≤ x)
  | .gt => decide (y < x)
  | .le => decide (x ≤ y)
def ab_j (pc : Nat) (off : Int) : Option Nat := if 0 ≤ (pc : Int) + off then some ((pc : Int) + off).toNat else none
def ab_i1 {α : Type} (st : List ab_V) (k : Int → List ab_V → Option α) : Option α := match st with
  | .inl x :: r => k x r
  | _ => none
def ab_i2 {α : Type} (st : List ab_V) (k : Int → Int → List ab_V → Option α) : Option α := match st with
  | .inl y :: .inl x :: r => k x y r
  | _ => none
def ab_r1 {α : Type} (st : List ab_V) (k : Nat → List ab_V → Option α) : Option α := match st with
  | .inr x :: r => k x r
  | _ => none
abbrev ab_T : Type := Nat × ab_L × List ab_V
def ab_ldi (ls : ab_L) (k : Nat) (f : Int → Option ab_T) : Option ab_T := match ls[k]? with
  | some (some (.inl z)) => f z
  | _ => none
def ab_ldr (ls : ab_L) (k : Nat) (f : Nat → Option ab_T) : Option ab_T := match ls[k]? with
  | some (some (.inr z)) => f z
  | _ => none
def ab_bin (f : Int32 → Int32 → Int32) (len pc : Nat) (ls : ab_L) (st : List ab_V) : Option ab_T := if len = 1 then ab_i2 st fun x y r => some (pc + 1, ls, .inl (ab_b f x y) :: r) else none
def ab_ps (i : Instr) (len pc : Nat) (ls : ab_L) (st : List ab_V) : Option ab_T := match i with
  | .iconst z => if len = 1 ∧ -128 ≤ z ∧ z < 128 then some (pc + 1, ls, .inl z :: st) else none
  | .bipush z => if len = 2 ∧ -128 ≤ z ∧ z < 128 then some (pc + 2, ls, .inl z :: st) else none
  | .sipush z => if len = 3 ∧ -32768 ≤ z ∧ z < 32768 then some (pc + 3, ls, .inl z :: st) else none
  | .iload_n k => if len = 1 then ab_ldi ls k.val fun z => some (pc + 1, ls, .inl z :: st) else none
  | .iload k => if len = 2 then ab_ldi ls k fun z => some (pc + 2, ls, .inl z :: st) else none
  | .aload_n k => if len = 1 then ab_ldr ls k.val fun z => some (pc + 1, ls, .inr z :: st) else none
  | .aload k => if len = 2 then ab_ldr ls k fun z => some (pc + 2, ls, .inr z :: st) else none
  | .istore_n k => if len = 1 ∧ k.val < ls.length then ab_i1 st fun z r => some (pc + 1, ls.set k.val (some (.inl z)), r) else none
  | .istore k => if len = 2 ∧ k < ls.length then ab_i1 st fun z r => some (pc + 2, ls.set k (some (.inl z)), r) else none
  | .astore_n k => if len = 1 ∧ k.val < ls.length then ab_r1 st fun z r => some (pc + 1, ls.set k.val (some (.inr z)), r) else none
  | .astore k => if len = 2 ∧ k < ls.length then ab_r1 st fun z r => some (pc + 2, ls.set k (some (.inr z)), r) else none
  | .iinc k n => if len = 3 then ab_ldi ls k fun z => some (pc + 3, ls.set k (some (.inl (ab_b (fun a b => a + b) z n))), st) else none
  | .iadd => ab_bin (fun a b => a + b) len pc ls st
  | .isub => ab_bin (fun a b => a - b) len pc ls st
  | .imul => ab_bin (fun a b => a * b) len pc ls st
  | .iand => ab_bin (fun a b => a &&& b) len pc ls st
  | .ior => ab_bin (fun a b => a ||| b) len pc ls st
  | .ixor => ab_bin (fun a b => a ^^^ b) len pc ls st
  | .ishl => ab_bin (fun a b => a <<< (b &&& 31)) len pc ls st
  | .ishr => ab_bin (fun a b => a >>> (b &&& 31)) len pc ls st
  | .idiv => if len = 1 then ab_i2 st fun x y r => if y = 0 then none else some (pc + 1, ls, .inl (ab_b (fun a b => a / b) x y) :: r) else none
  | .irem => if len = 1 then ab_i2 st fun x y r => if y = 0 then none else some (pc + 1, ls, .inl (ab_b (fun a b => a - a / b * b) x y) :: r) else none
  | .dup => if len = 1 then (match st with
    | v :: r => some (pc + 1, ls, v :: v :: r)
    | _ => none) else none
  | .dup2 => if len = 1 then (match st with
    | v :: w :: r => some (pc + 1, ls, v :: w :: v :: w :: r)
    | _ => none) else none
  | .ifCond c off => if len = 3 then ab_i1 st fun x r => (ab_j pc off).bind fun t => some (if ab_cmp c x 0 = true then t else pc + 3, ls, r) else none
  | .if_icmp c off => if len = 3 then ab_i2 st fun x y r => (ab_j pc off).bind fun t => some (if ab_cmp c x y = true then t else pc + 3, ls, r) else none
  | .goto off => if len = 3 then (ab_j pc off).map fun t => (t, ls, st) else none
  | .tableswitch d lo hi offs => ab_i1 st fun x r => if x < lo ∨ hi < x then (ab_j pc d).map fun t => (t, ls, r) else (offs[(x - lo).toNat]?).bind fun o => (ab_j pc o).map fun t => (t, ls, r)
  | _ => none
def ab_sz (c : ab_CD) : Nat := match c with
  | .inl (ci, _) => ((vwCl[ci]?).map fun q => q.2.2).getD 0
  | .inr (_, n) => n
def ab_nS (lay : List ab_CD) : Nat := (lay.map ab_sz).sum
/-- what a field instruction, an array instruction, a new cell, or a call that is taken as one step does -/
def ab_hs (M : ab_M) (i : Instr) (len : Nat) (st : List ab_V) (h : ab_H) (st' : List ab_V) (h' : ab_H) : Prop :=
  (∃ (ix ci k a : Nat) (rest : List ab_V) (refs : List Nat), i = .getfield ix ∧ len = 3 ∧ ab_F M.1.cls ix ci k ∧ st = .inr a :: rest ∧ h.1[a]? = some (.inl (ci, refs)) ∧ ab_isR ci k = false ∧ st' = .inl (h.2 a k) :: rest ∧ h' = h) ∨
  (∃ (ix ci k a : Nat) (rest : List ab_V) (refs : List Nat) (r : Nat), i = .getfield ix ∧ len = 3 ∧ ab_F M.1.cls ix ci k ∧ st = .inr a :: rest ∧ h.1[a]? = some (.inl (ci, refs)) ∧ ab_isR ci k = true ∧ refs[k]? = some (r + 1) ∧ st' = .inr (r + 1) :: rest ∧ h' = h) ∨
  (∃ (ix ci k a : Nat) (z : Int) (rest : List ab_V) (refs : List Nat), i = .putfield ix ∧ len = 3 ∧ ab_F M.1.cls ix ci k ∧ st = .inl z :: .inr a :: rest ∧ h.1[a]? = some (.inl (ci, refs)) ∧ (ab_ty ci k = .int ∨ (ab_ty ci k = .boolean ∧ (z = 0 ∨ z = 1))) ∧ ((vwCl[ci]?).map fun q => (q.2.1 k).2.2.2) = some false ∧ st' = rest ∧ h' = (h.1, ab_up h.2 a k z)) ∨
  (∃ (ix ci k a r : Nat) (rest : List ab_V) (refs : List Nat), i = .putfield ix ∧ len = 3 ∧ ab_F M.1.cls ix ci k ∧ st = .inr (r + 1) :: .inr a :: rest ∧ h.1[a]? = some (.inl (ci, refs)) ∧ ab_isR ci k = true ∧ k < refs.length ∧ ((vwCl[ci]?).map fun q => (q.2.1 k).2.2.2) = some true ∧ ((vwCl[ci]?).map fun q => q.1) = some M.1.cls ∧ M.1.name = "<init>" ∧ st' = rest ∧ h' = (h.1.set a (.inl (ci, refs.set k (r + 1))), h.2)) ∨
  (∃ (a n : Nat) (x : Int) (rest : List ab_V), ((i = .iaload ∧ h.1[a]? = some (.inr (0, n))) ∨ (i = .baload ∧ 1 ≤ a ∧ h.1[a]? = some (.inr (1, n)))) ∧ len = 1 ∧ st = .inl x :: .inr a :: rest ∧ 0 ≤ x ∧ x < n ∧ st' = .inl (h.2 a x.toNat) :: rest ∧ h' = h) ∨
  (∃ (a n : Nat) (x z : Int) (rest : List ab_V), ((i = .iastore ∧ h.1[a]? = some (.inr (0, n))) ∨ (i = .bastore ∧ h.1[a]? = some (.inr (1, n)) ∧ (z = 0 ∨ z = 1))) ∧ len = 1 ∧ st = .inl z :: .inl x :: .inr a :: rest ∧ 1 ≤ a ∧ 0 ≤ x ∧ x < n ∧ st' = rest ∧ h' = (h.1, ab_up h.2 a x.toNat z)) ∨
  (∃ (a t n : Nat) (rest : List ab_V), i = .arraylength ∧ len = 1 ∧ st = .inr a :: rest ∧ h.1[a]? = some (.inr (t, n)) ∧ (a = 0 ∨ t < 2) ∧ n < 2147483648 ∧ st' = .inl (n : Int) :: rest ∧ h' = h) ∨
  (∃ (n t : Nat) (rest : List ab_V), ((i = .newarray .int ∧ t = 0) ∨ (i = .newarray .boolean ∧ t = 1)) ∧ len = 2 ∧ st = .inl (n : Int) :: rest ∧ n ≤ 100000 ∧ (∀ j, h.2 h.1.length j = 0) ∧ st' = .inr h.1.length :: rest ∧ h' = (h.1 ++ [.inr (t, n)], h.2)) ∨
  (∃ (ix ci N : Nat), i = .new ix ∧ len = 3 ∧ ab_C M.1.cls ix ci ∧ ((vwCl[ci]?).map fun q => q.2.2) = some N ∧ (∀ k, k < N → ab_gt (ab_ty ci k) = true) ∧ (∀ j, h.2 h.1.length j = 0) ∧ st' = .inr h.1.length :: st ∧ h' = (h.1 ++ [.inl (ci, List.replicate N 0)], h.2)) ∨
  (∃ (ix : Nat) (z : Int), i = .ldc ix ∧ len = 2 ∧ ab_K M.1.cls ix z ∧ ab_ok z ∧ st' = .inl z :: st ∧ h' = h) ∨
  (∃ (ix a : Nat) (rest : List ab_V), i = .invokespecial ix ∧ len = 3 ∧ ab_lO M.1.cls ix ∧ st = .inr a :: rest ∧ rest.length ≤ 8 ∧ st' = rest ∧ h' = h) ∨
  (∃ (ix a a0 n n0 N : Nat) (rest : List ab_V), i = .invokestatic ix ∧ len = 3 ∧ ab_lC M.1.cls ix ∧ st = .inl (N : Int) :: .inl 0 :: .inr a :: .inl 0 :: .inr a0 :: rest ∧ rest.length ≤ 8 ∧ 1 ≤ a ∧ 1 ≤ a0 ∧ a ≠ a0 ∧ h.1[a]? = some (.inr (0, n)) ∧ h.1[a0]? = some (.inr (0, n0)) ∧ N ≤ n ∧ N ≤ n0 ∧ N < 100000 ∧ st' = rest ∧ h' = (h.1, ab_rw h.2 a (fun k => if k < N then h.2 a0 k else h.2 a k))) ∨
  (∃ (ix : Nat) (x y : Int) (rest : List ab_V), i = .invokestatic ix ∧ len = 3 ∧ ab_lX M.1.cls ix ∧ st = .inl y :: .inl x :: rest ∧ rest.length ≤ 8 ∧ st' = .inl (if x < y then y else x) :: rest ∧ h' = h) ∨
  (∃ (ix : Nat) (x y : Int) (rest : List ab_V), i = .invokestatic ix ∧ len = 3 ∧ ab_lY M.1.cls ix ∧ st = .inl y :: .inl x :: rest ∧ rest.length ≤ 8 ∧ st' = .inl (if y < x then y else x) :: rest ∧ h' = h)
def ab_iv (M : ab_M) (i : Instr) (len : Nat) (M' : ab_M) (as : List ab_V) (h : ab_H) : Prop :=
  (∃ (ix ci a : Nat) (as' : List ab_V) (refs : List Nat), i = .invokevirtual ix ∧ len = 3 ∧ ab_lV M.1.cls ix M' ci ∧ as = .inr a :: as' ∧ h.1[a]? = some (.inl (ci, refs))) ∨
  (∃ ix : Nat, i = .invokestatic ix ∧ len = 3 ∧ ab_lS M.1.cls ix M') ∨
  (∃ ix : Nat, i = .invokestatic ix ∧ len = 3 ∧ ab_lN M.1.cls ix M') ∨
  (∃ (ix a : Nat) (as' : List ab_V), i = .invokespecial ix ∧ len = 3 ∧ ab_lI M.1.cls ix M' ∧ as = .inr a :: as')
abbrev ab_cal : Type := ab_M → List ab_V → ab_H → Option ab_V → ab_H → Prop
def ab_run (cal : ab_cal) (M : ab_M) : Nat → Nat → ab_L → List ab_V → ab_H → Option ab_V → ab_H → Prop
  | 0, _, _, _, _, _, _ => False
  | n + 1, pc, ls, st, h, r, h' => ∃ (i : Instr) (len : Nat), decode M.2.1 pc = .ok (i, len) ∧
    ((∃ (pc1 : Nat) (ls1 : ab_L) (st1 : List ab_V), ab_ps i len pc ls st = some (pc1, ls1, st1) ∧ ab_run cal M n pc1 ls1 st1 h r h') ∨
     (∃ (st1 : List ab_V) (h1 : ab_H), ab_hs M i len st h st1 h1 ∧ ab_run cal M n (pc + len) ls st1 h1 r h') ∨
     (∃ (M' : ab_M) (as rest : List ab_V) (r1 : Option ab_V) (h1 : ab_H), ab_iv M i len M' as h ∧ st = as.reverse ++ rest ∧ as.length = M'.2.2.2.2 ∧ rest.length ≤ 8 ∧ cal M' as h r1 h1 ∧ ab_run cal M n (pc + 3) ls (r1.toList ++ rest) h1 r h') ∨
     (i = .ireturn ∧ len = 1 ∧ (∃ z : Int, st = [.inl z] ∧ r = some (.inl z) ∧ (M.2.2.2.1 = some .int ∨ (M.2.2.2.1 = some .boolean ∧ (z = 0 ∨ z = 1)))) ∧ h' = h) ∨
     (i = .return_ ∧ len = 1 ∧ M.2.2.2.1 = none ∧ st = [] ∧ r = none ∧ h' = h))
def ab_ent (M : ab_M) (as : List ab_V) : ab_L := as.map some ++ List.replicate (M.2.2.1 - as.length) none
def ab_call : Nat → ab_cal
  | 0, _, _, _, _, _ => False
  | d + 1, M, as, h, r, h' => as.length ≤ M.2.2.1 ∧ ∃ n, ab_run (ab_call d) M n 0 (ab_ent M as) [] h r h'
theorem ab_run_mono {c1 c2 : ab_cal} (hc : ∀ M as h r h', c1 M as h r h' → c2 M as h r h') {M : ab_M} : ∀ {n pc : Nat} {ls : ab_L} {st : List ab_V} {h : ab_H} {r : Option ab_V} {h' : ab_H}, ab_run c1 M n pc ls st h r h' → ab_run c2 M n pc ls st h r h' := by
  intro n
  induction n with
  | zero => intro _ _ _ _ _ _ h; exact h
  | succ n ih =>
    intro pc ls st h r h' hr
    obtain ⟨i, len, hd, hr⟩ := hr
    refine ⟨i, len, hd, ?_⟩
    rcases hr with ⟨p1, l1, s1, q, hr⟩ | ⟨s1, h1, q, hr⟩ | ⟨M', as, rest, r1, h1, q1, q2, q3, q4, q5, hr⟩ | hr | hr
    · exact Or.inl ⟨p1, l1, s1, q, ih hr⟩
    · exact Or.inr (Or.inl ⟨s1, h1, q, ih hr⟩)
    · exact Or.inr (Or.inr (Or.inl ⟨M', as, rest, r1, h1, q1, q2, q3, q4, hc _ _ _ _ _ q5, ih hr⟩))
    · exact Or.inr (Or.inr (Or.inr (Or.inl hr)))
    · exact Or.inr (Or.inr (Or.inr (Or.inr hr)))
theorem ab_call_succ : ∀ (d : Nat) (M : ab_M) (as : List ab_V) (h : ab_H) (r : Option ab_V) (h' : ab_H), ab_call d M as h r h' → ab_call (d + 1) M as h r h' := by
  intro d
  induction d with
  | zero => intro _ _ _ _ _ h; exact h.elim
  | succ d ih =>
    intro M as h r h' q
    obtain ⟨q1, n, q2⟩ := q
    exact ⟨q1, n, ab_run_mono ih q2⟩
theorem ab_call_mono {d e : Nat} (hde : d ≤ e) {M : ab_M} {as : List ab_V} {h : ab_H} {r : Option ab_V} {h' : ab_H} (q : ab_call d M as h r h') : ab_call e M as h r h' := by
  induction hde with
  | refl => exact q
  | step _ ih => exact ab_call_succ _ _ _ _ _ _ ih
end
section
/-! ===== how the small machine's heap lies in the machine's ===== -/
def ab_rv (base b : Nat) : ab_V → Value
  | .inl z => .int (Int32.ofInt z)
  | .inr 0 => .ref b
  | .inr (k + 1) => .ref (base + k)
def ab_okv : ab_V → Prop
  | .inl z => ab_ok z
  | .inr _ => True
theorem ab_rv_cat (base b : Nat) (v : ab_V) : (ab_rv base b v).category = 1 := by
  match v with
  | .inl z => rfl
  | .inr 0 => rfl
  | .inr (k + 1) => rfl
theorem ab_toInt {z : Int} (h : ab_ok z) : (Int32.ofInt z).toInt = z := Int32.toInt_ofInt_of_le (by have := h.1; omega) (by have := h.2; omega)
theorem ab_ok_toInt (x : Int32) : ab_ok x.toInt := ⟨by have := Int32.le_toInt x; omega, by have := Int32.toInt_lt x; omega⟩
theorem ab_eq_iff {x y : Int} (hx : ab_ok x) (hy : ab_ok y) : Int32.ofInt x = Int32.ofInt y ↔ x = y := by
  rw [← Int32.toInt_inj, ab_toInt hx, ab_toInt hy]
theorem ab_lt_iff {x y : Int} (hx : ab_ok x) (hy : ab_ok y) : Int32.ofInt x < Int32.ofInt y ↔ x < y := by
  rw [Int32.lt_iff_toInt_lt, ab_toInt hx, ab_toInt hy]
theorem ab_le_iff {x y : Int} (hx : ab_ok x) (hy : ab_ok y) : Int32.ofInt x ≤ Int32.ofInt y ↔ x ≤ y := by
  rw [Int32.le_iff_toInt_le, ab_toInt hx, ab_toInt hy]
theorem ab_ok0 : ab_ok 0 := ⟨by decide, by decide⟩
theorem ab_zero : Int32.ofInt 0 = 0 := rfl
theorem ab_clamp {x : Int} (h : ab_ok x) : (Int32.ofInt x).toNatClampNeg = x.toNat := by
  show (Int32.ofInt x).toInt.toNat = _
  rw [ab_toInt h]
theorem ab_vin {x : Int} {n : Nat} (h : ab_ok x) (h0 : 0 ≤ x) (hn : x < n) : vp_in (Int32.ofInt x) n := by
  intro q
  rcases q with q | q
  · have := (ab_lt_iff h ab_ok0).mp q
    omega
  · rw [ab_clamp h] at q
    omega
def ab_rf (base r : Nat) : Value := match r with
  | 0 => .null
  | r + 1 => .ref (base + r)
def ab_fv (base : Nat) (refs : List Nat) (f : Nat → Int) (ci k : Nat) : Value := if ab_isR ci k = true then ab_rf base (refs.getD k 0) else .int (Int32.ofInt (f k))
def ab_ce (cI cZ base : Nat) (c : ab_CD) (f : Nat → Int) : va_E := match c with
  | .inl (ci, refs) => .inr (ci, (List.range (ab_sz (.inl (ci, refs)))).map (ab_fv base refs f ci))
  | .inr (t, n) => .inl (if t = 0 then cI else cZ, n, .inl fun j => Int32.ofInt (f j))
def ab_NW (U : State) : Prop := ∀ w ∈ ab_nl, va_Nw w U
theorem ab_NW.warm {s U : State} (hW : s.WarmedH U.vm) (h : ab_NW s) : ab_NW U := by
  intro w hw
  have h1 := h w hw
  simp only [ab_nl, List.mem_cons, List.not_mem_nil, or_false] at hw
  rcases hw with rfl | rfl | rfl | rfl <;> exact va_Nw.warmM hW h1
theorem ab_NW.same {u U : State} (h : u.vm = U.vm) (hn : ab_NW u) : ab_NW U := by
  intro w hw
  have h1 := hn w hw
  simp only [ab_nl, List.mem_cons, List.not_mem_nil, or_false] at hw
  rcases hw with rfl | rfl | rfl | rfl <;> exact va_Nw.same rfl h h1
def ab_R (dC : Nat → ClassId) (dI : Nat → Nat → Nat) (cI cZ base b : Nat) (h : ab_H) (U : State) (H : Heap) : Prop :=
  va_K (dC, dI) vwCl [(cI, .int), (cZ, .boolean)] U ∧
  (∀ (k : Nat) (cd : ab_CD), h.1[k + 1]? = some cd → va_at (dC, dI) vwCl (base + k, ab_ce cI cZ base cd (h.2 (k + 1))) H) ∧
  H.size + 1 = base + h.1.length ∧
  (∃ L : Nat, h.1[0]? = some (.inr (0, L)) ∧ va_X b L (fun j => Int32.ofInt (h.2 0 j)) U H) ∧
  b < base ∧ (∀ a k, ab_ok (h.2 a k)) ∧ ab_NW U
section AbRel
variable {dC : Nat → ClassId} {dI : Nat → Nat → Nat} {cI cZ base b : Nat} {h : ab_H} {s U : State} {H H' : Heap}
theorem ab_R.to (hR : ab_R dC dI cI cZ base b h s H) (hvm : s.vm.Alike U.vm) (hn : ab_NW U) : ab_R dC dI cI cZ base b h U H := by
  obtain ⟨h1, h2, h3, ⟨L, h4, h5⟩, h6, h7, h8⟩ := hR
  exact ⟨va_K.moved hvm h1, h2, h3, ⟨L, h4, h5.moved hvm⟩, h6, h7, hn⟩
theorem ab_R.warm (hR : ab_R dC dI cI cZ base b h s H) (hW : s.WarmedH U.vm) : ab_R dC dI cI cZ base b h U H := hR.to hW.alike (ab_NW.warm hW hR.2.2.2.2.2.2)
theorem ab_R.pos (hR : ab_R dC dI cI cZ base b h s H) {a : Nat} {q : Nat × List Nat} (ha : h.1[a]? = some (.inl q)) : ∃ k, a = k + 1 := by
  obtain ⟨-, -, -, ⟨L, h4, -⟩, -⟩ := hR
  cases a with
  | zero => rw [h4] at ha; cases ha
  | succ k => exact ⟨k, rfl⟩
theorem ab_R.set (hR : ab_R dC dI cI cZ base b h s H) {lay' : List ab_CD} {M' : Nat → Nat → Int} (k : Nat) {cd' : ab_CD} (h0 : lay'.length = h.1.length) (h1 : lay'[k + 1]? = some cd') (h2 : ∀ j, j ≠ k + 1 → lay'[j]? = h.1[j]?) (h3 : ∀ a, a ≠ k + 1 → M' a = h.2 a) (hok : ∀ j, ab_ok (M' (k + 1) j))
    (hz : H'.size = H.size) (ho : ∀ q, q ≠ base + k → H'[q]? = H[q]?) (hat : va_at (dC, dI) vwCl (base + k, ab_ce cI cZ base cd' (M' (k + 1))) H') : ab_R dC dI cI cZ base b (lay', M') s H' := by
  obtain ⟨r1, r2, r3, ⟨L, r4, r5⟩, r6, r7, r8⟩ := hR
  refine ⟨r1, fun j cd hj => ?_, by rw [hz, r3, h0], ⟨L, by rw [h2 0 (by omega)]; exact r4, ?_⟩, r6, fun a j => ?_, r8⟩
  · by_cases hjk : j = k
    · subst hjk
      rw [h1] at hj
      cases hj
      exact hat
    · have hj' : h.1[j + 1]? = some cd := by rw [← h2 (j + 1) (by omega)]; exact hj
      have := r2 j cd hj'
      show va_at _ _ (base + j, ab_ce cI cZ base cd (M' (j + 1))) H'
      rw [h3 (j + 1) (by omega)]
      exact this.kept (ho (base + j) (by omega))
  · show va_X b L (fun j => Int32.ofInt (M' 0 j)) s H'
    rw [h3 0 (by omega)]
    exact r5.kept (ho b (by omega))
  · by_cases ha : a = k + 1
    · subst ha; exact hok j
    · show ab_ok (M' a j)
      rw [h3 a ha]
      exact r7 a j
theorem ab_R.push (hR : ab_R dC dI cI cZ base b h s H) {cd : ab_CD} (hz : H'.size = H.size + 1) (ho : ∀ q, q < H.size → H'[q]? = H[q]?) (hat : va_at (dC, dI) vwCl (H.size, ab_ce cI cZ base cd (h.2 h.1.length)) H') : ab_R dC dI cI cZ base b (h.1 ++ [cd], h.2) s H' ∧ H.size = base + (h.1.length - 1) ∧ 1 ≤ h.1.length := by
  obtain ⟨r1, r2, r3, ⟨L, r4, r5⟩, r6, r7, r8⟩ := hR
  have hl : 0 < h.1.length := (List.getElem?_eq_some_iff.mp r4).1
  have hs : H.size = base + (h.1.length - 1) := by omega
  refine ⟨⟨r1, fun j c hj => ?_, by simp; omega, ⟨L, by rw [List.getElem?_append_left hl]; exact r4, r5.kept (ho b (by omega))⟩, r6, r7, r8⟩, hs, hl⟩
  by_cases hjl : j + 1 < h.1.length
  · have hj' : h.1[j + 1]? = some c := by rw [← List.getElem?_append_left (l₂ := [cd]) hjl]; exact hj
    exact (r2 j c hj').kept (ho (base + j) (by omega))
  · have hlen : j + 1 < h.1.length + 1 := by
      have := (List.getElem?_eq_some_iff.mp hj).1
      simpa using this
    have hj2 : j + 1 = h.1.length := by omega
    have hj' : (h.1 ++ [cd])[j + 1]? = some cd := by rw [hj2]; simp
    have hc : some c = some cd := hj.symm.trans hj'
    cases hc
    have : base + j = H.size := by omega
    rw [this]
    show va_at _ _ (H.size, ab_ce cI cZ base cd (h.2 (j + 1))) H'
    rw [hj2]
    exact hat
end AbRel
/-! ===== the locals ===== -/
def ab_lvs (base b : Nat) (ls : ab_L) : List (Nat × Value) := (List.range ls.length).filterMap fun i => match ls[i]? with
  | some (some v) => some (i, ab_rv base b v)
  | _ => none
theorem ab_lvs_mem {base b : Nat} {ls : ab_L} {q : Nat × Value} : q ∈ ab_lvs base b ls ↔ ∃ (v : ab_V), ls[q.1]? = some (some v) ∧ q.2 = ab_rv base b v := by
  unfold ab_lvs
  rw [List.mem_filterMap]
  constructor
  · rintro ⟨i, hi, h⟩
    split at h
    · rename_i v hv
      cases h
      exact ⟨v, hv, rfl⟩
    · cases h
  · rintro ⟨v, h1, h2⟩
    refine ⟨q.1, List.mem_range.mpr (List.getElem?_eq_some_iff.mp h1).1, ?_⟩
    rw [h1]
    show some (q.1, ab_rv base b v) = some q
    rw [← h2]
theorem ab_lv_at {base b nL : Nat} {lsC : Array Slot} {ls : ab_L} (hl : lv_has lsC nL (ab_lvs base b ls)) {k : Nat} {v : ab_V} (hk : ls[k]? = some (some v)) : lsC[k]? = some (.val (ab_rv base b v)) :=
  hl.2.2 (k, ab_rv base b v) (ab_lvs_mem.mpr ⟨v, hk, rfl⟩)
theorem ab_lv_set {base b nL : Nat} {lsC : Array Slot} {ls : ab_L} {i : Nat} {v : ab_V} (hi : i < ls.length) (hl : lv_has lsC nL ((i, ab_rv base b v) :: (ab_lvs base b ls).filter (fun q => !(q.1 == i) && !(q.1 + 1 == i && q.2.category == 2)))) : lv_has lsC nL (ab_lvs base b (ls.set i (some v))) := by
  refine ⟨hl.1, hl.2.1, fun q hq => hl.2.2 q ?_⟩
  obtain ⟨w, h1, h2⟩ := ab_lvs_mem.mp hq
  by_cases hqi : q.1 = i
  · rw [hqi, List.getElem?_set_self hi] at h1
    cases h1
    rw [List.mem_cons]
    left
    obtain ⟨a, c⟩ := q
    cases hqi
    cases h2
    rfl
  · rw [List.getElem?_set_ne (Ne.symm hqi)] at h1
    rw [List.mem_cons]
    right
    refine List.mem_filter.mpr ⟨ab_lvs_mem.mpr ⟨w, h1, h2⟩, ?_⟩
    rw [h2, ab_rv_cat]
    simp [hqi]
/-- a frame of the small machine: its locals, and what is known of its numbers -/
def ab_fr (base b nL : Nat) (lsC : Array Slot) (ls : ab_L) (st : List ab_V) : Prop :=
  lv_has lsC nL (ab_lvs base b ls) ∧ ls.length = nL ∧ (∀ v, some v ∈ ls → ab_okv v) ∧ ∀ v ∈ st, ab_okv v
theorem ab_cats (base b : Nat) (st : List ab_V) : ((st.map (ab_rv base b)).map fun v => v.category).sum = st.length := by
  induction st with
  | nil => rfl
  | cons v r ih => simp only [List.map_cons, List.sum_cons, ih, ab_rv_cat, List.length_cons]; omega
theorem ab_okset {ls : ab_L} {i : Nat} {v : ab_V} (h : ∀ v, some v ∈ ls → ab_okv v) (hv : ab_okv v) : ∀ w, some w ∈ ls.set i (some v) → ab_okv w := by
  intro w hw
  rcases List.mem_or_eq_of_mem_set hw with q | q
  · exact h w q
  · cases q; exact hv
theorem ab_args {base b : Nat} : ∀ (as : List ab_V) (i : Nat), lv_args i (as.map (ab_rv base b)) = (as.map (ab_rv base b)).mapIdx fun k v => (i + k, v) := by
  intro as
  induction as with
  | nil => intro i; rfl
  | cons v r ih =>
    intro i
    simp only [List.map_cons, lv_args, List.mapIdx_cons]
    rw [if_neg (by rw [ab_rv_cat]; decide), ih (i + 1)]
    congr 1
    apply List.ext_getElem?
    intro j
    simp only [List.getElem?_mapIdx]
    cases (List.map (ab_rv base b) r)[j]? with
    | none => rfl
    | some x => simp; omega
theorem ab_entry {base b : Nat} (m : MethodId) (M : ab_M) (as : List ab_V) (hlen : as.length ≤ M.2.2.1) (hok : ∀ v ∈ as, ab_okv v) :
    ∃ lsC : Array Slot, entryFrame m (as.map (ab_rv base b)).toArray M.2.2.1 = F0 m 0 lsC [] ∧ ab_fr base b M.2.2.1 lsC (ab_ent M as) [] := by
  have hsl : (lg_sl (as.map (ab_rv base b))) = (as.map (ab_rv base b)).map Slot.val := by
    clear hlen hok
    induction as with
    | nil => rfl
    | cons v r ih =>
      simp only [lg_sl, List.map_cons, List.flatMap_cons] at ih ⊢
      rw [if_neg (by rw [ab_rv_cat]; decide), ih]
      rfl
  have hle : (lg_sl (as.map (ab_rv base b))).length ≤ M.2.2.1 := by rw [hsl]; simpa using hlen
  have hl := lv_entry (as.map (ab_rv base b)) (n := M.2.2.1) hle
  refine ⟨_, lg_entry_eq m _ _, ⟨hl.1, hl.2.1, fun q hq => hl.2.2 q ?_⟩, ?_, ?_, fun v hv => by cases hv⟩
  · obtain ⟨v, h1, h2⟩ := ab_lvs_mem.mp hq
    rw [ab_args]
    have hlt : q.1 < as.length := by
      rcases Nat.lt_or_ge q.1 as.length with g | g
      · exact g
      · unfold ab_ent at h1
        rw [List.getElem?_append_right (by simpa using g)] at h1
        have := List.mem_of_getElem? h1
        rw [List.mem_replicate] at this
        cases this.2
    unfold ab_ent at h1
    rw [List.getElem?_append_left (by simpa using hlt), List.getElem?_map] at h1
    rw [List.mem_iff_getElem?]
    refine ⟨q.1, ?_⟩
    rw [List.getElem?_mapIdx, List.getElem?_map]
    cases hz : as[q.1]? with
    | none => rw [hz] at h1; cases h1
    | some w =>
      rw [hz] at h1
      simp only [Option.map_some, Option.some.injEq] at h1
      subst h1
      obtain ⟨a, c⟩ := q
      simp only at h2
      subst h2
      simp
  · simp [ab_ent]; omega
  · intro v hv
    unfold ab_ent at hv
    rcases List.mem_append.mp hv with g | g
    · obtain ⟨w, hw, e⟩ := List.mem_map.mp g
      cases e
      exact hok v hw
    · rw [List.mem_replicate] at g
      cases g.2
end
section
/-! ===== the small machine's plain steps are the machine's ===== -/
section AbPs
variable {p : Program} {l : Launch} {e : Env} {R : Room} {s : State} {m : MethodId} {args : Array Value} {below : List Frame} {meth : Method} {c : Code} {H : Heap} {locs : List Loc} {cells slots : Nat} {Q : State → Prop}
variable {cc : ByteArray} {pc : Nat} {lsC : Array Slot} {base b nL : Nat}
theorem ab_jv {pc t : Nat} {off : Int} (h : ab_j pc off = some t) : (pc : Int) + off = (t : Int) := by
  unfold ab_j at h
  split at h
  · cases h; omega
  · cases h
theorem ab_i1_some {α : Type} {st : List ab_V} {k : Int → List ab_V → Option α} {v : α} (h : ab_i1 st k = some v) : ∃ x r, st = .inl x :: r ∧ k x r = some v := by
  unfold ab_i1 at h
  split at h
  · exact ⟨_, _, rfl, h⟩
  · cases h
theorem ab_i2_some {α : Type} {st : List ab_V} {k : Int → Int → List ab_V → Option α} {v : α} (h : ab_i2 st k = some v) : ∃ x y r, st = .inl y :: .inl x :: r ∧ k x y r = some v := by
  unfold ab_i2 at h
  split at h
  · exact ⟨_, _, _, rfl, h⟩
  · cases h
theorem ab_r1_some {α : Type} {st : List ab_V} {k : Nat → List ab_V → Option α} {v : α} (h : ab_r1 st k = some v) : ∃ x r, st = .inr x :: r ∧ k x r = some v := by
  unfold ab_r1 at h
  split at h
  · exact ⟨_, _, rfl, h⟩
  · cases h
theorem ab_ldi_some {ls : ab_L} {k : Nat} {f : Int → Option ab_T} {v : ab_T} (h : ab_ldi ls k f = some v) : ∃ z, ls[k]? = some (some (.inl z)) ∧ f z = some v := by
  unfold ab_ldi at h
  split at h
  · exact ⟨_, by assumption, h⟩
  · cases h
theorem ab_ldr_some {ls : ab_L} {k : Nat} {f : Nat → Option ab_T} {v : ab_T} (h : ab_ldr ls k f = some v) : ∃ z, ls[k]? = some (some (.inr z)) ∧ f z = some v := by
  unfold ab_ldr at h
  split at h
  · exact ⟨_, by assumption, h⟩
  · cases h
theorem ab_bin_some {f : Int32 → Int32 → Int32} {len pc : Nat} {ls : ab_L} {st : List ab_V} {v : ab_T} (h : ab_bin f len pc ls st = some v) : ∃ x y r, len = 1 ∧ st = .inl y :: .inl x :: r ∧ v = (pc + 1, ls, .inl (ab_b f x y) :: r) := by
  unfold ab_bin at h
  split at h
  · obtain ⟨x, y, r, h1, h2⟩ := ab_i2_some h
    cases h2
    exact ⟨x, y, r, by assumption, h1, rfl⟩
  · cases h
theorem ab_bv {f : Int32 → Int32 → Int32} (x y : Int) : Int32.ofInt (ab_b f x y) = f (Int32.ofInt x) (Int32.ofInt y) := by
  unfold ab_b
  exact Int32.ofInt_toInt _
theorem ab_bok {f : Int32 → Int32 → Int32} (x y : Int) : ab_ok (ab_b f x y) := ab_ok_toInt _
theorem ab_rvr (k : Nat) : ∃ a : Nat, ab_rv base b (.inr k) = .ref a := by
  cases k with
  | zero => exact ⟨_, rfl⟩
  | succ k => exact ⟨_, rfl⟩
theorem ab_okc {v : ab_V} {st : List ab_V} (hv : ab_okv v) (h : ∀ v ∈ st, ab_okv v) : ∀ w ∈ v :: st, ab_okv w := fun w hw => (List.mem_cons.mp hw).elim (fun q => by rw [q]; exact hv) (h w)
theorem ab_cmp_sound {cnd : Jvm.ClassFile.Cond} {x y : Int} {off : Int} {tgt : Nat} {rest : List Value} (hexec : p.tables.exec = Jvm.exec) (hb : c.code = cc) (hx : ab_ok x) (hy : ab_ok y) (hdg : decode cc pc = .ok (.if_icmp cnd off, 3)) (hz : (pc : Int) + off = (tgt : Int))
    (kk : W p l e R s m args below meth c H locs cells slots Q (F0 m (if ab_cmp cnd x y = true then tgt else pc + 3) lsC rest)) : W p l e R s m args below meth c H locs cells slots Q (F0 m pc lsC (.int (Int32.ofInt y) :: .int (Int32.ofInt x) :: rest)) := by
  have kt : ab_cmp cnd x y = true → W p l e R s m args below meth c H locs cells slots Q (F0 m tgt lsC rest) := fun q => by rw [if_pos q] at kk; exact kk
  have kf : ¬ ab_cmp cnd x y = true → W p l e R s m args below meth c H locs cells slots Q (F0 m (pc + 3) lsC rest) := fun q => by rw [if_neg q] at kk; exact kk
  cases cnd with
  | eq => exact lv_icmp_eq hexec hb hdg hz (fun q => kt (decide_eq_true ((ab_eq_iff hx hy).mp q))) (fun q => kf (fun z => q ((ab_eq_iff hx hy).mpr (of_decide_eq_true z))))
  | ne => exact lv_icmp_ne hexec hb hdg hz (fun q => kt (decide_eq_true (fun z => q ((ab_eq_iff hx hy).mpr z)))) (fun q => kf (fun z => (of_decide_eq_true z) ((ab_eq_iff hx hy).mp q)))
  | lt => exact lv_icmp_lt hexec hb hdg hz (fun q => kt (decide_eq_true ((ab_lt_iff hx hy).mp q))) (fun q => kf (fun z => q ((ab_lt_iff hx hy).mpr (of_decide_eq_true z))))
  | ge => exact lv_icmp_ge hexec hb hdg hz (fun q => kt (decide_eq_true ((ab_le_iff hy hx).mp q))) (fun q => kf (fun z => q ((ab_le_iff hy hx).mpr (of_decide_eq_true z))))
  | gt => exact lv_icmp_gt hexec hb hdg hz (fun q => kt (decide_eq_true ((ab_lt_iff hy hx).mp q))) (fun q => kf (fun z => q ((ab_lt_iff hy hx).mpr (of_decide_eq_true z))))
  | le => exact lv_icmp_le hexec hb hdg hz (fun q => kt (decide_eq_true ((ab_le_iff hx hy).mp q))) (fun q => kf (fun z => q ((ab_le_iff hx hy).mpr (of_decide_eq_true z))))
theorem ab_if_sound {cnd : Jvm.ClassFile.Cond} {x : Int} {off : Int} {tgt : Nat} {rest : List Value} (hexec : p.tables.exec = Jvm.exec) (hb : c.code = cc) (hx : ab_ok x) (hdg : decode cc pc = .ok (.ifCond cnd off, 3)) (hz : (pc : Int) + off = (tgt : Int))
    (kk : W p l e R s m args below meth c H locs cells slots Q (F0 m (if ab_cmp cnd x 0 = true then tgt else pc + 3) lsC rest)) : W p l e R s m args below meth c H locs cells slots Q (F0 m pc lsC (.int (Int32.ofInt x) :: rest)) := by
  have kt : ab_cmp cnd x 0 = true → W p l e R s m args below meth c H locs cells slots Q (F0 m tgt lsC rest) := fun q => by rw [if_pos q] at kk; exact kk
  have kf : ¬ ab_cmp cnd x 0 = true → W p l e R s m args below meth c H locs cells slots Q (F0 m (pc + 3) lsC rest) := fun q => by rw [if_neg q] at kk; exact kk
  have hy := ab_ok0
  cases cnd with
  | eq => exact lv_if_eq hexec hb hdg hz (fun q => kt (decide_eq_true ((ab_eq_iff hx hy).mp q))) (fun q => kf (fun z => q ((ab_eq_iff hx hy).mpr (of_decide_eq_true z))))
  | ne => exact lv_if_ne hexec hb hdg hz (fun q => kt (decide_eq_true (fun z => q ((ab_eq_iff hx hy).mpr z)))) (fun q => kf (fun z => (of_decide_eq_true z) ((ab_eq_iff hx hy).mp q)))
  | lt => exact lv_if_lt hexec hb hdg hz (fun q => kt (decide_eq_true ((ab_lt_iff hx hy).mp q))) (fun q => kf (fun z => q ((ab_lt_iff hx hy).mpr (of_decide_eq_true z))))
  | ge => exact lv_if_ge hexec hb hdg hz (fun q => kt (decide_eq_true ((ab_le_iff hy hx).mp q))) (fun q => kf (fun z => q ((ab_le_iff hy hx).mpr (of_decide_eq_true z))))
  | gt => exact lv_if_gt hexec hb hdg hz (fun q => kt (decide_eq_true ((ab_lt_iff hy hx).mp q))) (fun q => kf (fun z => q ((ab_lt_iff hy hx).mpr (of_decide_eq_true z))))
  | le => exact lv_if_le hexec hb hdg hz (fun q => kt (decide_eq_true ((ab_le_iff hx hy).mp q))) (fun q => kf (fun z => q ((ab_le_iff hx hy).mpr (of_decide_eq_true z))))
set_option maxHeartbeats 4000000 in
theorem ab_ps_sound {i : Instr} {len pc1 : Nat} {ls ls1 : ab_L} {st st1 : List ab_V} (hps : ab_ps i len pc ls st = some (pc1, ls1, st1)) (hexec : p.tables.exec = Jvm.exec) (hb : c.code = cc) (hdg : decode cc pc = .ok (i, len)) (hF : ab_fr base b nL lsC ls st)
    (kk : ∀ lsC1 : Array Slot, ab_fr base b nL lsC1 ls1 st1 → W p l e R s m args below meth c H locs cells slots Q (F0 m pc1 lsC1 (st1.map (ab_rv base b)))) : W p l e R s m args below meth c H locs cells slots Q (F0 m pc lsC (st.map (ab_rv base b))) := by
  obtain ⟨hl, hlen, hokl, hoks⟩ := hF
  unfold ab_ps at hps
  split at hps
  · -- iconst
    split at hps
    · rename_i z hc
      cases hps
      obtain ⟨rfl, h1, h2⟩ := hc
      exact lv_iconst hexec hb hdg rfl (kk _ ⟨hl, hlen, hokl, ab_okc (v := .inl z) ⟨by omega, by omega⟩ hoks⟩)
    · cases hps
  · -- bipush
    split at hps
    · rename_i z hc
      cases hps
      obtain ⟨rfl, h1, h2⟩ := hc
      refine lv_bipush hexec hb hdg ?_ (kk _ ⟨hl, hlen, hokl, ab_okc (v := .inl z) ⟨by omega, by omega⟩ hoks⟩)
      rw [← Int32.toInt_inj, Int8.toInt_toInt32, Int8.toInt_ofInt_of_le (by omega) (by omega), ab_toInt ⟨by omega, by omega⟩]
    · cases hps
  · -- sipush
    split at hps
    · rename_i z hc
      cases hps
      obtain ⟨rfl, h1, h2⟩ := hc
      refine lv_sipush hexec hb hdg ?_ (kk _ ⟨hl, hlen, hokl, ab_okc (v := .inl z) ⟨by omega, by omega⟩ hoks⟩)
      rw [← Int32.toInt_inj, Int16.toInt_toInt32, Int16.toInt_ofInt_of_le (by omega) (by omega), ab_toInt ⟨by omega, by omega⟩]
    · cases hps
  · -- iload_n
    split at hps
    · rename_i hc
      subst hc
      obtain ⟨z, h1, h2⟩ := ab_ldi_some hps
      cases h2
      exact lv_iload_n hexec hb hdg rfl (ab_lv_at hl h1) (kk _ ⟨hl, hlen, hokl, ab_okc (hokl _ (List.mem_of_getElem? h1)) hoks⟩)
    · cases hps
  · -- iload
    split at hps
    · rename_i hc
      subst hc
      obtain ⟨z, h1, h2⟩ := ab_ldi_some hps
      cases h2
      exact lv_iload hexec hb hdg (ab_lv_at hl h1) (kk _ ⟨hl, hlen, hokl, ab_okc (hokl _ (List.mem_of_getElem? h1)) hoks⟩)
    · cases hps
  · -- aload_n
    split at hps
    · rename_i hc
      subst hc
      obtain ⟨z, h1, h2⟩ := ab_ldr_some hps
      cases h2
      have kk := kk _ ⟨hl, hlen, hokl, ab_okc (hokl _ (List.mem_of_getElem? h1)) hoks⟩
      have hv := ab_lv_at hl h1
      obtain ⟨a, ha⟩ := ab_rvr (base := base) (b := b) z
      rw [List.map_cons, ha] at kk
      rw [ha] at hv
      exact lv_aload_n hexec hb hdg rfl hv kk
    · cases hps
  · -- aload
    split at hps
    · rename_i hc
      subst hc
      obtain ⟨z, h1, h2⟩ := ab_ldr_some hps
      cases h2
      have kk := kk _ ⟨hl, hlen, hokl, ab_okc (hokl _ (List.mem_of_getElem? h1)) hoks⟩
      have hv := ab_lv_at hl h1
      obtain ⟨a, ha⟩ := ab_rvr (base := base) (b := b) z
      rw [List.map_cons, ha] at kk
      rw [ha] at hv
      exact lv_aload hexec hb hdg hv kk
    · cases hps
  · -- istore_n
    split at hps
    · rename_i hc
      obtain ⟨rfl, hk⟩ := hc
      obtain ⟨z, r, rfl, h2⟩ := ab_i1_some hps
      cases h2
      refine lv_istore_n hexec hb hdg rfl hl (by rw [← hlen]; exact hk) rfl (fun ls' hl' => kk ls' ⟨ab_lv_set (v := .inl z) hk hl', by rw [List.length_set]; exact hlen, ab_okset hokl (hoks _ List.mem_cons_self), fun v hv => hoks v (List.mem_cons_of_mem _ hv)⟩)
    · cases hps
  · -- istore
    split at hps
    · rename_i hc
      obtain ⟨rfl, hk⟩ := hc
      obtain ⟨z, r, rfl, h2⟩ := ab_i1_some hps
      cases h2
      refine lv_istore hexec hb hdg hl (by rw [← hlen]; exact hk) rfl (fun ls' hl' => kk ls' ⟨ab_lv_set (v := .inl z) hk hl', by rw [List.length_set]; exact hlen, ab_okset hokl (hoks _ List.mem_cons_self), fun v hv => hoks v (List.mem_cons_of_mem _ hv)⟩)
    · cases hps
  · -- astore_n
    split at hps
    · rename_i hc
      obtain ⟨rfl, hk⟩ := hc
      obtain ⟨z, r, rfl, h2⟩ := ab_r1_some hps
      cases h2
      obtain ⟨a, ha⟩ := ab_rvr (base := base) (b := b) z
      rw [List.map_cons, ha]
      refine lv_astore_n hexec hb hdg rfl hl (by rw [← hlen]; exact hk) rfl (fun ls' hl' => kk ls' ⟨ab_lv_set (v := .inr z) hk (by rw [ha]; exact hl'), by rw [List.length_set]; exact hlen, ab_okset hokl (hoks _ List.mem_cons_self), fun v hv => hoks v (List.mem_cons_of_mem _ hv)⟩)
    · cases hps
  · -- astore
    split at hps
    · rename_i hc
      obtain ⟨rfl, hk⟩ := hc
      obtain ⟨z, r, rfl, h2⟩ := ab_r1_some hps
      cases h2
      obtain ⟨a, ha⟩ := ab_rvr (base := base) (b := b) z
      rw [List.map_cons, ha]
      refine lv_astore hexec hb hdg hl (by rw [← hlen]; exact hk) rfl (fun ls' hl' => kk ls' ⟨ab_lv_set (v := .inr z) hk (by rw [ha]; exact hl'), by rw [List.length_set]; exact hlen, ab_okset hokl (hoks _ List.mem_cons_self), fun v hv => hoks v (List.mem_cons_of_mem _ hv)⟩)
    · cases hps
  · -- iinc
    split at hps
    · rename_i k n hc
      subst hc
      obtain ⟨z, h1, h2⟩ := ab_ldi_some hps
      cases h2
      have hk : k < ls.length := (List.getElem?_eq_some_iff.mp h1).1
      obtain ⟨j, hj⟩ := List.getElem?_of_mem (ab_lvs_mem.mpr ⟨_, h1, rfl⟩ : ((k, ab_rv base b (.inl z)) : Nat × Value) ∈ ab_lvs base b ls)
      exact lv_iinc hexec hb hdg hl hj (v := Int32.ofInt (ab_b (fun a b => a + b) z n)) (ab_bv z n).symm (by rw [← hlen]; exact hk) rfl (fun ls' hl' => kk ls' ⟨ab_lv_set (v := .inl (ab_b (fun a b => a + b) z n)) hk hl', by rw [List.length_set]; exact hlen, ab_okset hokl (ab_bok _ _), hoks⟩)
    · cases hps
  · obtain ⟨x, y, r, rfl, rfl, h⟩ := ab_bin_some hps
    cases h
    exact lv_iadd hexec hb hdg (by rw [← ab_bv (f := fun a b => a + b)]; exact kk _ ⟨hl, hlen, hokl, ab_okc (ab_bok x y) fun v hv => hoks v (List.mem_cons_of_mem _ (List.mem_cons_of_mem _ hv))⟩)
  · obtain ⟨x, y, r, rfl, rfl, h⟩ := ab_bin_some hps
    cases h
    exact lv_isub hexec hb hdg (by rw [← ab_bv (f := fun a b => a - b)]; exact kk _ ⟨hl, hlen, hokl, ab_okc (ab_bok x y) fun v hv => hoks v (List.mem_cons_of_mem _ (List.mem_cons_of_mem _ hv))⟩)
  · obtain ⟨x, y, r, rfl, rfl, h⟩ := ab_bin_some hps
    cases h
    exact lv_imul hexec hb hdg (by rw [← ab_bv (f := fun a b => a * b)]; exact kk _ ⟨hl, hlen, hokl, ab_okc (ab_bok x y) fun v hv => hoks v (List.mem_cons_of_mem _ (List.mem_cons_of_mem _ hv))⟩)
  · obtain ⟨x, y, r, rfl, rfl, h⟩ := ab_bin_some hps
    cases h
    exact lv_iand hexec hb hdg (by rw [← ab_bv (f := fun a b => a &&& b)]; exact kk _ ⟨hl, hlen, hokl, ab_okc (ab_bok x y) fun v hv => hoks v (List.mem_cons_of_mem _ (List.mem_cons_of_mem _ hv))⟩)
  · obtain ⟨x, y, r, rfl, rfl, h⟩ := ab_bin_some hps
    cases h
    exact lv_ior hexec hb hdg (by rw [← ab_bv (f := fun a b => a ||| b)]; exact kk _ ⟨hl, hlen, hokl, ab_okc (ab_bok x y) fun v hv => hoks v (List.mem_cons_of_mem _ (List.mem_cons_of_mem _ hv))⟩)
  · obtain ⟨x, y, r, rfl, rfl, h⟩ := ab_bin_some hps
    cases h
    exact lv_ixor hexec hb hdg (by rw [← ab_bv (f := fun a b => a ^^^ b)]; exact kk _ ⟨hl, hlen, hokl, ab_okc (ab_bok x y) fun v hv => hoks v (List.mem_cons_of_mem _ (List.mem_cons_of_mem _ hv))⟩)
  · obtain ⟨x, y, r, rfl, rfl, h⟩ := ab_bin_some hps
    cases h
    exact lv_ishl hexec hb hdg (by rw [← ab_bv (f := fun a b => a <<< (b &&& 31))]; exact kk _ ⟨hl, hlen, hokl, ab_okc (ab_bok x y) fun v hv => hoks v (List.mem_cons_of_mem _ (List.mem_cons_of_mem _ hv))⟩)
  · obtain ⟨x, y, r, rfl, rfl, h⟩ := ab_bin_some hps
    cases h
    exact lv_ishr hexec hb hdg (by rw [← ab_bv (f := fun a b => a >>> (b &&& 31))]; exact kk _ ⟨hl, hlen, hokl, ab_okc (ab_bok x y) fun v hv => hoks v (List.mem_cons_of_mem _ (List.mem_cons_of_mem _ hv))⟩)
  · -- idiv
    split at hps
    · rename_i hc
      subst hc
      obtain ⟨x, y, r, rfl, h⟩ := ab_i2_some hps
      split at h
      · cases h
      · rename_i hy
        cases h
        exact lv_idiv hexec hb hdg (fun q => hy ((ab_eq_iff (hoks (.inl y) List.mem_cons_self) ab_ok0).mp q)) (by rw [← ab_bv (f := fun a b => a / b)]; exact kk _ ⟨hl, hlen, hokl, ab_okc (ab_bok x y) fun v hv => hoks v (List.mem_cons_of_mem _ (List.mem_cons_of_mem _ hv))⟩)
    · cases hps
  · -- irem
    split at hps
    · rename_i hc
      subst hc
      obtain ⟨x, y, r, rfl, h⟩ := ab_i2_some hps
      split at h
      · cases h
      · rename_i hy
        cases h
        exact lv_irem hexec hb hdg (fun q => hy ((ab_eq_iff (hoks (.inl y) List.mem_cons_self) ab_ok0).mp q)) (by rw [← ab_bv (f := fun a b => a - a / b * b)]; exact kk _ ⟨hl, hlen, hokl, ab_okc (ab_bok x y) fun v hv => hoks v (List.mem_cons_of_mem _ (List.mem_cons_of_mem _ hv))⟩)
    · cases hps
  · -- dup
    split at hps
    · rename_i hc
      subst hc
      split at hps
      · rename_i v r
        cases hps
        exact lv_dup hexec hb hdg (ab_rv_cat _ _ v) (kk _ ⟨hl, hlen, hokl, ab_okc (hoks v List.mem_cons_self) hoks⟩)
      · cases hps
    · cases hps
  · -- dup2
    split at hps
    · rename_i hc
      subst hc
      split at hps
      · rename_i v w r
        cases hps
        exact lv_dup2_11 hexec hb hdg (ab_rv_cat _ _ v) (ab_rv_cat _ _ w) (kk _ ⟨hl, hlen, hokl, ab_okc (hoks v List.mem_cons_self) (ab_okc (hoks w (List.mem_cons_of_mem _ List.mem_cons_self)) hoks)⟩)
      · cases hps
    · cases hps
  · -- ifCond
    split at hps
    · rename_i cnd off hc
      subst hc
      obtain ⟨x, r, rfl, h⟩ := ab_i1_some hps
      cases hj : ab_j pc off with
      | none => rw [hj] at h; cases h
      | some t =>
        rw [hj] at h
        cases h
        exact ab_if_sound hexec hb (hoks (.inl x) List.mem_cons_self) hdg (ab_jv hj) (kk _ ⟨hl, hlen, hokl, fun v hv => hoks v (List.mem_cons_of_mem _ hv)⟩)
    · cases hps
  · -- if_icmp
    split at hps
    · rename_i cnd off hc
      subst hc
      obtain ⟨x, y, r, rfl, h⟩ := ab_i2_some hps
      cases hj : ab_j pc off with
      | none => rw [hj] at h; cases h
      | some t =>
        rw [hj] at h
        cases h
        exact ab_cmp_sound hexec hb (hoks (.inl x) (List.mem_cons_of_mem _ List.mem_cons_self)) (hoks (.inl y) List.mem_cons_self) hdg (ab_jv hj) (kk _ ⟨hl, hlen, hokl, fun v hv => hoks v (List.mem_cons_of_mem _ (List.mem_cons_of_mem _ hv))⟩)
    · cases hps
  · -- goto
    split at hps
    · rename_i off hc
      subst hc
      cases hj : ab_j pc off with
      | none => rw [hj] at hps; cases hps
      | some t =>
        rw [hj] at hps
        cases hps
        exact lv_goto hexec hb hdg (ab_jv hj) (kk _ ⟨hl, hlen, hokl, hoks⟩)
    · cases hps
  · -- tableswitch
    rename_i d lo hi offs
    obtain ⟨x, r, rfl, h⟩ := ab_i1_some hps
    have hx : (Int32.ofInt x).toInt = x := ab_toInt (hoks (.inl x) List.mem_cons_self)
    split at h
    · rename_i hc
      cases hj : ab_j pc d with
      | none => rw [hj] at h; cases h
      | some t =>
        rw [hj] at h
        cases h
        exact lv_tableOut hexec hb hdg (by rw [hx]; exact hc) (ab_jv hj) (kk _ ⟨hl, hlen, hokl, fun v hv => hoks v (List.mem_cons_of_mem _ hv)⟩)
    · rename_i hc
      cases ho : offs[(x - lo).toNat]? with
      | none => rw [ho] at h; cases h
      | some o =>
        rw [ho] at h
        cases hj : ab_j pc o with
        | none => simp [hj] at h
        | some t =>
          simp only [Option.bind_some, hj, Option.map_some] at h
          cases h
          exact lv_tableIn hexec hb hdg (by rw [hx]; omega) (by rw [hx]; omega) (by rw [hx]; exact ho) (ab_jv hj) (kk _ ⟨hl, hlen, hokl, fun v hv => hoks v (List.mem_cons_of_mem _ hv)⟩)
  · cases hps
end AbPs
end
section
/-! ===== the small machine's heap steps are the machine's ===== -/
theorem ab_vpV {n j : Nat} (g : Nat → Value) (hj : j < n) : vp_V ((List.range n).map g) j = g j := by
  simp [vp_V, List.getD, hj]
section AbHs
variable {p : Program} {l : Launch} {e : Env} {R : Room} {s : State} {m : MethodId} {args : Array Value} {below : List Frame} {meth : Method} {c : Code} {H : Heap} {locs : List Loc} {cells slots : Nat} {Q : State → Prop}
variable {cc : ByteArray} {pc : Nat} {lsC : Array Slot} {base b : Nat} {dC : Nat → ClassId} {dI : Nat → Nat → Nat} {cI cZ : Nat} {h : ab_H} {own : String} {rest : List Value}
theorem ab_one {q : Nat × va_E} {D : va_G} (hat : va_at D vwCl q H) : va_P D vwCl [q] H := by
  intro j x hj
  cases j with
  | zero => cases hj; exact hat
  | succ j => simp at hj
theorem ab_s_get {ix ci k a : Nat} {refs : List Nat} {v : Value} (hx : p.tables.exec = Jvm.exec) (hb : c.code = cc) (hts : ∀ w ∈ ab_tb, w.before args s = true) (hown : s.vm.findClass own = some m.cls) (hR : ab_R dC dI cI cZ base b h s H) (hF : ab_F own ix ci k) (ha : h.1[a]? = some (.inl (ci, refs))) (hv : ab_fv base refs (h.2 a) ci k = v) (hdg : decode cc pc = .ok (.getfield ix, 3))
    (kk : W p l e R s m args below meth c H locs cells slots Q (F0 m (pc + 3) lsC (v :: rest))) : W p l e R s m args below meth c H locs cells slots Q (F0 m pc lsC (ab_rv base b (.inr a) :: rest)) := by
  obtain ⟨k', rfl⟩ := hR.pos ha
  obtain ⟨C, T, N, ⟨hc, hin, hty, hnm, hins, hini, hC⟩, hk, hlink⟩ := hF
  have hat := hR.2.1 k' _ ha
  have hsz : ab_sz (.inl (ci, refs)) = N := by simp [ab_sz, hc]
  refine va_get (D := (dC, dI)) (C := C) (T := T) (N := N) hx hb hts hin hown hR.1 (ab_one hat) 0 rfl hc k hk (hts _ hlink) (fun x hx => by rw [hC k hk] at hx; exact hx) ?_ hdg kk
  rw [hsz, List.getElem?_map, List.getElem?_range hk, ← hv]
  rfl
theorem ab_s_putI {ix ci k a : Nat} {refs : List Nat} {z : Int} (hx : p.tables.exec = Jvm.exec) (hb : c.code = cc) (hts : ∀ w ∈ ab_tb, w.before args s = true) (hown : s.vm.findClass own = some m.cls) (hR : ab_R dC dI cI cZ base b h s H) (hS : va_S (fun q => base ≤ q) s.heap H locs) (hF : ab_F own ix ci k) (ha : h.1[a]? = some (.inl (ci, refs)))
    (hty2 : ab_ty ci k = .int ∨ (ab_ty ci k = .boolean ∧ (z = 0 ∨ z = 1))) (hfin : ((vwCl[ci]?).map fun q => (q.2.1 k).2.2.2) = some false) (hz : ab_ok z) (hdg : decode cc pc = .ok (.putfield ix, 3))
    (kk : ∀ (H1 : Heap) (locs1 : List Loc), ab_R dC dI cI cZ base b (h.1, ab_up h.2 a k z) s H1 → va_S (fun q => base ≤ q) s.heap H1 locs1 → W p l e R s m args below meth c H1 locs1 cells slots Q (F0 m (pc + 3) lsC rest)) : W p l e R s m args below meth c H locs cells slots Q (F0 m pc lsC (.int (Int32.ofInt z) :: ab_rv base b (.inr a) :: rest)) := by
  obtain ⟨k', rfl⟩ := hR.pos ha
  obtain ⟨C, T, N, ⟨hc, hin, hty, hnm, hins, hini, hC⟩, hk, hlink⟩ := hF
  rw [hc] at hfin
  have hfin : (T k).2.2.2 = false := Option.some.inj hfin
  obtain ⟨r, h1, cell, q1, q2, q3, q4⟩ := hR.2.1 k' _ ha
  have hr : r = (C, T, N) := Option.some.inj (h1.symm.trans hc)
  subst hr
  have hsz : ab_sz (.inl (ci, refs)) = N := by simp [ab_sz, hc]
  rw [hsz] at q4
  have hap := va_apart (own := own) hts hin (ab_ty ci) hty hnm hR.1 hc
  obtain ⟨hSl, hfc, kC, hkC, hkind⟩ := hR.1.1 ci _ hc
  obtain ⟨cf, kf, fi, f, hi, hsl⟩ := hSl k hk
  have hlay := hts _ (hin _ (u_in_lay hk))
  unfold u_lay at hlay
  rw [if_neg (by rw [hfin]; decide)] at hlay
  have hst := (u_facts hfc hkC (u_lays hts hin hk) hi).1
  have hnf : narrow (ab_ty ci k) (.int (Int32.ofInt z)) = .int (Int32.ofInt z) ∧ fits (ab_ty ci k) (.int (Int32.ofInt z)) = true := by
    rcases hty2 with q | ⟨q, rfl | rfl⟩ <;> rw [q] <;> exact ⟨rfl, rfl⟩
  have h6 := u_store hfc hkC hkind hlay hi (hty k hk) hnf.1 hnf.2
  have hi2 := hi
  rw [hC k hk] at hi2
  have hnR : ab_isR ci k = false := by
    unfold ab_isR
    rcases hty2 with q | ⟨q, -⟩ <;> rw [q]
  refine W.putK hx hb (f := f) ⟨hown, hts _ hlink, ⟨_, _, _, hi2⟩, hst⟩ (by rw [q2]; exact h6) q1 q3 (by rw [hsl]; exact k2_hasslot (q4 k hk)) rfl rfl hdg fun H' e1 e2 e3 => ?_
  rw [hsl] at e1 ⊢
  have hself : ab_up h.2 (k' + 1) k z (k' + 1) = ab_u1 (h.2 (k' + 1)) k z := by simp [ab_up]
  refine kk H' _ (hR.set k' (cd' := .inl (ci, refs)) rfl ha (fun _ _ => rfl) (fun a hne => by simp [ab_up, hne]) (fun j => ?_) e2 e3 ?_) (hS.put e2 e3 (Nat.le_add_right _ _))
  · rw [hself]
    unfold ab_u1
    split
    · exact hz
    · exact hR.2.2.2.2.2.1 _ _
  · refine ⟨_, hc, t_OB.to (V := updV (vp_V ((List.range N).map (ab_fv base refs (h.2 (k' + 1)) ci))) k (.int (Int32.ofInt z))) ⟨_, e1, q2, q3, t_set q4 hap hk _⟩ (fun j hj => ?_)⟩
    rw [hsz, hself]
    show _ = vp_V _ j
    rw [ab_vpV _ hj]
    by_cases hjk : j = k
    · subst hjk
      simp [updV, ab_fv, hnR, ab_u1]
    · simp only [updV, hjk, if_false]
      rw [ab_vpV _ hj]
      simp [ab_fv, ab_u1, hjk]
theorem ab_s_putR {ix ci k a r : Nat} {refs : List Nat} (hx : p.tables.exec = Jvm.exec) (hb : c.code = cc) (hts : ∀ w ∈ ab_tb, w.before args s = true) (hown : s.vm.findClass own = some m.cls) (hR : ab_R dC dI cI cZ base b h s H) (hS : va_S (fun q => base ≤ q) s.heap H locs) (hF : ab_F own ix ci k) (ha : h.1[a]? = some (.inl (ci, refs)))
    (hisR : ab_isR ci k = true) (hkr : k < refs.length) (hfin : ((vwCl[ci]?).map fun q => (q.2.1 k).2.2.2) = some true) (hcl : ((vwCl[ci]?).map fun q => q.1) = some own) (hin2 : meth.name = "<init>") (hdg : decode cc pc = .ok (.putfield ix, 3))
    (kk : ∀ (H1 : Heap) (locs1 : List Loc), ab_R dC dI cI cZ base b (h.1.set a (.inl (ci, refs.set k (r + 1))), h.2) s H1 → va_S (fun q => base ≤ q) s.heap H1 locs1 → W p l e R s m args below meth c H1 locs1 cells slots Q (F0 m (pc + 3) lsC rest)) : W p l e R s m args below meth c H locs cells slots Q (F0 m pc lsC (ab_rv base b (.inr (r + 1)) :: ab_rv base b (.inr a) :: rest)) := by
  obtain ⟨k', rfl⟩ := hR.pos ha
  obtain ⟨C, T, N, ⟨hc, hin, hty, hnm, hins, hini, hC⟩, hk, hlink⟩ := hF
  rw [hc] at hfin hcl
  have hfin : (T k).2.2.2 = true := Option.some.inj hfin
  have hcl : C = own := Option.some.inj hcl
  obtain ⟨q0, h1, cell, q1, q2, q3, q4⟩ := hR.2.1 k' _ ha
  have hr : q0 = (C, T, N) := Option.some.inj (h1.symm.trans hc)
  subst hr
  have hsz : ab_sz (.inl (ci, refs)) = N := by simp [ab_sz, hc]
  rw [hsz] at q4
  have hap := va_apart (own := own) hts hin (ab_ty ci) hty hnm hR.1 hc
  obtain ⟨hSl, hfc, kC, hkC, hkind⟩ := hR.1.1 ci _ hc
  obtain ⟨cf, kf, fi, f, hi, hsl⟩ := hSl k hk
  have hlay := hts _ (hin _ (u_in_lay hk))
  unfold u_lay at hlay
  rw [if_pos hfin] at hlay
  have hst := (u_facts hfc hkC (u_lays hts hin hk) hi).1
  have hnf : narrow (ab_ty ci k) (.ref (base + r)) = .ref (base + r) ∧ fits (ab_ty ci k) (.ref (base + r)) = true := by
    unfold ab_isR at hisR
    split at hisR
    · rename_i q; rw [q]; exact ⟨rfl, rfl⟩
    · rename_i q; rw [q]; exact ⟨rfl, rfl⟩
    · cases hisR
  have h6 := u_fits hfc hkC hkind (Or.inr hlay) hi (hty k hk) hnf.1 hnf.2
  have hi2 := hi
  rw [hC k hk] at hi2
  have hcf : m.cls = cf := by
    obtain ⟨_, _, c', _, _, _, -, -, hf', -, -, -, hown2, -⟩ := Cond.laysFinal_spec hlay
    have e1 : c' = cf := by
      have z := hi.symm.trans hf'
      simp at z
      exact z.1.symm
    rw [hC k hk, hcl] at hown2
    rw [← e1]
    exact Option.some.inj (hown.symm.trans hown2)
  refine W.putFinK hx hb hown (hts _ hlink) hi2 hst hcf hin2 (v := .ref (base + r)) (by rw [q2]; exact h6) q1 q3 (by rw [hsl]; exact k2_hasslot (q4 k hk)) rfl rfl hdg fun H' e1 e2 e3 => ?_
  rw [hsl] at e1 ⊢
  have hlt : k' + 1 < h.1.length := (List.getElem?_eq_some_iff.mp ha).1
  refine kk H' _ (hR.set k' (cd' := .inl (ci, refs.set k (r + 1))) (by simp) (by rw [List.getElem?_set_self hlt]) (fun j hj => by rw [List.getElem?_set_ne (Ne.symm hj)]) (fun a hne => rfl) (fun j => hR.2.2.2.2.2.1 _ _) e2 e3 ?_) (hS.put e2 e3 (Nat.le_add_right _ _))
  have hsz2 : ab_sz (.inl (ci, refs.set k (r + 1))) = N := by simp [ab_sz, hc]
  refine ⟨_, hc, t_OB.to (V := updV (vp_V ((List.range N).map (ab_fv base refs (h.2 (k' + 1)) ci))) k (.ref (base + r))) ⟨_, e1, q2, q3, t_set q4 hap hk _⟩ (fun j hj => ?_)⟩
  rw [hsz2]
  show _ = vp_V _ j
  rw [ab_vpV _ hj]
  by_cases hjk : j = k
  · subst hjk
    simp [updV, ab_fv, hisR, hkr, ab_rf]
  · simp only [updV, hjk, if_false]
    rw [ab_vpV _ hj]
    simp [ab_fv, List.getElem?_set_ne (Ne.symm hjk)]
end AbHs
end
section
section AbHt
variable {p : Program} {l : Launch} {e : Env} {R : Room} {s : State} {m : MethodId} {args : Array Value} {below : List Frame} {meth : Method} {c : Code} {H : Heap} {locs : List Loc} {cells slots : Nat} {Q : State → Prop}
variable {cc : ByteArray} {pc : Nat} {lsC : Array Slot} {base b : Nat} {dC : Nat → ClassId} {dI : Nat → Nat → Nat} {cI cZ : Nat} {h : ab_H} {own : String} {rest : List Value}
theorem ab_s_iald {a n : Nat} {x : Int} (hx : p.tables.exec = Jvm.exec) (hb : c.code = cc) (hR : ab_R dC dI cI cZ base b h s H) (ha : h.1[a]? = some (.inr (0, n))) (hxo : ab_ok x) (h0 : 0 ≤ x) (hn : x < n) (hdg : decode cc pc = .ok (.iaload, 1))
    (kk : W p l e R s m args below meth c H locs cells slots Q (F0 m (pc + 1) lsC (.int (Int32.ofInt (h.2 a x.toNat)) :: rest))) : W p l e R s m args below meth c H locs cells slots Q (F0 m pc lsC (.int (Int32.ofInt x) :: ab_rv base b (.inr a) :: rest)) := by
  cases a with
  | zero =>
    obtain ⟨L, h4, scr, g1, g2, g3, g4, g5⟩ := hR.2.2.2.1
    have hL : n = L := by
      have := ha.symm.trans h4
      simp at this
      exact this
    subst hL
    have hlt : x.toNat < n := by omega
    exact W.iald (v := .int (Int32.ofInt (h.2 0 x.toNat))) hx hb g1 g2 g3 (by rw [g4]; exact ab_vin hxo h0 hn) (by rw [ab_clamp hxo]; exact g5 _ hlt) rfl rfl hdg kk
  | succ k =>
    have hat := hR.2.1 k _ ha
    refine va_iald (D := (dC, dI)) hx hb hR.1 (ab_one hat) 0 0 rfl rfl (ab_vin hxo h0 hn) hdg ?_
    rw [ab_clamp hxo]
    exact kk
theorem ab_s_zald {a n : Nat} {x : Int} (hx : p.tables.exec = Jvm.exec) (hb : c.code = cc) (hR : ab_R dC dI cI cZ base b h s H) (ha1 : 1 ≤ a) (ha : h.1[a]? = some (.inr (1, n))) (hxo : ab_ok x) (h0 : 0 ≤ x) (hn : x < n) (hdg : decode cc pc = .ok (.baload, 1))
    (kk : W p l e R s m args below meth c H locs cells slots Q (F0 m (pc + 1) lsC (.int (Int32.ofInt (h.2 a x.toNat)) :: rest))) : W p l e R s m args below meth c H locs cells slots Q (F0 m pc lsC (.int (Int32.ofInt x) :: ab_rv base b (.inr a) :: rest)) := by
  cases a with
  | zero => exact absurd ha1 (by omega)
  | succ k =>
    have hat := hR.2.1 k _ ha
    refine va_zald (D := (dC, dI)) hx hb hR.1 (ab_one hat) 0 1 rfl rfl (ab_vin hxo h0 hn) hdg ?_
    rw [ab_clamp hxo]
    exact kk
theorem ab_cell_up {cA n k : Nat} {f : Nat → Int} {z : Int} : (vp_cell cA (n, .inl fun j => Int32.ofInt (f j))).setSlot k (.int (Int32.ofInt z)) = vp_cell cA (n, .inl fun j => Int32.ofInt (ab_u1 f k z j)) := by
  rw [vp_cell_i, vp_cell_i, arrV_store]
  congr 1
  funext q
  by_cases hq : q = k
  · subst hq; simp [updV, ab_u1]
  · simp [updV, ab_u1, hq]
theorem ab_s_iast {a n : Nat} {x z : Int} (hx : p.tables.exec = Jvm.exec) (hb : c.code = cc) (hR : ab_R dC dI cI cZ base b h s H) (hS : va_S (fun q => base ≤ q) s.heap H locs) (ha1 : 1 ≤ a) (ha : h.1[a]? = some (.inr (0, n))) (hxo : ab_ok x) (hzo : ab_ok z) (h0 : 0 ≤ x) (hn : x < n) (hdg : decode cc pc = .ok (.iastore, 1))
    (kk : ∀ (H1 : Heap) (locs1 : List Loc), ab_R dC dI cI cZ base b (h.1, ab_up h.2 a x.toNat z) s H1 → va_S (fun q => base ≤ q) s.heap H1 locs1 → W p l e R s m args below meth c H1 locs1 cells slots Q (F0 m (pc + 1) lsC rest)) : W p l e R s m args below meth c H locs cells slots Q (F0 m pc lsC (.int (Int32.ofInt z) :: .int (Int32.ofInt x) :: ab_rv base b (.inr a) :: rest)) := by
  cases a with
  | zero => exact absurd ha1 (by omega)
  | succ k =>
    have hat := hR.2.1 k _ ha
    refine W.iast hx hb hat ((hR.1.2 0 _ rfl).1 n (fun j => .int (Int32.ofInt (h.2 (k + 1) j)))) (fun q => by cases q) (by show ¬ (_ < 0 ∨ (arrV _ _ _).slots.size ≤ _); rw [arrV_size]; exact ab_vin hxo h0 hn) rfl rfl hdg fun H1 e z1 oq => ?_
    have hself : ab_up h.2 (k + 1) x.toNat z (k + 1) = ab_u1 (h.2 (k + 1)) x.toNat z := by simp [ab_up]
    refine kk H1 _ (hR.set k (cd' := .inr (0, n)) rfl ha (fun _ _ => rfl) (fun a hne => by simp [ab_up, hne]) (fun j => ?_) z1 oq ?_) (hS.put z1 oq (Nat.le_add_right _ _))
    · rw [hself]
      unfold ab_u1
      split
      · exact hzo
      · exact hR.2.2.2.2.2.1 _ _
    · show H1[base + k]? = some (vp_cell _ _)
      rw [e, ab_clamp hxo, hself]
      exact congrArg some ab_cell_up
theorem ab_s_zast {a n : Nat} {x z : Int} (hx : p.tables.exec = Jvm.exec) (hb : c.code = cc) (hR : ab_R dC dI cI cZ base b h s H) (hS : va_S (fun q => base ≤ q) s.heap H locs) (ha1 : 1 ≤ a) (ha : h.1[a]? = some (.inr (1, n))) (hxo : ab_ok x) (hz : z = 0 ∨ z = 1) (h0 : 0 ≤ x) (hn : x < n) (hdg : decode cc pc = .ok (.bastore, 1))
    (kk : ∀ (H1 : Heap) (locs1 : List Loc), ab_R dC dI cI cZ base b (h.1, ab_up h.2 a x.toNat z) s H1 → va_S (fun q => base ≤ q) s.heap H1 locs1 → W p l e R s m args below meth c H1 locs1 cells slots Q (F0 m (pc + 1) lsC rest)) : W p l e R s m args below meth c H locs cells slots Q (F0 m pc lsC (.int (Int32.ofInt z) :: .int (Int32.ofInt x) :: ab_rv base b (.inr a) :: rest)) := by
  have hzo : ab_ok z := by rcases hz with rfl | rfl <;> exact ⟨by decide, by decide⟩
  have hnar : narrow .boolean (.int (Int32.ofInt z)) = .int (Int32.ofInt z) := by rcases hz with rfl | rfl <;> rfl
  cases a with
  | zero => exact absurd ha1 (by omega)
  | succ k =>
    have hat := hR.2.1 k _ ha
    refine W.zast hx hb hat ((hR.1.2 1 _ rfl).1 n (fun j => .int (Int32.ofInt (h.2 (k + 1) j)))) (fun q => by cases q) (by show ¬ (_ < 0 ∨ (arrV _ _ _).slots.size ≤ _); rw [arrV_size]; exact ab_vin hxo h0 hn) rfl rfl hdg fun H1 e z1 oq => ?_
    have hself : ab_up h.2 (k + 1) x.toNat z (k + 1) = ab_u1 (h.2 (k + 1)) x.toNat z := by simp [ab_up]
    refine kk H1 _ (hR.set k (cd' := .inr (1, n)) rfl ha (fun _ _ => rfl) (fun a hne => by simp [ab_up, hne]) (fun j => ?_) z1 oq ?_) (hS.put z1 oq (Nat.le_add_right _ _))
    · rw [hself]
      unfold ab_u1
      split
      · exact hzo
      · exact hR.2.2.2.2.2.1 _ _
    · show H1[base + k]? = some (vp_cell _ _)
      rw [e, ab_clamp hxo, hself, hnar]
      exact congrArg some ab_cell_up
theorem ab_s_alen {a t n : Nat} (hx : p.tables.exec = Jvm.exec) (hb : c.code = cc) (hR : ab_R dC dI cI cZ base b h s H) (ha : h.1[a]? = some (.inr (t, n))) (ht : a = 0 ∨ t < 2) (hdg : decode cc pc = .ok (.arraylength, 1))
    (kk : W p l e R s m args below meth c H locs cells slots Q (F0 m (pc + 1) lsC (.int (Int32.ofInt (n : Int)) :: rest))) : W p l e R s m args below meth c H locs cells slots Q (F0 m pc lsC (ab_rv base b (.inr a) :: rest)) := by
  rw [Int32.ofInt_eq_ofNat] at kk
  cases a with
  | zero =>
    obtain ⟨L, h4, scr, g1, g2, g3, g4, g5⟩ := hR.2.2.2.1
    have hL : n = L := by
      have := ha.symm.trans h4
      simp at this
      exact this.2
    subst hL
    exact W.alen (n := Int32.ofNat n) hx hb g1 g2 (by rw [g4] <;> rfl) rfl rfl hdg kk
  | succ k =>
    have hat := hR.2.1 k _ ha
    have ht : t < 2 := by
      rcases ht with q | q
      · exact absurd q (by omega)
      · exact q
    match t, ht with
    | 0, _ => exact va_alen (D := (dC, dI)) hx hb hR.1 (ab_one hat) 0 0 rfl rfl rfl hdg kk
    | 1, _ => exact va_alen (D := (dC, dI)) hx hb hR.1 (ab_one hat) 0 1 rfl rfl rfl hdg kk
theorem ab_s_newa {n t : Nat} {at_ : ArrayType} (hx : p.tables.exec = Jvm.exec) (hb : c.code = cc) (hts : ∀ w ∈ ab_tb, w.before args s = true) (hR : ab_R dC dI cI cZ base b h s H) (hS : va_S (fun q => base ≤ q) s.heap H locs) (hat : (at_ = .int ∧ t = 0) ∨ (at_ = .boolean ∧ t = 1)) (hn : n ≤ 100000) (hf : ∀ j, h.2 h.1.length j = 0) (hcells : cells + 1 ≤ R.cells) (hslots : slots + n ≤ R.slots) (hdg : decode cc pc = .ok (.newarray at_, 2))
    (kk : ∀ (H1 : Heap), ab_R dC dI cI cZ base b (h.1 ++ [.inr (t, n)], h.2) s H1 → va_S (fun q => base ≤ q) s.heap H1 locs → W p l e R s m args below meth c H1 locs (cells + 1) (slots + n) Q (F0 m (pc + 2) lsC (ab_rv base b (.inr h.1.length) :: rest))) : W p l e R s m args below meth c H locs cells slots Q (F0 m pc lsC (.int (Int32.ofInt (n : Int)) :: rest)) := by
  have hno : ab_ok (n : Int) := ⟨by omega, by omega⟩
  have harr : (Cond.arrayClass (newarray.typeOf at_)).before args s = true := by
    rcases hat with ⟨rfl, -⟩ | ⟨rfl, -⟩
    · exact hts _ ab_arr_int
    · exact hts _ ab_arr_boolean
  have hbase : base ≤ H.size := by
    have h1 := hR.2.2.1
    obtain ⟨L, h4, -⟩ := hR.2.2.2.1
    have := (List.getElem?_eq_some_iff.mp h4).1
    omega
  refine va_newaK hx hb harr rfl hdg rfl (fun q => ?_) (N := n) (by rw [ab_clamp hno]; omega) (by rcases hat with ⟨rfl, -⟩ | ⟨rfl, -⟩ <;> (simp [newarray.typeOf, componentBytes]; omega)) hcells hslots rfl fun H1 cA e1 z1 o1 hAr hNm => ?_
  · have := (ab_lt_iff hno ab_ok0).mp q
    omega
  · have hcA : cA = if t = 0 then cI else cZ := by
      rcases hat with ⟨rfl, rfl⟩ | ⟨rfl, rfl⟩
      · exact Option.some.inj (hNm.symm.trans (hR.1.2 0 _ rfl).2)
      · exact Option.some.inj (hNm.symm.trans (hR.1.2 1 _ rfl).2)
    obtain ⟨g1, g2, g3⟩ := hR.push (cd := .inr (t, n)) z1 o1 (by
      show H1[H.size]? = some (vp_cell (if t = 0 then cI else cZ) (n, .inl fun j => Int32.ofInt (h.2 h.1.length j)))
      rw [e1, ← hcA, vp_cell_i]
      congr 2
      funext j
      rw [hf j]
      rcases hat with ⟨rfl, -⟩ | ⟨rfl, -⟩ <;> rfl)
    have hrv : ab_rv base b (.inr h.1.length) = .ref H.size := by
      obtain ⟨k, hk⟩ : ∃ k, h.1.length = k + 1 := ⟨h.1.length - 1, by omega⟩
      rw [hk]
      show Value.ref (base + k) = _
      rw [g2, hk]
      rfl
    have kk := kk H1 g1 ⟨Nat.le_trans hS.1 (by omega), fun q h1 h2 => (o1 q (Nat.lt_of_lt_of_le h1 hS.1)).trans (hS.2.1 q h1 h2), hS.2.2⟩
    rw [hrv] at kk
    exact kk
theorem ab_s_new {ix ci N : Nat} (hx : p.tables.exec = Jvm.exec) (hb : c.code = cc) (hts : ∀ w ∈ ab_tb, w.before args s = true) (hown : s.vm.findClass own = some m.cls) (hR : ab_R dC dI cI cZ base b h s H) (hS : va_S (fun q => base ≤ q) s.heap H locs) (hC : ab_C own ix ci) (hN : ((vwCl[ci]?).map fun q => q.2.2) = some N) (hgt : ∀ k, k < N → ab_gt (ab_ty ci k) = true) (hf : ∀ j, h.2 h.1.length j = 0) (hcells : cells + 1 ≤ R.cells) (hslots : slots + N ≤ R.slots) (hdg : decode cc pc = .ok (.new ix, 3))
    (kk : ∀ (H1 : Heap), ab_R dC dI cI cZ base b (h.1 ++ [.inl (ci, List.replicate N 0)], h.2) s H1 → va_S (fun q => base ≤ q) s.heap H1 locs → W p l e R s m args below meth c H1 locs (cells + 1) (slots + N) Q (F0 m (pc + 3) lsC (ab_rv base b (.inr h.1.length) :: rest))) : W p l e R s m args below meth c H locs cells slots Q (F0 m pc lsC rest) := by
  obtain ⟨C, T, N', ⟨hc, hin, hty, hnm, hins, hini, hC⟩, hlink⟩ := hC
  rw [hc] at hN
  have hN : N' = N := Option.some.inj hN
  subst hN
  have hKn := hR.1.1 ci _ hc
  refine W.newcK hx hb hown (hts _ hlink) (hts _ hins) (hts _ hini) rfl hdg hcells hslots hKn.2.1 rfl fun H1 kC hkC e1 z1 o1 => ?_
  have hsz : ab_sz (.inl (ci, List.replicate N' 0)) = N' := by simp [ab_sz, hc]
  obtain ⟨g1, g2, g3⟩ := hR.push (cd := .inl (ci, List.replicate N' 0)) z1 o1 (by
    refine ⟨_, hc, (u_born (ab_ty ci) hts hin hKn hkC e1 hty).to (fun j hj => ?_)⟩
    rw [hsz]
    show _ = vp_V _ j
    rw [ab_vpV _ hj]
    have hg := hgt j hj
    unfold ab_fv ab_isR
    unfold ab_gt at hg
    split at hg
    · rename_i q; rw [q, hf j]; rfl
    · rename_i q; rw [q, hf j]; rfl
    · rename_i q; rw [q]; simp [ab_rf, hj, defaultValue]
    · rename_i q; rw [q]; simp [ab_rf, hj, defaultValue]
    · cases hg)
  have hrv : ab_rv base b (.inr h.1.length) = .ref H.size := by
    obtain ⟨k, hk⟩ : ∃ k, h.1.length = k + 1 := ⟨h.1.length - 1, by omega⟩
    rw [hk]
    show Value.ref (base + k) = _
    rw [g2, hk]
    rfl
  have kk := kk H1 g1 ⟨Nat.le_trans hS.1 (by omega), fun q h1 h2 => (o1 q (Nat.lt_of_lt_of_le h1 hS.1)).trans (hS.2.1 q h1 h2), hS.2.2⟩
  rw [hrv] at kk
  exact kk
end AbHt
end
section
section AbHu
variable {p : Program} {l : Launch} {e : Env} {R : Room} {s : State} {m : MethodId} {args : Array Value} {below : List Frame} {meth : Method} {c : Code} {H : Heap} {locs : List Loc} {cells slots : Nat} {Q : State → Prop}
variable {cc : ByteArray} {pc : Nat} {lsC : Array Slot} {base b : Nat} {dC : Nat → ClassId} {dI : Nat → Nat → Nat} {cI cZ : Nat} {h : ab_H} {own : String} {rest : List Value}
theorem ab_s_copy {ix a a0 n n0 N : Nat} (hx : p.tables.exec = Jvm.exec) (hb : c.code = cc) (hml : c.maxLocals = lsC.size) (hts : ∀ w ∈ ab_tb, w.before args s = true) (hown : s.vm.findClass own = some m.cls) (hR : ab_R dC dI cI cZ base b h s H) (hS : va_S (fun q => base ≤ q) s.heap H locs) (hC : ab_lC own ix) (ha1 : 1 ≤ a) (ha01 : 1 ≤ a0) (ha : h.1[a]? = some (.inr (0, n))) (ha0 : h.1[a0]? = some (.inr (0, n0))) (hN : N ≤ n) (hN0 : N ≤ n0) (hNs : N < 100000)
    (hframes : 1 ≤ R.frames) (hlocals : (rest.map fun v => v.category).sum + (nativeFrameWords "java/lang/System" "arraycopy" 5 + 11) ≤ R.locals) (hdg : decode cc pc = .ok (.invokestatic ix, 3))
    (kk : ∀ (H1 : Heap) (locs1 : List Loc), ab_R dC dI cI cZ base b (h.1, ab_rw h.2 a (fun k => if k < N then h.2 a0 k else h.2 a k)) s H1 → va_S (fun q => base ≤ q) s.heap H1 locs1 → W p l e R s m args below meth c H1 locs1 cells slots Q (F0 m (pc + 3) lsC rest)) : W p l e R s m args below meth c H locs cells slots Q (F0 m pc lsC (.int (Int32.ofInt (N : Int)) :: .int (Int32.ofInt 0) :: ab_rv base b (.inr a) :: .int (Int32.ofInt 0) :: ab_rv base b (.inr a0) :: rest)) := by
  obtain ⟨k, rfl⟩ : ∃ k, a = k + 1 := ⟨a - 1, by omega⟩
  obtain ⟨k0, rfl⟩ : ∃ k0, a0 = k0 + 1 := ⟨a0 - 1, by omega⟩
  obtain ⟨c1, c2, c3, c4⟩ := hC
  have hNo : ab_ok (N : Int) := ⟨by omega, by omega⟩
  have hcl : (Int32.ofInt (N : Int)).toNatClampNeg = N := by rw [ab_clamp hNo]; omega
  have hc0 : H[base + k0]? = some (vp_cell cI (n0, .inl fun j => Int32.ofInt (h.2 (k0 + 1) j))) := hR.2.1 k0 _ ha0
  have hc1 : H[base + k]? = some (vp_cell cI (n, .inl fun j => Int32.ofInt (h.2 (k + 1) j))) := hR.2.1 k _ ha
  intro T hT X
  obtain ⟨-, z0, hk0, cm0, hkk0⟩ := (hR.1.2 0 _ rfl).1 n0 (fun j => .int (Int32.ofInt (h.2 (k0 + 1) j)))
  obtain ⟨-, z1, hk1, cm1, hkk1⟩ := (hR.1.2 0 _ rfl).1 n (fun j => .int (Int32.ofInt (h.2 (k + 1) j)))
  obtain ⟨vm', X', step⟩ := X.arraycopy hx hown (hts _ c1) (hts _ c2) (hts _ c3) (hts _ c4) (src := base + k0) (dst := base + k) (cs := vp_cell cI (n0, .inl fun j => Int32.ofInt (h.2 (k0 + 1) j))) (cd := vp_cell cI (n, .inl fun j => Int32.ofInt (h.2 (k + 1) j))) (srcPos := Int32.ofInt 0) (destPos := Int32.ofInt 0) (n := Int32.ofInt (N : Int)) (by rw [hT]; exact hc0) (by rw [hT]; exact hc1)
    (fun _ h => by cases h) (fun _ h => by cases h) (fun h => by cases h) (fun h => by cases h) hk0 hk1 hkk0 hkk1 (by simp [refKind]) (by decide) (by decide) (fun q => by have := (ab_lt_iff hNo ab_ok0).mp q; omega)
    (by rw [ab_toInt hNo, ab_toInt ab_ok0]; show ¬ _ > ((arrV cI n0 _).slots.size : Int); rw [arrV_size]; omega)
    (by rw [ab_toInt hNo, ab_toInt ab_ok0]; show ¬ _ > ((arrV cI n _).slots.size : Int); rw [arrV_size]; omega)
    (fun vm₁ _ i hi => by
      rw [hcl] at hi
      have e : (vp_cell cI (n0, .inl fun j => Int32.ofInt (h.2 (k0 + 1) j))).slots.getD ((Int32.ofInt 0).toNatClampNeg + i) .null = .int (Int32.ofInt (h.2 (k0 + 1) i)) := by
        show (arrV cI n0 (fun j => .int (Int32.ofInt (h.2 (k0 + 1) j)))).slots.getD _ _ = _
        rw [show (Int32.ofInt 0).toNatClampNeg + i = i by rw [ab_clamp ab_ok0]; simp, Array.getD_eq_getD_getElem?, arrV_read _ _ (by omega)]
        rfl
      rw [e]
      exact ⟨rfl, trivial⟩)
    (g := F0 m pc lsC (.int (Int32.ofInt (N : Int)) :: .int (Int32.ofInt 0) :: .ref (base + k) :: .int (Int32.ofInt 0) :: .ref (base + k0) :: rest)) rfl (by rw [hml]) (rest := rest) rfl (by rw [hb]; exact hdg) hframes (by show 2 * 0 + _ + _ ≤ _; omega)
  have e1 : copied (vp_cell cI (n0, .inl fun j => Int32.ofInt (h.2 (k0 + 1) j))) (vp_cell cI (n, .inl fun j => Int32.ofInt (h.2 (k + 1) j))) (Int32.ofInt 0) (Int32.ofInt 0) (Int32.ofInt (N : Int)) = vp_cell cI (n, .inl fun j => Int32.ofInt (if j < N then h.2 (k0 + 1) j else h.2 (k + 1) j)) := by
    have h4 : (Int32.ofInt 0).toNatClampNeg + (Int32.ofInt (N : Int)).toNatClampNeg ≤ n0 := by rw [hcl, ab_clamp ab_ok0]; simpa using hN0
    refine (va_copied (fun z => .int z) cI cI (fun j => Int32.ofInt (h.2 (k0 + 1) j)) (fun j => Int32.ofInt (h.2 (k + 1) j)) h4).trans ?_
    rw [vp_cell_i]
    congr 1
    funext j
    rw [hcl, ab_clamp ab_ok0]
    unfold va_cpy
    by_cases hj : j < N
    · rw [if_pos ⟨by simp, by simpa using hj⟩, if_pos hj]
      simp
    · rw [if_neg (by simp; omega), if_neg hj]
  rw [e1] at X' step
  have hl : base + k < H.size := (Array.getElem?_eq_some_iff.mp hc1).1
  have hheap : ((T.setVm vm').setCell (base + k) (vp_cell cI (n, .inl fun j => Int32.ofInt (if j < N then h.2 (k0 + 1) j else h.2 (k + 1) j)))).heap = H.setIfInBounds (base + k) (vp_cell cI (n, .inl fun j => Int32.ofInt (if j < N then h.2 (k0 + 1) j else h.2 (k + 1) j))) := by rw [← hT]; rfl
  have oq : ∀ q : Nat, q ≠ base + k → (H.setIfInBounds (base + k) (vp_cell cI (n, .inl fun j => Int32.ofInt (if j < N then h.2 (k0 + 1) j else h.2 (k + 1) j))))[q]? = H[q]? := fun q hq => by simp [Array.getElem?_setIfInBounds, Ne.symm hq]
  have hself : ab_rw h.2 (k + 1) (fun j => if j < N then h.2 (k0 + 1) j else h.2 (k + 1) j) (k + 1) = (fun j => if j < N then h.2 (k0 + 1) j else h.2 (k + 1) j) := by simp [ab_rw]
  obtain ⟨t, a1, b1⟩ := kk _ _ (hR.set k (cd' := .inr (0, n)) rfl ha (fun _ _ => rfl) (fun a hne => by simp [ab_rw, hne]) (fun j => by
      rw [hself]
      show ab_ok (if j < N then _ else _)
      split
      · exact hR.2.2.2.2.2.1 _ _
      · exact hR.2.2.2.2.2.1 _ _) (by simp) oq (by
      rw [hself]
      show (H.setIfInBounds (base + k) _)[base + k]? = some _
      first | (simp [Array.getElem?_setIfInBounds, hl]; done) | (simp [Array.getElem?_setIfInBounds, hl]; rfl))) ⟨by simp; exact hS.1, fun q g1 g2 => by
      rw [oq q (fun e => g2 (by rw [e]; exact Nat.le_add_right _ _))]
      exact hS.2.1 q g1 g2, fun q hq => by
      rcases List.mem_append.mp hq with h | h
      · exact hS.2.2 q h
      · obtain ⟨z, -, hz⟩ := List.mem_map.mp h
        rw [← hz]
        exact Nat.le_add_right _ _⟩ _ hheap X'
  exact ⟨t, step t a1, b1⟩
theorem ab_nS_app (a : List ab_CD) (x : ab_CD) : ab_nS (a ++ [x]) = ab_nS a + ab_sz x := by simp [ab_nS]
set_option maxHeartbeats 4000000 in
theorem ab_hs_sound {M : ab_M} {i : Instr} {len : Nat} {ls : ab_L} {st st1 : List ab_V} {h1 : ab_H} {nL : Nat} (hhs : ab_hs M i len st h st1 h1) (hx : p.tables.exec = Jvm.exec) (hb : c.code = cc) (hml : c.maxLocals = nL) (hts : ∀ w ∈ ab_tb, w.before args s = true) (hown : s.vm.findClass M.1.cls = some m.cls) (hnm : M.1.name = "<init>" → meth.name = "<init>") (hdg : decode cc pc = .ok (i, len))
    (hR : ab_R dC dI cI cZ base b h s H) (hS : va_S (fun q => base ≤ q) s.heap H locs) (hF : ab_fr base b nL lsC ls st) (hc1 : cells + (h1.1.length - h.1.length) ≤ R.cells) (hs1 : slots + (ab_nS h1.1 - ab_nS h.1) ≤ R.slots) (hfr : 1 ≤ R.frames) (hlo : 40 ≤ R.locals)
    (kk : ∀ (H1 : Heap) (locs1 : List Loc), ab_R dC dI cI cZ base b h1 s H1 → va_S (fun q => base ≤ q) s.heap H1 locs1 → ab_fr base b nL lsC ls st1 → W p l e R s m args below meth c H1 locs1 (cells + (h1.1.length - h.1.length)) (slots + (ab_nS h1.1 - ab_nS h.1)) Q (F0 m (pc + len) lsC (st1.map (ab_rv base b)))) : W p l e R s m args below meth c H locs cells slots Q (F0 m pc lsC (st.map (ab_rv base b))) := by
  obtain ⟨hl, hlen, hokl, hoks⟩ := hF
  have hsz : c.maxLocals = lsC.size := by rw [hml]; exact hl.1.symm
  rcases hhs with ⟨ix, ci, k, a, rest, refs, rfl, rfl, hF, rfl, ha, hr, rfl, rfl⟩ | ⟨ix, ci, k, a, rest, refs, r, rfl, rfl, hF, rfl, ha, hr, hrr, rfl, rfl⟩ | ⟨ix, ci, k, a, z, rest, refs, rfl, rfl, hF, rfl, ha, hty, hfin, rfl, rfl⟩ | ⟨ix, ci, k, a, r, rest, refs, rfl, rfl, hF, rfl, ha, hr, hkr, hfin, hcl, hini, rfl, rfl⟩ | ⟨a, n, x, rest, hi, rfl, rfl, h0, hn, rfl, rfl⟩ | ⟨a, n, x, z, rest, hi, rfl, rfl, ha1, h0, hn, rfl, rfl⟩ | ⟨a, t, n, rest, rfl, rfl, rfl, ha, ht, hn, rfl, rfl⟩ | ⟨n, t, rest, hi, rfl, rfl, hn, hf, rfl, rfl⟩ | ⟨ix, ci, N, rfl, rfl, hC, hN, hgt, hf, rfl, rfl⟩ | ⟨ix, z, rfl, rfl, hK, hz, rfl, rfl⟩ | ⟨ix, a, rest, rfl, rfl, hO, rfl, hrl, rfl, rfl⟩ | ⟨ix, a, a0, n, n0, N, rest, rfl, rfl, hC, rfl, hrl, ha1, ha01, hne, ha, ha0, hN, hN0, hNs, rfl, rfl⟩ | ⟨ix, x, y, rest, rfl, rfl, hX, rfl, hrl, rfl, rfl⟩ | ⟨ix, x, y, rest, rfl, rfl, hX, rfl, hrl, rfl, rfl⟩
  · simp only [Nat.sub_self, Nat.add_zero] at kk hc1 hs1
    refine ab_s_get hx hb hts hown hR hF ha ?_ hdg (kk H locs hR hS ⟨hl, hlen, hokl, ab_okc (hR.2.2.2.2.2.1 a k) fun v hv => hoks v (List.mem_cons_of_mem _ hv)⟩)
    simp [ab_fv, hr]
    rfl
  · simp only [Nat.sub_self, Nat.add_zero] at kk hc1 hs1
    refine ab_s_get hx hb hts hown hR hF ha ?_ hdg (kk H locs hR hS ⟨hl, hlen, hokl, ab_okc trivial fun v hv => hoks v (List.mem_cons_of_mem _ hv)⟩)
    simp [ab_fv, hr, hrr, ab_rf]
    rfl
  · simp only [Nat.sub_self, Nat.add_zero] at kk hc1 hs1
    exact ab_s_putI hx hb hts hown hR hS hF ha hty hfin (hoks (.inl z) List.mem_cons_self) hdg (fun H1 locs1 g1 g2 => kk H1 locs1 g1 g2 ⟨hl, hlen, hokl, fun v hv => hoks v (List.mem_cons_of_mem _ (List.mem_cons_of_mem _ hv))⟩)
  · have e0 : (h.1.set a (.inl (ci, refs.set k (r + 1)))).length - h.1.length = 0 := by simp
    have e1 : ab_nS (h.1.set a (.inl (ci, refs.set k (r + 1)))) = ab_nS h.1 := by
      unfold ab_nS
      congr 1
      rw [List.map_set]
      apply List.ext_getElem?
      intro j
      by_cases hj : j = a
      · subst hj
        have hlt : j < h.1.length := (List.getElem?_eq_some_iff.mp ha).1
        rw [List.getElem?_set_self (by simpa using hlt), List.getElem?_map, ha]
        rfl
      · rw [List.getElem?_set_ne (Ne.symm hj)]
    simp only [e0, e1, Nat.sub_self, Nat.add_zero] at kk hc1 hs1
    exact ab_s_putR hx hb hts hown hR hS hF ha hr hkr hfin hcl (hnm hini) hdg (fun H1 locs1 g1 g2 => kk H1 locs1 g1 g2 ⟨hl, hlen, hokl, fun v hv => hoks v (List.mem_cons_of_mem _ (List.mem_cons_of_mem _ hv))⟩)
  · simp only [Nat.sub_self, Nat.add_zero] at kk hc1 hs1
    have hxo : ab_ok x := hoks (.inl x) List.mem_cons_self
    have kk := kk H locs hR hS ⟨hl, hlen, hokl, ab_okc (hR.2.2.2.2.2.1 a x.toNat) fun v hv => hoks v (List.mem_cons_of_mem _ (List.mem_cons_of_mem _ hv))⟩
    rcases hi with ⟨rfl, ha⟩ | ⟨rfl, ha1, ha⟩
    · exact ab_s_iald hx hb hR ha hxo h0 hn hdg kk
    · exact ab_s_zald hx hb hR ha1 ha hxo h0 hn hdg kk
  · simp only [Nat.sub_self, Nat.add_zero] at kk hc1 hs1
    have hzo : ab_ok z := hoks (.inl z) List.mem_cons_self
    have hxo : ab_ok x := hoks (.inl x) (List.mem_cons_of_mem _ List.mem_cons_self)
    have hok3 : ∀ v ∈ st1, ab_okv v := fun v hv => hoks v (List.mem_cons_of_mem _ (List.mem_cons_of_mem _ (List.mem_cons_of_mem _ hv)))
    rcases hi with ⟨rfl, ha⟩ | ⟨rfl, ha, hz⟩
    · exact ab_s_iast hx hb hR hS ha1 ha hxo hzo h0 hn hdg (fun H1 locs1 g1 g2 => kk H1 locs1 g1 g2 ⟨hl, hlen, hokl, hok3⟩)
    · exact ab_s_zast hx hb hR hS ha1 ha hxo hz h0 hn hdg (fun H1 locs1 g1 g2 => kk H1 locs1 g1 g2 ⟨hl, hlen, hokl, hok3⟩)
  · simp only [Nat.sub_self, Nat.add_zero] at kk hc1 hs1
    exact ab_s_alen hx hb hR ha ht hdg (kk H locs hR hS ⟨hl, hlen, hokl, ab_okc (v := .inl (n : Int)) ⟨by omega, by omega⟩ fun v hv => hoks v (List.mem_cons_of_mem _ hv)⟩)
  · have e0 : (h.1 ++ [(.inr (t, n) : ab_CD)]).length - h.1.length = 1 := by simp
    have e1 : ab_nS (h.1 ++ [(.inr (t, n) : ab_CD)]) - ab_nS h.1 = n := by rw [ab_nS_app]; simp [ab_sz]
    simp only [e0, e1] at kk hc1 hs1
    have hok1 : ∀ v ∈ rest, ab_okv v := fun v hv => hoks v (List.mem_cons_of_mem _ hv)
    rcases hi with ⟨rfl, rfl⟩ | ⟨rfl, rfl⟩
    · exact ab_s_newa hx hb hts hR hS (Or.inl ⟨rfl, rfl⟩) hn hf hc1 hs1 hdg (fun H1 g1 g2 => kk H1 locs g1 g2 ⟨hl, hlen, hokl, ab_okc trivial hok1⟩)
    · exact ab_s_newa hx hb hts hR hS (Or.inr ⟨rfl, rfl⟩) hn hf hc1 hs1 hdg (fun H1 g1 g2 => kk H1 locs g1 g2 ⟨hl, hlen, hokl, ab_okc trivial hok1⟩)
  · have e0 : (h.1 ++ [(.inl (ci, List.replicate N 0) : ab_CD)]).length - h.1.length = 1 := by simp
    have e1 : ab_nS (h.1 ++ [(.inl (ci, List.replicate N 0) : ab_CD)]) - ab_nS h.1 = N := by rw [ab_nS_app]; simp [ab_sz, hN]
    simp only [e0, e1] at kk hc1 hs1
    exact ab_s_new hx hb hts hown hR hS hC hN hgt hf hc1 hs1 hdg (fun H1 g1 g2 => kk H1 locs g1 g2 ⟨hl, hlen, hokl, ab_okc trivial hoks⟩)
  · simp only [Nat.sub_self, Nat.add_zero] at kk hc1 hs1
    exact lv_ldc hx hb hown (hts _ hK) hdg (kk H locs hR hS ⟨hl, hlen, hokl, ab_okc (v := .inl z) hz hoks⟩)
  · simp only [Nat.sub_self, Nat.add_zero] at kk hc1 hs1
    obtain ⟨a', ha'⟩ := ab_rvr (base := base) (b := b) a
    have kk := kk H locs hR hS ⟨hl, hlen, hokl, fun v hv => hoks v (List.mem_cons_of_mem _ hv)⟩
    rw [List.map_cons, ha']
    refine W.objInit hx hb hown (hts _ hO.1) (hts _ hO.2.1) (hts _ hO.2.2) rfl (by rw [hml]; exact hl.1) rfl hdg hfr ?_ kk
    show 2 * 0 + ((st1.map (ab_rv base b)).map fun v => v.category).sum + 12 ≤ R.locals
    rw [ab_cats]
    omega
  · simp only [Nat.sub_self, Nat.add_zero] at kk hc1 hs1
    refine ab_s_copy hx hb hsz hts hown hR hS hC ha1 ha01 ha ha0 hN hN0 hNs hfr ?_ hdg (fun H1 locs1 g1 g2 => kk H1 locs1 g1 g2 ⟨hl, hlen, hokl, fun v hv => hoks v (List.mem_cons_of_mem _ (List.mem_cons_of_mem _ (List.mem_cons_of_mem _ (List.mem_cons_of_mem _ (List.mem_cons_of_mem _ hv)))))⟩)
    rw [ab_cats]
    have : nativeFrameWords "java/lang/System" "arraycopy" 5 = 7 := by decide
    omega
  · simp only [Nat.sub_self, Nat.add_zero] at kk hc1 hs1
    have hyo : ab_ok y := hoks (.inl y) List.mem_cons_self
    have hxo : ab_ok x := hoks (.inl x) (List.mem_cons_of_mem _ List.mem_cons_self)
    have kk := kk H locs hR hS ⟨hl, hlen, hokl, ab_okc (v := .inl (if x < y then y else x)) (by show ab_ok (if x < y then y else x); split <;> assumption) fun v hv => hoks v (List.mem_cons_of_mem _ (List.mem_cons_of_mem _ hv))⟩
    have e : (if Int32.ofInt x < Int32.ofInt y then Int32.ofInt y else Int32.ofInt x) = Int32.ofInt (if x < y then y else x) := by
      by_cases hq : x < y
      · rw [if_pos ((ab_lt_iff hxo hyo).mpr hq), if_pos hq]
      · rw [if_neg (fun z => hq ((ab_lt_iff hxo hyo).mp z)), if_neg hq]
    refine va_mmax hx hb hsz hown (hts _ hX.1) (hts _ hX.2.1) (hts _ hX.2.2.1) (hts _ hX.2.2.2) hfr ?_ hc1 hs1 hdg ?_
    · rw [ab_cats]; omega
    · rw [e]; exact kk
  · simp only [Nat.sub_self, Nat.add_zero] at kk hc1 hs1
    have hyo : ab_ok y := hoks (.inl y) List.mem_cons_self
    have hxo : ab_ok x := hoks (.inl x) (List.mem_cons_of_mem _ List.mem_cons_self)
    have kk := kk H locs hR hS ⟨hl, hlen, hokl, ab_okc (v := .inl (if y < x then y else x)) (by show ab_ok (if y < x then y else x); split <;> assumption) fun v hv => hoks v (List.mem_cons_of_mem _ (List.mem_cons_of_mem _ hv))⟩
    have e : (if Int32.ofInt y < Int32.ofInt x then Int32.ofInt y else Int32.ofInt x) = Int32.ofInt (if y < x then y else x) := by
      by_cases hq : y < x
      · rw [if_pos ((ab_lt_iff hyo hxo).mpr hq), if_pos hq]
      · rw [if_neg (fun z => hq ((ab_lt_iff hyo hxo).mp z)), if_neg hq]
    refine va_mmin hx hb hsz hown (hts _ hX.1) (hts _ hX.2.1) (hts _ hX.2.2.1) (hts _ hX.2.2.2) hfr ?_ hc1 hs1 hdg ?_
    · rw [ab_cats]; omega
    · rw [e]; exact kk
end AbHu
end
section
def ab_le (h h' : ab_H) : Prop := h.1.length ≤ h'.1.length ∧ ab_nS h.1 ≤ ab_nS h'.1
theorem ab_le.trans {a b c : ab_H} (h1 : ab_le a b) (h2 : ab_le b c) : ab_le a c := ⟨Nat.le_trans h1.1 h2.1, Nat.le_trans h1.2 h2.2⟩
theorem ab_le.rfl {a : ab_H} : ab_le a a := ⟨Nat.le_refl _, Nat.le_refl _⟩
theorem ab_hs_le {M : ab_M} {i : Instr} {len : Nat} {st st1 : List ab_V} {h h1 : ab_H} (hhs : ab_hs M i len st h st1 h1) : ab_le h h1 := by
  rcases hhs with ⟨ix, ci, k, a, rest, refs, rfl, rfl, hF, rfl, ha, hr, rfl, rfl⟩ | ⟨ix, ci, k, a, rest, refs, r, rfl, rfl, hF, rfl, ha, hr, hrr, rfl, rfl⟩ | ⟨ix, ci, k, a, z, rest, refs, rfl, rfl, hF, rfl, ha, hty, hfin, rfl, rfl⟩ | ⟨ix, ci, k, a, r, rest, refs, rfl, rfl, hF, rfl, ha, hr, hkr, hfin, hcl, hini, rfl, rfl⟩ | ⟨a, n, x, rest, hi, rfl, rfl, h0, hn, rfl, rfl⟩ | ⟨a, n, x, z, rest, hi, rfl, rfl, ha1, h0, hn, rfl, rfl⟩ | ⟨a, t, n, rest, rfl, rfl, rfl, ha, ht, hn, rfl, rfl⟩ | ⟨n, t, rest, hi, rfl, rfl, hn, hf, rfl, rfl⟩ | ⟨ix, ci, N, rfl, rfl, hC, hN, hgt, hf, rfl, rfl⟩ | ⟨ix, z, rfl, rfl, hK, hz, rfl, rfl⟩ | ⟨ix, a, rest, rfl, rfl, hO, rfl, hrl, rfl, rfl⟩ | ⟨ix, a, a0, n, n0, N, rest, rfl, rfl, hC, rfl, hrl, ha1, ha01, hne, ha, ha0, hN, hN0, hNs, rfl, rfl⟩ | ⟨ix, x, y, rest, rfl, rfl, hX, rfl, hrl, rfl, rfl⟩ | ⟨ix, x, y, rest, rfl, rfl, hX, rfl, hrl, rfl, rfl⟩
  · exact ab_le.rfl
  · exact ab_le.rfl
  · exact ab_le.rfl
  · refine ⟨by simp, Nat.le_of_eq ?_⟩
    unfold ab_nS
    congr 1
    rw [List.map_set]
    apply List.ext_getElem?
    intro j
    by_cases hj : j = a
    · subst hj
      have hlt : j < h.1.length := (List.getElem?_eq_some_iff.mp ha).1
      rw [List.getElem?_set_self (by simpa using hlt), List.getElem?_map, ha]
      rfl
    · rw [List.getElem?_set_ne (Ne.symm hj)]
  · exact ab_le.rfl
  · exact ab_le.rfl
  · exact ab_le.rfl
  · exact ⟨by simp, by rw [ab_nS_app]; omega⟩
  · exact ⟨by simp, by rw [ab_nS_app]; omega⟩
  · exact ab_le.rfl
  · exact ab_le.rfl
  · exact ab_le.rfl
  · exact ab_le.rfl
  · exact ab_le.rfl
theorem ab_run_le {cal : ab_cal} (hc : ∀ M as h r h', cal M as h r h' → ab_le h h' ∧ (r = none ∨ ∃ z, r = some (.inl z))) {M : ab_M} {r : Option ab_V} {h' : ab_H} : ∀ {n pc : Nat} {ls : ab_L} {st : List ab_V} {h : ab_H}, ab_run cal M n pc ls st h r h' → ab_le h h' ∧ (r = none ∨ ∃ z, r = some (.inl z)) := by
  intro n
  induction n with
  | zero => intro _ _ _ _ h; exact h.elim
  | succ n ih =>
    intro pc ls st h hr
    obtain ⟨i, len, hd, hr⟩ := hr
    rcases hr with ⟨p1, l1, s1, q, hr⟩ | ⟨s1, h1, q, hr⟩ | ⟨M', as, rest, r1, h1, q1, q2, q3, q4, q5, hr⟩ | ⟨-, -, ⟨z, -, hz, -⟩, rfl⟩ | ⟨-, -, -, -, hz, rfl⟩
    · exact ih hr
    · exact ⟨(ab_hs_le q).trans (ih hr).1, (ih hr).2⟩
    · exact ⟨(hc _ _ _ _ _ q5).1.trans (ih hr).1, (ih hr).2⟩
    · exact ⟨ab_le.rfl, Or.inr ⟨z, hz⟩⟩
    · exact ⟨ab_le.rfl, Or.inl hz⟩
theorem ab_call_le : ∀ (d : Nat) (M : ab_M) (as : List ab_V) (h : ab_H) (r : Option ab_V) (h' : ab_H), ab_call d M as h r h' → ab_le h h' ∧ (r = none ∨ ∃ z, r = some (.inl z)) := by
  intro d
  induction d with
  | zero => intro _ _ _ _ _ h; exact h.elim
  | succ d ih => intro M as h r h' q; obtain ⟨-, n, q⟩ := q; exact ab_run_le ih q
def ab_ws (M : ab_M) : List Cond := Cond.code M.1 M.2.1 M.2.2.1 M.2.2.2.1 :: ab_tb
theorem ab_good {w : Cond} (h : w ∈ ab_tb) : (w.onTables && w.keeps) = true ∨ ∃ ty, w = .arrayClass ty := good_of_word (List.mem_filter.mp h).2
theorem ab_goodIn {ws : List Cond} (h : ∀ w ∈ ws, w ∈ ab_tb) : GoodIn ab_tb ws := fun w hw => ⟨h w hw, ab_good (h w hw)⟩
theorem ab_ws_in {M : ab_M} (hM : ab_mok M) : ∀ w ∈ ab_ws M, w ∈ ab_tb := by
  intro w hw
  rcases List.mem_cons.mp hw with rfl | q
  · exact hM.1
  · exact q
def ab_rm (d mc ms : Nat) : Room := { frames := d, cells := mc, slots := ms, locals := 40 * d }
def ab_Pc (dC : Nat → ClassId) (dI : Nat → Nat → Nat) (cI cZ base b : Nat) (as : List ab_V) (h : ab_H) : Array Value → State → Prop := fun v U => v = (as.map (ab_rv base b)).toArray ∧ ab_R dC dI cI cZ base b h U U.heap
def ab_Qc (dC : Nat → ClassId) (dI : Nat → Nat → Nat) (cI cZ base b : Nat) (r : Option ab_V) (h' : ab_H) : Array Value → State → Outcome → State → Prop := match r with
  | some (.inl z) => va_Qi (S := Unit) (fun r _ => r = Int32.ofInt z ∧ ab_ok z) (fun _ t => ab_R dC dI cI cZ base b h' t t.heap) (fun q => base ≤ q)
  | _ => va_Qv (S := Unit) (fun _ => True) (fun _ t => ab_R dC dI cI cZ base b h' t t.heap) (fun q => base ≤ q)
def ab_gc (l : Launch) (dC : Nat → ClassId) (dI : Nat → Nat → Nat) (cI cZ base b d : Nat) (cal : ab_cal) : Prop := ∀ (M : ab_M) (as : List ab_V) (h : ab_H) (r : Option ab_V) (h' : ab_H), cal M as h r h' → (∀ v ∈ as, ab_okv v) → ab_mok M →
  Met l M.1 (ab_ws M) (ab_rm d (h'.1.length - h.1.length) (ab_nS h'.1 - ab_nS h.1)) (ab_Pc dC dI cI cZ base b as h) (ab_Qc dC dI cI cZ base b r h') (h'.1.length - h.1.length) (ab_nS h'.1 - ab_nS h.1) (fun q => base ≤ q)
section AbRun
variable {p : Program} {l : Launch} {e : Env} {R : Room} {s : State} {m : MethodId} {args : Array Value} {below : List Frame} {meth : Method} {c : Code} {H : Heap} {locs : List Loc} {cells slots : Nat} {Q : State → Prop}
variable {cc : ByteArray} {pc : Nat} {lsC : Array Slot} {base b : Nat} {dC : Nat → ClassId} {dI : Nat → Nat → Nat} {cI cZ : Nat} {h : ab_H}
theorem ab_blind {as : List ab_V} : FrameBlind (ab_Pc dC dI cI cZ base b as h) := fun a U g mk q => ⟨q.1, q.2.to (U := U.calling g mk a) (Vm.Alike.refl U.vm) (ab_NW.same (u := U) (U := U.calling g mk a) rfl q.2.2.2.2.2.2.2)⟩
theorem ab_after {r1 : Option ab_V} {h1 : ab_H} {rest : List ab_V} {st0 : List Value} {mc ms : Nat} {avs : Array Value} (hrun : va_Run p l e R s m args below meth c H locs cells slots mc ms (F0 m pc lsC st0) (rest.map (ab_rv base b)) (ab_Qc dC dI cI cZ base b r1 h1 avs) (fun q => base ≤ q)) (hr1 : r1 = none ∨ ∃ z, r1 = some (.inl z)) (hN : ab_NW s) (hS : va_S (fun q => base ≤ q) s.heap H locs)
    (kk : ∀ (H1 : Heap) (locs1 : List Loc), ab_R dC dI cI cZ base b h1 s H1 → va_S (fun q => base ≤ q) s.heap H1 locs1 → (∀ v ∈ r1.toList, ab_okv v) → W p l e R s m args below meth c H1 locs1 (cells + mc) (slots + ms) Q (F0 m (pc + 3) lsC ((r1.toList ++ rest).map (ab_rv base b)))) : W p l e R s m args below meth c H locs cells slots Q (F0 m pc lsC st0) := by
  rcases hr1 with rfl | ⟨z, rfl⟩
  · refine va_callv (S := Unit) (a := avs) hrun hS (fun q _ h => h) (fun q h => h) (fun u t H1 locs1 ht hvm hp hB _ _ hS1 => ?_)
    refine kk H1 locs1 ?_ hS1 (fun v hv => by cases hv)
    rw [← ht]
    exact hB.to hvm.symm hN
  · refine va_calli (S := Unit) (a := avs) hrun hS (fun q _ h => h) (fun q h => h) (fun r u t H1 locs1 ht hvm hp hB _ _ hS1 => ?_)
    obtain ⟨rfl, hz⟩ := hp
    refine kk H1 locs1 ?_ hS1 (fun v hv => ?_)
    · rw [← ht]
      exact hB.to hvm.symm hN
    · have : v = .inl z := by simpa using hv
      rw [this]
      exact hz
set_option maxHeartbeats 4000000 in
theorem ab_iv_sound {M M' : ab_M} {i : Instr} {len : Nat} {as rest : List ab_V} {r1 : Option ab_V} {h1 : ab_H} {d mc ms nL : Nat} (hiv : ab_iv M i len M' as h) (hx : p.tables.exec = Jvm.exec) (hb : c.code = cc) (hml : c.maxLocals = nL) (hlC : lsC.size = nL) (hts : ∀ w ∈ ab_tb, w.before args s = true) (hown : s.vm.findClass M.1.cls = some m.cls) (hdg : decode cc pc = .ok (i, len))
    (hR : ab_R dC dI cI cZ base b h s H) (hlen : as.length = M'.2.2.2.2) (hrest : rest.length ≤ 8) (hf : d + 1 ≤ R.frames) (hlo : 40 * (d + 1) ≤ R.locals) (hc1 : cells + mc ≤ R.cells) (hs1 : slots + ms ≤ R.slots)
    (hM : ab_mok M' → Met l M'.1 (ab_ws M') (ab_rm d mc ms) (ab_Pc dC dI cI cZ base b as h) (ab_Qc dC dI cI cZ base b r1 h1) mc ms (fun q => base ≤ q)) :
    len = 3 ∧ va_Run p l e R s m args below meth c H locs cells slots mc ms (F0 m pc lsC ((as.reverse ++ rest).map (ab_rv base b))) (rest.map (ab_rv base b)) (ab_Qc dC dI cI cZ base b r1 h1 (as.map (ab_rv base b)).toArray) (fun q => base ≤ q) := by
  have hW : ((rest.map (ab_rv base b)).map fun v => v.category).sum ≤ 8 := by rw [ab_cats]; exact hrest
  have hPc : ∀ U : State, U.heap = H → s.WarmedH U.vm → ab_Pc dC dI cI cZ base b as h (as.map (ab_rv base b)).toArray U := fun U hU hW => ⟨rfl, by rw [hU]; exact hR.warm hW⟩
  rcases hiv with ⟨ix, ci, a, as', refs, rfl, rfl, hL, rfl, ha⟩ | ⟨ix, rfl, rfl, hL⟩ | ⟨ix, rfl, rfl, hL⟩ | ⟨ix, a, as', rfl, rfl, hL, rfl⟩
  · obtain ⟨hmok, l1, l2, l3, l4, l5, l6⟩ := hL
    refine ⟨rfl, ?_⟩
    obtain ⟨k', rfl⟩ := hR.pos ha
    have hG : GoodIn ab_tb (wsV M.1.cls ix M'.1.cls M'.1 (ab_ws M')) := ab_goodIn (fun w hw => by
      rcases List.mem_append.mp hw with q | q
      · simp only [List.mem_cons, List.not_mem_nil, or_false] at q
        rcases q with rfl | rfl | rfl | rfl
        · exact l1
        · exact l2
        · exact l3
        · exact hmok.2.1
      · exact ab_ws_in hmok w q)
    have hat := hR.2.1 k' _ ha
    obtain ⟨q0, hq0, hq1⟩ : ∃ q0, vwCl[ci]? = some q0 ∧ q0.1 = M'.1.cls := by
      cases hz : vwCl[ci]? with
      | none => rw [hz] at l4; cases l4
      | some q0 => rw [hz] at l4; exact ⟨q0, rfl, Option.some.inj l4⟩
    have hrecv := va_recv (q0 := 0) hR.1 (ab_one hat) hq0 rfl
    rw [hq1] at hrecv
    exact va_runV (As := as'.map (ab_rv base b)) (rest := rest.map (ab_rv base b)) (b := base + k') ⟨hx, hb, hml, hown, hts⟩ (hM hmok) (cwV (M'.2.2.2.2 - 1) hts hG rfl rfl rfl ⟨rfl, hmok.2.2.2.1.1, hmok.2.2.2.1.2, l5⟩ ⟨hf, by have := hmok.2.2.2.2; show 8 + (M'.2.2.1 + 11) + 40 * d ≤ _; omega⟩) ⟨ab_blind, hrecv, hPc⟩ rfl (by rw [List.length_map]; rw [List.length_cons] at hlen; omega) hlC (by simp [ab_rv]) (lv_room hW) hdg ⟨hc1, hs1⟩
  · obtain ⟨hmok, l1, l2, l3⟩ := hL
    refine ⟨rfl, ?_⟩
    have hcb : CallB R s args M.1.cls ix M'.1 M'.2.1 M'.2.2.1 M'.2.2.2.1 (ab_ws M') (ab_rm d mc ms) mc ms M'.2.2.2.2 := callB_of M'.2.2.2.2 hts (ab_goodIn (ab_ws_in hmok)) rfl rfl rfl (hts _ hmok.2.1) (hts _ l1) ⟨hmok.2.2.2.1.1, hmok.2.2.2.1.2, l3⟩ ⟨hf, by have := hmok.2.2.2.2; show 8 + (M'.2.2.1 + 11) + 40 * d ≤ _; omega⟩
    exact va_runS (As := as.map (ab_rv base b)) (rest := rest.map (ab_rv base b)) ⟨hx, hb, hml, hown, hts⟩ (hM hmok) ⟨hcb, hts _ l2⟩ ⟨ab_blind, hPc⟩ rfl (by rw [List.length_map]; exact hlen) hlC (by simp) (lv_room hW) hdg ⟨hc1, hs1⟩
  · obtain ⟨hmok, ⟨host, l1⟩, l2, l3⟩ := hL
    refine ⟨rfl, ?_⟩
    have hcn := va_cnB (R := R) (host := host) (index := ix) (own := M.1.cls) (mc := mc) (ms := ms) (rm := ab_rm d mc ms) M'.2.2.2.2 hts (ab_goodIn (ab_ws_in hmok)) rfl rfl rfl (hR.2.2.2.2.2.2 _ l1) (hts _ hmok.2.1) ⟨hmok.2.2.2.1.1, hmok.2.2.2.1.2, l3⟩ ⟨hf, by have := hmok.2.2.2.2; show 8 + (M'.2.2.1 + 11) + 40 * d ≤ _; omega⟩
    exact va_runSN (As := as.map (ab_rv base b)) (rest := rest.map (ab_rv base b)) ⟨hx, hb, hml, hown, hts⟩ (hM hmok) ⟨hcn, hts _ l2, trivial⟩ ⟨ab_blind, hPc⟩ rfl (by rw [List.length_map]; exact hlen) hlC (by simp) (lv_room hW) hdg ⟨hc1, hs1⟩
  · obtain ⟨hmok, l1, l2, l3, l4, l5, l6⟩ := hL
    refine ⟨rfl, ?_⟩
    obtain ⟨a', ha'⟩ := ab_rvr (base := base) (b := b) a
    have hw : ab_ws M' = Cond.code M'.1 M'.2.1 M'.2.2.1 none :: ab_tb := by unfold ab_ws; rw [l4]
    have hcw := cwI (R := R) (own := M.1.cls) (index := ix) (mc := mc) (ms := ms) (rm := ab_rm d mc ms) (M'.2.2.2.2 - 1) hts (ab_goodIn (ab_ws_in hmok)) hw rfl rfl (hts _ hmok.2.1) (hts _ l1) (hts _ l2) l3 ⟨hmok.2.2.2.1.1, hmok.2.2.2.1.2, l5⟩ ⟨hf, by have := hmok.2.2.2.2; show 8 + (M'.2.2.1 + 11) + 40 * d ≤ _; omega⟩
    rw [List.map_cons, ha'] at hPc ⊢
    exact va_runI (As := as'.map (ab_rv base b)) (rest := rest.map (ab_rv base b)) (b := a') ⟨hx, hb, hml, hown, hts⟩ (hM hmok) hcw ⟨ab_blind, hPc⟩ rfl (by rw [List.length_map]; rw [List.length_cons] at hlen; omega) hlC (by simp [ha']) (lv_room hW) hdg ⟨hc1, hs1⟩
set_option maxHeartbeats 4000000 in
theorem ab_run_sound {d : Nat} {cal : ab_cal} (hcal : ab_gc l dC dI cI cZ base b d cal) (hcle : ∀ M as h r h', cal M as h r h' → ab_le h h' ∧ (r = none ∨ ∃ z, r = some (.inl z))) {M : ab_M} {r : Option ab_V} {h' : ab_H} {mc ms : Nat}
    (hx : p.tables.exec = Jvm.exec) (hb : c.code = M.2.1) (hml : c.maxLocals = M.2.2.1) (hown : s.vm.findClass M.1.cls = some m.cls) (hnm : M.1.name = "<init>" → meth.name = "<init>") (hts : ∀ w ∈ ab_tb, w.before args s = true) (hRc : mc ≤ R.cells) (hRs : ms ≤ R.slots) (hRf : d + 1 ≤ R.frames) (hRl : 40 * (d + 1) ≤ R.locals)
    (hfin : ∀ (z : Int) (H1 : Heap) (locs1 : List Loc) (lsC1 : Array Slot) (pc1 : Nat), r = some (.inl z) → ab_ok z → (M.2.2.2.1 = some .int ∨ (M.2.2.2.1 = some .boolean ∧ (z = 0 ∨ z = 1))) → decode M.2.1 pc1 = .ok (.ireturn, 1) → ab_R dC dI cI cZ base b h' s H1 → va_S (fun q => base ≤ q) s.heap H1 locs1 → W p l e R s m args below meth c H1 locs1 mc ms Q (F0 m pc1 lsC1 [.int (Int32.ofInt z)]))
    (hfin0 : ∀ (H1 : Heap) (locs1 : List Loc) (lsC1 : Array Slot) (pc1 : Nat), r = none → M.2.2.2.1 = none → decode M.2.1 pc1 = .ok (.return_, 1) → ab_R dC dI cI cZ base b h' s H1 → va_S (fun q => base ≤ q) s.heap H1 locs1 → W p l e R s m args below meth c H1 locs1 mc ms Q (F0 m pc1 lsC1 [])) :
    ∀ (n pc : Nat) (ls : ab_L) (st : List ab_V) (h : ab_H), ab_run cal M n pc ls st h r h' → ∀ (H : Heap) (locs : List Loc) (cells slots : Nat) (lsC : Array Slot), ab_R dC dI cI cZ base b h s H → va_S (fun q => base ≤ q) s.heap H locs → ab_fr base b M.2.2.1 lsC ls st → cells + h'.1.length = mc + h.1.length → slots + ab_nS h'.1 = ms + ab_nS h.1 → W p l e R s m args below meth c H locs cells slots Q (F0 m pc lsC (st.map (ab_rv base b))) := by
  intro n
  induction n with
  | zero => intro _ _ _ _ h; exact h.elim
  | succ n ih =>
    intro pc ls st h hr H locs cells slots lsC hR hS hF hcc hss
    obtain ⟨i, len, hd, hr⟩ := hr
    rcases hr with ⟨p1, l1, s1, q, hr⟩ | ⟨s1, h1, q, hr⟩ | ⟨M', as, rest, r1, h1, q1, rfl, q3, q4, q5, hr⟩ | ⟨rfl, rfl, ⟨z, rfl, hz, hrt⟩, rfl⟩ | ⟨rfl, rfl, hrt, rfl, hz, rfl⟩
    · exact ab_ps_sound q hx hb hd hF (fun lsC1 hF1 => ih _ _ _ _ hr H locs cells slots lsC1 hR hS hF1 hcc hss)
    · have g1 := ab_hs_le q
      have g2 := (ab_run_le hcle hr).1
      have e1 := g1.1
      have e2 := g1.2
      have e3 := g2.1
      have e4 := g2.2
      exact ab_hs_sound q hx hb hml hts hown hnm hd hR hS hF (by omega) (by omega) (by omega) (by omega) (fun H1 locs1 k1 k2 k3 => ih _ _ _ _ hr H1 locs1 _ _ lsC k1 k2 k3 (by omega) (by omega))
    · have g1 := (hcle _ _ _ _ _ q5).1
      have g2 := (ab_run_le hcle hr).1
      have e1 := g1.1
      have e2 := g1.2
      have e3 := g2.1
      have e4 := g2.2
      have hoka : ∀ v ∈ as, ab_okv v := fun v hv => hF.2.2.2 v (List.mem_append_left _ (List.mem_reverse.mpr hv))
      have hokr : ∀ v ∈ rest, ab_okv v := fun v hv => hF.2.2.2 v (List.mem_append_right _ hv)
      obtain ⟨rfl, hrun⟩ := ab_iv_sound (R := R) (p := p) (e := e) (below := below) (meth := meth) (locs := locs) (cells := cells) (slots := slots) (d := d) (mc := h1.1.length - h.1.length) (ms := ab_nS h1.1 - ab_nS h.1) (r1 := r1) (h1 := h1) (rest := rest) q1 hx hb hml hF.1.1 hts hown hd hR q3 q4 hRf hRl (by omega) (by omega) (fun hmok => hcal M' as h r1 h1 q5 hoka hmok)
      refine ab_after hrun (hcle _ _ _ _ _ q5).2 hR.2.2.2.2.2.2 hS (fun H1 locs1 k1 k2 k3 => ?_)
      exact ih _ _ _ _ hr H1 locs1 _ _ lsC k1 k2 ⟨hF.1, hF.2.1, hF.2.2.1, fun v hv => (List.mem_append.mp hv).elim (k3 v) (hokr v)⟩ (by omega) (by omega)
    · have ec : cells = mc := by omega
      have es : slots = ms := by omega
      subst ec; subst es
      exact hfin z H locs lsC pc hz (hF.2.2.2 (.inl z) List.mem_cons_self) hrt hd hR hS
    · have ec : cells = mc := by omega
      have es : slots = ms := by omega
      subst ec; subst es
      exact hfin0 H locs lsC pc hz hrt hd hR hS
end AbRun
set_option maxHeartbeats 4000000 in
theorem ab_sound (l : Launch) (dC : Nat → ClassId) (dI : Nat → Nat → Nat) (cI cZ base b : Nat) : ∀ d : Nat, ab_gc l dC dI cI cZ base b d (ab_call d) := by
  intro d
  induction d with
  | zero => intro M as h r h' q; exact q.elim
  | succ d ih =>
    intro M as h r h' q hok hM
    obtain ⟨hlen, n, hr⟩ := q
    have hle := (ab_run_le (ab_call_le d) hr).1
    have e3 := hle.1
    have e4 := hle.2
    refine Met.ofW (cc := M.2.1) (maxL := M.2.2.1) (ret := M.2.2.2.1) hM.2.2.1 rfl ?_
    intro p e s m args below meth c s₁ B hml hv
    obtain ⟨rfl, hR⟩ := hv
    have hx := B.exec
    have hb := B.bytes
    have hret := B.returns
    have hts0 := atoms_spec (ws := ab_ws M) B.pre
    have hown : s.vm.findClass M.1.cls = some m.cls := findClass_of_methodNamed B.named
    have hlocks := B.notSynchronized
    have hnm : M.1.name = "<init>" → meth.name = "<init>" := fun q => ((name_of_methodNamed B.named B.method).1).trans q
    obtain ⟨lsC, he, hF⟩ := ab_entry (base := base) (b := b) m M as hlen hok
    rw [he]
    refine ab_run_sound (mc := h'.1.length - h.1.length) (ms := ab_nS h'.1 - ab_nS h.1) ih (ab_call_le d) hx hb hml hown hnm (fun w hw => hts0 w (List.mem_cons_of_mem _ hw)) (Nat.le_refl _) (Nat.le_refl _) (Nat.le_refl _) (Nat.le_refl _) ?_ ?_ n 0 _ _ _ hr s.heap [] 0 0 lsC hR va_S.rf hF (by omega) (by omega)
    · intro z H1 locs1 lsC1 pc1 hr1 hz hrt hdg hR1 hS1
      subst hr1
      rcases hrt with q | ⟨q, hz01⟩
      · exact W.iret hx hb (hret.trans q) (fun t ht hW => ⟨⟨_, (), rfl, ⟨rfl, hz⟩, by show ab_R dC dI cI cZ base b h' t t.heap; rw [ht]; exact hR1.warm hW⟩, hS1.F ht⟩) hS1.2.2 hdg
      · exact W.zret hx hb (hret.trans q) (by rcases hz01 with rfl | rfl <;> rfl) (fun t ht hW => ⟨⟨_, (), rfl, ⟨rfl, hz⟩, by show ab_R dC dI cI cZ base b h' t t.heap; rw [ht]; exact hR1.warm hW⟩, hS1.F ht⟩) hS1.2.2 hdg
    · intro H1 locs1 lsC1 pc1 hr1 hrt hdg hR1 hS1
      subst hr1
      exact W.vret hx hb (hret.trans hrt) (fun t ht hW => ⟨⟨(), rfl, trivial, by show ab_R dC dI cI cZ base b h' t t.heap; rw [ht]; exact hR1.warm hW⟩, hS1.F ht⟩) hS1.2.2 hdg
end
section
theorem ab_pure (L : Nat) (hL : L ≤ 3072) (M0 : Nat → Nat → Int) (hok : ∀ a k, ab_ok (M0 a k)) (hz : ∀ a k, a ≠ 0 → M0 a k = 0) : ∃ (n : Nat) (h' : ab_H), ab_run (ab_call 60) mL_law n 0 (ab_ent mL_law [.inr 0]) [] ([.inr (0, L)], M0) (some (.inl 1)) h' ∧ h'.1.length ≤ 1000 ∧ ab_nS h'.1 ≤ 200000 := by
  sorry
/-! THE CLAIM OUT OF ONE WALK OF THE LAW'S BODY. Your part is whole_start (and what it stands on); all else here is the same for every law, but numbers. -/
def R_law : String := "WeftShopLaw"
def lw_P (b : Addr) (xs : List Int32) (args : Array Value) (s : State) : Prop := args = #[.ref b] ∧ s.IntsAt b xs ∧ xs.length ≤ 3072 ∧ (Jvm.Cond.and given_1 narrow_1).before args s = true
def lw_Q (_ : Array Value) (s : State) (o : Outcome) (t : State) : Prop := o = .returned (some (.int 1)) ∧ Framed s o t [] 600000 7302250
def lw_Z (below : List Frame) (a : Array Value) (s : State) : State → Prop := fun t => ∃ o, t.status = .running ∧ Ended t below o ∧ lw_Q a s o t
/-- the law's own end, with 1 on the stack, nothing written that was there before, its room as the claim has it -/
theorem lw_ret {p : Program} {l : Launch} {e : Env} {s : State} {m : MethodId} {below : List Frame} {meth : Method} {c : Code} {b : Nat} (hx : p.tables.exec = Jvm.exec) (hb : c.code = code) (hr : meth.sig.returnType = ret) (hlocks : meth.locks = false) {pc : Nat} {H : Heap} {ls : Array Slot} (hdg : decode code pc = .ok (.ireturn, 1)) : W p l e room_1 s m #[Value.ref b] below meth c H [] 600000 7302250 (lw_Z below #[Value.ref b] s) (F0 m pc ls [.int 1]) := by
  intro T hT X
  obtain ⟨fs, hret, hrun, hended, hW, hframe⟩ := X.leave (v := some (.int 1)) (hlocks := hlocks) (fun h => by rw [hr] at h; cases h)
  have hmeth' : T.vm.method? m = some meth := X.method'
  refine ⟨T.setFrames fs, ?_, .returned (some (.int 1)), hrun, hended, rfl, ⟨_, rfl⟩, hW, hframe⟩
  jvm_step X.here [X.here.top, hx, hb, hdg, hmeth', hr, ret, narrow_b1]
  (try refine ⟨rfl, ?_⟩); (try refine ⟨rfl, ?_⟩)
  first | (intro acts; rw [hret _ acts rfl rfl rfl]) | rw [hret _ _ rfl rfl rfl]
  exact Steps.refl _
/-- what holds at the law's entry: the machine, the code, the tables' words (any of lw_tbl by 'hts w (by decide +kernel)'), the script of L ints xs at the cell b, what the Statement gives of the start (any of its parts by flat_of_before) -/
def lw_At (p : Program) (s : State) (m : MethodId) (meth : Method) (c : Code) (b L : Nat) (xs : Nat → Int32) : Prop :=
  p.tables.exec = Jvm.exec ∧ c.code = code ∧ meth.sig.returnType = ret ∧ c.maxLocals = 4 ∧ s.vm.findClass R_law = some m.cls ∧ (∀ w ∈ lw_tbl, w.before #[Value.ref b] s = true) ∧ va_X b L xs s s.heap ∧ b < s.heap.size ∧ meth.locks = false ∧ (Jvm.Cond.and given_1 narrow_1).before #[Value.ref b] s = true
/-- from the entry, for every script of at most 3072 ints, the law comes to its end with true -/
theorem whole_start {p : Program} {e : Env} {s : State} {m : MethodId} {below : List Frame} {meth : Method} {c : Code} (l : Launch) {b L : Nat} {xs : Nat → Int32} (hL : L ≤ 3072) (C0 : lw_At p s m meth c b L xs) : W p l e room_1 s m #[Value.ref b] below meth c s.heap [] 0 0 (lw_Z below #[Value.ref b] s) (entryFrame m ([Value.ref b] : List Value).toArray 4) := by
  obtain ⟨hx, hb, hr, hml, hown, hts0, hX, hbl, hlocks, hgv⟩ := id C0
  have hts : ∀ w ∈ ab_tb, w.before #[Value.ref b] s = true := fun w hw => hts0 w (List.mem_filter.mp hw).1
  obtain ⟨cI, kI, compI, fI, gI, tI⟩ := Cond.arrayClass_spec (hts _ ab_arr_int)
  obtain ⟨cZ, kZ, compZ, fZ, gZ, tZ⟩ := Cond.arrayClass_spec (hts _ ab_arr_boolean)
  have hKn : ∀ (ci : Nat) (C : String) (T : u_T) (N : Nat), ab_cok ci C T N → ∃ (cC : ClassId) (iS : Nat → Nat), u_Kn s C T N cC iS := fun ci C T N hc => u_known hts hc.2.1 (hts _ hc.2.2.2.2.1)
  obtain ⟨c0, i0, k0⟩ := hKn 0 _ _ _ cok_0
  obtain ⟨c1, i1, k1⟩ := hKn 1 _ _ _ cok_1
  obtain ⟨c2, i2, k2⟩ := hKn 2 _ _ _ cok_2
  obtain ⟨c3, i3, k3⟩ := hKn 3 _ _ _ cok_3
  obtain ⟨c4, i4, k4⟩ := hKn 4 _ _ _ cok_4
  obtain ⟨c5, i5, k5⟩ := hKn 5 _ _ _ cok_5
  obtain ⟨c6, i6, k6⟩ := hKn 6 _ _ _ cok_6
  obtain ⟨c7, i7, k7⟩ := hKn 7 _ _ _ cok_7
  obtain ⟨c8, i8, k8⟩ := hKn 8 _ _ _ cok_8
  obtain ⟨c9, i9, k9⟩ := hKn 9 _ _ _ cok_9
  obtain ⟨dC, dI, hKc⟩ : ∃ (dC : Nat → ClassId) (dI : Nat → Nat → Nat), ∀ (k : Nat) (q : vw_C), vwCl[k]? = some q → u_Kn s q.1 q.2.1 q.2.2 (dC k) (dI k) := by
    refine ⟨fun k => match k with
      | 0 => c0
      | 1 => c1
      | 2 => c2
      | 3 => c3
      | 4 => c4
      | 5 => c5
      | 6 => c6
      | 7 => c7
      | 8 => c8
      | _ => c9, fun k => match k with
      | 0 => i0
      | 1 => i1
      | 2 => i2
      | 3 => i3
      | 4 => i4
      | 5 => i5
      | 6 => i6
      | 7 => i7
      | 8 => i8
      | _ => i9, ?_⟩
    intro k q hq
    match k, hq with
    | 0, hq => cases hq; exact k0
    | 1, hq => cases hq; exact k1
    | 2, hq => cases hq; exact k2
    | 3, hq => cases hq; exact k3
    | 4, hq => cases hq; exact k4
    | 5, hq => cases hq; exact k5
    | 6, hq => cases hq; exact k6
    | 7, hq => cases hq; exact k7
    | 8, hq => cases hq; exact k8
    | 9, hq => cases hq; exact k9
    | k + 10, hq => simp [vwCl] at hq
  obtain ⟨n, h', hrun, hlen, hns⟩ := ab_pure L hL (fun a j => if a = 0 then (xs j).toInt else 0) (fun a k => by
    show ab_ok (if a = 0 then (xs k).toInt else 0)
    split
    · exact ab_ok_toInt _
    · exact ab_ok0) (fun a k ha => by simp [ha])
  have hle := (ab_run_le (ab_call_le 60) hrun).1
  have e3 := hle.1
  have e4 := hle.2
  have hR : ab_R dC dI cI cZ s.heap.size b ([.inr (0, L)], fun a j => if a = 0 then (xs j).toInt else 0) s s.heap := by
    refine ⟨⟨hKc, fun k q hk => ?_⟩, fun k cd hk => by simp at hk, rfl, ⟨L, rfl, ?_⟩, hbl, fun a k => ?_, fun w hw => ?_⟩
    · match k, hk with
      | 0, hk => cases hk; exact ⟨fun n z => ⟨fun k h => (by cases h), kI, gI, compI, tI⟩, fI⟩
      | 1, hk => cases hk; exact ⟨fun n z => ⟨fun k h => (by cases h), kZ, gZ, compZ, tZ⟩, fZ⟩
      | k + 2, hk => simp at hk
    · simpa using hX
    · show ab_ok (if a = 0 then (xs k).toInt else 0)
      split
      · exact ab_ok_toInt _
      · exact ab_ok0
    · have hon : w.onTables = true := by
        have hw2 := hw
        simp only [ab_nl, List.mem_cons, List.not_mem_nil, or_false] at hw2
        rcases hw2 with rfl | rfl | rfl | rfl <;> rfl
      exact va_Nw.of hon (hts0 w (ab_nl_in w hw))
  obtain ⟨lsC, he, hF⟩ := ab_entry (base := s.heap.size) (b := b) m mL_law [.inr 0] (by decide) (fun v hv => by simp at hv; subst hv; exact trivial)
  have he2 : entryFrame m ([Value.ref b] : List Value).toArray 4 = F0 m 0 lsC [] := he
  rw [he2]
  refine ab_run_sound (M := mL_law) (r := some (.inl 1)) (mc := h'.1.length - 1) (ms := ab_nS h'.1 - L) (ab_sound l dC dI cI cZ s.heap.size b 60) (ab_call_le 60) hx hb hml hown (fun q => absurd q (by decide)) hts ?_ ?_ ?_ ?_ ?_ ?_ n 0 _ _ _ hrun s.heap [] 0 0 lsC hR va_S.rf hF ?_ ?_
  · show _ ≤ 600000
    omega
  · show _ ≤ 7302250
    omega
  · show _ ≤ 2048
    omega
  · show _ ≤ 84000
    omega
  · intro z H1 locs1 lsC1 pc1 hz1 hz hrt hdg hR1 hS1
    cases hz1
    refine va_forget (fun q hq => hS1.2.2 q hq) ?_
    refine W.widen (k := 600000) (n := 7302250) (by omega) (by omega) ?_
    exact lw_ret hx hb hr hlocks hdg
  · intro H1 locs1 lsC1 pc1 hz1
    cases hz1
  · have : ([(.inr (0, L) : ab_CD)] : List ab_CD).length = 1 := rfl
    simp only [this] at e3 ⊢
    omega
  · have : ab_nS [(.inr (0, L) : ab_CD)] = L := by simp [ab_nS, ab_sz]
    simp only [this] at e4 ⊢
    omega
-- ===== YOUR PART ENDS =====
set_option maxHeartbeats 4000000 in
theorem lw_walk (l : Launch) (b : Addr) (xs : List Int32) : MetFree l x (headSpec (Jvm.Cond.code x code maxLocals ret :: tables_1) room_1) (lw_P b xs) (fun _ _ _ _ _ => True) lw_Q := by
  refine MetFree.of_bodyS (code := code) (maxLocals := maxLocals) (ret := ret) (by decide) ?_ ?_
  · intro args s m h hn
    obtain ⟨meth, c, h1, h2, h3, h4, h5, h6, -, -⟩ := Cond.code_spec hn (atoms_spec (ws := Jvm.Cond.code x code maxLocals ret :: tables_1) h _ List.mem_cons_self)
    exact ⟨meth, c, h1, h2, h3, h4, h5, h6⟩
  · intro p e s m args below meth c s₁ B hml0 hP _
    obtain ⟨rfl, hx, hbd, hgv⟩ := hP
    obtain ⟨scr, harrAt, hlist, hof, hsmall⟩ := hx
    obtain ⟨hcb, hkn, -, -⟩ := State.arrayAt?_spec harrAt
    have hown : s.vm.findClass R_law = some m.cls := findClass_of_methodNamed B.named
    have hts0 : ∀ c ∈ (Jvm.Cond.code x code maxLocals ret :: tables_1), c.before #[Value.ref b] s = true := atoms_spec (ws := Jvm.Cond.code x code maxLocals ret :: tables_1) B.pre
    have hts : ∀ w ∈ lw_tbl, w.before #[Value.ref b] s = true := k2_hts_sels lw_privs (fun w hw => hts0 w (List.mem_cons_of_mem _ hw)) lw_privs_ok
    have hml : c.maxLocals = 4 := B.maxLocals_eq (hts0 _ List.mem_cons_self)
    have X₀ : Stand p l e room_1 s m #[Value.ref b] below meth c s₁ [] 0 0 := Stand.of_body B
    have hh0 : s₁.heap = s.heap := by rw [B.state]; rfl
    have hsz : scr.slots.size = xs.length := by rw [← Array.length_toList, hlist, List.length_map]
    have hval : ∀ j : Nat, j < xs.length → scr.slots[j]? = some (.int (xs.getD j 0)) := fun j hj => by
      rw [← Array.getElem?_toList, hlist]
      simp [hj]
    have hbl : b < s.heap.size := (Array.getElem?_eq_some_iff.mp hcb).1
    have hX : va_X b xs.length (fun j => xs.getD j 0) s s.heap := ⟨scr, hcb, hof, hkn, hsz, hval⟩
    have K : W p l e room_1 s m #[Value.ref b] below meth c s₁.heap [] 0 0 (lw_Z below #[Value.ref b] s) (entryFrame m ([Value.ref b] : List Value).toArray 4) := by
      rw [hh0]
      exact whole_start l hbd ⟨B.exec, B.bytes, B.returns, hml, hown, hts, hX, hbl, B.notSynchronized, hgv⟩
    obtain ⟨t, a1, o, b1, b2, b3⟩ := K s₁ rfl X₀
    exact ⟨t, o, a1, b1, b2, b3⟩
theorem lw_pre_spec {args : Array Value} {s : State} (h : (Jvm.Cond.and given_1 narrow_1).before args s = true) (hr : rest_1_c.before args s = true) : ∃ (b : Addr) (xs : List Int32), lw_P b xs args s := by
  have hs := flat_of_before _ h
  have hq := flat_of_before _ hr
  have hc : (Cond.count 1).before args s = true := hs _ (by decide +kernel)
  have harr : (Cond.arrayOf (.arg 0) .int).before args s = true := hs _ (by decide +kernel)
  have hle : (Cond.le (.length (.arg 0)) (.int 3072)).before args s = true := hs _ (by decide +kernel)
  have hlen : (Cond.isInt (.length (.arg 0))).before args s = true := hq _ (by decide +kernel)
  have hall : (Cond.all (.arg 0) (.isInt (.elem (.arg 0) (.index 0)))).before args s = true := hq _ (by decide +kernel)
  obtain ⟨b, xs, hb, hx⟩ := State.ints_of_pre rfl harr hlen hall
  have hsm : xs.length < 2 ^ 31 := hx.choose_spec.2.2.2
  have hev : (Term.length (.arg 0)).eval args s none [] s = some (.int xs.length.toInt32) := hx.length_eval hb
  have hv := Cond.le_ints hev (show (Term.int 3072).eval args s none [] s = some (.int 3072) from rfl)
  have hd : xs.length.toInt32 ≤ 3072 := by
    simpa [Cond.before, Cond.holds, hv] using hle
  have hN : xs.length ≤ 3072 := (Int32.ofNat_le_ofNat hsm (by decide)).mp (show Int32.ofNat xs.length ≤ Int32.ofNat 3072 from hd)
  exact ⟨b, xs, Cond.one_arg hc (show args[0]? = some (.ref b) from hb), hx, hN, h⟩
theorem lw_comes (l : Launch) : Comes l x (Jvm.Cond.code x code maxLocals ret :: tables_1) room_1 (fun tb e args s => Calls_1 tb e args s ∧ rest_1 tb e args s ∧ Pre_1 tb e args s)
    (fun _ _ args s o t => lw_Q args s o t) := by
  intro p e ha hc hk s m args below hf hfit hheap happ hpre
  obtain ⟨b, xs, hP⟩ := lw_pre_spec hpre.2.2 hpre.2.1
  obtain ⟨k, o, h1, h2, h3, hQ⟩ := lw_walk l b xs p e ha hc hk s m args below hf ((Spec.applies_iff_loose hf).mp happ).1 hP trivial
  exact ⟨k, o, h1, h2, h3, hQ⟩
theorem lw_frame {s t : State} {o : Outcome} {args : Array Value} (h : Framed s o t [] 600000 7302250) :
    Framed s o t (fieldLocs frame_1_writes args s ++ arrayLocs frame_1_arrays args s ++ staticLocs frame_1_statics s) 600000 7302250 := h
theorem lw_limb (L : Cond) (hL : ∀ (args : Array Value) (s t : State), L.after args s (.returned (some (.int 1))) t = true) :
    ArmFor flags0 classFile x code maxLocals ret World_1 tables_1 room_1 Calls_1 rest_1 Pre_1
      (fun tb e a s o t => postC L tb e a s o t ∧ Framed s o t (fieldLocs frame_1_writes a s ++ arrayLocs frame_1_arrays a s ++ staticLocs frame_1_statics s) 600000 7302250) := by
  intro l _ _ _ p e ha hc hk s m args below hf hfit hheap happ hpre
  obtain ⟨k, o, h1, h2, h3, rfl, hF⟩ := lw_comes l p e ha hc hk s m args below hf hfit hheap happ hpre
  exact ⟨k, _, h1, h2, h3, hL args s _, lw_frame hF⟩
theorem i_vc : Claimed_1_1 ∧ Claimed_1_2 := ⟨lw_limb limb_1_1 (fun args s t => by simp [limb_1_1, Cond.after, Cond.holds, Cond.value]), lw_limb limb_1_2 (fun args s t => Cond.after_iff.mpr (by
  first | (rw [show limb_1_2 = Cond.eq .result (.int 1) from rfl, Cond.eq_ints (x := 1) (y := 1) rfl rfl]; simp; done) | (simp [limb_1_2, Cond.value, Term.eval]; done)))⟩
end
