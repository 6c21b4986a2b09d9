section
-- ===== PART A: goes FIRST, ahead of the names: the tables' words, and 'selects' of the private methods out of them =====
/-- a private method of a class that the tables say can be made, by its rows of tables_1 -/
def lw_okq (q : MethodName × Nat) : Prop := (q.1.cls ≠ "java/lang/invoke/MethodHandle" ∧ q.1.cls ≠ "java/lang/invoke/VarHandle") ∧ Cond.instantiable q.1.cls q.2 ∈ tables_1 ∧ Cond.privateMethod q.1 ∈ tables_1 ∧ Cond.instanceMethod q.1 ∈ tables_1
theorem lw_p0 : lw_okq (⟨"WeftShop", "addSlit", "(III)I"⟩, 8) := ⟨⟨by decide +kernel, by decide +kernel⟩, List.mem_of_getElem? (i := 15) (by decide +kernel), List.mem_of_getElem? (i := 382) (by decide +kernel), List.mem_of_getElem? (i := 383) (by decide +kernel)⟩
theorem lw_p1 : lw_okq (⟨"WeftShop$FieldMap", "spread", "(LWeftShop$Board;I)V"⟩, 8) := ⟨⟨by decide +kernel, by decide +kernel⟩, List.mem_of_getElem? (i := 154) (by decide +kernel), List.mem_of_getElem? (i := 408) (by decide +kernel), List.mem_of_getElem? (i := 409) (by decide +kernel)⟩
theorem lw_p2 : lw_okq (⟨"WeftShop$FieldMap", "join", "(I)V"⟩, 8) := ⟨⟨by decide +kernel, by decide +kernel⟩, List.mem_of_getElem? (i := 154) (by decide +kernel), List.mem_of_getElem? (i := 413) (by decide +kernel), List.mem_of_getElem? (i := 414) (by decide +kernel)⟩
theorem lw_p3 : lw_okq (⟨"WeftShop$FieldMap", "look", "(LWeftShop$Board;II)V"⟩, 8) := ⟨⟨by decide +kernel, by decide +kernel⟩, List.mem_of_getElem? (i := 154) (by decide +kernel), List.mem_of_getElem? (i := 417) (by decide +kernel), List.mem_of_getElem? (i := 418) (by decide +kernel)⟩
theorem lw_p4 : lw_okq (⟨"WeftShop", "findDealing", "(I)Z"⟩, 8) := ⟨⟨by decide +kernel, by decide +kernel⟩, List.mem_of_getElem? (i := 15) (by decide +kernel), List.mem_of_getElem? (i := 438) (by decide +kernel), List.mem_of_getElem? (i := 439) (by decide +kernel)⟩
theorem lw_p5 : lw_okq (⟨"WeftShop$Dealing", "gatherFields", "(ILWeftShop$FieldMap;)Z"⟩, 9) := ⟨⟨by decide +kernel, by decide +kernel⟩, List.mem_of_getElem? (i := 194) (by decide +kernel), List.mem_of_getElem? (i := 446) (by decide +kernel), List.mem_of_getElem? (i := 447) (by decide +kernel)⟩
theorem lw_p6 : lw_okq (⟨"WeftShop$Dealing", "gatherLots", "(ILWeftShop$Lots;)Z"⟩, 9) := ⟨⟨by decide +kernel, by decide +kernel⟩, List.mem_of_getElem? (i := 194) (by decide +kernel), List.mem_of_getElem? (i := 450) (by decide +kernel), List.mem_of_getElem? (i := 451) (by decide +kernel)⟩
theorem lw_p7 : lw_okq (⟨"WeftShop$Dealing", "weighSets", "(LWeftShop$FieldMap;)V"⟩, 9) := ⟨⟨by decide +kernel, by decide +kernel⟩, List.mem_of_getElem? (i := 194) (by decide +kernel), List.mem_of_getElem? (i := 454) (by decide +kernel), List.mem_of_getElem? (i := 455) (by decide +kernel)⟩
theorem lw_p8 : lw_okq (⟨"WeftShop$Dealing", "addLot", "(II)V"⟩, 9) := ⟨⟨by decide +kernel, by decide +kernel⟩, List.mem_of_getElem? (i := 194) (by decide +kernel), List.mem_of_getElem? (i := 458) (by decide +kernel), List.mem_of_getElem? (i := 459) (by decide +kernel)⟩
theorem lw_p9 : lw_okq (⟨"WeftShop$Dealing", "readChoices", "()V"⟩, 9) := ⟨⟨by decide +kernel, by decide +kernel⟩, List.mem_of_getElem? (i := 194) (by decide +kernel), List.mem_of_getElem? (i := 463) (by decide +kernel), List.mem_of_getElem? (i := 464) (by decide +kernel)⟩
theorem lw_p10 : lw_okq (⟨"WeftShop$Sharing", "takeIfBetter", "(II)V"⟩, 9) := ⟨⟨by decide +kernel, by decide +kernel⟩, List.mem_of_getElem? (i := 229) (by decide +kernel), List.mem_of_getElem? (i := 526) (by decide +kernel), List.mem_of_getElem? (i := 527) (by decide +kernel)⟩
theorem lw_p11 : lw_okq (⟨"WeftShop$Sharing", "daysOfStrip", "(LWeftShop$Weavers;III)I"⟩, 9) := ⟨⟨by decide +kernel, by decide +kernel⟩, List.mem_of_getElem? (i := 229) (by decide +kernel), List.mem_of_getElem? (i := 533) (by decide +kernel), List.mem_of_getElem? (i := 534) (by decide +kernel)⟩
theorem lw_p12 : lw_okq (⟨"WeftShop$Loom", "measure", "(LWeftShop$Board;I)V"⟩, 9) := ⟨⟨by decide +kernel, by decide +kernel⟩, List.mem_of_getElem? (i := 97) (by decide +kernel), List.mem_of_getElem? (i := 559) (by decide +kernel), List.mem_of_getElem? (i := 560) (by decide +kernel)⟩
theorem lw_p13 : lw_okq (⟨"WeftShop$Loom", "workInPick", "(LWeftShop$Board;III)I"⟩, 9) := ⟨⟨by decide +kernel, by decide +kernel⟩, List.mem_of_getElem? (i := 97) (by decide +kernel), List.mem_of_getElem? (i := 563) (by decide +kernel), List.mem_of_getElem? (i := 564) (by decide +kernel)⟩
theorem lw_p14 : lw_okq (⟨"WeftShop$Loom", "beginDay", "()V"⟩, 9) := ⟨⟨by decide +kernel, by decide +kernel⟩, List.mem_of_getElem? (i := 97) (by decide +kernel), List.mem_of_getElem? (i := 584) (by decide +kernel), List.mem_of_getElem? (i := 585) (by decide +kernel)⟩
theorem lw_p15 : lw_okq (⟨"WeftShop$Loom", "isTooFarAhead", "(II)Z"⟩, 9) := ⟨⟨by decide +kernel, by decide +kernel⟩, List.mem_of_getElem? (i := 97) (by decide +kernel), List.mem_of_getElem? (i := 592) (by decide +kernel), List.mem_of_getElem? (i := 593) (by decide +kernel)⟩
def lw_privs_1 : List (MethodName × Nat) := [(⟨"WeftShop", "addSlit", "(III)I"⟩, 8), (⟨"WeftShop$FieldMap", "spread", "(LWeftShop$Board;I)V"⟩, 8), (⟨"WeftShop$FieldMap", "join", "(I)V"⟩, 8), (⟨"WeftShop$FieldMap", "look", "(LWeftShop$Board;II)V"⟩, 8), (⟨"WeftShop", "findDealing", "(I)Z"⟩, 8), (⟨"WeftShop$Dealing", "gatherFields", "(ILWeftShop$FieldMap;)Z"⟩, 9), (⟨"WeftShop$Dealing", "gatherLots", "(ILWeftShop$Lots;)Z"⟩, 9), (⟨"WeftShop$Dealing", "weighSets", "(LWeftShop$FieldMap;)V"⟩, 9), (⟨"WeftShop$Dealing", "addLot", "(II)V"⟩, 9), (⟨"WeftShop$Dealing", "readChoices", "()V"⟩, 9), (⟨"WeftShop$Sharing", "takeIfBetter", "(II)V"⟩, 9), (⟨"WeftShop$Sharing", "daysOfStrip", "(LWeftShop$Weavers;III)I"⟩, 9), (⟨"WeftShop$Loom", "measure", "(LWeftShop$Board;I)V"⟩, 9), (⟨"WeftShop$Loom", "workInPick", "(LWeftShop$Board;III)I"⟩, 9), (⟨"WeftShop$Loom", "beginDay", "()V"⟩, 9), (⟨"WeftShop$Loom", "isTooFarAhead", "(II)Z"⟩, 9)]
theorem lw_r1 : ∀ q ∈ lw_privs_1, lw_okq q := List.forall_mem_cons.mpr ⟨lw_p0, List.forall_mem_cons.mpr ⟨lw_p1, List.forall_mem_cons.mpr ⟨lw_p2, List.forall_mem_cons.mpr ⟨lw_p3, List.forall_mem_cons.mpr ⟨lw_p4, List.forall_mem_cons.mpr ⟨lw_p5, List.forall_mem_cons.mpr ⟨lw_p6, List.forall_mem_cons.mpr ⟨lw_p7, List.forall_mem_cons.mpr ⟨lw_p8, List.forall_mem_cons.mpr ⟨lw_p9, List.forall_mem_cons.mpr ⟨lw_p10, List.forall_mem_cons.mpr ⟨lw_p11, List.forall_mem_cons.mpr ⟨lw_p12, List.forall_mem_cons.mpr ⟨lw_p13, List.forall_mem_cons.mpr ⟨lw_p14, List.forall_mem_cons.mpr ⟨lw_p15, fun _ h => absurd h List.not_mem_nil⟩⟩⟩⟩⟩⟩⟩⟩⟩⟩⟩⟩⟩⟩⟩⟩
theorem lw_p16 : lw_okq (⟨"WeftShop$Loom", "stripAt", "(I)I"⟩, 9) := ⟨⟨by decide +kernel, by decide +kernel⟩, List.mem_of_getElem? (i := 97) (by decide +kernel), List.mem_of_getElem? (i := 625) (by decide +kernel), List.mem_of_getElem? (i := 626) (by decide +kernel)⟩
theorem lw_p17 : lw_okq (⟨"WeftShop$Loom", "countWovenOf", "(LWeftShop$Board;I)I"⟩, 9) := ⟨⟨by decide +kernel, by decide +kernel⟩, List.mem_of_getElem? (i := 97) (by decide +kernel), List.mem_of_getElem? (i := 645) (by decide +kernel), List.mem_of_getElem? (i := 646) (by decide +kernel)⟩
theorem lw_p18 : lw_okq (⟨"WeftShopModel", "isSquare", "(II)Z"⟩, 44) := ⟨⟨by decide +kernel, by decide +kernel⟩, List.mem_of_getElem? (i := 684) (by decide +kernel), List.mem_of_getElem? (i := 834) (by decide +kernel), List.mem_of_getElem? (i := 835) (by decide +kernel)⟩
theorem lw_p19 : lw_okq (⟨"WeftShopModel", "spot", "(II)I"⟩, 44) := ⟨⟨by decide +kernel, by decide +kernel⟩, List.mem_of_getElem? (i := 684) (by decide +kernel), List.mem_of_getElem? (i := 838) (by decide +kernel), List.mem_of_getElem? (i := 839) (by decide +kernel)⟩
theorem lw_p20 : lw_okq (⟨"WeftShopModel", "toldAt", "(I)I"⟩, 44) := ⟨⟨by decide +kernel, by decide +kernel⟩, List.mem_of_getElem? (i := 684) (by decide +kernel), List.mem_of_getElem? (i := 850) (by decide +kernel), List.mem_of_getElem? (i := 851) (by decide +kernel)⟩
theorem lw_p21 : lw_okq (⟨"WeftShopModel", "slitFrom", "(II)I"⟩, 44) := ⟨⟨by decide +kernel, by decide +kernel⟩, List.mem_of_getElem? (i := 684) (by decide +kernel), List.mem_of_getElem? (i := 866) (by decide +kernel), List.mem_of_getElem? (i := 867) (by decide +kernel)⟩
theorem lw_p22 : lw_okq (⟨"WeftShopModel", "isUnlike", "(II)Z"⟩, 44) := ⟨⟨by decide +kernel, by decide +kernel⟩, List.mem_of_getElem? (i := 684) (by decide +kernel), List.mem_of_getElem? (i := 870) (by decide +kernel), List.mem_of_getElem? (i := 871) (by decide +kernel)⟩
theorem lw_p23 : lw_okq (⟨"WeftShopModel", "findFields", "()V"⟩, 44) := ⟨⟨by decide +kernel, by decide +kernel⟩, List.mem_of_getElem? (i := 684) (by decide +kernel), List.mem_of_getElem? (i := 882) (by decide +kernel), List.mem_of_getElem? (i := 883) (by decide +kernel)⟩
theorem lw_p24 : lw_okq (⟨"WeftShopModel", "lesser", "(III)I"⟩, 44) := ⟨⟨by decide +kernel, by decide +kernel⟩, List.mem_of_getElem? (i := 684) (by decide +kernel), List.mem_of_getElem? (i := 886) (by decide +kernel), List.mem_of_getElem? (i := 887) (by decide +kernel)⟩
theorem lw_p25 : lw_okq (⟨"WeftShopModel", "number", "()V"⟩, 44) := ⟨⟨by decide +kernel, by decide +kernel⟩, List.mem_of_getElem? (i := 684) (by decide +kernel), List.mem_of_getElem? (i := 890) (by decide +kernel), List.mem_of_getElem? (i := 891) (by decide +kernel)⟩
theorem lw_p26 : lw_okq (⟨"WeftShopModel", "sides", "(II)I"⟩, 44) := ⟨⟨by decide +kernel, by decide +kernel⟩, List.mem_of_getElem? (i := 684) (by decide +kernel), List.mem_of_getElem? (i := 894) (by decide +kernel), List.mem_of_getElem? (i := 895) (by decide +kernel)⟩
theorem lw_p27 : lw_okq (⟨"WeftShopModel", "findDealing", "(I)Z"⟩, 44) := ⟨⟨by decide +kernel, by decide +kernel⟩, List.mem_of_getElem? (i := 684) (by decide +kernel), List.mem_of_getElem? (i := 910) (by decide +kernel), List.mem_of_getElem? (i := 911) (by decide +kernel)⟩
theorem lw_p28 : lw_okq (⟨"WeftShopModel", "gather", "(I)Z"⟩, 44) := ⟨⟨by decide +kernel, by decide +kernel⟩, List.mem_of_getElem? (i := 684) (by decide +kernel), List.mem_of_getElem? (i := 914) (by decide +kernel), List.mem_of_getElem? (i := 915) (by decide +kernel)⟩
theorem lw_p29 : lw_okq (⟨"WeftShopModel", "yarnFrom", "(I)I"⟩, 44) := ⟨⟨by decide +kernel, by decide +kernel⟩, List.mem_of_getElem? (i := 684) (by decide +kernel), List.mem_of_getElem? (i := 918) (by decide +kernel), List.mem_of_getElem? (i := 919) (by decide +kernel)⟩
theorem lw_p30 : lw_okq (⟨"WeftShopModel", "findSharing", "()Z"⟩, 44) := ⟨⟨by decide +kernel, by decide +kernel⟩, List.mem_of_getElem? (i := 684) (by decide +kernel), List.mem_of_getElem? (i := 942) (by decide +kernel), List.mem_of_getElem? (i := 943) (by decide +kernel)⟩
theorem lw_p31 : lw_okq (⟨"WeftShopModel", "isTaken", "(II)Z"⟩, 44) := ⟨⟨by decide +kernel, by decide +kernel⟩, List.mem_of_getElem? (i := 684) (by decide +kernel), List.mem_of_getElem? (i := 946) (by decide +kernel), List.mem_of_getElem? (i := 947) (by decide +kernel)⟩
def lw_privs_2 : List (MethodName × Nat) := [(⟨"WeftShop$Loom", "stripAt", "(I)I"⟩, 9), (⟨"WeftShop$Loom", "countWovenOf", "(LWeftShop$Board;I)I"⟩, 9), (⟨"WeftShopModel", "isSquare", "(II)Z"⟩, 44), (⟨"WeftShopModel", "spot", "(II)I"⟩, 44), (⟨"WeftShopModel", "toldAt", "(I)I"⟩, 44), (⟨"WeftShopModel", "slitFrom", "(II)I"⟩, 44), (⟨"WeftShopModel", "isUnlike", "(II)Z"⟩, 44), (⟨"WeftShopModel", "findFields", "()V"⟩, 44), (⟨"WeftShopModel", "lesser", "(III)I"⟩, 44), (⟨"WeftShopModel", "number", "()V"⟩, 44), (⟨"WeftShopModel", "sides", "(II)I"⟩, 44), (⟨"WeftShopModel", "findDealing", "(I)Z"⟩, 44), (⟨"WeftShopModel", "gather", "(I)Z"⟩, 44), (⟨"WeftShopModel", "yarnFrom", "(I)I"⟩, 44), (⟨"WeftShopModel", "findSharing", "()Z"⟩, 44), (⟨"WeftShopModel", "isTaken", "(II)Z"⟩, 44)]
theorem lw_r2 : ∀ q ∈ lw_privs_2, lw_okq q := List.forall_mem_cons.mpr ⟨lw_p16, List.forall_mem_cons.mpr ⟨lw_p17, List.forall_mem_cons.mpr ⟨lw_p18, List.forall_mem_cons.mpr ⟨lw_p19, List.forall_mem_cons.mpr ⟨lw_p20, List.forall_mem_cons.mpr ⟨lw_p21, List.forall_mem_cons.mpr ⟨lw_p22, List.forall_mem_cons.mpr ⟨lw_p23, List.forall_mem_cons.mpr ⟨lw_p24, List.forall_mem_cons.mpr ⟨lw_p25, List.forall_mem_cons.mpr ⟨lw_p26, List.forall_mem_cons.mpr ⟨lw_p27, List.forall_mem_cons.mpr ⟨lw_p28, List.forall_mem_cons.mpr ⟨lw_p29, List.forall_mem_cons.mpr ⟨lw_p30, List.forall_mem_cons.mpr ⟨lw_p31, fun _ h => absurd h List.not_mem_nil⟩⟩⟩⟩⟩⟩⟩⟩⟩⟩⟩⟩⟩⟩⟩⟩
theorem lw_p32 : lw_okq (⟨"WeftShopModel", "daysOf", "(III)I"⟩, 44) := ⟨⟨by decide +kernel, by decide +kernel⟩, List.mem_of_getElem? (i := 684) (by decide +kernel), List.mem_of_getElem? (i := 950) (by decide +kernel), List.mem_of_getElem? (i := 951) (by decide +kernel)⟩
theorem lw_p33 : lw_okq (⟨"WeftShopModel", "hasFace", "(II)Z"⟩, 44) := ⟨⟨by decide +kernel, by decide +kernel⟩, List.mem_of_getElem? (i := 684) (by decide +kernel), List.mem_of_getElem? (i := 954) (by decide +kernel), List.mem_of_getElem? (i := 955) (by decide +kernel)⟩
theorem lw_p34 : lw_okq (⟨"WeftShopModel", "work", "(III)I"⟩, 44) := ⟨⟨by decide +kernel, by decide +kernel⟩, List.mem_of_getElem? (i := 684) (by decide +kernel), List.mem_of_getElem? (i := 958) (by decide +kernel), List.mem_of_getElem? (i := 959) (by decide +kernel)⟩
theorem lw_p35 : lw_okq (⟨"WeftShopModel", "workAt", "(II)I"⟩, 44) := ⟨⟨by decide +kernel, by decide +kernel⟩, List.mem_of_getElem? (i := 684) (by decide +kernel), List.mem_of_getElem? (i := 962) (by decide +kernel), List.mem_of_getElem? (i := 963) (by decide +kernel)⟩
theorem lw_p36 : lw_okq (⟨"WeftShopModel", "findWhole", "()V"⟩, 44) := ⟨⟨by decide +kernel, by decide +kernel⟩, List.mem_of_getElem? (i := 684) (by decide +kernel), List.mem_of_getElem? (i := 978) (by decide +kernel), List.mem_of_getElem? (i := 979) (by decide +kernel)⟩
theorem lw_p37 : lw_okq (⟨"WeftShopModel", "wholeOf", "(I)I"⟩, 44) := ⟨⟨by decide +kernel, by decide +kernel⟩, List.mem_of_getElem? (i := 684) (by decide +kernel), List.mem_of_getElem? (i := 982) (by decide +kernel), List.mem_of_getElem? (i := 983) (by decide +kernel)⟩
theorem lw_p38 : lw_okq (⟨"WeftShopModel", "allOf", "(I)I"⟩, 44) := ⟨⟨by decide +kernel, by decide +kernel⟩, List.mem_of_getElem? (i := 684) (by decide +kernel), List.mem_of_getElem? (i := 986) (by decide +kernel), List.mem_of_getElem? (i := 987) (by decide +kernel)⟩
theorem lw_p39 : lw_okq (⟨"WeftShopModel", "isAhead", "(I)Z"⟩, 44) := ⟨⟨by decide +kernel, by decide +kernel⟩, List.mem_of_getElem? (i := 684) (by decide +kernel), List.mem_of_getElem? (i := 990) (by decide +kernel), List.mem_of_getElem? (i := 991) (by decide +kernel)⟩
theorem lw_p40 : lw_okq (⟨"WeftShopModel", "isWoven", "(II)Z"⟩, 44) := ⟨⟨by decide +kernel, by decide +kernel⟩, List.mem_of_getElem? (i := 684) (by decide +kernel), List.mem_of_getElem? (i := 1002) (by decide +kernel), List.mem_of_getElem? (i := 1003) (by decide +kernel)⟩
theorem lw_p41 : lw_okq (⟨"WeftShopModel", "manyWoven", "()I"⟩, 44) := ⟨⟨by decide +kernel, by decide +kernel⟩, List.mem_of_getElem? (i := 684) (by decide +kernel), List.mem_of_getElem? (i := 1014) (by decide +kernel), List.mem_of_getElem? (i := 1015) (by decide +kernel)⟩
theorem lw_p42 : lw_okq (⟨"WeftShopModel", "manyFaces", "()I"⟩, 44) := ⟨⟨by decide +kernel, by decide +kernel⟩, List.mem_of_getElem? (i := 684) (by decide +kernel), List.mem_of_getElem? (i := 1018) (by decide +kernel), List.mem_of_getElem? (i := 1019) (by decide +kernel)⟩
def lw_privs_3 : List (MethodName × Nat) := [(⟨"WeftShopModel", "daysOf", "(III)I"⟩, 44), (⟨"WeftShopModel", "hasFace", "(II)Z"⟩, 44), (⟨"WeftShopModel", "work", "(III)I"⟩, 44), (⟨"WeftShopModel", "workAt", "(II)I"⟩, 44), (⟨"WeftShopModel", "findWhole", "()V"⟩, 44), (⟨"WeftShopModel", "wholeOf", "(I)I"⟩, 44), (⟨"WeftShopModel", "allOf", "(I)I"⟩, 44), (⟨"WeftShopModel", "isAhead", "(I)Z"⟩, 44), (⟨"WeftShopModel", "isWoven", "(II)Z"⟩, 44), (⟨"WeftShopModel", "manyWoven", "()I"⟩, 44), (⟨"WeftShopModel", "manyFaces", "()I"⟩, 44)]
theorem lw_r3 : ∀ q ∈ lw_privs_3, lw_okq q := List.forall_mem_cons.mpr ⟨lw_p32, List.forall_mem_cons.mpr ⟨lw_p33, List.forall_mem_cons.mpr ⟨lw_p34, List.forall_mem_cons.mpr ⟨lw_p35, List.forall_mem_cons.mpr ⟨lw_p36, List.forall_mem_cons.mpr ⟨lw_p37, List.forall_mem_cons.mpr ⟨lw_p38, List.forall_mem_cons.mpr ⟨lw_p39, List.forall_mem_cons.mpr ⟨lw_p40, List.forall_mem_cons.mpr ⟨lw_p41, List.forall_mem_cons.mpr ⟨lw_p42, fun _ h => absurd h List.not_mem_nil⟩⟩⟩⟩⟩⟩⟩⟩⟩⟩⟩
def lw_privs : List (MethodName × Nat) := lw_privs_1 ++ (lw_privs_2 ++ (lw_privs_3))
def lw_tbl : List Cond := k2_sels lw_privs ++ tables_1
theorem lw_privs_ok : ∀ q ∈ lw_privs, lw_okq q := by
  show ∀ q ∈ lw_privs_1 ++ (lw_privs_2 ++ (lw_privs_3)), lw_okq q
  exact List.forall_mem_append.mpr ⟨lw_r1, List.forall_mem_append.mpr ⟨lw_r2, lw_r3⟩⟩

def RX0 : String := "WeftShop$Board"
def TX0 : u_T := fun k => match k with
  | 0 => ("WeftShop$Board", "columns", "I", false)
  | 1 => ("WeftShop$Board", "rows", "I", false)
  | _ => ("WeftShop$Board", "squares", "[I", true)
def tyX0 : Nat → FieldType := fun k => match k with
  | 0 => .int
  | 1 => .int
  | _ => .array .int
theorem nmX0 : ∀ a, a < 3 → ∀ b, b < 3 → a ≠ b → (TX0 a).2.1 ≠ (TX0 b).2.1 := by decide +kernel
theorem tyX0_ok : ∀ k, k < 3 → parseFieldDescriptor (TX0 k).2.2.1 = some (tyX0 k) := by decide +kernel
abbrev cX0_init : ByteArray := prog_2_method_1_code
def yX0_init : MethodName := ⟨RX0, "<init>", "()V"⟩
abbrev cX0_renew : ByteArray := prog_2_method_2_code
def yX0_renew : MethodName := ⟨RX0, "renew", "(II)V"⟩
abbrev cX0_copyFrom : ByteArray := prog_2_method_3_code
def yX0_copyFrom : MethodName := ⟨RX0, "copyFrom", "(LWeftShop$Board;)V"⟩
abbrev cX0_hasSquare : ByteArray := prog_2_method_4_code
def yX0_hasSquare : MethodName := ⟨RX0, "hasSquare", "(II)Z"⟩
abbrev cX0_cellOfCartoon : ByteArray := prog_2_method_5_code
def yX0_cellOfCartoon : MethodName := ⟨RX0, "cellOfCartoon", "(II)I"⟩
abbrev cX0_colourAt : ByteArray := prog_2_method_6_code
def yX0_colourAt : MethodName := ⟨RX0, "colourAt", "(I)I"⟩
abbrev cX0_hasFace : ByteArray := prog_2_method_7_code
def yX0_hasFace : MethodName := ⟨RX0, "hasFace", "(I)Z"⟩
abbrev cX0_workAt : ByteArray := prog_2_method_8_code
def yX0_workAt : MethodName := ⟨RX0, "workAt", "(I)I"⟩
abbrev cX0_dip : ByteArray := prog_2_method_9_code
def yX0_dip : MethodName := ⟨RX0, "dip", "(II)V"⟩
abbrev cX0_turnFace : ByteArray := prog_2_method_10_code
def yX0_turnFace : MethodName := ⟨RX0, "turnFace", "(I)V"⟩
abbrev cX0_countFaces : ByteArray := prog_2_method_11_code
def yX0_countFaces : MethodName := ⟨RX0, "countFaces", "()I"⟩
abbrev cX0_facesOfWarp : ByteArray := prog_2_method_12_code
def yX0_facesOfWarp : MethodName := ⟨RX0, "facesOfWarp", "(I)I"⟩
abbrev cX0_workOfWarp : ByteArray := prog_2_method_13_code
def yX0_workOfWarp : MethodName := ⟨RX0, "workOfWarp", "(I)I"⟩
abbrev cX0_isSlitAt : ByteArray := prog_2_method_14_code
def yX0_isSlitAt : MethodName := ⟨RX0, "isSlitAt", "(II)Z"⟩
abbrev cX0_slitLength : ByteArray := prog_2_method_15_code
def yX0_slitLength : MethodName := ⟨RX0, "slitLength", "(II)I"⟩
abbrev cX0_lengthOfSlitFrom : ByteArray := prog_2_method_16_code
def yX0_lengthOfSlitFrom : MethodName := ⟨RX0, "lengthOfSlitFrom", "(II)I"⟩
def RX1 : String := "WeftShop$Dealing"
def TX1 : u_T := fun k => match k with
  | 0 => ("WeftShop$Dealing", "fieldCount", "I", false)
  | 1 => ("WeftShop$Dealing", "fieldNumbers", "[I", true)
  | 2 => ("WeftShop$Dealing", "gotten", "[I", true)
  | 3 => ("WeftShop$Dealing", "lotCount", "I", false)
  | 4 => ("WeftShop$Dealing", "lotNumbers", "[I", true)
  | 5 => ("WeftShop$Dealing", "yarnOfSet", "[I", true)
  | 6 => ("WeftShop$Dealing", "orderOfSet", "[I", true)
  | 7 => ("WeftShop$Dealing", "bestOfSet", "[I", true)
  | _ => ("WeftShop$Dealing", "choices", "[I", true)
def tyX1 : Nat → FieldType := fun k => match k with
  | 0 => .int
  | 1 => .array .int
  | 2 => .array .int
  | 3 => .int
  | 4 => .array .int
  | 5 => .array .int
  | 6 => .array .int
  | 7 => .array .int
  | _ => .array .int
theorem nmX1 : ∀ a, a < 9 → ∀ b, b < 9 → a ≠ b → (TX1 a).2.1 ≠ (TX1 b).2.1 := by decide +kernel
theorem tyX1_ok : ∀ k, k < 9 → parseFieldDescriptor (TX1 k).2.2.1 = some (tyX1 k) := by decide +kernel
abbrev cX1_init : ByteArray := prog_3_method_1_code
def yX1_init : MethodName := ⟨RX1, "<init>", "()V"⟩
abbrev cX1_find : ByteArray := prog_3_method_2_code
def yX1_find : MethodName := ⟨RX1, "find", "(ILWeftShop$FieldMap;LWeftShop$Lots;)Z"⟩
abbrev cX1_gatherFields : ByteArray := prog_3_method_3_code
def yX1_gatherFields : MethodName := ⟨RX1, "gatherFields", "(ILWeftShop$FieldMap;)Z"⟩
abbrev cX1_gatherLots : ByteArray := prog_3_method_4_code
def yX1_gatherLots : MethodName := ⟨RX1, "gatherLots", "(ILWeftShop$Lots;)Z"⟩
abbrev cX1_weighSets : ByteArray := prog_3_method_5_code
def yX1_weighSets : MethodName := ⟨RX1, "weighSets", "(LWeftShop$FieldMap;)V"⟩
abbrev cX1_addLot : ByteArray := prog_3_method_6_code
def yX1_addLot : MethodName := ⟨RX1, "addLot", "(II)V"⟩
abbrev cX1_readChoices : ByteArray := prog_3_method_7_code
def yX1_readChoices : MethodName := ⟨RX1, "readChoices", "()V"⟩
abbrev cX1_lotFor : ByteArray := prog_3_method_8_code
def yX1_lotFor : MethodName := ⟨RX1, "lotFor", "(I)I"⟩
abbrev cX1_yarnFrom : ByteArray := prog_3_method_9_code
def yX1_yarnFrom : MethodName := ⟨RX1, "yarnFrom", "(ILWeftShop$FieldMap;)I"⟩
abbrev cX1_yarnInAll : ByteArray := prog_3_method_10_code
def yX1_yarnInAll : MethodName := ⟨RX1, "yarnInAll", "(LWeftShop$FieldMap;)I"⟩
abbrev cX1_countServed : ByteArray := prog_3_method_11_code
def yX1_countServed : MethodName := ⟨RX1, "countServed", "()I"⟩
def RX2 : String := "WeftShop$FieldMap"
def TX2 : u_T := fun k => match k with
  | 0 => ("WeftShop$FieldMap", "count", "I", false)
  | 1 => ("WeftShop$FieldMap", "fieldAt", "[I", true)
  | 2 => ("WeftShop$FieldMap", "colours", "[I", true)
  | 3 => ("WeftShop$FieldMap", "areas", "[I", true)
  | 4 => ("WeftShop$FieldMap", "yarns", "[I", true)
  | 5 => ("WeftShop$FieldMap", "leastPlaces", "[I", true)
  | 6 => ("WeftShop$FieldMap", "queue", "[I", true)
  | _ => ("WeftShop$FieldMap", "queued", "I", false)
def tyX2 : Nat → FieldType := fun k => match k with
  | 0 => .int
  | 1 => .array .int
  | 2 => .array .int
  | 3 => .array .int
  | 4 => .array .int
  | 5 => .array .int
  | 6 => .array .int
  | _ => .int
theorem nmX2 : ∀ a, a < 8 → ∀ b, b < 8 → a ≠ b → (TX2 a).2.1 ≠ (TX2 b).2.1 := by decide +kernel
theorem tyX2_ok : ∀ k, k < 8 → parseFieldDescriptor (TX2 k).2.2.1 = some (tyX2 k) := by decide +kernel
abbrev cX2_init : ByteArray := prog_4_method_1_code
def yX2_init : MethodName := ⟨RX2, "<init>", "()V"⟩
abbrev cX2_find : ByteArray := prog_4_method_2_code
def yX2_find : MethodName := ⟨RX2, "find", "(LWeftShop$Board;)V"⟩
abbrev cX2_spread : ByteArray := prog_4_method_3_code
def yX2_spread : MethodName := ⟨RX2, "spread", "(LWeftShop$Board;I)V"⟩
abbrev cX2_look : ByteArray := prog_4_method_4_code
def yX2_look : MethodName := ⟨RX2, "look", "(LWeftShop$Board;II)V"⟩
abbrev cX2_join : ByteArray := prog_4_method_5_code
def yX2_join : MethodName := ⟨RX2, "join", "(I)V"⟩
def RX3 : String := "WeftShop$Loom"
def TX3 : u_T := fun k => match k with
  | 0 => ("WeftShop$Loom", "strips", "I", false)
  | 1 => ("WeftShop$Loom", "days", "I", false)
  | 2 => ("WeftShop$Loom", "weavers", "[I", true)
  | 3 => ("WeftShop$Loom", "firstWarps", "[I", true)
  | 4 => ("WeftShop$Loom", "widths", "[I", true)
  | 5 => ("WeftShop$Loom", "done", "[I", true)
  | 6 => ("WeftShop$Loom", "picks", "I", false)
  | 7 => ("WeftShop$Loom", "workBelow", "[I", true)
  | _ => ("WeftShop$Loom", "wholeAtDawn", "[I", true)
def tyX3 : Nat → FieldType := fun k => match k with
  | 0 => .int
  | 1 => .int
  | 2 => .array .int
  | 3 => .array .int
  | 4 => .array .int
  | 5 => .array .int
  | 6 => .int
  | 7 => .array .int
  | _ => .array .int
theorem nmX3 : ∀ a, a < 9 → ∀ b, b < 9 → a ≠ b → (TX3 a).2.1 ≠ (TX3 b).2.1 := by decide +kernel
theorem tyX3_ok : ∀ k, k < 9 → parseFieldDescriptor (TX3 k).2.2.1 = some (tyX3 k) := by decide +kernel
abbrev cX3_init : ByteArray := prog_5_method_1_code
def yX3_init : MethodName := ⟨RX3, "<init>", "()V"⟩
abbrev cX3_isUp : ByteArray := prog_5_method_2_code
def yX3_isUp : MethodName := ⟨RX3, "isUp", "()Z"⟩
abbrev cX3_takeDown : ByteArray := prog_5_method_3_code
def yX3_takeDown : MethodName := ⟨RX3, "takeDown", "()V"⟩
abbrev cX3_setUp : ByteArray := prog_5_method_4_code
def yX3_setUp : MethodName := ⟨RX3, "setUp", "(LWeftShop$Sharing;LWeftShop$Board;)V"⟩
abbrev cX3_measure : ByteArray := prog_5_method_5_code
def yX3_measure : MethodName := ⟨RX3, "measure", "(LWeftShop$Board;I)V"⟩
abbrev cX3_workInPick : ByteArray := prog_5_method_6_code
def yX3_workInPick : MethodName := ⟨RX3, "workInPick", "(LWeftShop$Board;III)I"⟩
abbrev cX3_workOf : ByteArray := prog_5_method_7_code
def yX3_workOf : MethodName := ⟨RX3, "workOf", "(I)I"⟩
abbrev cX3_wholePicks : ByteArray := prog_5_method_8_code
def yX3_wholePicks : MethodName := ⟨RX3, "wholePicks", "(I)I"⟩
abbrev cX3_fewestWholePicks : ByteArray := prog_5_method_9_code
def yX3_fewestWholePicks : MethodName := ⟨RX3, "fewestWholePicks", "()I"⟩
abbrev cX3_weaveDay : ByteArray := prog_5_method_10_code
def yX3_weaveDay : MethodName := ⟨RX3, "weaveDay", "(LWeftShop$Weavers;I)V"⟩
abbrev cX3_wouldGoOn : ByteArray := prog_5_method_11_code
def yX3_wouldGoOn : MethodName := ⟨RX3, "wouldGoOn", "(II)Z"⟩
abbrev cX3_beginDay : ByteArray := prog_5_method_12_code
def yX3_beginDay : MethodName := ⟨RX3, "beginDay", "()V"⟩
abbrev cX3_isTooFarAhead : ByteArray := prog_5_method_13_code
def yX3_isTooFarAhead : MethodName := ⟨RX3, "isTooFarAhead", "(II)Z"⟩
abbrev cX3_isWoven : ByteArray := prog_5_method_14_code
def yX3_isWoven : MethodName := ⟨RX3, "isWoven", "(LWeftShop$Board;II)Z"⟩
abbrev cX3_stripAt : ByteArray := prog_5_method_15_code
def yX3_stripAt : MethodName := ⟨RX3, "stripAt", "(I)I"⟩
abbrev cX3_countWoven : ByteArray := prog_5_method_16_code
def yX3_countWoven : MethodName := ⟨RX3, "countWoven", "(LWeftShop$Board;)I"⟩
abbrev cX3_countWovenOf : ByteArray := prog_5_method_17_code
def yX3_countWovenOf : MethodName := ⟨RX3, "countWovenOf", "(LWeftShop$Board;I)I"⟩
abbrev cX3_unweaveFrom : ByteArray := prog_5_method_18_code
def yX3_unweaveFrom : MethodName := ⟨RX3, "unweaveFrom", "(II)I"⟩
abbrev cX3_copyFrom : ByteArray := prog_5_method_19_code
def yX3_copyFrom : MethodName := ⟨RX3, "copyFrom", "(LWeftShop$Loom;)V"⟩
def RX4 : String := "WeftShop$Lots"
def TX4 : u_T := fun k => match k with
  | 0 => ("WeftShop$Lots", "count", "I", false)
  | 1 => ("WeftShop$Lots", "colours", "[I", true)
  | _ => ("WeftShop$Lots", "yarns", "[I", true)
def tyX4 : Nat → FieldType := fun k => match k with
  | 0 => .int
  | 1 => .array .int
  | _ => .array .int
theorem nmX4 : ∀ a, a < 3 → ∀ b, b < 3 → a ≠ b → (TX4 a).2.1 ≠ (TX4 b).2.1 := by decide +kernel
theorem tyX4_ok : ∀ k, k < 3 → parseFieldDescriptor (TX4 k).2.2.1 = some (tyX4 k) := by decide +kernel
abbrev cX4_init : ByteArray := prog_6_method_1_code
def yX4_init : MethodName := ⟨RX4, "<init>", "()V"⟩
abbrev cX4_add : ByteArray := prog_6_method_2_code
def yX4_add : MethodName := ⟨RX4, "add", "(II)I"⟩
abbrev cX4_copyFrom : ByteArray := prog_6_method_3_code
def yX4_copyFrom : MethodName := ⟨RX4, "copyFrom", "(LWeftShop$Lots;)V"⟩
def RX5 : String := "WeftShop$Sharing"
def TX5 : u_T := fun k => match k with
  | 0 => ("WeftShop$Sharing", "days", "I", false)
  | 1 => ("WeftShop$Sharing", "strips", "I", false)
  | 2 => ("WeftShop$Sharing", "weavers", "[I", true)
  | 3 => ("WeftShop$Sharing", "widths", "[I", true)
  | 4 => ("WeftShop$Sharing", "columns", "I", false)
  | 5 => ("WeftShop$Sharing", "workTo", "[I", true)
  | 6 => ("WeftShop$Sharing", "facesTo", "[I", true)
  | 7 => ("WeftShop$Sharing", "triedWeavers", "[I", true)
  | _ => ("WeftShop$Sharing", "triedWidths", "[I", true)
def tyX5 : Nat → FieldType := fun k => match k with
  | 0 => .int
  | 1 => .int
  | 2 => .array .int
  | 3 => .array .int
  | 4 => .int
  | 5 => .array .int
  | 6 => .array .int
  | 7 => .array .int
  | _ => .array .int
theorem nmX5 : ∀ a, a < 9 → ∀ b, b < 9 → a ≠ b → (TX5 a).2.1 ≠ (TX5 b).2.1 := by decide +kernel
theorem tyX5_ok : ∀ k, k < 9 → parseFieldDescriptor (TX5 k).2.2.1 = some (tyX5 k) := by decide +kernel
abbrev cX5_init : ByteArray := prog_7_method_1_code
def yX5_init : MethodName := ⟨RX5, "<init>", "()V"⟩
abbrev cX5_find : ByteArray := prog_7_method_2_code
def yX5_find : MethodName := ⟨RX5, "find", "(LWeftShop$Board;LWeftShop$Weavers;)Z"⟩
abbrev cX5_tryFrom : ByteArray := prog_7_method_3_code
def yX5_tryFrom : MethodName := ⟨RX5, "tryFrom", "(LWeftShop$Sharing;LWeftShop$Weavers;IIII)V"⟩
abbrev cX5_daysOfStrip : ByteArray := prog_7_method_4_code
def yX5_daysOfStrip : MethodName := ⟨RX5, "daysOfStrip", "(LWeftShop$Weavers;III)I"⟩
abbrev cX5_takeIfBetter : ByteArray := prog_7_method_5_code
def yX5_takeIfBetter : MethodName := ⟨RX5, "takeIfBetter", "(II)V"⟩
abbrev cX5_weaverAt : ByteArray := prog_7_method_6_code
def yX5_weaverAt : MethodName := ⟨RX5, "weaverAt", "(I)I"⟩
def RX6 : String := "WeftShop$Shop"
def TX6 : u_T := fun k => match k with
  | 0 => ("WeftShop$Shop", "board", "LWeftShop$Board;", true)
  | 1 => ("WeftShop$Shop", "lots", "LWeftShop$Lots;", true)
  | 2 => ("WeftShop$Shop", "weavers", "LWeftShop$Weavers;", true)
  | _ => ("WeftShop$Shop", "loom", "LWeftShop$Loom;", true)
def tyX6 : Nat → FieldType := fun k => match k with
  | 0 => .object "WeftShop$Board"
  | 1 => .object "WeftShop$Lots"
  | 2 => .object "WeftShop$Weavers"
  | _ => .object "WeftShop$Loom"
theorem nmX6 : ∀ a, a < 4 → ∀ b, b < 4 → a ≠ b → (TX6 a).2.1 ≠ (TX6 b).2.1 := by decide +kernel
theorem tyX6_ok : ∀ k, k < 4 → parseFieldDescriptor (TX6 k).2.2.1 = some (tyX6 k) := by decide +kernel
abbrev cX6_init : ByteArray := prog_8_method_1_code
def yX6_init : MethodName := ⟨RX6, "<init>", "()V"⟩
abbrev cX6_copyFrom : ByteArray := prog_8_method_2_code
def yX6_copyFrom : MethodName := ⟨RX6, "copyFrom", "(LWeftShop$Shop;)V"⟩
def RX7 : String := "WeftShop$Weavers"
def TX7 : u_T := fun k => match k with
  | 0 => ("WeftShop$Weavers", "count", "I", false)
  | 1 => ("WeftShop$Weavers", "speeds", "[I", true)
  | _ => ("WeftShop$Weavers", "masters", "[Z", true)
def tyX7 : Nat → FieldType := fun k => match k with
  | 0 => .int
  | 1 => .array .int
  | _ => .array .boolean
theorem nmX7 : ∀ a, a < 3 → ∀ b, b < 3 → a ≠ b → (TX7 a).2.1 ≠ (TX7 b).2.1 := by decide +kernel
theorem tyX7_ok : ∀ k, k < 3 → parseFieldDescriptor (TX7 k).2.2.1 = some (tyX7 k) := by decide +kernel
abbrev cX7_init : ByteArray := prog_9_method_1_code
def yX7_init : MethodName := ⟨RX7, "<init>", "()V"⟩
abbrev cX7_add : ByteArray := prog_9_method_2_code
def yX7_add : MethodName := ⟨RX7, "add", "(IZ)I"⟩
abbrev cX7_daysFor : ByteArray := prog_9_method_3_code
def yX7_daysFor : MethodName := ⟨RX7, "daysFor", "(II)I"⟩
abbrev cX7_copyFrom : ByteArray := prog_9_method_4_code
def yX7_copyFrom : MethodName := ⟨RX7, "copyFrom", "(LWeftShop$Weavers;)V"⟩
def RX8 : String := "WeftShop"
def TX8 : u_T := fun k => match k with
  | 0 => ("WeftShop", "now", "LWeftShop$Shop;", true)
  | 1 => ("WeftShop", "kept", "LWeftShop$Shop;", true)
  | 2 => ("WeftShop", "hasKept", "Z", false)
  | 3 => ("WeftShop", "longestOpen", "I", false)
  | 4 => ("WeftShop", "gap", "I", false)
  | 5 => ("WeftShop", "fields", "LWeftShop$FieldMap;", true)
  | 6 => ("WeftShop", "dealing", "LWeftShop$Dealing;", true)
  | _ => ("WeftShop", "sharing", "LWeftShop$Sharing;", true)
def tyX8 : Nat → FieldType := fun k => match k with
  | 0 => .object "WeftShop$Shop"
  | 1 => .object "WeftShop$Shop"
  | 2 => .boolean
  | 3 => .int
  | 4 => .int
  | 5 => .object "WeftShop$FieldMap"
  | 6 => .object "WeftShop$Dealing"
  | _ => .object "WeftShop$Sharing"
theorem nmX8 : ∀ a, a < 8 → ∀ b, b < 8 → a ≠ b → (TX8 a).2.1 ≠ (TX8 b).2.1 := by decide +kernel
theorem tyX8_ok : ∀ k, k < 8 → parseFieldDescriptor (TX8 k).2.2.1 = some (tyX8 k) := by decide +kernel
abbrev cX8_init : ByteArray := prog_1_method_1_code
def yX8_init : MethodName := ⟨RX8, "<init>", "()V"⟩
abbrev cX8_size : ByteArray := prog_1_method_2_code
def yX8_size : MethodName := ⟨RX8, "size", "(II)I"⟩
abbrev cX8_paint : ByteArray := prog_1_method_3_code
def yX8_paint : MethodName := ⟨RX8, "paint", "(IIIII)I"⟩
abbrev cX8_face : ByteArray := prog_1_method_4_code
def yX8_face : MethodName := ⟨RX8, "face", "(IIZ)I"⟩
abbrev cX8_cartoon : ByteArray := prog_1_method_5_code
def yX8_cartoon : MethodName := ⟨RX8, "cartoon", "(II)I"⟩
abbrev cX8_loom : ByteArray := prog_1_method_6_code
def yX8_loom : MethodName := ⟨RX8, "loom", "(II)I"⟩
abbrev cX8_rule : ByteArray := prog_1_method_7_code
def yX8_rule : MethodName := ⟨RX8, "rule", "(II)I"⟩
abbrev cX8_slits : ByteArray := prog_1_method_8_code
def yX8_slits : MethodName := ⟨RX8, "slits", "(I)I"⟩
abbrev cX8_slit : ByteArray := prog_1_method_9_code
def yX8_slit : MethodName := ⟨RX8, "slit", "(II)I"⟩
abbrev cX8_field : ByteArray := prog_1_method_10_code
def yX8_field : MethodName := ⟨RX8, "field", "(II)I"⟩
abbrev cX8_of : ByteArray := prog_1_method_11_code
def yX8_of : MethodName := ⟨RX8, "of", "(II)I"⟩
abbrev cX8_dye : ByteArray := prog_1_method_12_code
def yX8_dye : MethodName := ⟨RX8, "dye", "(II)I"⟩
abbrev cX8_lot : ByteArray := prog_1_method_13_code
def yX8_lot : MethodName := ⟨RX8, "lot", "(II)I"⟩
abbrev cX8_deal : ByteArray := prog_1_method_14_code
def yX8_deal : MethodName := ⟨RX8, "deal", "(I)I"⟩
abbrev cX8_dealt : ByteArray := prog_1_method_15_code
def yX8_dealt : MethodName := ⟨RX8, "dealt", "(II)I"⟩
abbrev cX8_weaver : ByteArray := prog_1_method_16_code
def yX8_weaver : MethodName := ⟨RX8, "weaver", "(IZ)I"⟩
abbrev cX8_speed : ByteArray := prog_1_method_17_code
def yX8_speed : MethodName := ⟨RX8, "speed", "(II)I"⟩
abbrev cX8_share : ByteArray := prog_1_method_18_code
def yX8_share : MethodName := ⟨RX8, "share", "(I)I"⟩
abbrev cX8_who : ByteArray := prog_1_method_19_code
def yX8_who : MethodName := ⟨RX8, "who", "(I)I"⟩
abbrev cX8_up : ByteArray := prog_1_method_20_code
def yX8_up : MethodName := ⟨RX8, "up", "()I"⟩
abbrev cX8_days : ByteArray := prog_1_method_21_code
def yX8_days : MethodName := ⟨RX8, "days", "(I)I"⟩
abbrev cX8_strip : ByteArray := prog_1_method_22_code
def yX8_strip : MethodName := ⟨RX8, "strip", "(II)I"⟩
abbrev cX8_woven : ByteArray := prog_1_method_23_code
def yX8_woven : MethodName := ⟨RX8, "woven", "(II)I"⟩
abbrev cX8_unweave : ByteArray := prog_1_method_24_code
def yX8_unweave : MethodName := ⟨RX8, "unweave", "(II)I"⟩
abbrev cX8_many : ByteArray := prog_1_method_25_code
def yX8_many : MethodName := ⟨RX8, "many", "(I)I"⟩
abbrev cX8_keep : ByteArray := prog_1_method_26_code
def yX8_keep : MethodName := ⟨RX8, "keep", "()I"⟩
abbrev cX8_back : ByteArray := prog_1_method_27_code
def yX8_back : MethodName := ⟨RX8, "back", "()I"⟩
abbrev cX8_findDealing : ByteArray := prog_1_method_28_code
def yX8_findDealing : MethodName := ⟨RX8, "findDealing", "(I)Z"⟩
abbrev cX8_isFromTo : ByteArray := prog_1_method_29_code
def yX8_isFromTo : MethodName := ⟨RX8, "isFromTo", "(III)Z"⟩
abbrev cX8_isBelow : ByteArray := prog_1_method_30_code
def yX8_isBelow : MethodName := ⟨RX8, "isBelow", "(II)Z"⟩
abbrev cX8_isColour : ByteArray := prog_1_method_31_code
def yX8_isColour : MethodName := ⟨RX8, "isColour", "(I)Z"⟩
abbrev cX8_isOnBoard : ByteArray := prog_1_method_32_code
def yX8_isOnBoard : MethodName := ⟨RX8, "isOnBoard", "(III)Z"⟩
abbrev cX8_cellOf : ByteArray := prog_1_method_33_code
def yX8_cellOf : MethodName := ⟨RX8, "cellOf", "(II)I"⟩
abbrev cX8_addSlit : ByteArray := prog_1_method_34_code
def yX8_addSlit : MethodName := ⟨RX8, "addSlit", "(III)I"⟩
def RX9 : String := "WeftShopModel"
def TX9 : u_T := fun k => match k with
  | 0 => ("WeftShopModel", "columns", "I", false)
  | 1 => ("WeftShopModel", "rows", "I", false)
  | 2 => ("WeftShopModel", "colours", "[I", true)
  | 3 => ("WeftShopModel", "faces", "[Z", true)
  | 4 => ("WeftShopModel", "lots", "I", false)
  | 5 => ("WeftShopModel", "lotColour", "[I", true)
  | 6 => ("WeftShopModel", "lotYarn", "[I", true)
  | 7 => ("WeftShopModel", "weavers", "I", false)
  | 8 => ("WeftShopModel", "speeds", "[I", true)
  | 9 => ("WeftShopModel", "masters", "[Z", true)
  | 10 => ("WeftShopModel", "seam", "I", false)
  | 11 => ("WeftShopModel", "lead", "I", false)
  | 12 => ("WeftShopModel", "strips", "I", false)
  | 13 => ("WeftShopModel", "since", "I", false)
  | 14 => ("WeftShopModel", "stripWeaver", "[I", true)
  | 15 => ("WeftShopModel", "stripFirst", "[I", true)
  | 16 => ("WeftShopModel", "stripWarps", "[I", true)
  | 17 => ("WeftShopModel", "done", "[I", true)
  | 18 => ("WeftShopModel", "isKept", "Z", false)
  | 19 => ("WeftShopModel", "keptNumbers", "[I", true)
  | 20 => ("WeftShopModel", "keptBoard", "[I", true)
  | 21 => ("WeftShopModel", "keptLots", "[I", true)
  | 22 => ("WeftShopModel", "keptWeavers", "[I", true)
  | 23 => ("WeftShopModel", "keptStrips", "[I", true)
  | 24 => ("WeftShopModel", "fields", "I", false)
  | 25 => ("WeftShopModel", "fieldAt", "[I", true)
  | 26 => ("WeftShopModel", "least", "[I", true)
  | 27 => ("WeftShopModel", "squares", "[I", true)
  | 28 => ("WeftShopModel", "yarns", "[I", true)
  | 29 => ("WeftShopModel", "theseFields", "I", false)
  | 30 => ("WeftShopModel", "theseField", "[I", true)
  | 31 => ("WeftShopModel", "theseLots", "I", false)
  | 32 => ("WeftShopModel", "theseLot", "[I", true)
  | 33 => ("WeftShopModel", "left", "[I", true)
  | 34 => ("WeftShopModel", "choice", "[I", true)
  | 35 => ("WeftShopModel", "best", "[I", true)
  | 36 => ("WeftShopModel", "bestYarn", "I", false)
  | 37 => ("WeftShopModel", "option", "[I", true)
  | 38 => ("WeftShopModel", "firsts", "[I", true)
  | 39 => ("WeftShopModel", "daysTo", "[I", true)
  | 40 => ("WeftShopModel", "shared", "[I", true)
  | 41 => ("WeftShopModel", "sharedMany", "I", false)
  | 42 => ("WeftShopModel", "sharedDays", "I", false)
  | _ => ("WeftShopModel", "whole", "[I", true)
def tyX9 : Nat → FieldType := fun k => match k with
  | 0 => .int
  | 1 => .int
  | 2 => .array .int
  | 3 => .array .boolean
  | 4 => .int
  | 5 => .array .int
  | 6 => .array .int
  | 7 => .int
  | 8 => .array .int
  | 9 => .array .boolean
  | 10 => .int
  | 11 => .int
  | 12 => .int
  | 13 => .int
  | 14 => .array .int
  | 15 => .array .int
  | 16 => .array .int
  | 17 => .array .int
  | 18 => .boolean
  | 19 => .array .int
  | 20 => .array .int
  | 21 => .array .int
  | 22 => .array .int
  | 23 => .array .int
  | 24 => .int
  | 25 => .array .int
  | 26 => .array .int
  | 27 => .array .int
  | 28 => .array .int
  | 29 => .int
  | 30 => .array .int
  | 31 => .int
  | 32 => .array .int
  | 33 => .array .int
  | 34 => .array .int
  | 35 => .array .int
  | 36 => .int
  | 37 => .array .int
  | 38 => .array .int
  | 39 => .array .int
  | 40 => .array .int
  | 41 => .int
  | 42 => .int
  | _ => .array .int
theorem nmX9 : ∀ a, a < 44 → ∀ b, b < 44 → a ≠ b → (TX9 a).2.1 ≠ (TX9 b).2.1 := by decide +kernel
theorem tyX9_ok : ∀ k, k < 44 → parseFieldDescriptor (TX9 k).2.2.1 = some (tyX9 k) := by decide +kernel
abbrev cX9_init : ByteArray := prog_11_method_1_code
def yX9_init : MethodName := ⟨RX9, "<init>", "()V"⟩
abbrev cX9_in : ByteArray := prog_11_method_2_code
def yX9_in : MethodName := ⟨RX9, "in", "(III)Z"⟩
abbrev cX9_isSquare : ByteArray := prog_11_method_3_code
def yX9_isSquare : MethodName := ⟨RX9, "isSquare", "(II)Z"⟩
abbrev cX9_spot : ByteArray := prog_11_method_4_code
def yX9_spot : MethodName := ⟨RX9, "spot", "(II)I"⟩
abbrev cX9_size : ByteArray := prog_11_method_5_code
def yX9_size : MethodName := ⟨RX9, "size", "(II)I"⟩
abbrev cX9_paint : ByteArray := prog_11_method_6_code
def yX9_paint : MethodName := ⟨RX9, "paint", "(IIIII)I"⟩
abbrev cX9_face : ByteArray := prog_11_method_7_code
def yX9_face : MethodName := ⟨RX9, "face", "(IIZ)I"⟩
abbrev cX9_toldAt : ByteArray := prog_11_method_8_code
def yX9_toldAt : MethodName := ⟨RX9, "toldAt", "(I)I"⟩
abbrev cX9_cartoon : ByteArray := prog_11_method_9_code
def yX9_cartoon : MethodName := ⟨RX9, "cartoon", "(II)I"⟩
abbrev cX9_loom : ByteArray := prog_11_method_10_code
def yX9_loom : MethodName := ⟨RX9, "loom", "(II)I"⟩
abbrev cX9_rule : ByteArray := prog_11_method_11_code
def yX9_rule : MethodName := ⟨RX9, "rule", "(II)I"⟩
abbrev cX9_isUnlike : ByteArray := prog_11_method_12_code
def yX9_isUnlike : MethodName := ⟨RX9, "isUnlike", "(II)Z"⟩
abbrev cX9_slitFrom : ByteArray := prog_11_method_13_code
def yX9_slitFrom : MethodName := ⟨RX9, "slitFrom", "(II)I"⟩
abbrev cX9_slits : ByteArray := prog_11_method_14_code
def yX9_slits : MethodName := ⟨RX9, "slits", "(I)I"⟩
abbrev cX9_slit : ByteArray := prog_11_method_15_code
def yX9_slit : MethodName := ⟨RX9, "slit", "(II)I"⟩
abbrev cX9_findFields : ByteArray := prog_11_method_16_code
def yX9_findFields : MethodName := ⟨RX9, "findFields", "()V"⟩
abbrev cX9_lesser : ByteArray := prog_11_method_17_code
def yX9_lesser : MethodName := ⟨RX9, "lesser", "(III)I"⟩
abbrev cX9_number : ByteArray := prog_11_method_18_code
def yX9_number : MethodName := ⟨RX9, "number", "()V"⟩
abbrev cX9_sides : ByteArray := prog_11_method_19_code
def yX9_sides : MethodName := ⟨RX9, "sides", "(II)I"⟩
abbrev cX9_field : ByteArray := prog_11_method_20_code
def yX9_field : MethodName := ⟨RX9, "field", "(II)I"⟩
abbrev cX9_of : ByteArray := prog_11_method_21_code
def yX9_of : MethodName := ⟨RX9, "of", "(II)I"⟩
abbrev cX9_dye : ByteArray := prog_11_method_22_code
def yX9_dye : MethodName := ⟨RX9, "dye", "(II)I"⟩
abbrev cX9_gather : ByteArray := prog_11_method_23_code
def yX9_gather : MethodName := ⟨RX9, "gather", "(I)Z"⟩
abbrev cX9_yarnFrom : ByteArray := prog_11_method_24_code
def yX9_yarnFrom : MethodName := ⟨RX9, "yarnFrom", "(I)I"⟩
abbrev cX9_findDealing : ByteArray := prog_11_method_25_code
def yX9_findDealing : MethodName := ⟨RX9, "findDealing", "(I)Z"⟩
abbrev cX9_lot : ByteArray := prog_11_method_26_code
def yX9_lot : MethodName := ⟨RX9, "lot", "(II)I"⟩
abbrev cX9_deal : ByteArray := prog_11_method_27_code
def yX9_deal : MethodName := ⟨RX9, "deal", "(I)I"⟩
abbrev cX9_dealt : ByteArray := prog_11_method_28_code
def yX9_dealt : MethodName := ⟨RX9, "dealt", "(II)I"⟩
abbrev cX9_weaver : ByteArray := prog_11_method_29_code
def yX9_weaver : MethodName := ⟨RX9, "weaver", "(IZ)I"⟩
abbrev cX9_speed : ByteArray := prog_11_method_30_code
def yX9_speed : MethodName := ⟨RX9, "speed", "(II)I"⟩
abbrev cX9_workAt : ByteArray := prog_11_method_31_code
def yX9_workAt : MethodName := ⟨RX9, "workAt", "(II)I"⟩
abbrev cX9_work : ByteArray := prog_11_method_32_code
def yX9_work : MethodName := ⟨RX9, "work", "(III)I"⟩
abbrev cX9_hasFace : ByteArray := prog_11_method_33_code
def yX9_hasFace : MethodName := ⟨RX9, "hasFace", "(II)Z"⟩
abbrev cX9_daysOf : ByteArray := prog_11_method_34_code
def yX9_daysOf : MethodName := ⟨RX9, "daysOf", "(III)I"⟩
abbrev cX9_isTaken : ByteArray := prog_11_method_35_code
def yX9_isTaken : MethodName := ⟨RX9, "isTaken", "(II)Z"⟩
abbrev cX9_findSharing : ByteArray := prog_11_method_36_code
def yX9_findSharing : MethodName := ⟨RX9, "findSharing", "()Z"⟩
abbrev cX9_share : ByteArray := prog_11_method_37_code
def yX9_share : MethodName := ⟨RX9, "share", "(I)I"⟩
abbrev cX9_who : ByteArray := prog_11_method_38_code
def yX9_who : MethodName := ⟨RX9, "who", "(I)I"⟩
abbrev cX9_up : ByteArray := prog_11_method_39_code
def yX9_up : MethodName := ⟨RX9, "up", "()I"⟩
abbrev cX9_allOf : ByteArray := prog_11_method_40_code
def yX9_allOf : MethodName := ⟨RX9, "allOf", "(I)I"⟩
abbrev cX9_wholeOf : ByteArray := prog_11_method_41_code
def yX9_wholeOf : MethodName := ⟨RX9, "wholeOf", "(I)I"⟩
abbrev cX9_findWhole : ByteArray := prog_11_method_42_code
def yX9_findWhole : MethodName := ⟨RX9, "findWhole", "()V"⟩
abbrev cX9_isAhead : ByteArray := prog_11_method_43_code
def yX9_isAhead : MethodName := ⟨RX9, "isAhead", "(I)Z"⟩
abbrev cX9_days : ByteArray := prog_11_method_44_code
def yX9_days : MethodName := ⟨RX9, "days", "(I)I"⟩
abbrev cX9_strip : ByteArray := prog_11_method_45_code
def yX9_strip : MethodName := ⟨RX9, "strip", "(II)I"⟩
abbrev cX9_isWoven : ByteArray := prog_11_method_46_code
def yX9_isWoven : MethodName := ⟨RX9, "isWoven", "(II)Z"⟩
abbrev cX9_woven : ByteArray := prog_11_method_47_code
def yX9_woven : MethodName := ⟨RX9, "woven", "(II)I"⟩
abbrev cX9_unweave : ByteArray := prog_11_method_48_code
def yX9_unweave : MethodName := ⟨RX9, "unweave", "(II)I"⟩
abbrev cX9_manyWoven : ByteArray := prog_11_method_49_code
def yX9_manyWoven : MethodName := ⟨RX9, "manyWoven", "()I"⟩
abbrev cX9_manyFaces : ByteArray := prog_11_method_50_code
def yX9_manyFaces : MethodName := ⟨RX9, "manyFaces", "()I"⟩
abbrev cX9_many : ByteArray := prog_11_method_51_code
def yX9_many : MethodName := ⟨RX9, "many", "(I)I"⟩
abbrev cX9_keep : ByteArray := prog_11_method_52_code
def yX9_keep : MethodName := ⟨RX9, "keep", "()I"⟩
abbrev cX9_back : ByteArray := prog_11_method_53_code
def yX9_back : MethodName := ⟨RX9, "back", "()I"⟩
def RJ9 : String := "java/lang/Math"
abbrev cJ9_max_7cf53 : ByteArray := prog_12_method_65_code
def yJ9_max_7cf53 : MethodName := ⟨RJ9, "max", "(II)I"⟩
abbrev cJ9_min_7cf53 : ByteArray := prog_12_method_69_code
def yJ9_min_7cf53 : MethodName := ⟨RJ9, "min", "(II)I"⟩
def RJ10 : String := "java/lang/System"
def RJ7 : String := "java/util/Arrays"
abbrev cJ7_fill_53178 : ByteArray := prog_14_method_103_code
def yJ7_fill_53178 : MethodName := ⟨RJ7, "fill", "([II)V"⟩
def RL : String := "WeftShopLaw"
abbrev cL_law : ByteArray := code
def yL_law : MethodName := ⟨RL, "law", "([I)Z"⟩
abbrev vwCl : List vw_C := [(RX0, TX0, 3), (RX1, TX1, 9), (RX2, TX2, 8), (RX3, TX3, 9), (RX4, TX4, 3), (RX5, TX5, 9), (RX6, TX6, 4), (RX7, TX7, 3), (RX8, TX8, 8), (RX9, TX9, 44)]
def ab_tb : List Cond := lw_tbl.filter goodWord
theorem ab_in {w : Cond} (i : Nat) (h : lw_tbl[i]? = some w) (g : goodWord w = true) : w ∈ ab_tb := List.mem_filter.mpr ⟨List.mem_of_getElem? h, g⟩
theorem ab_in0 {w : Cond} (i : Nat) (h : (k2_sels lw_privs)[i]? = some w) (g : goodWord w = true) : w ∈ ab_tb := List.mem_filter.mpr ⟨List.mem_append_left _ (List.mem_of_getElem? h), g⟩
theorem ab_in1 {w : Cond} (i : Nat) (h : tables_1_1[i]? = some w) (g : goodWord w = true) : w ∈ ab_tb := List.mem_filter.mpr ⟨List.mem_append_right _ (List.mem_append_left _ (List.mem_of_getElem? h)), g⟩
theorem ab_in2 {w : Cond} (i : Nat) (h : tables_1_2[i]? = some w) (g : goodWord w = true) : w ∈ ab_tb := List.mem_filter.mpr ⟨List.mem_append_right _ (List.mem_append_right _ (List.mem_append_left _ (List.mem_of_getElem? h))), g⟩
theorem ab_in3 {w : Cond} (i : Nat) (h : tables_1_3[i]? = some w) (g : goodWord w = true) : w ∈ ab_tb := List.mem_filter.mpr ⟨List.mem_append_right _ (List.mem_append_right _ (List.mem_append_right _ (List.mem_append_left _ (List.mem_of_getElem? h)))), g⟩
theorem ab_in4 {w : Cond} (i : Nat) (h : tables_1_4[i]? = some w) (g : goodWord w = true) : w ∈ ab_tb := List.mem_filter.mpr ⟨List.mem_append_right _ (List.mem_append_right _ (List.mem_append_right _ (List.mem_append_right _ (List.mem_append_left _ (List.mem_of_getElem? h))))), g⟩
theorem ab_in5 {w : Cond} (i : Nat) (h : tables_1_5[i]? = some w) (g : goodWord w = true) : w ∈ ab_tb := List.mem_filter.mpr ⟨List.mem_append_right _ (List.mem_append_right _ (List.mem_append_right _ (List.mem_append_right _ (List.mem_append_right _ (List.mem_of_getElem? h))))), g⟩
def ab_ty : Nat → Nat → FieldType := fun c => match c with
  | 0 => tyX0
  | 1 => tyX1
  | 2 => tyX2
  | 3 => tyX3
  | 4 => tyX4
  | 5 => tyX5
  | 6 => tyX6
  | 7 => tyX7
  | 8 => tyX8
  | _ => tyX9
abbrev ab_M : Type := MethodName × ByteArray × Nat × Option FieldType × Nat
def ab_mok (M : ab_M) : Prop := Cond.code M.1 M.2.1 M.2.2.1 M.2.2.2.1 ∈ ab_tb ∧ Cond.initialized M.1.cls ∈ ab_tb ∧ plainName M.1.cls = true ∧ (M.1.cls ≠ "java/lang/invoke/MethodHandle" ∧ M.1.cls ≠ "java/lang/invoke/VarHandle") ∧ M.2.2.1 ≤ 20
def mX0_init : ab_M := (yX0_init, cX0_init, 1, none, 1)
theorem mokX0_init : ab_mok mX0_init := ⟨(ab_in1 32 rfl rfl), (ab_in1 3 rfl rfl), by decide, ⟨by decide, by decide⟩, by decide⟩
def mX0_renew : ab_M := (yX0_renew, cX0_renew, 3, none, 3)
theorem mokX0_renew : ab_mok mX0_renew := ⟨(ab_in2 63 rfl rfl), (ab_in1 3 rfl rfl), by decide, ⟨by decide, by decide⟩, by decide⟩
def mX0_copyFrom : ab_M := (yX0_copyFrom, cX0_copyFrom, 2, none, 2)
theorem mokX0_copyFrom : ab_mok mX0_copyFrom := ⟨(ab_in3 183 rfl rfl), (ab_in1 3 rfl rfl), by decide, ⟨by decide, by decide⟩, by decide⟩
def mX0_hasSquare : ab_M := (yX0_hasSquare, cX0_hasSquare, 3, (some .boolean), 3)
theorem mokX0_hasSquare : ab_mok mX0_hasSquare := ⟨(ab_in2 102 rfl rfl), (ab_in1 3 rfl rfl), by decide, ⟨by decide, by decide⟩, by decide⟩
def mX0_cellOfCartoon : ab_M := (yX0_cellOfCartoon, cX0_cellOfCartoon, 3, (some .int), 3)
theorem mokX0_cellOfCartoon : ab_mok mX0_cellOfCartoon := ⟨(ab_in2 87 rfl rfl), (ab_in1 3 rfl rfl), by decide, ⟨by decide, by decide⟩, by decide⟩
def mX0_colourAt : ab_M := (yX0_colourAt, cX0_colourAt, 2, (some .int), 2)
theorem mokX0_colourAt : ab_mok mX0_colourAt := ⟨(ab_in2 140 rfl rfl), (ab_in1 3 rfl rfl), by decide, ⟨by decide, by decide⟩, by decide⟩
def mX0_hasFace : ab_M := (yX0_hasFace, cX0_hasFace, 2, (some .boolean), 2)
theorem mokX0_hasFace : ab_mok mX0_hasFace := ⟨(ab_in2 107 rfl rfl), (ab_in1 3 rfl rfl), by decide, ⟨by decide, by decide⟩, by decide⟩
def mX0_workAt : ab_M := (yX0_workAt, cX0_workAt, 2, (some .int), 2)
theorem mokX0_workAt : ab_mok mX0_workAt := ⟨(ab_in3 90 rfl rfl), (ab_in1 3 rfl rfl), by decide, ⟨by decide, by decide⟩, by decide⟩
def mX0_dip : ab_M := (yX0_dip, cX0_dip, 3, none, 3)
theorem mokX0_dip : ab_mok mX0_dip := ⟨(ab_in2 94 rfl rfl), (ab_in1 3 rfl rfl), by decide, ⟨by decide, by decide⟩, by decide⟩
def mX0_turnFace : ab_M := (yX0_turnFace, cX0_turnFace, 2, none, 2)
theorem mokX0_turnFace : ab_mok mX0_turnFace := ⟨(ab_in2 111 rfl rfl), (ab_in1 3 rfl rfl), by decide, ⟨by decide, by decide⟩, by decide⟩
def mX0_countFaces : ab_M := (yX0_countFaces, cX0_countFaces, 3, (some .int), 1)
theorem mokX0_countFaces : ab_mok mX0_countFaces := ⟨(ab_in3 171 rfl rfl), (ab_in1 3 rfl rfl), by decide, ⟨by decide, by decide⟩, by decide⟩
def mX0_facesOfWarp : ab_M := (yX0_facesOfWarp, cX0_facesOfWarp, 4, (some .int), 2)
theorem mokX0_facesOfWarp : ab_mok mX0_facesOfWarp := ⟨(ab_in3 39 rfl rfl), (ab_in1 3 rfl rfl), by decide, ⟨by decide, by decide⟩, by decide⟩
def mX0_workOfWarp : ab_M := (yX0_workOfWarp, cX0_workOfWarp, 2, (some .int), 2)
theorem mokX0_workOfWarp : ab_mok mX0_workOfWarp := ⟨(ab_in3 35 rfl rfl), (ab_in1 3 rfl rfl), by decide, ⟨by decide, by decide⟩, by decide⟩
def mX0_isSlitAt : ab_M := (yX0_isSlitAt, cX0_isSlitAt, 3, (some .boolean), 3)
theorem mokX0_isSlitAt : ab_mok mX0_isSlitAt := ⟨(ab_in2 136 rfl rfl), (ab_in1 3 rfl rfl), by decide, ⟨by decide, by decide⟩, by decide⟩
def mX0_slitLength : ab_M := (yX0_slitLength, cX0_slitLength, 4, (some .int), 3)
theorem mokX0_slitLength : ab_mok mX0_slitLength := ⟨(ab_in2 155 rfl rfl), (ab_in1 3 rfl rfl), by decide, ⟨by decide, by decide⟩, by decide⟩
def mX0_lengthOfSlitFrom : ab_M := (yX0_lengthOfSlitFrom, cX0_lengthOfSlitFrom, 4, (some .int), 3)
theorem mokX0_lengthOfSlitFrom : ab_mok mX0_lengthOfSlitFrom := ⟨(ab_in2 132 rfl rfl), (ab_in1 3 rfl rfl), by decide, ⟨by decide, by decide⟩, by decide⟩
def mX1_init : ab_M := (yX1_init, cX1_init, 1, none, 1)
theorem mokX1_init : ab_mok mX1_init := ⟨(ab_in1 197 rfl rfl), (ab_in1 8 rfl rfl), by decide, ⟨by decide, by decide⟩, by decide⟩
def mX1_find : ab_M := (yX1_find, cX1_find, 5, (some .boolean), 4)
theorem mokX1_find : ab_mok mX1_find := ⟨(ab_in2 204 rfl rfl), (ab_in1 8 rfl rfl), by decide, ⟨by decide, by decide⟩, by decide⟩
def mX1_gatherFields : ab_M := (yX1_gatherFields, cX1_gatherFields, 4, (some .boolean), 3)
theorem mokX1_gatherFields : ab_mok mX1_gatherFields := ⟨(ab_in2 208 rfl rfl), (ab_in1 8 rfl rfl), by decide, ⟨by decide, by decide⟩, by decide⟩
def mX1_gatherLots : ab_M := (yX1_gatherLots, cX1_gatherLots, 4, (some .boolean), 3)
theorem mokX1_gatherLots : ab_mok mX1_gatherLots := ⟨(ab_in2 212 rfl rfl), (ab_in1 8 rfl rfl), by decide, ⟨by decide, by decide⟩, by decide⟩
def mX1_weighSets : ab_M := (yX1_weighSets, cX1_weighSets, 7, none, 2)
theorem mokX1_weighSets : ab_mok mX1_weighSets := ⟨(ab_in2 216 rfl rfl), (ab_in1 8 rfl rfl), by decide, ⟨by decide, by decide⟩, by decide⟩
def mX1_addLot : ab_M := (yX1_addLot, cX1_addLot, 8, none, 3)
theorem mokX1_addLot : ab_mok mX1_addLot := ⟨(ab_in2 220 rfl rfl), (ab_in1 8 rfl rfl), by decide, ⟨by decide, by decide⟩, by decide⟩
def mX1_readChoices : ab_M := (yX1_readChoices, cX1_readChoices, 5, none, 1)
theorem mokX1_readChoices : ab_mok mX1_readChoices := ⟨(ab_in2 225 rfl rfl), (ab_in1 8 rfl rfl), by decide, ⟨by decide, by decide⟩, by decide⟩
def mX1_lotFor : ab_M := (yX1_lotFor, cX1_lotFor, 3, (some .int), 2)
theorem mokX1_lotFor : ab_mok mX1_lotFor := ⟨(ab_in2 238 rfl rfl), (ab_in1 8 rfl rfl), by decide, ⟨by decide, by decide⟩, by decide⟩
def mX1_yarnFrom : ab_M := (yX1_yarnFrom, cX1_yarnFrom, 5, (some .int), 3)
theorem mokX1_yarnFrom : ab_mok mX1_yarnFrom := ⟨(ab_in2 230 rfl rfl), (ab_in1 8 rfl rfl), by decide, ⟨by decide, by decide⟩, by decide⟩
def mX1_yarnInAll : ab_M := (yX1_yarnInAll, cX1_yarnInAll, 4, (some .int), 2)
theorem mokX1_yarnInAll : ab_mok mX1_yarnInAll := ⟨(ab_in3 6 rfl rfl), (ab_in1 8 rfl rfl), by decide, ⟨by decide, by decide⟩, by decide⟩
def mX1_countServed : ab_M := (yX1_countServed, cX1_countServed, 3, (some .int), 1)
theorem mokX1_countServed : ab_mok mX1_countServed := ⟨(ab_in3 11 rfl rfl), (ab_in1 8 rfl rfl), by decide, ⟨by decide, by decide⟩, by decide⟩
def mX2_init : ab_M := (yX2_init, cX2_init, 1, none, 1)
theorem mokX2_init : ab_mok mX2_init := ⟨(ab_in1 157 rfl rfl), (ab_in1 7 rfl rfl), by decide, ⟨by decide, by decide⟩, by decide⟩
def mX2_find : ab_M := (yX2_find, cX2_find, 4, none, 2)
theorem mokX2_find : ab_mok mX2_find := ⟨(ab_in2 164 rfl rfl), (ab_in1 7 rfl rfl), by decide, ⟨by decide, by decide⟩, by decide⟩
def mX2_spread : ab_M := (yX2_spread, cX2_spread, 6, none, 3)
theorem mokX2_spread : ab_mok mX2_spread := ⟨(ab_in2 170 rfl rfl), (ab_in1 7 rfl rfl), by decide, ⟨by decide, by decide⟩, by decide⟩
def mX2_look : ab_M := (yX2_look, cX2_look, 5, none, 4)
theorem mokX2_look : ab_mok mX2_look := ⟨(ab_in2 179 rfl rfl), (ab_in1 7 rfl rfl), by decide, ⟨by decide, by decide⟩, by decide⟩
def mX2_join : ab_M := (yX2_join, cX2_join, 2, none, 2)
theorem mokX2_join : ab_mok mX2_join := ⟨(ab_in2 175 rfl rfl), (ab_in1 7 rfl rfl), by decide, ⟨by decide, by decide⟩, by decide⟩
def mX3_init : ab_M := (yX3_init, cX3_init, 1, none, 1)
theorem mokX3_init : ab_mok mX3_init := ⟨(ab_in1 100 rfl rfl), (ab_in1 6 rfl rfl), by decide, ⟨by decide, by decide⟩, by decide⟩
def mX3_isUp : ab_M := (yX3_isUp, cX3_isUp, 1, (some .boolean), 1)
theorem mokX3_isUp : ab_mok mX3_isUp := ⟨(ab_in3 98 rfl rfl), (ab_in1 6 rfl rfl), by decide, ⟨by decide, by decide⟩, by decide⟩
def mX3_takeDown : ab_M := (yX3_takeDown, cX3_takeDown, 1, none, 1)
theorem mokX3_takeDown : ab_mok mX3_takeDown := ⟨(ab_in2 70 rfl rfl), (ab_in1 6 rfl rfl), by decide, ⟨by decide, by decide⟩, by decide⟩
def mX3_setUp : ab_M := (yX3_setUp, cX3_setUp, 5, none, 3)
theorem mokX3_setUp : ab_mok mX3_setUp := ⟨(ab_in3 77 rfl rfl), (ab_in1 6 rfl rfl), by decide, ⟨by decide, by decide⟩, by decide⟩
def mX3_measure : ab_M := (yX3_measure, cX3_measure, 5, none, 3)
theorem mokX3_measure : ab_mok mX3_measure := ⟨(ab_in3 81 rfl rfl), (ab_in1 6 rfl rfl), by decide, ⟨by decide, by decide⟩, by decide⟩
def mX3_workInPick : ab_M := (yX3_workInPick, cX3_workInPick, 7, (some .int), 5)
theorem mokX3_workInPick : ab_mok mX3_workInPick := ⟨(ab_in3 85 rfl rfl), (ab_in1 6 rfl rfl), by decide, ⟨by decide, by decide⟩, by decide⟩
def mX3_workOf : ab_M := (yX3_workOf, cX3_workOf, 2, (some .int), 2)
theorem mokX3_workOf : ab_mok mX3_workOf := ⟨(ab_in3 118 rfl rfl), (ab_in1 6 rfl rfl), by decide, ⟨by decide, by decide⟩, by decide⟩
def mX3_wholePicks : ab_M := (yX3_wholePicks, cX3_wholePicks, 3, (some .int), 2)
theorem mokX3_wholePicks : ab_mok mX3_wholePicks := ⟨(ab_in3 110 rfl rfl), (ab_in1 6 rfl rfl), by decide, ⟨by decide, by decide⟩, by decide⟩
def mX3_fewestWholePicks : ab_M := (yX3_fewestWholePicks, cX3_fewestWholePicks, 3, (some .int), 1)
theorem mokX3_fewestWholePicks : ab_mok mX3_fewestWholePicks := ⟨(ab_in3 125 rfl rfl), (ab_in1 6 rfl rfl), by decide, ⟨by decide, by decide⟩, by decide⟩
def mX3_weaveDay : ab_M := (yX3_weaveDay, cX3_weaveDay, 4, none, 3)
theorem mokX3_weaveDay : ab_mok mX3_weaveDay := ⟨(ab_in3 102 rfl rfl), (ab_in1 6 rfl rfl), by decide, ⟨by decide, by decide⟩, by decide⟩
def mX3_wouldGoOn : ab_M := (yX3_wouldGoOn, cX3_wouldGoOn, 3, (some .boolean), 3)
theorem mokX3_wouldGoOn : ab_mok mX3_wouldGoOn := ⟨(ab_in3 135 rfl rfl), (ab_in1 6 rfl rfl), by decide, ⟨by decide, by decide⟩, by decide⟩
def mX3_beginDay : ab_M := (yX3_beginDay, cX3_beginDay, 2, none, 1)
theorem mokX3_beginDay : ab_mok mX3_beginDay := ⟨(ab_in3 106 rfl rfl), (ab_in1 6 rfl rfl), by decide, ⟨by decide, by decide⟩, by decide⟩
def mX3_isTooFarAhead : ab_M := (yX3_isTooFarAhead, cX3_isTooFarAhead, 4, (some .boolean), 3)
theorem mokX3_isTooFarAhead : ab_mok mX3_isTooFarAhead := ⟨(ab_in3 114 rfl rfl), (ab_in1 6 rfl rfl), by decide, ⟨by decide, by decide⟩, by decide⟩
def mX3_isWoven : ab_M := (yX3_isWoven, cX3_isWoven, 6, (some .boolean), 4)
theorem mokX3_isWoven : ab_mok mX3_isWoven := ⟨(ab_in3 143 rfl rfl), (ab_in1 6 rfl rfl), by decide, ⟨by decide, by decide⟩, by decide⟩
def mX3_stripAt : ab_M := (yX3_stripAt, cX3_stripAt, 3, (some .int), 2)
theorem mokX3_stripAt : ab_mok mX3_stripAt := ⟨(ab_in3 147 rfl rfl), (ab_in1 6 rfl rfl), by decide, ⟨by decide, by decide⟩, by decide⟩
def mX3_countWoven : ab_M := (yX3_countWoven, cX3_countWoven, 4, (some .int), 2)
theorem mokX3_countWoven : ab_mok mX3_countWoven := ⟨(ab_in3 163 rfl rfl), (ab_in1 6 rfl rfl), by decide, ⟨by decide, by decide⟩, by decide⟩
def mX3_countWovenOf : ab_M := (yX3_countWovenOf, cX3_countWovenOf, 7, (some .int), 3)
theorem mokX3_countWovenOf : ab_mok mX3_countWovenOf := ⟨(ab_in3 167 rfl rfl), (ab_in1 6 rfl rfl), by decide, ⟨by decide, by decide⟩, by decide⟩
def mX3_unweaveFrom : ab_M := (yX3_unweaveFrom, cX3_unweaveFrom, 4, (some .int), 3)
theorem mokX3_unweaveFrom : ab_mok mX3_unweaveFrom := ⟨(ab_in3 155 rfl rfl), (ab_in1 6 rfl rfl), by decide, ⟨by decide, by decide⟩, by decide⟩
def mX3_copyFrom : ab_M := (yX3_copyFrom, cX3_copyFrom, 2, none, 2)
theorem mokX3_copyFrom : ab_mok mX3_copyFrom := ⟨(ab_in3 197 rfl rfl), (ab_in1 6 rfl rfl), by decide, ⟨by decide, by decide⟩, by decide⟩
def mX4_init : ab_M := (yX4_init, cX4_init, 1, none, 1)
theorem mokX4_init : ab_mok mX4_init := ⟨(ab_in1 56 rfl rfl), (ab_in1 4 rfl rfl), by decide, ⟨by decide, by decide⟩, by decide⟩
def mX4_add : ab_M := (yX4_add, cX4_add, 3, (some .int), 3)
theorem mokX4_add : ab_mok mX4_add := ⟨(ab_in2 192 rfl rfl), (ab_in1 4 rfl rfl), by decide, ⟨by decide, by decide⟩, by decide⟩
def mX4_copyFrom : ab_M := (yX4_copyFrom, cX4_copyFrom, 2, none, 2)
theorem mokX4_copyFrom : ab_mok mX4_copyFrom := ⟨(ab_in3 188 rfl rfl), (ab_in1 4 rfl rfl), by decide, ⟨by decide, by decide⟩, by decide⟩
def mX5_init : ab_M := (yX5_init, cX5_init, 1, none, 1)
theorem mokX5_init : ab_mok mX5_init := ⟨(ab_in1 232 rfl rfl), (ab_in1 9 rfl rfl), by decide, ⟨by decide, by decide⟩, by decide⟩
def mX5_find : ab_M := (yX5_find, cX5_find, 4, (some .boolean), 3)
theorem mokX5_find : ab_mok mX5_find := ⟨(ab_in3 31 rfl rfl), (ab_in1 9 rfl rfl), by decide, ⟨by decide, by decide⟩, by decide⟩
def mX5_tryFrom : ab_M := (yX5_tryFrom, cX5_tryFrom, 9, none, 6)
theorem mokX5_tryFrom : ab_mok mX5_tryFrom := ⟨(ab_in3 44 rfl rfl), (ab_in1 9 rfl rfl), by decide, ⟨by decide, by decide⟩, by decide⟩
def mX5_daysOfStrip : ab_M := (yX5_daysOfStrip, cX5_daysOfStrip, 5, (some .int), 5)
theorem mokX5_daysOfStrip : ab_mok mX5_daysOfStrip := ⟨(ab_in3 55 rfl rfl), (ab_in1 9 rfl rfl), by decide, ⟨by decide, by decide⟩, by decide⟩
def mX5_takeIfBetter : ab_M := (yX5_takeIfBetter, cX5_takeIfBetter, 3, none, 3)
theorem mokX5_takeIfBetter : ab_mok mX5_takeIfBetter := ⟨(ab_in3 48 rfl rfl), (ab_in1 9 rfl rfl), by decide, ⟨by decide, by decide⟩, by decide⟩
def mX5_weaverAt : ab_M := (yX5_weaverAt, cX5_weaverAt, 4, (some .int), 2)
theorem mokX5_weaverAt : ab_mok mX5_weaverAt := ⟨(ab_in3 69 rfl rfl), (ab_in1 9 rfl rfl), by decide, ⟨by decide, by decide⟩, by decide⟩
def mX6_init : ab_M := (yX6_init, cX6_init, 1, none, 1)
theorem mokX6_init : ab_mok mX6_init := ⟨(ab_in1 26 rfl rfl), (ab_in1 2 rfl rfl), by decide, ⟨by decide, by decide⟩, by decide⟩
def mX6_copyFrom : ab_M := (yX6_copyFrom, cX6_copyFrom, 2, none, 2)
theorem mokX6_copyFrom : ab_mok mX6_copyFrom := ⟨(ab_in3 179 rfl rfl), (ab_in1 2 rfl rfl), by decide, ⟨by decide, by decide⟩, by decide⟩
def mX7_init : ab_M := (yX7_init, cX7_init, 1, none, 1)
theorem mokX7_init : ab_mok mX7_init := ⟨(ab_in1 78 rfl rfl), (ab_in1 5 rfl rfl), by decide, ⟨by decide, by decide⟩, by decide⟩
def mX7_add : ab_M := (yX7_add, cX7_add, 3, (some .int), 3)
theorem mokX7_add : ab_mok mX7_add := ⟨(ab_in3 19 rfl rfl), (ab_in1 5 rfl rfl), by decide, ⟨by decide, by decide⟩, by decide⟩
def mX7_daysFor : ab_M := (yX7_daysFor, cX7_daysFor, 4, (some .int), 3)
theorem mokX7_daysFor : ab_mok mX7_daysFor := ⟨(ab_in3 59 rfl rfl), (ab_in1 5 rfl rfl), by decide, ⟨by decide, by decide⟩, by decide⟩
def mX7_copyFrom : ab_M := (yX7_copyFrom, cX7_copyFrom, 3, none, 2)
theorem mokX7_copyFrom : ab_mok mX7_copyFrom := ⟨(ab_in3 193 rfl rfl), (ab_in1 5 rfl rfl), by decide, ⟨by decide, by decide⟩, by decide⟩
def mX8_init : ab_M := (yX8_init, cX8_init, 1, none, 1)
theorem mokX8_init : ab_mok mX8_init := ⟨(ab_in1 18 rfl rfl), (ab_in1 1 rfl rfl), by decide, ⟨by decide, by decide⟩, by decide⟩
def mX8_size : ab_M := (yX8_size, cX8_size, 3, (some .int), 3)
theorem mokX8_size : ab_mok mX8_size := ⟨(ab_in2 56 rfl rfl), (ab_in1 1 rfl rfl), by decide, ⟨by decide, by decide⟩, by decide⟩
def mX8_paint : ab_M := (yX8_paint, cX8_paint, 9, (some .int), 6)
theorem mokX8_paint : ab_mok mX8_paint := ⟨(ab_in2 74 rfl rfl), (ab_in1 1 rfl rfl), by decide, ⟨by decide, by decide⟩, by decide⟩
def mX8_face : ab_M := (yX8_face, cX8_face, 6, (some .int), 4)
theorem mokX8_face : ab_mok mX8_face := ⟨(ab_in2 98 rfl rfl), (ab_in1 1 rfl rfl), by decide, ⟨by decide, by decide⟩, by decide⟩
def mX8_cartoon : ab_M := (yX8_cartoon, cX8_cartoon, 4, (some .int), 3)
theorem mokX8_cartoon : ab_mok mX8_cartoon := ⟨(ab_in2 115 rfl rfl), (ab_in1 1 rfl rfl), by decide, ⟨by decide, by decide⟩, by decide⟩
def mX8_loom : ab_M := (yX8_loom, cX8_loom, 4, (some .int), 3)
theorem mokX8_loom : ab_mok mX8_loom := ⟨(ab_in2 119 rfl rfl), (ab_in1 1 rfl rfl), by decide, ⟨by decide, by decide⟩, by decide⟩
def mX8_rule : ab_M := (yX8_rule, cX8_rule, 4, (some .int), 3)
theorem mokX8_rule : ab_mok mX8_rule := ⟨(ab_in2 124 rfl rfl), (ab_in1 1 rfl rfl), by decide, ⟨by decide, by decide⟩, by decide⟩
def mX8_slits : ab_M := (yX8_slits, cX8_slits, 6, (some .int), 2)
theorem mokX8_slits : ab_mok mX8_slits := ⟨(ab_in2 128 rfl rfl), (ab_in1 1 rfl rfl), by decide, ⟨by decide, by decide⟩, by decide⟩
def mX8_slit : ab_M := (yX8_slit, cX8_slit, 4, (some .int), 3)
theorem mokX8_slit : ab_mok mX8_slit := ⟨(ab_in2 151 rfl rfl), (ab_in1 1 rfl rfl), by decide, ⟨by decide, by decide⟩, by decide⟩
def mX8_field : ab_M := (yX8_field, cX8_field, 3, (some .int), 3)
theorem mokX8_field : ab_mok mX8_field := ⟨(ab_in2 160 rfl rfl), (ab_in1 1 rfl rfl), by decide, ⟨by decide, by decide⟩, by decide⟩
def mX8_of : ab_M := (yX8_of, cX8_of, 3, (some .int), 3)
theorem mokX8_of : ab_mok mX8_of := ⟨(ab_in2 184 rfl rfl), (ab_in1 1 rfl rfl), by decide, ⟨by decide, by decide⟩, by decide⟩
def mX8_dye : ab_M := (yX8_dye, cX8_dye, 3, (some .int), 3)
theorem mokX8_dye : ab_mok mX8_dye := ⟨(ab_in2 188 rfl rfl), (ab_in1 1 rfl rfl), by decide, ⟨by decide, by decide⟩, by decide⟩
def mX8_lot : ab_M := (yX8_lot, cX8_lot, 3, (some .int), 3)
theorem mokX8_lot : ab_mok mX8_lot := ⟨(ab_in2 196 rfl rfl), (ab_in1 1 rfl rfl), by decide, ⟨by decide, by decide⟩, by decide⟩
def mX8_deal : ab_M := (yX8_deal, cX8_deal, 2, (some .int), 2)
theorem mokX8_deal : ab_mok mX8_deal := ⟨(ab_in2 234 rfl rfl), (ab_in1 1 rfl rfl), by decide, ⟨by decide, by decide⟩, by decide⟩
def mX8_dealt : ab_M := (yX8_dealt, cX8_dealt, 4, (some .int), 3)
theorem mokX8_dealt : ab_mok mX8_dealt := ⟨(ab_in3 2 rfl rfl), (ab_in1 1 rfl rfl), by decide, ⟨by decide, by decide⟩, by decide⟩
def mX8_weaver : ab_M := (yX8_weaver, cX8_weaver, 3, (some .int), 3)
theorem mokX8_weaver : ab_mok mX8_weaver := ⟨(ab_in3 15 rfl rfl), (ab_in1 1 rfl rfl), by decide, ⟨by decide, by decide⟩, by decide⟩
def mX8_speed : ab_M := (yX8_speed, cX8_speed, 4, (some .int), 3)
theorem mokX8_speed : ab_mok mX8_speed := ⟨(ab_in3 23 rfl rfl), (ab_in1 1 rfl rfl), by decide, ⟨by decide, by decide⟩, by decide⟩
def mX8_share : ab_M := (yX8_share, cX8_share, 2, (some .int), 2)
theorem mokX8_share : ab_mok mX8_share := ⟨(ab_in3 27 rfl rfl), (ab_in1 1 rfl rfl), by decide, ⟨by decide, by decide⟩, by decide⟩
def mX8_who : ab_M := (yX8_who, cX8_who, 2, (some .int), 2)
theorem mokX8_who : ab_mok mX8_who := ⟨(ab_in3 65 rfl rfl), (ab_in1 1 rfl rfl), by decide, ⟨by decide, by decide⟩, by decide⟩
def mX8_up : ab_M := (yX8_up, cX8_up, 1, (some .int), 1)
theorem mokX8_up : ab_mok mX8_up := ⟨(ab_in3 73 rfl rfl), (ab_in1 1 rfl rfl), by decide, ⟨by decide, by decide⟩, by decide⟩
def mX8_days : ab_M := (yX8_days, cX8_days, 3, (some .int), 2)
theorem mokX8_days : ab_mok mX8_days := ⟨(ab_in3 94 rfl rfl), (ab_in1 1 rfl rfl), by decide, ⟨by decide, by decide⟩, by decide⟩
def mX8_strip : ab_M := (yX8_strip, cX8_strip, 4, (some .int), 3)
theorem mokX8_strip : ab_mok mX8_strip := ⟨(ab_in3 129 rfl rfl), (ab_in1 1 rfl rfl), by decide, ⟨by decide, by decide⟩, by decide⟩
def mX8_woven : ab_M := (yX8_woven, cX8_woven, 3, (some .int), 3)
theorem mokX8_woven : ab_mok mX8_woven := ⟨(ab_in3 139 rfl rfl), (ab_in1 1 rfl rfl), by decide, ⟨by decide, by decide⟩, by decide⟩
def mX8_unweave : ab_M := (yX8_unweave, cX8_unweave, 3, (some .int), 3)
theorem mokX8_unweave : ab_mok mX8_unweave := ⟨(ab_in3 151 rfl rfl), (ab_in1 1 rfl rfl), by decide, ⟨by decide, by decide⟩, by decide⟩
def mX8_many : ab_M := (yX8_many, cX8_many, 2, (some .int), 2)
theorem mokX8_many : ab_mok mX8_many := ⟨(ab_in3 159 rfl rfl), (ab_in1 1 rfl rfl), by decide, ⟨by decide, by decide⟩, by decide⟩
def mX8_keep : ab_M := (yX8_keep, cX8_keep, 1, (some .int), 1)
theorem mokX8_keep : ab_mok mX8_keep := ⟨(ab_in3 175 rfl rfl), (ab_in1 1 rfl rfl), by decide, ⟨by decide, by decide⟩, by decide⟩
def mX8_back : ab_M := (yX8_back, cX8_back, 1, (some .int), 1)
theorem mokX8_back : ab_mok mX8_back := ⟨(ab_in3 202 rfl rfl), (ab_in1 1 rfl rfl), by decide, ⟨by decide, by decide⟩, by decide⟩
def mX8_findDealing : ab_M := (yX8_findDealing, cX8_findDealing, 2, (some .boolean), 2)
theorem mokX8_findDealing : ab_mok mX8_findDealing := ⟨(ab_in2 200 rfl rfl), (ab_in1 1 rfl rfl), by decide, ⟨by decide, by decide⟩, by decide⟩
def mX8_isFromTo : ab_M := (yX8_isFromTo, cX8_isFromTo, 3, (some .boolean), 3)
theorem mokX8_isFromTo : ab_mok mX8_isFromTo := ⟨(ab_in2 59 rfl rfl), (ab_in1 1 rfl rfl), by decide, ⟨by decide, by decide⟩, by decide⟩
def mX8_isBelow : ab_M := (yX8_isBelow, cX8_isBelow, 2, (some .boolean), 2)
theorem mokX8_isBelow : ab_mok mX8_isBelow := ⟨(ab_in2 83 rfl rfl), (ab_in1 1 rfl rfl), by decide, ⟨by decide, by decide⟩, by decide⟩
def mX8_isColour : ab_M := (yX8_isColour, cX8_isColour, 1, (some .boolean), 1)
theorem mokX8_isColour : ab_mok mX8_isColour := ⟨(ab_in2 80 rfl rfl), (ab_in1 1 rfl rfl), by decide, ⟨by decide, by decide⟩, by decide⟩
def mX8_isOnBoard : ab_M := (yX8_isOnBoard, cX8_isOnBoard, 3, (some .boolean), 3)
theorem mokX8_isOnBoard : ab_mok mX8_isOnBoard := ⟨(ab_in2 77 rfl rfl), (ab_in1 1 rfl rfl), by decide, ⟨by decide, by decide⟩, by decide⟩
def mX8_cellOf : ab_M := (yX8_cellOf, cX8_cellOf, 2, (some .int), 2)
theorem mokX8_cellOf : ab_mok mX8_cellOf := ⟨(ab_in2 90 rfl rfl), (ab_in1 1 rfl rfl), by decide, ⟨by decide, by decide⟩, by decide⟩
def mX8_addSlit : ab_M := (yX8_addSlit, cX8_addSlit, 5, (some .int), 4)
theorem mokX8_addSlit : ab_mok mX8_addSlit := ⟨(ab_in2 144 rfl rfl), (ab_in1 1 rfl rfl), by decide, ⟨by decide, by decide⟩, by decide⟩
def mX9_init : ab_M := (yX9_init, cX9_init, 1, none, 1)
theorem mokX9_init : ab_mok mX9_init := ⟨(ab_in3 207 rfl rfl), (ab_in1 10 rfl rfl), by decide, ⟨by decide, by decide⟩, by decide⟩
def mX9_in : ab_M := (yX9_in, cX9_in, 3, (some .boolean), 3)
theorem mokX9_in : ab_mok mX9_in := ⟨(ab_in4 108 rfl rfl), (ab_in1 10 rfl rfl), by decide, ⟨by decide, by decide⟩, by decide⟩
def mX9_isSquare : ab_M := (yX9_isSquare, cX9_isSquare, 3, (some .boolean), 3)
theorem mokX9_isSquare : ab_mok mX9_isSquare := ⟨(ab_in4 116 rfl rfl), (ab_in1 10 rfl rfl), by decide, ⟨by decide, by decide⟩, by decide⟩
def mX9_spot : ab_M := (yX9_spot, cX9_spot, 3, (some .int), 3)
theorem mokX9_spot : ab_mok mX9_spot := ⟨(ab_in4 120 rfl rfl), (ab_in1 10 rfl rfl), by decide, ⟨by decide, by decide⟩, by decide⟩
def mX9_size : ab_M := (yX9_size, cX9_size, 4, (some .int), 3)
theorem mokX9_size : ab_mok mX9_size := ⟨(ab_in4 105 rfl rfl), (ab_in1 10 rfl rfl), by decide, ⟨by decide, by decide⟩, by decide⟩
def mX9_paint : ab_M := (yX9_paint, cX9_paint, 8, (some .int), 6)
theorem mokX9_paint : ab_mok mX9_paint := ⟨(ab_in4 112 rfl rfl), (ab_in1 10 rfl rfl), by decide, ⟨by decide, by decide⟩, by decide⟩
def mX9_face : ab_M := (yX9_face, cX9_face, 4, (some .int), 4)
theorem mokX9_face : ab_mok mX9_face := ⟨(ab_in4 124 rfl rfl), (ab_in1 10 rfl rfl), by decide, ⟨by decide, by decide⟩, by decide⟩
def mX9_toldAt : ab_M := (yX9_toldAt, cX9_toldAt, 2, (some .int), 2)
theorem mokX9_toldAt : ab_mok mX9_toldAt := ⟨(ab_in4 132 rfl rfl), (ab_in1 10 rfl rfl), by decide, ⟨by decide, by decide⟩, by decide⟩
def mX9_cartoon : ab_M := (yX9_cartoon, cX9_cartoon, 3, (some .int), 3)
theorem mokX9_cartoon : ab_mok mX9_cartoon := ⟨(ab_in4 128 rfl rfl), (ab_in1 10 rfl rfl), by decide, ⟨by decide, by decide⟩, by decide⟩
def mX9_loom : ab_M := (yX9_loom, cX9_loom, 3, (some .int), 3)
theorem mokX9_loom : ab_mok mX9_loom := ⟨(ab_in4 136 rfl rfl), (ab_in1 10 rfl rfl), by decide, ⟨by decide, by decide⟩, by decide⟩
def mX9_rule : ab_M := (yX9_rule, cX9_rule, 4, (some .int), 3)
theorem mokX9_rule : ab_mok mX9_rule := ⟨(ab_in4 140 rfl rfl), (ab_in1 10 rfl rfl), by decide, ⟨by decide, by decide⟩, by decide⟩
def mX9_isUnlike : ab_M := (yX9_isUnlike, cX9_isUnlike, 3, (some .boolean), 3)
theorem mokX9_isUnlike : ab_mok mX9_isUnlike := ⟨(ab_in4 152 rfl rfl), (ab_in1 10 rfl rfl), by decide, ⟨by decide, by decide⟩, by decide⟩
def mX9_slitFrom : ab_M := (yX9_slitFrom, cX9_slitFrom, 4, (some .int), 3)
theorem mokX9_slitFrom : ab_mok mX9_slitFrom := ⟨(ab_in4 148 rfl rfl), (ab_in1 10 rfl rfl), by decide, ⟨by decide, by decide⟩, by decide⟩
def mX9_slits : ab_M := (yX9_slits, cX9_slits, 9, (some .int), 2)
theorem mokX9_slits : ab_mok mX9_slits := ⟨(ab_in4 144 rfl rfl), (ab_in1 10 rfl rfl), by decide, ⟨by decide, by decide⟩, by decide⟩
def mX9_slit : ab_M := (yX9_slit, cX9_slit, 4, (some .int), 3)
theorem mokX9_slit : ab_mok mX9_slit := ⟨(ab_in4 156 rfl rfl), (ab_in1 10 rfl rfl), by decide, ⟨by decide, by decide⟩, by decide⟩
def mX9_findFields : ab_M := (yX9_findFields, cX9_findFields, 6, none, 1)
theorem mokX9_findFields : ab_mok mX9_findFields := ⟨(ab_in4 164 rfl rfl), (ab_in1 10 rfl rfl), by decide, ⟨by decide, by decide⟩, by decide⟩
def mX9_lesser : ab_M := (yX9_lesser, cX9_lesser, 4, (some .int), 4)
theorem mokX9_lesser : ab_mok mX9_lesser := ⟨(ab_in4 168 rfl rfl), (ab_in1 10 rfl rfl), by decide, ⟨by decide, by decide⟩, by decide⟩
def mX9_number : ab_M := (yX9_number, cX9_number, 5, none, 1)
theorem mokX9_number : ab_mok mX9_number := ⟨(ab_in4 172 rfl rfl), (ab_in1 10 rfl rfl), by decide, ⟨by decide, by decide⟩, by decide⟩
def mX9_sides : ab_M := (yX9_sides, cX9_sides, 5, (some .int), 3)
theorem mokX9_sides : ab_mok mX9_sides := ⟨(ab_in4 176 rfl rfl), (ab_in1 10 rfl rfl), by decide, ⟨by decide, by decide⟩, by decide⟩
def mX9_field : ab_M := (yX9_field, cX9_field, 4, (some .int), 3)
theorem mokX9_field : ab_mok mX9_field := ⟨(ab_in4 160 rfl rfl), (ab_in1 10 rfl rfl), by decide, ⟨by decide, by decide⟩, by decide⟩
def mX9_of : ab_M := (yX9_of, cX9_of, 3, (some .int), 3)
theorem mokX9_of : ab_mok mX9_of := ⟨(ab_in4 180 rfl rfl), (ab_in1 10 rfl rfl), by decide, ⟨by decide, by decide⟩, by decide⟩
def mX9_dye : ab_M := (yX9_dye, cX9_dye, 3, (some .int), 3)
theorem mokX9_dye : ab_mok mX9_dye := ⟨(ab_in4 184 rfl rfl), (ab_in1 10 rfl rfl), by decide, ⟨by decide, by decide⟩, by decide⟩
def mX9_gather : ab_M := (yX9_gather, cX9_gather, 5, (some .boolean), 2)
theorem mokX9_gather : ab_mok mX9_gather := ⟨(ab_in4 196 rfl rfl), (ab_in1 10 rfl rfl), by decide, ⟨by decide, by decide⟩, by decide⟩
def mX9_yarnFrom : ab_M := (yX9_yarnFrom, cX9_yarnFrom, 4, (some .int), 2)
theorem mokX9_yarnFrom : ab_mok mX9_yarnFrom := ⟨(ab_in4 200 rfl rfl), (ab_in1 10 rfl rfl), by decide, ⟨by decide, by decide⟩, by decide⟩
def mX9_findDealing : ab_M := (yX9_findDealing, cX9_findDealing, 8, (some .boolean), 2)
theorem mokX9_findDealing : ab_mok mX9_findDealing := ⟨(ab_in4 192 rfl rfl), (ab_in1 10 rfl rfl), by decide, ⟨by decide, by decide⟩, by decide⟩
def mX9_lot : ab_M := (yX9_lot, cX9_lot, 5, (some .int), 3)
theorem mokX9_lot : ab_mok mX9_lot := ⟨(ab_in4 188 rfl rfl), (ab_in1 10 rfl rfl), by decide, ⟨by decide, by decide⟩, by decide⟩
def mX9_deal : ab_M := (yX9_deal, cX9_deal, 4, (some .int), 2)
theorem mokX9_deal : ab_mok mX9_deal := ⟨(ab_in4 204 rfl rfl), (ab_in1 10 rfl rfl), by decide, ⟨by decide, by decide⟩, by decide⟩
def mX9_dealt : ab_M := (yX9_dealt, cX9_dealt, 5, (some .int), 3)
theorem mokX9_dealt : ab_mok mX9_dealt := ⟨(ab_in4 208 rfl rfl), (ab_in1 10 rfl rfl), by decide, ⟨by decide, by decide⟩, by decide⟩
def mX9_weaver : ab_M := (yX9_weaver, cX9_weaver, 3, (some .int), 3)
theorem mokX9_weaver : ab_mok mX9_weaver := ⟨(ab_in4 212 rfl rfl), (ab_in1 10 rfl rfl), by decide, ⟨by decide, by decide⟩, by decide⟩
def mX9_speed : ab_M := (yX9_speed, cX9_speed, 4, (some .int), 3)
theorem mokX9_speed : ab_mok mX9_speed := ⟨(ab_in4 216 rfl rfl), (ab_in1 10 rfl rfl), by decide, ⟨by decide, by decide⟩, by decide⟩
def mX9_workAt : ab_M := (yX9_workAt, cX9_workAt, 3, (some .int), 3)
theorem mokX9_workAt : ab_mok mX9_workAt := ⟨(ab_in5 4 rfl rfl), (ab_in1 10 rfl rfl), by decide, ⟨by decide, by decide⟩, by decide⟩
def mX9_work : ab_M := (yX9_work, cX9_work, 7, (some .int), 4)
theorem mokX9_work : ab_mok mX9_work := ⟨(ab_in5 0 rfl rfl), (ab_in1 10 rfl rfl), by decide, ⟨by decide, by decide⟩, by decide⟩
def mX9_hasFace : ab_M := (yX9_hasFace, cX9_hasFace, 6, (some .boolean), 3)
theorem mokX9_hasFace : ab_mok mX9_hasFace := ⟨(ab_in4 236 rfl rfl), (ab_in1 10 rfl rfl), by decide, ⟨by decide, by decide⟩, by decide⟩
def mX9_daysOf : ab_M := (yX9_daysOf, cX9_daysOf, 4, (some .int), 4)
theorem mokX9_daysOf : ab_mok mX9_daysOf := ⟨(ab_in4 232 rfl rfl), (ab_in1 10 rfl rfl), by decide, ⟨by decide, by decide⟩, by decide⟩
def mX9_isTaken : ab_M := (yX9_isTaken, cX9_isTaken, 5, (some .boolean), 3)
theorem mokX9_isTaken : ab_mok mX9_isTaken := ⟨(ab_in4 228 rfl rfl), (ab_in1 10 rfl rfl), by decide, ⟨by decide, by decide⟩, by decide⟩
def mX9_findSharing : ab_M := (yX9_findSharing, cX9_findSharing, 7, (some .boolean), 1)
theorem mokX9_findSharing : ab_mok mX9_findSharing := ⟨(ab_in4 224 rfl rfl), (ab_in1 10 rfl rfl), by decide, ⟨by decide, by decide⟩, by decide⟩
def mX9_share : ab_M := (yX9_share, cX9_share, 2, (some .int), 2)
theorem mokX9_share : ab_mok mX9_share := ⟨(ab_in4 220 rfl rfl), (ab_in1 10 rfl rfl), by decide, ⟨by decide, by decide⟩, by decide⟩
def mX9_who : ab_M := (yX9_who, cX9_who, 4, (some .int), 2)
theorem mokX9_who : ab_mok mX9_who := ⟨(ab_in5 8 rfl rfl), (ab_in1 10 rfl rfl), by decide, ⟨by decide, by decide⟩, by decide⟩
def mX9_up : ab_M := (yX9_up, cX9_up, 3, (some .int), 1)
theorem mokX9_up : ab_mok mX9_up := ⟨(ab_in5 12 rfl rfl), (ab_in1 10 rfl rfl), by decide, ⟨by decide, by decide⟩, by decide⟩
def mX9_allOf : ab_M := (yX9_allOf, cX9_allOf, 2, (some .int), 2)
theorem mokX9_allOf : ab_mok mX9_allOf := ⟨(ab_in5 28 rfl rfl), (ab_in1 10 rfl rfl), by decide, ⟨by decide, by decide⟩, by decide⟩
def mX9_wholeOf : ab_M := (yX9_wholeOf, cX9_wholeOf, 3, (some .int), 2)
theorem mokX9_wholeOf : ab_mok mX9_wholeOf := ⟨(ab_in5 24 rfl rfl), (ab_in1 10 rfl rfl), by decide, ⟨by decide, by decide⟩, by decide⟩
def mX9_findWhole : ab_M := (yX9_findWhole, cX9_findWhole, 2, none, 1)
theorem mokX9_findWhole : ab_mok mX9_findWhole := ⟨(ab_in5 20 rfl rfl), (ab_in1 10 rfl rfl), by decide, ⟨by decide, by decide⟩, by decide⟩
def mX9_isAhead : ab_M := (yX9_isAhead, cX9_isAhead, 2, (some .boolean), 2)
theorem mokX9_isAhead : ab_mok mX9_isAhead := ⟨(ab_in5 32 rfl rfl), (ab_in1 10 rfl rfl), by decide, ⟨by decide, by decide⟩, by decide⟩
def mX9_days : ab_M := (yX9_days, cX9_days, 6, (some .int), 2)
theorem mokX9_days : ab_mok mX9_days := ⟨(ab_in5 16 rfl rfl), (ab_in1 10 rfl rfl), by decide, ⟨by decide, by decide⟩, by decide⟩
def mX9_strip : ab_M := (yX9_strip, cX9_strip, 3, (some .int), 3)
theorem mokX9_strip : ab_mok mX9_strip := ⟨(ab_in5 36 rfl rfl), (ab_in1 10 rfl rfl), by decide, ⟨by decide, by decide⟩, by decide⟩
def mX9_isWoven : ab_M := (yX9_isWoven, cX9_isWoven, 6, (some .boolean), 3)
theorem mokX9_isWoven : ab_mok mX9_isWoven := ⟨(ab_in5 44 rfl rfl), (ab_in1 10 rfl rfl), by decide, ⟨by decide, by decide⟩, by decide⟩
def mX9_woven : ab_M := (yX9_woven, cX9_woven, 3, (some .int), 3)
theorem mokX9_woven : ab_mok mX9_woven := ⟨(ab_in5 40 rfl rfl), (ab_in1 10 rfl rfl), by decide, ⟨by decide, by decide⟩, by decide⟩
def mX9_unweave : ab_M := (yX9_unweave, cX9_unweave, 5, (some .int), 3)
theorem mokX9_unweave : ab_mok mX9_unweave := ⟨(ab_in5 48 rfl rfl), (ab_in1 10 rfl rfl), by decide, ⟨by decide, by decide⟩, by decide⟩
def mX9_manyWoven : ab_M := (yX9_manyWoven, cX9_manyWoven, 4, (some .int), 1)
theorem mokX9_manyWoven : ab_mok mX9_manyWoven := ⟨(ab_in5 56 rfl rfl), (ab_in1 10 rfl rfl), by decide, ⟨by decide, by decide⟩, by decide⟩
def mX9_manyFaces : ab_M := (yX9_manyFaces, cX9_manyFaces, 3, (some .int), 1)
theorem mokX9_manyFaces : ab_mok mX9_manyFaces := ⟨(ab_in5 60 rfl rfl), (ab_in1 10 rfl rfl), by decide, ⟨by decide, by decide⟩, by decide⟩
def mX9_many : ab_M := (yX9_many, cX9_many, 2, (some .int), 2)
theorem mokX9_many : ab_mok mX9_many := ⟨(ab_in5 52 rfl rfl), (ab_in1 10 rfl rfl), by decide, ⟨by decide, by decide⟩, by decide⟩
def mX9_keep : ab_M := (yX9_keep, cX9_keep, 2, (some .int), 1)
theorem mokX9_keep : ab_mok mX9_keep := ⟨(ab_in5 64 rfl rfl), (ab_in1 10 rfl rfl), by decide, ⟨by decide, by decide⟩, by decide⟩
def mX9_back : ab_M := (yX9_back, cX9_back, 2, (some .int), 1)
theorem mokX9_back : ab_mok mX9_back := ⟨(ab_in5 68 rfl rfl), (ab_in1 10 rfl rfl), by decide, ⟨by decide, by decide⟩, by decide⟩
def mJ9_max_7cf53 : ab_M := (yJ9_max_7cf53, cJ9_max_7cf53, 2, (some .int), 2)
def mJ9_min_7cf53 : ab_M := (yJ9_min_7cf53, cJ9_min_7cf53, 2, (some .int), 2)
def mJ7_fill_53178 : ab_M := (yJ7_fill_53178, cJ7_fill_53178, 4, none, 2)
theorem mokJ7_fill_53178 : ab_mok mJ7_fill_53178 := ⟨(ab_in2 66 rfl rfl), (ab_in1 11 rfl rfl), by decide, ⟨by decide, by decide⟩, by decide⟩
def mL_law : ab_M := (yL_law, cL_law, 4, (some .boolean), 1)
def ab_cok (ci : Nat) (C : String) (T : u_T) (N : Nat) : Prop := vwCl[ci]? = some (C, T, N) ∧ (∀ w ∈ u_ws C T N, w ∈ ab_tb) ∧ (∀ k, k < N → parseFieldDescriptor (T k).2.2.1 = some (ab_ty ci k)) ∧ (∀ a, a < N → ∀ b, b < N → a ≠ b → (T a).2.1 ≠ (T b).2.1) ∧ Cond.instantiable C N ∈ ab_tb ∧ Cond.initialized C ∈ ab_tb ∧ (∀ k, k < N → (T k).1 = C)
theorem cw_0 : ∀ k, k < 3 → u_lay RX0 TX0 k ∈ ab_tb := fun k hk => match k, hk with
  | 0, _ => (ab_in1 44 rfl rfl)
  | 1, _ => (ab_in1 46 rfl rfl)
  | 2, _ => (ab_in1 48 rfl rfl)
  | k + 3, h => absurd h (by omega)
theorem cok_0 : ab_cok 0 RX0 TX0 3 := ⟨rfl, fun w hw => by obtain ⟨k, hk, rfl⟩ := List.mem_map.mp hw; exact cw_0 k (List.mem_range.mp hk), tyX0_ok, nmX0, (ab_in1 29 rfl rfl), (ab_in1 3 rfl rfl), by decide +kernel⟩
theorem cw_1 : ∀ k, k < 9 → u_lay RX1 TX1 k ∈ ab_tb := fun k hk => match k, hk with
  | 0, _ => (ab_in1 209 rfl rfl)
  | 1, _ => (ab_in1 211 rfl rfl)
  | 2, _ => (ab_in1 213 rfl rfl)
  | 3, _ => (ab_in1 215 rfl rfl)
  | 4, _ => (ab_in1 217 rfl rfl)
  | 5, _ => (ab_in1 219 rfl rfl)
  | 6, _ => (ab_in1 221 rfl rfl)
  | 7, _ => (ab_in1 223 rfl rfl)
  | 8, _ => (ab_in1 225 rfl rfl)
  | k + 9, h => absurd h (by omega)
theorem cok_1 : ab_cok 1 RX1 TX1 9 := ⟨rfl, fun w hw => by obtain ⟨k, hk, rfl⟩ := List.mem_map.mp hw; exact cw_1 k (List.mem_range.mp hk), tyX1_ok, nmX1, (ab_in1 194 rfl rfl), (ab_in1 8 rfl rfl), by decide +kernel⟩
theorem cw_2 : ∀ k, k < 8 → u_lay RX2 TX2 k ∈ ab_tb := fun k hk => match k, hk with
  | 0, _ => (ab_in1 176 rfl rfl)
  | 1, _ => (ab_in1 178 rfl rfl)
  | 2, _ => (ab_in1 180 rfl rfl)
  | 3, _ => (ab_in1 182 rfl rfl)
  | 4, _ => (ab_in1 184 rfl rfl)
  | 5, _ => (ab_in1 186 rfl rfl)
  | 6, _ => (ab_in1 188 rfl rfl)
  | 7, _ => (ab_in1 190 rfl rfl)
  | k + 8, h => absurd h (by omega)
theorem cok_2 : ab_cok 2 RX2 TX2 8 := ⟨rfl, fun w hw => by obtain ⟨k, hk, rfl⟩ := List.mem_map.mp hw; exact cw_2 k (List.mem_range.mp hk), tyX2_ok, nmX2, (ab_in1 154 rfl rfl), (ab_in1 7 rfl rfl), by decide +kernel⟩
theorem cw_3 : ∀ k, k < 9 → u_lay RX3 TX3 k ∈ ab_tb := fun k hk => match k, hk with
  | 0, _ => (ab_in1 117 rfl rfl)
  | 1, _ => (ab_in1 119 rfl rfl)
  | 2, _ => (ab_in1 121 rfl rfl)
  | 3, _ => (ab_in1 123 rfl rfl)
  | 4, _ => (ab_in1 125 rfl rfl)
  | 5, _ => (ab_in1 127 rfl rfl)
  | 6, _ => (ab_in1 129 rfl rfl)
  | 7, _ => (ab_in1 131 rfl rfl)
  | 8, _ => (ab_in1 133 rfl rfl)
  | k + 9, h => absurd h (by omega)
theorem cok_3 : ab_cok 3 RX3 TX3 9 := ⟨rfl, fun w hw => by obtain ⟨k, hk, rfl⟩ := List.mem_map.mp hw; exact cw_3 k (List.mem_range.mp hk), tyX3_ok, nmX3, (ab_in1 97 rfl rfl), (ab_in1 6 rfl rfl), by decide +kernel⟩
theorem cw_4 : ∀ k, k < 3 → u_lay RX4 TX4 k ∈ ab_tb := fun k hk => match k, hk with
  | 0, _ => (ab_in1 67 rfl rfl)
  | 1, _ => (ab_in1 69 rfl rfl)
  | 2, _ => (ab_in1 71 rfl rfl)
  | k + 3, h => absurd h (by omega)
theorem cok_4 : ab_cok 4 RX4 TX4 3 := ⟨rfl, fun w hw => by obtain ⟨k, hk, rfl⟩ := List.mem_map.mp hw; exact cw_4 k (List.mem_range.mp hk), tyX4_ok, nmX4, (ab_in1 53 rfl rfl), (ab_in1 4 rfl rfl), by decide +kernel⟩
theorem cw_5 : ∀ k, k < 9 → u_lay RX5 TX5 k ∈ ab_tb := fun k hk => match k, hk with
  | 0, _ => (ab_in2 9 rfl rfl)
  | 1, _ => (ab_in2 11 rfl rfl)
  | 2, _ => (ab_in2 13 rfl rfl)
  | 3, _ => (ab_in2 15 rfl rfl)
  | 4, _ => (ab_in2 17 rfl rfl)
  | 5, _ => (ab_in2 19 rfl rfl)
  | 6, _ => (ab_in2 21 rfl rfl)
  | 7, _ => (ab_in2 23 rfl rfl)
  | 8, _ => (ab_in2 25 rfl rfl)
  | k + 9, h => absurd h (by omega)
theorem cok_5 : ab_cok 5 RX5 TX5 9 := ⟨rfl, fun w hw => by obtain ⟨k, hk, rfl⟩ := List.mem_map.mp hw; exact cw_5 k (List.mem_range.mp hk), tyX5_ok, nmX5, (ab_in1 229 rfl rfl), (ab_in1 9 rfl rfl), by decide +kernel⟩
theorem cw_6 : ∀ k, k < 4 → u_lay RX6 TX6 k ∈ ab_tb := fun k hk => match k, hk with
  | 0, _ => (ab_in1 144 rfl rfl)
  | 1, _ => (ab_in1 146 rfl rfl)
  | 2, _ => (ab_in1 148 rfl rfl)
  | 3, _ => (ab_in1 150 rfl rfl)
  | k + 4, h => absurd h (by omega)
theorem cok_6 : ab_cok 6 RX6 TX6 4 := ⟨rfl, fun w hw => by obtain ⟨k, hk, rfl⟩ := List.mem_map.mp hw; exact cw_6 k (List.mem_range.mp hk), tyX6_ok, nmX6, (ab_in1 23 rfl rfl), (ab_in1 2 rfl rfl), by decide +kernel⟩
theorem cw_7 : ∀ k, k < 3 → u_lay RX7 TX7 k ∈ ab_tb := fun k hk => match k, hk with
  | 0, _ => (ab_in1 88 rfl rfl)
  | 1, _ => (ab_in1 90 rfl rfl)
  | 2, _ => (ab_in1 92 rfl rfl)
  | k + 3, h => absurd h (by omega)
theorem cok_7 : ab_cok 7 RX7 TX7 3 := ⟨rfl, fun w hw => by obtain ⟨k, hk, rfl⟩ := List.mem_map.mp hw; exact cw_7 k (List.mem_range.mp hk), tyX7_ok, nmX7, (ab_in1 75 rfl rfl), (ab_in1 5 rfl rfl), by decide +kernel⟩
theorem cw_8 : ∀ k, k < 8 → u_lay RX8 TX8 k ∈ ab_tb := fun k hk => match k, hk with
  | 0, _ => (ab_in2 36 rfl rfl)
  | 1, _ => (ab_in2 38 rfl rfl)
  | 2, _ => (ab_in2 40 rfl rfl)
  | 3, _ => (ab_in2 42 rfl rfl)
  | 4, _ => (ab_in2 44 rfl rfl)
  | 5, _ => (ab_in2 46 rfl rfl)
  | 6, _ => (ab_in2 48 rfl rfl)
  | 7, _ => (ab_in2 50 rfl rfl)
  | k + 8, h => absurd h (by omega)
theorem cok_8 : ab_cok 8 RX8 TX8 8 := ⟨rfl, fun w hw => by obtain ⟨k, hk, rfl⟩ := List.mem_map.mp hw; exact cw_8 k (List.mem_range.mp hk), tyX8_ok, nmX8, (ab_in1 15 rfl rfl), (ab_in1 1 rfl rfl), by decide +kernel⟩
theorem cw_9 : ∀ k, k < 44 → u_lay RX9 TX9 k ∈ ab_tb := fun k hk => match k, hk with
  | 0, _ => (ab_in4 13 rfl rfl)
  | 1, _ => (ab_in4 15 rfl rfl)
  | 2, _ => (ab_in4 17 rfl rfl)
  | 3, _ => (ab_in4 19 rfl rfl)
  | 4, _ => (ab_in4 21 rfl rfl)
  | 5, _ => (ab_in4 23 rfl rfl)
  | 6, _ => (ab_in4 25 rfl rfl)
  | 7, _ => (ab_in4 27 rfl rfl)
  | 8, _ => (ab_in4 29 rfl rfl)
  | 9, _ => (ab_in4 31 rfl rfl)
  | 10, _ => (ab_in4 33 rfl rfl)
  | 11, _ => (ab_in4 35 rfl rfl)
  | 12, _ => (ab_in4 37 rfl rfl)
  | 13, _ => (ab_in4 39 rfl rfl)
  | 14, _ => (ab_in4 41 rfl rfl)
  | 15, _ => (ab_in4 43 rfl rfl)
  | 16, _ => (ab_in4 45 rfl rfl)
  | 17, _ => (ab_in4 47 rfl rfl)
  | 18, _ => (ab_in4 49 rfl rfl)
  | 19, _ => (ab_in4 51 rfl rfl)
  | 20, _ => (ab_in4 53 rfl rfl)
  | 21, _ => (ab_in4 55 rfl rfl)
  | 22, _ => (ab_in4 57 rfl rfl)
  | 23, _ => (ab_in4 59 rfl rfl)
  | 24, _ => (ab_in4 61 rfl rfl)
  | 25, _ => (ab_in4 63 rfl rfl)
  | 26, _ => (ab_in4 65 rfl rfl)
  | 27, _ => (ab_in4 67 rfl rfl)
  | 28, _ => (ab_in4 69 rfl rfl)
  | 29, _ => (ab_in4 71 rfl rfl)
  | 30, _ => (ab_in4 73 rfl rfl)
  | 31, _ => (ab_in4 75 rfl rfl)
  | 32, _ => (ab_in4 77 rfl rfl)
  | 33, _ => (ab_in4 79 rfl rfl)
  | 34, _ => (ab_in4 81 rfl rfl)
  | 35, _ => (ab_in4 83 rfl rfl)
  | 36, _ => (ab_in4 85 rfl rfl)
  | 37, _ => (ab_in4 87 rfl rfl)
  | 38, _ => (ab_in4 89 rfl rfl)
  | 39, _ => (ab_in4 91 rfl rfl)
  | 40, _ => (ab_in4 93 rfl rfl)
  | 41, _ => (ab_in4 95 rfl rfl)
  | 42, _ => (ab_in4 97 rfl rfl)
  | 43, _ => (ab_in4 99 rfl rfl)
  | k + 44, h => absurd h (by omega)
theorem cok_9 : ab_cok 9 RX9 TX9 44 := ⟨rfl, fun w hw => by obtain ⟨k, hk, rfl⟩ := List.mem_map.mp hw; exact cw_9 k (List.mem_range.mp hk), tyX9_ok, nmX9, (ab_in3 204 rfl rfl), (ab_in1 10 rfl rfl), by decide +kernel⟩
def ab_F (own : String) (ix ci k : Nat) : Prop := ∃ (C : String) (T : u_T) (N : Nat), ab_cok ci C T N ∧ k < N ∧ Cond.fieldLink own ix C (T k).2.1 (T k).2.2.1 ∈ ab_tb
theorem fl_0_9 : ab_F RX0 9 0 0 := ⟨_, _, _, cok_0, by decide, (ab_in1 34 rfl rfl)⟩
theorem fl_5_41 : ab_F RX5 41 0 0 := ⟨_, _, _, cok_0, by decide, (ab_in1 35 rfl rfl)⟩
theorem fl_2_48 : ab_F RX2 48 0 0 := ⟨_, _, _, cok_0, by decide, (ab_in1 36 rfl rfl)⟩
theorem fl_8_74 : ab_F RX8 74 0 0 := ⟨_, _, _, cok_0, by decide, (ab_in1 37 rfl rfl)⟩
theorem fl_0_15 : ab_F RX0 15 0 1 := ⟨_, _, _, cok_0, by decide, (ab_in1 38 rfl rfl)⟩
theorem fl_2_43 : ab_F RX2 43 0 1 := ⟨_, _, _, cok_0, by decide, (ab_in1 39 rfl rfl)⟩
theorem fl_8_80 : ab_F RX8 80 0 1 := ⟨_, _, _, cok_0, by decide, (ab_in1 40 rfl rfl)⟩
theorem fl_3_43 : ab_F RX3 43 0 1 := ⟨_, _, _, cok_0, by decide, (ab_in1 41 rfl rfl)⟩
theorem fl_0_18 : ab_F RX0 18 0 2 := ⟨_, _, _, cok_0, by decide, (ab_in1 42 rfl rfl)⟩
theorem fl_8_105 : ab_F RX8 105 0 2 := ⟨_, _, _, cok_0, by decide, (ab_in1 43 rfl rfl)⟩
theorem fl_4_9 : ab_F RX4 9 4 0 := ⟨_, _, _, cok_4, by decide, (ab_in1 58 rfl rfl)⟩
theorem fl_1_72 : ab_F RX1 72 4 0 := ⟨_, _, _, cok_4, by decide, (ab_in1 59 rfl rfl)⟩
theorem fl_8_151 : ab_F RX8 151 4 0 := ⟨_, _, _, cok_4, by decide, (ab_in1 60 rfl rfl)⟩
theorem fl_4_15 : ab_F RX4 15 4 1 := ⟨_, _, _, cok_4, by decide, (ab_in1 61 rfl rfl)⟩
theorem fl_1_73 : ab_F RX1 73 4 1 := ⟨_, _, _, cok_4, by decide, (ab_in1 62 rfl rfl)⟩
theorem fl_8_157 : ab_F RX8 157 4 1 := ⟨_, _, _, cok_4, by decide, (ab_in1 63 rfl rfl)⟩
theorem fl_4_19 : ab_F RX4 19 4 2 := ⟨_, _, _, cok_4, by decide, (ab_in1 64 rfl rfl)⟩
theorem fl_1_52 : ab_F RX1 52 4 2 := ⟨_, _, _, cok_4, by decide, (ab_in1 65 rfl rfl)⟩
theorem fl_8_158 : ab_F RX8 158 4 2 := ⟨_, _, _, cok_4, by decide, (ab_in1 66 rfl rfl)⟩
theorem fl_7_9 : ab_F RX7 9 7 0 := ⟨_, _, _, cok_7, by decide, (ab_in1 80 rfl rfl)⟩
theorem fl_5_59 : ab_F RX5 59 7 0 := ⟨_, _, _, cok_7, by decide, (ab_in1 81 rfl rfl)⟩
theorem fl_8_185 : ab_F RX8 185 7 0 := ⟨_, _, _, cok_7, by decide, (ab_in1 82 rfl rfl)⟩
theorem fl_7_15 : ab_F RX7 15 7 1 := ⟨_, _, _, cok_7, by decide, (ab_in1 83 rfl rfl)⟩
theorem fl_3_81 : ab_F RX3 81 7 1 := ⟨_, _, _, cok_7, by decide, (ab_in1 84 rfl rfl)⟩
theorem fl_8_191 : ab_F RX8 191 7 1 := ⟨_, _, _, cok_7, by decide, (ab_in1 85 rfl rfl)⟩
theorem fl_7_19 : ab_F RX7 19 7 2 := ⟨_, _, _, cok_7, by decide, (ab_in1 86 rfl rfl)⟩
theorem fl_5_74 : ab_F RX5 74 7 2 := ⟨_, _, _, cok_7, by decide, (ab_in1 87 rfl rfl)⟩
theorem fl_3_9 : ab_F RX3 9 3 0 := ⟨_, _, _, cok_3, by decide, (ab_in1 102 rfl rfl)⟩
theorem fl_8_210 : ab_F RX8 210 3 0 := ⟨_, _, _, cok_3, by decide, (ab_in1 103 rfl rfl)⟩
theorem fl_3_15 : ab_F RX3 15 3 1 := ⟨_, _, _, cok_3, by decide, (ab_in1 104 rfl rfl)⟩
theorem fl_8_253 : ab_F RX8 253 3 1 := ⟨_, _, _, cok_3, by decide, (ab_in1 105 rfl rfl)⟩
theorem fl_3_18 : ab_F RX3 18 3 2 := ⟨_, _, _, cok_3, by decide, (ab_in1 106 rfl rfl)⟩
theorem fl_8_222 : ab_F RX8 222 3 2 := ⟨_, _, _, cok_3, by decide, (ab_in1 107 rfl rfl)⟩
theorem fl_3_22 : ab_F RX3 22 3 3 := ⟨_, _, _, cok_3, by decide, (ab_in1 108 rfl rfl)⟩
theorem fl_8_224 : ab_F RX8 224 3 3 := ⟨_, _, _, cok_3, by decide, (ab_in1 109 rfl rfl)⟩
theorem fl_3_25 : ab_F RX3 25 3 4 := ⟨_, _, _, cok_3, by decide, (ab_in1 110 rfl rfl)⟩
theorem fl_8_227 : ab_F RX8 227 3 4 := ⟨_, _, _, cok_3, by decide, (ab_in1 111 rfl rfl)⟩
theorem fl_3_28 : ab_F RX3 28 3 5 := ⟨_, _, _, cok_3, by decide, (ab_in1 112 rfl rfl)⟩
theorem fl_8_230 : ab_F RX8 230 3 5 := ⟨_, _, _, cok_3, by decide, (ab_in1 113 rfl rfl)⟩
theorem fl_3_31 : ab_F RX3 31 3 6 := ⟨_, _, _, cok_3, by decide, (ab_in1 114 rfl rfl)⟩
theorem fl_3_34 : ab_F RX3 34 3 7 := ⟨_, _, _, cok_3, by decide, (ab_in1 115 rfl rfl)⟩
theorem fl_3_37 : ab_F RX3 37 3 8 := ⟨_, _, _, cok_3, by decide, (ab_in1 116 rfl rfl)⟩
theorem fl_6_10 : ab_F RX6 10 6 0 := ⟨_, _, _, cok_6, by decide, (ab_in1 136 rfl rfl)⟩
theorem fl_8_55 : ab_F RX8 55 6 0 := ⟨_, _, _, cok_6, by decide, (ab_in1 137 rfl rfl)⟩
theorem fl_6_19 : ab_F RX6 19 6 1 := ⟨_, _, _, cok_6, by decide, (ab_in1 138 rfl rfl)⟩
theorem fl_8_147 : ab_F RX8 147 6 1 := ⟨_, _, _, cok_6, by decide, (ab_in1 139 rfl rfl)⟩
theorem fl_6_26 : ab_F RX6 26 6 2 := ⟨_, _, _, cok_6, by decide, (ab_in1 140 rfl rfl)⟩
theorem fl_8_181 : ab_F RX8 181 6 2 := ⟨_, _, _, cok_6, by decide, (ab_in1 141 rfl rfl)⟩
theorem fl_6_33 : ab_F RX6 33 6 3 := ⟨_, _, _, cok_6, by decide, (ab_in1 142 rfl rfl)⟩
theorem fl_8_65 : ab_F RX8 65 6 3 := ⟨_, _, _, cok_6, by decide, (ab_in1 143 rfl rfl)⟩
theorem fl_2_9 : ab_F RX2 9 2 0 := ⟨_, _, _, cok_2, by decide, (ab_in1 159 rfl rfl)⟩
theorem fl_1_64 : ab_F RX1 64 2 0 := ⟨_, _, _, cok_2, by decide, (ab_in1 160 rfl rfl)⟩
theorem fl_8_129 : ab_F RX8 129 2 0 := ⟨_, _, _, cok_2, by decide, (ab_in1 161 rfl rfl)⟩
theorem fl_2_15 : ab_F RX2 15 2 1 := ⟨_, _, _, cok_2, by decide, (ab_in1 162 rfl rfl)⟩
theorem fl_8_126 : ab_F RX8 126 2 1 := ⟨_, _, _, cok_2, by decide, (ab_in1 163 rfl rfl)⟩
theorem fl_2_19 : ab_F RX2 19 2 2 := ⟨_, _, _, cok_2, by decide, (ab_in1 164 rfl rfl)⟩
theorem fl_1_69 : ab_F RX1 69 2 2 := ⟨_, _, _, cok_2, by decide, (ab_in1 165 rfl rfl)⟩
theorem fl_8_135 : ab_F RX8 135 2 2 := ⟨_, _, _, cok_2, by decide, (ab_in1 166 rfl rfl)⟩
theorem fl_2_22 : ab_F RX2 22 2 3 := ⟨_, _, _, cok_2, by decide, (ab_in1 167 rfl rfl)⟩
theorem fl_8_138 : ab_F RX8 138 2 3 := ⟨_, _, _, cok_2, by decide, (ab_in1 168 rfl rfl)⟩
theorem fl_2_25 : ab_F RX2 25 2 4 := ⟨_, _, _, cok_2, by decide, (ab_in1 169 rfl rfl)⟩
theorem fl_1_74 : ab_F RX1 74 2 4 := ⟨_, _, _, cok_2, by decide, (ab_in1 170 rfl rfl)⟩
theorem fl_8_141 : ab_F RX8 141 2 4 := ⟨_, _, _, cok_2, by decide, (ab_in1 171 rfl rfl)⟩
theorem fl_2_28 : ab_F RX2 28 2 5 := ⟨_, _, _, cok_2, by decide, (ab_in1 172 rfl rfl)⟩
theorem fl_8_144 : ab_F RX8 144 2 5 := ⟨_, _, _, cok_2, by decide, (ab_in1 173 rfl rfl)⟩
theorem fl_2_31 : ab_F RX2 31 2 6 := ⟨_, _, _, cok_2, by decide, (ab_in1 174 rfl rfl)⟩
theorem fl_2_34 : ab_F RX2 34 2 7 := ⟨_, _, _, cok_2, by decide, (ab_in1 175 rfl rfl)⟩
theorem fl_1_9 : ab_F RX1 9 1 0 := ⟨_, _, _, cok_1, by decide, (ab_in1 199 rfl rfl)⟩
theorem fl_8_178 : ab_F RX8 178 1 0 := ⟨_, _, _, cok_1, by decide, (ab_in1 200 rfl rfl)⟩
theorem fl_1_15 : ab_F RX1 15 1 1 := ⟨_, _, _, cok_1, by decide, (ab_in1 201 rfl rfl)⟩
theorem fl_1_19 : ab_F RX1 19 1 2 := ⟨_, _, _, cok_1, by decide, (ab_in1 202 rfl rfl)⟩
theorem fl_1_22 : ab_F RX1 22 1 3 := ⟨_, _, _, cok_1, by decide, (ab_in1 203 rfl rfl)⟩
theorem fl_1_25 : ab_F RX1 25 1 4 := ⟨_, _, _, cok_1, by decide, (ab_in1 204 rfl rfl)⟩
theorem fl_1_28 : ab_F RX1 28 1 5 := ⟨_, _, _, cok_1, by decide, (ab_in1 205 rfl rfl)⟩
theorem fl_1_31 : ab_F RX1 31 1 6 := ⟨_, _, _, cok_1, by decide, (ab_in1 206 rfl rfl)⟩
theorem fl_1_34 : ab_F RX1 34 1 7 := ⟨_, _, _, cok_1, by decide, (ab_in1 207 rfl rfl)⟩
theorem fl_1_37 : ab_F RX1 37 1 8 := ⟨_, _, _, cok_1, by decide, (ab_in1 208 rfl rfl)⟩
theorem fl_5_10 : ab_F RX5 10 5 0 := ⟨_, _, _, cok_5, by decide, (ab_in1 235 rfl rfl)⟩
theorem fl_8_197 : ab_F RX8 197 5 0 := ⟨_, _, _, cok_5, by decide, (ab_in1 236 rfl rfl)⟩
theorem fl_5_16 : ab_F RX5 16 5 1 := ⟨_, _, _, cok_5, by decide, (ab_in1 237 rfl rfl)⟩
theorem fl_3_40 : ab_F RX3 40 5 1 := ⟨_, _, _, cok_5, by decide, (ab_in1 238 rfl rfl)⟩
theorem fl_8_200 : ab_F RX8 200 5 1 := ⟨_, _, _, cok_5, by decide, (ab_in1 239 rfl rfl)⟩
theorem fl_5_19 : ab_F RX5 19 5 2 := ⟨_, _, _, cok_5, by decide, (ab_in2 0 rfl rfl)⟩
theorem fl_3_48 : ab_F RX3 48 5 2 := ⟨_, _, _, cok_5, by decide, (ab_in2 1 rfl rfl)⟩
theorem fl_5_23 : ab_F RX5 23 5 3 := ⟨_, _, _, cok_5, by decide, (ab_in2 2 rfl rfl)⟩
theorem fl_3_49 : ab_F RX3 49 5 3 := ⟨_, _, _, cok_5, by decide, (ab_in2 3 rfl rfl)⟩
theorem fl_5_26 : ab_F RX5 26 5 4 := ⟨_, _, _, cok_5, by decide, (ab_in2 4 rfl rfl)⟩
theorem fl_5_29 : ab_F RX5 29 5 5 := ⟨_, _, _, cok_5, by decide, (ab_in2 5 rfl rfl)⟩
theorem fl_5_32 : ab_F RX5 32 5 6 := ⟨_, _, _, cok_5, by decide, (ab_in2 6 rfl rfl)⟩
theorem fl_5_35 : ab_F RX5 35 5 7 := ⟨_, _, _, cok_5, by decide, (ab_in2 7 rfl rfl)⟩
theorem fl_5_38 : ab_F RX5 38 5 8 := ⟨_, _, _, cok_5, by decide, (ab_in2 8 rfl rfl)⟩
theorem fl_8_10 : ab_F RX8 10 8 0 := ⟨_, _, _, cok_8, by decide, (ab_in2 28 rfl rfl)⟩
theorem fl_8_16 : ab_F RX8 16 8 1 := ⟨_, _, _, cok_8, by decide, (ab_in2 29 rfl rfl)⟩
theorem fl_8_19 : ab_F RX8 19 8 2 := ⟨_, _, _, cok_8, by decide, (ab_in2 30 rfl rfl)⟩
theorem fl_8_23 : ab_F RX8 23 8 3 := ⟨_, _, _, cok_8, by decide, (ab_in2 31 rfl rfl)⟩
theorem fl_8_27 : ab_F RX8 27 8 4 := ⟨_, _, _, cok_8, by decide, (ab_in2 32 rfl rfl)⟩
theorem fl_8_33 : ab_F RX8 33 8 5 := ⟨_, _, _, cok_8, by decide, (ab_in2 33 rfl rfl)⟩
theorem fl_8_40 : ab_F RX8 40 8 6 := ⟨_, _, _, cok_8, by decide, (ab_in2 34 rfl rfl)⟩
theorem fl_8_47 : ab_F RX8 47 8 7 := ⟨_, _, _, cok_8, by decide, (ab_in2 35 rfl rfl)⟩
theorem fl_9_7 : ab_F RX9 7 9 0 := ⟨_, _, _, cok_9, by decide, (ab_in3 209 rfl rfl)⟩
theorem fl_9_13 : ab_F RX9 13 9 1 := ⟨_, _, _, cok_9, by decide, (ab_in3 210 rfl rfl)⟩
theorem fl_9_16 : ab_F RX9 16 9 2 := ⟨_, _, _, cok_9, by decide, (ab_in3 211 rfl rfl)⟩
theorem fl_9_20 : ab_F RX9 20 9 3 := ⟨_, _, _, cok_9, by decide, (ab_in3 212 rfl rfl)⟩
theorem fl_9_152 : ab_F RX9 152 9 4 := ⟨_, _, _, cok_9, by decide, (ab_in3 213 rfl rfl)⟩
theorem fl_9_24 : ab_F RX9 24 9 5 := ⟨_, _, _, cok_9, by decide, (ab_in3 214 rfl rfl)⟩
theorem fl_9_27 : ab_F RX9 27 9 6 := ⟨_, _, _, cok_9, by decide, (ab_in3 215 rfl rfl)⟩
theorem fl_9_174 : ab_F RX9 174 9 7 := ⟨_, _, _, cok_9, by decide, (ab_in3 216 rfl rfl)⟩
theorem fl_9_30 : ab_F RX9 30 9 8 := ⟨_, _, _, cok_9, by decide, (ab_in3 217 rfl rfl)⟩
theorem fl_9_33 : ab_F RX9 33 9 9 := ⟨_, _, _, cok_9, by decide, (ab_in3 218 rfl rfl)⟩
theorem fl_9_36 : ab_F RX9 36 9 10 := ⟨_, _, _, cok_9, by decide, (ab_in3 219 rfl rfl)⟩
theorem fl_9_39 : ab_F RX9 39 9 11 := ⟨_, _, _, cok_9, by decide, (ab_in3 220 rfl rfl)⟩
theorem fl_9_115 : ab_F RX9 115 9 12 := ⟨_, _, _, cok_9, by decide, (ab_in3 221 rfl rfl)⟩
theorem fl_9_202 : ab_F RX9 202 9 13 := ⟨_, _, _, cok_9, by decide, (ab_in3 222 rfl rfl)⟩
theorem fl_9_42 : ab_F RX9 42 9 14 := ⟨_, _, _, cok_9, by decide, (ab_in3 223 rfl rfl)⟩
theorem fl_9_45 : ab_F RX9 45 9 15 := ⟨_, _, _, cok_9, by decide, (ab_in3 224 rfl rfl)⟩
theorem fl_9_48 : ab_F RX9 48 9 16 := ⟨_, _, _, cok_9, by decide, (ab_in3 225 rfl rfl)⟩
theorem fl_9_51 : ab_F RX9 51 9 17 := ⟨_, _, _, cok_9, by decide, (ab_in3 226 rfl rfl)⟩
theorem fl_9_227 : ab_F RX9 227 9 18 := ⟨_, _, _, cok_9, by decide, (ab_in3 227 rfl rfl)⟩
theorem fl_9_54 : ab_F RX9 54 9 19 := ⟨_, _, _, cok_9, by decide, (ab_in3 228 rfl rfl)⟩
theorem fl_9_57 : ab_F RX9 57 9 20 := ⟨_, _, _, cok_9, by decide, (ab_in3 229 rfl rfl)⟩
theorem fl_9_60 : ab_F RX9 60 9 21 := ⟨_, _, _, cok_9, by decide, (ab_in3 230 rfl rfl)⟩
theorem fl_9_63 : ab_F RX9 63 9 22 := ⟨_, _, _, cok_9, by decide, (ab_in3 231 rfl rfl)⟩
theorem fl_9_66 : ab_F RX9 66 9 23 := ⟨_, _, _, cok_9, by decide, (ab_in3 232 rfl rfl)⟩
theorem fl_9_143 : ab_F RX9 143 9 24 := ⟨_, _, _, cok_9, by decide, (ab_in3 233 rfl rfl)⟩
theorem fl_9_69 : ab_F RX9 69 9 25 := ⟨_, _, _, cok_9, by decide, (ab_in3 234 rfl rfl)⟩
theorem fl_9_72 : ab_F RX9 72 9 26 := ⟨_, _, _, cok_9, by decide, (ab_in3 235 rfl rfl)⟩
theorem fl_9_75 : ab_F RX9 75 9 27 := ⟨_, _, _, cok_9, by decide, (ab_in3 236 rfl rfl)⟩
theorem fl_9_78 : ab_F RX9 78 9 28 := ⟨_, _, _, cok_9, by decide, (ab_in3 237 rfl rfl)⟩
theorem fl_9_155 : ab_F RX9 155 9 29 := ⟨_, _, _, cok_9, by decide, (ab_in3 238 rfl rfl)⟩
theorem fl_9_81 : ab_F RX9 81 9 30 := ⟨_, _, _, cok_9, by decide, (ab_in3 239 rfl rfl)⟩
theorem fl_9_158 : ab_F RX9 158 9 31 := ⟨_, _, _, cok_9, by decide, (ab_in4 0 rfl rfl)⟩
theorem fl_9_84 : ab_F RX9 84 9 32 := ⟨_, _, _, cok_9, by decide, (ab_in4 1 rfl rfl)⟩
theorem fl_9_87 : ab_F RX9 87 9 33 := ⟨_, _, _, cok_9, by decide, (ab_in4 2 rfl rfl)⟩
theorem fl_9_90 : ab_F RX9 90 9 34 := ⟨_, _, _, cok_9, by decide, (ab_in4 3 rfl rfl)⟩
theorem fl_9_93 : ab_F RX9 93 9 35 := ⟨_, _, _, cok_9, by decide, (ab_in4 4 rfl rfl)⟩
theorem fl_9_165 : ab_F RX9 165 9 36 := ⟨_, _, _, cok_9, by decide, (ab_in4 5 rfl rfl)⟩
theorem fl_9_96 : ab_F RX9 96 9 37 := ⟨_, _, _, cok_9, by decide, (ab_in4 6 rfl rfl)⟩
theorem fl_9_99 : ab_F RX9 99 9 38 := ⟨_, _, _, cok_9, by decide, (ab_in4 7 rfl rfl)⟩
theorem fl_9_102 : ab_F RX9 102 9 39 := ⟨_, _, _, cok_9, by decide, (ab_in4 8 rfl rfl)⟩
theorem fl_9_105 : ab_F RX9 105 9 40 := ⟨_, _, _, cok_9, by decide, (ab_in4 9 rfl rfl)⟩
theorem fl_9_186 : ab_F RX9 186 9 41 := ⟨_, _, _, cok_9, by decide, (ab_in4 10 rfl rfl)⟩
theorem fl_9_189 : ab_F RX9 189 9 42 := ⟨_, _, _, cok_9, by decide, (ab_in4 11 rfl rfl)⟩
theorem fl_9_108 : ab_F RX9 108 9 43 := ⟨_, _, _, cok_9, by decide, (ab_in4 12 rfl rfl)⟩
end
section
abbrev ab_np (M : ab_M) (n : Nat) : Prop := (parseMethodDescriptor M.1.desc).map (fun d => d.parameters.length) = some n
def ab_lV (own : String) (ix : Nat) (M : ab_M) (ci : Nat) : Prop := ab_mok M ∧ Cond.methodLink own ix M.1 ∈ ab_tb ∧ Cond.instanceMethod M.1 ∈ ab_tb ∧ Cond.selects M.1.cls M.1 M.1 ∈ ab_tb ∧ (vwCl[ci]?).map (fun q => q.1) = some M.1.cls ∧ ab_np M (M.2.2.2.2 - 1) ∧ 1 ≤ M.2.2.2.2
def ab_lS (own : String) (ix : Nat) (M : ab_M) : Prop := ab_mok M ∧ Cond.methodLink own ix M.1 ∈ ab_tb ∧ Cond.static M.1 ∈ ab_tb ∧ ab_np M M.2.2.2.2
def ab_lI (own : String) (ix : Nat) (M : ab_M) : Prop := ab_mok M ∧ Cond.methodLink own ix M.1 ∈ ab_tb ∧ Cond.instanceMethod M.1 ∈ ab_tb ∧ M.1.name = "<init>" ∧ M.2.2.2.1 = none ∧ ab_np M (M.2.2.2.2 - 1) ∧ 1 ≤ M.2.2.2.2
def ab_nl : List Cond := [.methodLinkNest RX0 38 yX8_cellOf "WeftShop", .methodLinkNest RX0 34 yX8_isBelow "WeftShop", .methodLinkNest RX2 51 yX8_cellOf "WeftShop", .methodLinkNest RX3 58 yX8_cellOf "WeftShop"]
theorem ab_nl_0 : Cond.methodLinkNest RX0 38 yX8_cellOf "WeftShop" ∈ lw_tbl := List.mem_of_getElem? (i := 371) (by decide +kernel)
theorem ab_nl_1 : Cond.methodLinkNest RX0 34 yX8_isBelow "WeftShop" ∈ lw_tbl := List.mem_of_getElem? (i := 386) (by decide +kernel)
theorem ab_nl_2 : Cond.methodLinkNest RX2 51 yX8_cellOf "WeftShop" ∈ lw_tbl := List.mem_of_getElem? (i := 449) (by decide +kernel)
theorem ab_nl_3 : Cond.methodLinkNest RX3 58 yX8_cellOf "WeftShop" ∈ lw_tbl := List.mem_of_getElem? (i := 609) (by decide +kernel)
theorem ab_nl_in : ∀ w ∈ ab_nl, w ∈ lw_tbl := by
  intro w hw
  simp only [ab_nl, List.mem_cons, List.not_mem_nil, or_false] at hw
  rcases hw with rfl | rfl | rfl | rfl
  · exact ab_nl_0
  · exact ab_nl_1
  · exact ab_nl_2
  · exact ab_nl_3
def ab_lN (own : String) (ix : Nat) (M : ab_M) : Prop := ab_mok M ∧ (∃ host, Cond.methodLinkNest own ix M.1 host ∈ ab_nl) ∧ Cond.static M.1 ∈ ab_tb ∧ ab_np M M.2.2.2.2
def ab_lO (own : String) (ix : Nat) : Prop := Cond.methodLink own ix Lib.objectInit ∈ ab_tb ∧ Cond.instanceMethod Lib.objectInit ∈ ab_tb ∧ Cond.code Lib.objectInit ⟨#[0xb1]⟩ 1 none ∈ ab_tb
def ab_lX (own : String) (ix : Nat) : Prop := Cond.methodLink own ix Lib.Math.max.name ∈ ab_tb ∧ Cond.static Lib.Math.max.name ∈ ab_tb ∧ Cond.initialized "java/lang/Math" ∈ ab_tb ∧ Cond.code Lib.Math.max.name Lib.Math.max.code 2 (some .int) ∈ ab_tb
def ab_lY (own : String) (ix : Nat) : Prop := Cond.methodLink own ix Lib.Math.min.name ∈ ab_tb ∧ Cond.static Lib.Math.min.name ∈ ab_tb ∧ Cond.initialized "java/lang/Math" ∈ ab_tb ∧ Cond.code Lib.Math.min.name Lib.Math.min.code 2 (some .int) ∈ ab_tb
def ab_lC (own : String) (ix : Nat) : Prop := Cond.methodLink own ix arraycopyName ∈ ab_tb ∧ Cond.native arraycopyName ∈ ab_tb ∧ Cond.static arraycopyName ∈ ab_tb ∧ Cond.initialized "java/lang/System" ∈ ab_tb
theorem ml_0_38 : ab_lN RX0 38 mX8_cellOf := ⟨mokX8_cellOf, ⟨"WeftShop", by simp [ab_nl, mX8_cellOf]⟩, (ab_in2 89 rfl rfl), by decide⟩
theorem ml_0_34 : ab_lN RX0 34 mX8_isBelow := ⟨mokX8_isBelow, ⟨"WeftShop", by simp [ab_nl, mX8_isBelow]⟩, (ab_in2 82 rfl rfl), by decide⟩
theorem ml_2_51 : ab_lN RX2 51 mX8_cellOf := ⟨mokX8_cellOf, ⟨"WeftShop", by simp [ab_nl, mX8_cellOf]⟩, (ab_in2 89 rfl rfl), by decide⟩
theorem ml_3_58 : ab_lN RX3 58 mX8_cellOf := ⟨mokX8_cellOf, ⟨"WeftShop", by simp [ab_nl, mX8_cellOf]⟩, (ab_in2 89 rfl rfl), by decide⟩
theorem ml_L_9 : ab_lI RL 9 mX8_init := ⟨mokX8_init, (ab_in1 16 rfl rfl), (ab_in1 17 rfl rfl), rfl, rfl, by decide, by decide⟩
theorem ml_8_1 : ab_lO RX8 1 := ⟨(ab_in1 19 rfl rfl), (ab_in1 20 rfl rfl), (ab_in1 21 rfl rfl)⟩
theorem ml_8_9 : ab_lI RX8 9 mX6_init := ⟨mokX6_init, (ab_in1 24 rfl rfl), (ab_in1 25 rfl rfl), rfl, rfl, by decide, by decide⟩
theorem ml_6_1 : ab_lO RX6 1 := ⟨(ab_in1 27 rfl rfl), (ab_in1 20 rfl rfl), (ab_in1 21 rfl rfl)⟩
theorem ml_6_9 : ab_lI RX6 9 mX0_init := ⟨mokX0_init, (ab_in1 30 rfl rfl), (ab_in1 31 rfl rfl), rfl, rfl, by decide, by decide⟩
theorem ml_0_3 : ab_lO RX0 3 := ⟨(ab_in1 33 rfl rfl), (ab_in1 20 rfl rfl), (ab_in1 21 rfl rfl)⟩
theorem ml_6_18 : ab_lI RX6 18 mX4_init := ⟨mokX4_init, (ab_in1 54 rfl rfl), (ab_in1 55 rfl rfl), rfl, rfl, by decide, by decide⟩
theorem ml_4_3 : ab_lO RX4 3 := ⟨(ab_in1 57 rfl rfl), (ab_in1 20 rfl rfl), (ab_in1 21 rfl rfl)⟩
theorem ml_6_25 : ab_lI RX6 25 mX7_init := ⟨mokX7_init, (ab_in1 76 rfl rfl), (ab_in1 77 rfl rfl), rfl, rfl, by decide, by decide⟩
theorem ml_7_3 : ab_lO RX7 3 := ⟨(ab_in1 79 rfl rfl), (ab_in1 20 rfl rfl), (ab_in1 21 rfl rfl)⟩
theorem ml_6_32 : ab_lI RX6 32 mX3_init := ⟨mokX3_init, (ab_in1 98 rfl rfl), (ab_in1 99 rfl rfl), rfl, rfl, by decide, by decide⟩
theorem ml_3_3 : ab_lO RX3 3 := ⟨(ab_in1 101 rfl rfl), (ab_in1 20 rfl rfl), (ab_in1 21 rfl rfl)⟩
theorem ml_8_32 : ab_lI RX8 32 mX2_init := ⟨mokX2_init, (ab_in1 155 rfl rfl), (ab_in1 156 rfl rfl), rfl, rfl, by decide, by decide⟩
theorem ml_2_3 : ab_lO RX2 3 := ⟨(ab_in1 158 rfl rfl), (ab_in1 20 rfl rfl), (ab_in1 21 rfl rfl)⟩
theorem ml_8_39 : ab_lI RX8 39 mX1_init := ⟨mokX1_init, (ab_in1 195 rfl rfl), (ab_in1 196 rfl rfl), rfl, rfl, by decide, by decide⟩
theorem ml_1_3 : ab_lO RX1 3 := ⟨(ab_in1 198 rfl rfl), (ab_in1 20 rfl rfl), (ab_in1 21 rfl rfl)⟩
theorem ml_8_46 : ab_lI RX8 46 mX5_init := ⟨mokX5_init, (ab_in1 230 rfl rfl), (ab_in1 231 rfl rfl), rfl, rfl, by decide, by decide⟩
theorem ml_5_3 : ab_lO RX5 3 := ⟨(ab_in1 233 rfl rfl), (ab_in1 20 rfl rfl), (ab_in1 21 rfl rfl)⟩
theorem ml_L_13 : ab_lV RL 13 mX8_size 8 := ⟨mokX8_size, (ab_in2 53 rfl rfl), (ab_in2 54 rfl rfl), (ab_in2 55 rfl rfl), rfl, by decide, by decide⟩
theorem ml_8_51 : ab_lS RX8 51 mX8_isFromTo := ⟨mokX8_isFromTo, (ab_in2 57 rfl rfl), (ab_in2 58 rfl rfl), by decide⟩
theorem ml_8_59 : ab_lV RX8 59 mX0_renew 0 := ⟨mokX0_renew, (ab_in2 60 rfl rfl), (ab_in2 61 rfl rfl), (ab_in2 62 rfl rfl), rfl, by decide, by decide⟩
theorem ml_0_22 : ab_lS RX0 22 mJ7_fill_53178 := ⟨mokJ7_fill_53178, (ab_in2 64 rfl rfl), (ab_in2 65 rfl rfl), by decide⟩
theorem ml_8_69 : ab_lV RX8 69 mX3_takeDown 3 := ⟨mokX3_takeDown, (ab_in2 67 rfl rfl), (ab_in2 68 rfl rfl), (ab_in2 69 rfl rfl), rfl, by decide, by decide⟩
theorem ml_L_18 : ab_lV RL 18 mX8_paint 8 := ⟨mokX8_paint, (ab_in2 71 rfl rfl), (ab_in2 72 rfl rfl), (ab_in2 73 rfl rfl), rfl, by decide, by decide⟩
theorem ml_8_77 : ab_lS RX8 77 mX8_isOnBoard := ⟨mokX8_isOnBoard, (ab_in2 75 rfl rfl), (ab_in2 76 rfl rfl), by decide⟩
theorem ml_8_83 : ab_lS RX8 83 mX8_isColour := ⟨mokX8_isColour, (ab_in2 78 rfl rfl), (ab_in2 79 rfl rfl), by decide⟩
theorem ml_8_132 : ab_lS RX8 132 mX8_isBelow := ⟨mokX8_isBelow, (ab_in2 81 rfl rfl), (ab_in2 82 rfl rfl), by decide⟩
theorem ml_8_87 : ab_lV RX8 87 mX0_cellOfCartoon 0 := ⟨mokX0_cellOfCartoon, (ab_in2 84 rfl rfl), (ab_in2 85 rfl rfl), (ab_in2 86 rfl rfl), rfl, by decide, by decide⟩
theorem ml_8_91 : ab_lV RX8 91 mX0_dip 0 := ⟨mokX0_dip, (ab_in2 91 rfl rfl), (ab_in2 92 rfl rfl), (ab_in2 93 rfl rfl), rfl, by decide, by decide⟩
theorem ml_L_23 : ab_lV RL 23 mX8_face 8 := ⟨mokX8_face, (ab_in2 95 rfl rfl), (ab_in2 96 rfl rfl), (ab_in2 97 rfl rfl), rfl, by decide, by decide⟩
theorem ml_8_94 : ab_lV RX8 94 mX0_hasSquare 0 := ⟨mokX0_hasSquare, (ab_in2 99 rfl rfl), (ab_in2 100 rfl rfl), (ab_in2 101 rfl rfl), rfl, by decide, by decide⟩
theorem ml_8_98 : ab_lV RX8 98 mX0_hasFace 0 := ⟨mokX0_hasFace, (ab_in2 104 rfl rfl), (ab_in2 105 rfl rfl), (ab_in2 106 rfl rfl), rfl, by decide, by decide⟩
theorem ml_8_101 : ab_lV RX8 101 mX0_turnFace 0 := ⟨mokX0_turnFace, (ab_in2 108 rfl rfl), (ab_in2 109 rfl rfl), (ab_in2 110 rfl rfl), rfl, by decide, by decide⟩
theorem ml_L_28 : ab_lV RL 28 mX8_cartoon 8 := ⟨mokX8_cartoon, (ab_in2 112 rfl rfl), (ab_in2 113 rfl rfl), (ab_in2 114 rfl rfl), rfl, by decide, by decide⟩
theorem ml_L_32 : ab_lV RL 32 mX8_loom 8 := ⟨mokX8_loom, (ab_in2 116 rfl rfl), (ab_in2 117 rfl rfl), (ab_in2 118 rfl rfl), rfl, by decide, by decide⟩
theorem ml_8_109 : ab_lS RX8 109 mX8_cellOf := ⟨mokX8_cellOf, (ab_in2 120 rfl rfl), (ab_in2 89 rfl rfl), by decide⟩
theorem ml_L_36 : ab_lV RL 36 mX8_rule 8 := ⟨mokX8_rule, (ab_in2 121 rfl rfl), (ab_in2 122 rfl rfl), (ab_in2 123 rfl rfl), rfl, by decide, by decide⟩
theorem ml_L_40 : ab_lV RL 40 mX8_slits 8 := ⟨mokX8_slits, (ab_in2 125 rfl rfl), (ab_in2 126 rfl rfl), (ab_in2 127 rfl rfl), rfl, by decide, by decide⟩
theorem ml_8_112 : ab_lV RX8 112 mX0_lengthOfSlitFrom 0 := ⟨mokX0_lengthOfSlitFrom, (ab_in2 129 rfl rfl), (ab_in2 130 rfl rfl), (ab_in2 131 rfl rfl), rfl, by decide, by decide⟩
theorem ml_0_53 : ab_lV RX0 53 mX0_isSlitAt 0 := ⟨mokX0_isSlitAt, (ab_in2 133 rfl rfl), (ab_in2 134 rfl rfl), (ab_in2 135 rfl rfl), rfl, by decide, by decide⟩
theorem ml_0_50 : ab_lV RX0 50 mX0_colourAt 0 := ⟨mokX0_colourAt, (ab_in2 137 rfl rfl), (ab_in2 138 rfl rfl), (ab_in2 139 rfl rfl), rfl, by decide, by decide⟩
theorem ml_8_115 : ab_lV RX8 115 mX8_addSlit 8 := ⟨mokX8_addSlit, (ab_in2 141 rfl rfl), (ab_in2 143 rfl rfl), (ab_in0 0 rfl rfl), rfl, by decide, by decide⟩
theorem ml_8_264 : ab_lX RX8 264 := ⟨(ab_in2 145 rfl rfl), (ab_in2 146 rfl rfl), (ab_in1 12 rfl rfl), (ab_in2 147 rfl rfl)⟩
theorem ml_L_45 : ab_lV RL 45 mX8_slit 8 := ⟨mokX8_slit, (ab_in2 148 rfl rfl), (ab_in2 149 rfl rfl), (ab_in2 150 rfl rfl), rfl, by decide, by decide⟩
theorem ml_8_119 : ab_lV RX8 119 mX0_slitLength 0 := ⟨mokX0_slitLength, (ab_in2 152 rfl rfl), (ab_in2 153 rfl rfl), (ab_in2 154 rfl rfl), rfl, by decide, by decide⟩
theorem ml_0_56 : ab_lV RX0 56 mX0_lengthOfSlitFrom 0 := ⟨mokX0_lengthOfSlitFrom, (ab_in2 156 rfl rfl), (ab_in2 130 rfl rfl), (ab_in2 131 rfl rfl), rfl, by decide, by decide⟩
theorem ml_L_49 : ab_lV RL 49 mX8_field 8 := ⟨mokX8_field, (ab_in2 157 rfl rfl), (ab_in2 158 rfl rfl), (ab_in2 159 rfl rfl), rfl, by decide, by decide⟩
theorem ml_8_122 : ab_lV RX8 122 mX2_find 2 := ⟨mokX2_find, (ab_in2 161 rfl rfl), (ab_in2 162 rfl rfl), (ab_in2 163 rfl rfl), rfl, by decide, by decide⟩
theorem ml_2_37 : ab_lS RX2 37 mJ7_fill_53178 := ⟨mokJ7_fill_53178, (ab_in2 165 rfl rfl), (ab_in2 65 rfl rfl), by decide⟩
theorem ml_2_55 : ab_lV RX2 55 mX2_spread 2 := ⟨mokX2_spread, (ab_in2 167 rfl rfl), (ab_in2 169 rfl rfl), (ab_in0 1 rfl rfl), rfl, by decide, by decide⟩
theorem ml_2_59 : ab_lV RX2 59 mX0_colourAt 0 := ⟨mokX0_colourAt, (ab_in2 171 rfl rfl), (ab_in2 138 rfl rfl), (ab_in2 139 rfl rfl), rfl, by decide, by decide⟩
theorem ml_2_63 : ab_lV RX2 63 mX2_join 2 := ⟨mokX2_join, (ab_in2 172 rfl rfl), (ab_in2 174 rfl rfl), (ab_in0 2 rfl rfl), rfl, by decide, by decide⟩
theorem ml_2_67 : ab_lV RX2 67 mX2_look 2 := ⟨mokX2_look, (ab_in2 176 rfl rfl), (ab_in2 178 rfl rfl), (ab_in0 3 rfl rfl), rfl, by decide, by decide⟩
theorem ml_2_71 : ab_lV RX2 71 mX0_hasSquare 0 := ⟨mokX0_hasSquare, (ab_in2 180 rfl rfl), (ab_in2 100 rfl rfl), (ab_in2 101 rfl rfl), rfl, by decide, by decide⟩
theorem ml_L_53 : ab_lV RL 53 mX8_of 8 := ⟨mokX8_of, (ab_in2 181 rfl rfl), (ab_in2 182 rfl rfl), (ab_in2 183 rfl rfl), rfl, by decide, by decide⟩
theorem ml_L_57 : ab_lV RL 57 mX8_dye 8 := ⟨mokX8_dye, (ab_in2 185 rfl rfl), (ab_in2 186 rfl rfl), (ab_in2 187 rfl rfl), rfl, by decide, by decide⟩
theorem ml_8_154 : ab_lV RX8 154 mX4_add 4 := ⟨mokX4_add, (ab_in2 189 rfl rfl), (ab_in2 190 rfl rfl), (ab_in2 191 rfl rfl), rfl, by decide, by decide⟩
theorem ml_L_61 : ab_lV RL 61 mX8_lot 8 := ⟨mokX8_lot, (ab_in2 193 rfl rfl), (ab_in2 194 rfl rfl), (ab_in2 195 rfl rfl), rfl, by decide, by decide⟩
theorem ml_8_159 : ab_lV RX8 159 mX8_findDealing 8 := ⟨mokX8_findDealing, (ab_in2 197 rfl rfl), (ab_in2 199 rfl rfl), (ab_in0 4 rfl rfl), rfl, by decide, by decide⟩
theorem ml_8_261 : ab_lV RX8 261 mX1_find 1 := ⟨mokX1_find, (ab_in2 201 rfl rfl), (ab_in2 202 rfl rfl), (ab_in2 203 rfl rfl), rfl, by decide, by decide⟩
theorem ml_1_40 : ab_lV RX1 40 mX1_gatherFields 1 := ⟨mokX1_gatherFields, (ab_in2 205 rfl rfl), (ab_in2 207 rfl rfl), (ab_in0 5 rfl rfl), rfl, by decide, by decide⟩
theorem ml_1_44 : ab_lV RX1 44 mX1_gatherLots 1 := ⟨mokX1_gatherLots, (ab_in2 209 rfl rfl), (ab_in2 211 rfl rfl), (ab_in0 6 rfl rfl), rfl, by decide, by decide⟩
theorem ml_1_48 : ab_lV RX1 48 mX1_weighSets 1 := ⟨mokX1_weighSets, (ab_in2 213 rfl rfl), (ab_in2 215 rfl rfl), (ab_in0 7 rfl rfl), rfl, by decide, by decide⟩
theorem ml_1_57 : ab_lV RX1 57 mX1_addLot 1 := ⟨mokX1_addLot, (ab_in2 217 rfl rfl), (ab_in2 219 rfl rfl), (ab_in0 8 rfl rfl), rfl, by decide, by decide⟩
theorem ml_1_61 : ab_lV RX1 61 mX1_readChoices 1 := ⟨mokX1_readChoices, (ab_in2 222 rfl rfl), (ab_in2 224 rfl rfl), (ab_in0 9 rfl rfl), rfl, by decide, by decide⟩
theorem ml_1_76 : ab_lS RX1 76 mJ7_fill_53178 := ⟨mokJ7_fill_53178, (ab_in2 226 rfl rfl), (ab_in2 65 rfl rfl), by decide⟩
theorem ml_8_162 : ab_lV RX8 162 mX1_yarnFrom 1 := ⟨mokX1_yarnFrom, (ab_in2 227 rfl rfl), (ab_in2 228 rfl rfl), (ab_in2 229 rfl rfl), rfl, by decide, by decide⟩
theorem ml_L_65 : ab_lV RL 65 mX8_deal 8 := ⟨mokX8_deal, (ab_in2 231 rfl rfl), (ab_in2 232 rfl rfl), (ab_in2 233 rfl rfl), rfl, by decide, by decide⟩
theorem ml_8_166 : ab_lV RX8 166 mX1_lotFor 1 := ⟨mokX1_lotFor, (ab_in2 235 rfl rfl), (ab_in2 236 rfl rfl), (ab_in2 237 rfl rfl), rfl, by decide, by decide⟩
theorem ml_L_69 : ab_lV RL 69 mX8_dealt 8 := ⟨mokX8_dealt, (ab_in2 239 rfl rfl), (ab_in3 0 rfl rfl), (ab_in3 1 rfl rfl), rfl, by decide, by decide⟩
theorem ml_8_170 : ab_lV RX8 170 mX1_yarnInAll 1 := ⟨mokX1_yarnInAll, (ab_in3 3 rfl rfl), (ab_in3 4 rfl rfl), (ab_in3 5 rfl rfl), rfl, by decide, by decide⟩
theorem ml_1_82 : ab_lV RX1 82 mX1_yarnFrom 1 := ⟨mokX1_yarnFrom, (ab_in3 7 rfl rfl), (ab_in2 228 rfl rfl), (ab_in2 229 rfl rfl), rfl, by decide, by decide⟩
theorem ml_8_174 : ab_lV RX8 174 mX1_countServed 1 := ⟨mokX1_countServed, (ab_in3 8 rfl rfl), (ab_in3 9 rfl rfl), (ab_in3 10 rfl rfl), rfl, by decide, by decide⟩
theorem ml_L_73 : ab_lV RL 73 mX8_weaver 8 := ⟨mokX8_weaver, (ab_in3 12 rfl rfl), (ab_in3 13 rfl rfl), (ab_in3 14 rfl rfl), rfl, by decide, by decide⟩
theorem ml_8_188 : ab_lV RX8 188 mX7_add 7 := ⟨mokX7_add, (ab_in3 16 rfl rfl), (ab_in3 17 rfl rfl), (ab_in3 18 rfl rfl), rfl, by decide, by decide⟩
theorem ml_L_78 : ab_lV RL 78 mX8_speed 8 := ⟨mokX8_speed, (ab_in3 20 rfl rfl), (ab_in3 21 rfl rfl), (ab_in3 22 rfl rfl), rfl, by decide, by decide⟩
theorem ml_L_82 : ab_lV RL 82 mX8_share 8 := ⟨mokX8_share, (ab_in3 24 rfl rfl), (ab_in3 25 rfl rfl), (ab_in3 26 rfl rfl), rfl, by decide, by decide⟩
theorem ml_8_194 : ab_lV RX8 194 mX5_find 5 := ⟨mokX5_find, (ab_in3 28 rfl rfl), (ab_in3 29 rfl rfl), (ab_in3 30 rfl rfl), rfl, by decide, by decide⟩
theorem ml_5_44 : ab_lV RX5 44 mX0_workOfWarp 0 := ⟨mokX0_workOfWarp, (ab_in3 32 rfl rfl), (ab_in3 33 rfl rfl), (ab_in3 34 rfl rfl), rfl, by decide, by decide⟩
theorem ml_0_46 : ab_lV RX0 46 mX0_facesOfWarp 0 := ⟨mokX0_facesOfWarp, (ab_in3 36 rfl rfl), (ab_in3 37 rfl rfl), (ab_in3 38 rfl rfl), rfl, by decide, by decide⟩
theorem ml_0_42 : ab_lV RX0 42 mX0_hasFace 0 := ⟨mokX0_hasFace, (ab_in3 40 rfl rfl), (ab_in2 105 rfl rfl), (ab_in2 106 rfl rfl), rfl, by decide, by decide⟩
theorem ml_5_48 : ab_lV RX5 48 mX0_facesOfWarp 0 := ⟨mokX0_facesOfWarp, (ab_in3 41 rfl rfl), (ab_in3 37 rfl rfl), (ab_in3 38 rfl rfl), rfl, by decide, by decide⟩
theorem ml_5_51 : ab_lS RX5 51 mX5_tryFrom := ⟨mokX5_tryFrom, (ab_in3 42 rfl rfl), (ab_in3 43 rfl rfl), by decide⟩
theorem ml_5_55 : ab_lV RX5 55 mX5_takeIfBetter 5 := ⟨mokX5_takeIfBetter, (ab_in3 45 rfl rfl), (ab_in3 47 rfl rfl), (ab_in0 10 rfl rfl), rfl, by decide, by decide⟩
theorem ml_5_81 : ab_lC RX5 81 := ⟨(ab_in3 49 rfl rfl), (ab_in3 51 rfl rfl), (ab_in3 50 rfl rfl), (ab_in1 13 rfl rfl)⟩
theorem ml_5_64 : ab_lV RX5 64 mX5_daysOfStrip 5 := ⟨mokX5_daysOfStrip, (ab_in3 52 rfl rfl), (ab_in3 54 rfl rfl), (ab_in0 11 rfl rfl), rfl, by decide, by decide⟩
theorem ml_5_78 : ab_lV RX5 78 mX7_daysFor 7 := ⟨mokX7_daysFor, (ab_in3 56 rfl rfl), (ab_in3 57 rfl rfl), (ab_in3 58 rfl rfl), rfl, by decide, by decide⟩
theorem ml_5_68 : ab_lX RX5 68 := ⟨(ab_in3 61 rfl rfl), (ab_in2 146 rfl rfl), (ab_in1 12 rfl rfl), (ab_in2 147 rfl rfl)⟩
theorem ml_L_86 : ab_lV RL 86 mX8_who 8 := ⟨mokX8_who, (ab_in3 62 rfl rfl), (ab_in3 63 rfl rfl), (ab_in3 64 rfl rfl), rfl, by decide, by decide⟩
theorem ml_8_203 : ab_lV RX8 203 mX5_weaverAt 5 := ⟨mokX5_weaverAt, (ab_in3 66 rfl rfl), (ab_in3 67 rfl rfl), (ab_in3 68 rfl rfl), rfl, by decide, by decide⟩
theorem ml_L_90 : ab_lV RL 90 mX8_up 8 := ⟨mokX8_up, (ab_in3 70 rfl rfl), (ab_in3 71 rfl rfl), (ab_in3 72 rfl rfl), rfl, by decide, by decide⟩
theorem ml_8_206 : ab_lV RX8 206 mX3_setUp 3 := ⟨mokX3_setUp, (ab_in3 74 rfl rfl), (ab_in3 75 rfl rfl), (ab_in3 76 rfl rfl), rfl, by decide, by decide⟩
theorem ml_3_50 : ab_lV RX3 50 mX3_measure 3 := ⟨mokX3_measure, (ab_in3 78 rfl rfl), (ab_in3 80 rfl rfl), (ab_in0 12 rfl rfl), rfl, by decide, by decide⟩
theorem ml_3_54 : ab_lV RX3 54 mX3_workInPick 3 := ⟨mokX3_workInPick, (ab_in3 82 rfl rfl), (ab_in3 84 rfl rfl), (ab_in0 13 rfl rfl), rfl, by decide, by decide⟩
theorem ml_3_62 : ab_lV RX3 62 mX0_workAt 0 := ⟨mokX0_workAt, (ab_in3 87 rfl rfl), (ab_in3 88 rfl rfl), (ab_in3 89 rfl rfl), rfl, by decide, by decide⟩
theorem ml_L_95 : ab_lV RL 95 mX8_days 8 := ⟨mokX8_days, (ab_in3 91 rfl rfl), (ab_in3 92 rfl rfl), (ab_in3 93 rfl rfl), rfl, by decide, by decide⟩
theorem ml_8_211 : ab_lV RX8 211 mX3_isUp 3 := ⟨mokX3_isUp, (ab_in3 95 rfl rfl), (ab_in3 96 rfl rfl), (ab_in3 97 rfl rfl), rfl, by decide, by decide⟩
theorem ml_8_215 : ab_lV RX8 215 mX3_weaveDay 3 := ⟨mokX3_weaveDay, (ab_in3 99 rfl rfl), (ab_in3 100 rfl rfl), (ab_in3 101 rfl rfl), rfl, by decide, by decide⟩
theorem ml_3_74 : ab_lV RX3 74 mX3_beginDay 3 := ⟨mokX3_beginDay, (ab_in3 103 rfl rfl), (ab_in3 105 rfl rfl), (ab_in0 14 rfl rfl), rfl, by decide, by decide⟩
theorem ml_3_66 : ab_lV RX3 66 mX3_wholePicks 3 := ⟨mokX3_wholePicks, (ab_in3 107 rfl rfl), (ab_in3 108 rfl rfl), (ab_in3 109 rfl rfl), rfl, by decide, by decide⟩
theorem ml_3_77 : ab_lV RX3 77 mX3_isTooFarAhead 3 := ⟨mokX3_isTooFarAhead, (ab_in3 111 rfl rfl), (ab_in3 113 rfl rfl), (ab_in0 15 rfl rfl), rfl, by decide, by decide⟩
theorem ml_3_86 : ab_lV RX3 86 mX3_workOf 3 := ⟨mokX3_workOf, (ab_in3 115 rfl rfl), (ab_in3 116 rfl rfl), (ab_in3 117 rfl rfl), rfl, by decide, by decide⟩
theorem ml_3_69 : ab_lY RX3 69 := ⟨(ab_in3 119 rfl rfl), (ab_in3 120 rfl rfl), (ab_in1 12 rfl rfl), (ab_in3 121 rfl rfl)⟩
theorem ml_8_219 : ab_lV RX8 219 mX3_fewestWholePicks 3 := ⟨mokX3_fewestWholePicks, (ab_in3 122 rfl rfl), (ab_in3 123 rfl rfl), (ab_in3 124 rfl rfl), rfl, by decide, by decide⟩
theorem ml_L_99 : ab_lV RL 99 mX8_strip 8 := ⟨mokX8_strip, (ab_in3 126 rfl rfl), (ab_in3 127 rfl rfl), (ab_in3 128 rfl rfl), rfl, by decide, by decide⟩
theorem ml_8_233 : ab_lV RX8 233 mX3_workOf 3 := ⟨mokX3_workOf, (ab_in3 130 rfl rfl), (ab_in3 116 rfl rfl), (ab_in3 117 rfl rfl), rfl, by decide, by decide⟩
theorem ml_8_236 : ab_lV RX8 236 mX3_wholePicks 3 := ⟨mokX3_wholePicks, (ab_in3 131 rfl rfl), (ab_in3 108 rfl rfl), (ab_in3 109 rfl rfl), rfl, by decide, by decide⟩
theorem ml_8_239 : ab_lV RX8 239 mX3_wouldGoOn 3 := ⟨mokX3_wouldGoOn, (ab_in3 132 rfl rfl), (ab_in3 133 rfl rfl), (ab_in3 134 rfl rfl), rfl, by decide, by decide⟩
theorem ml_L_103 : ab_lV RL 103 mX8_woven 8 := ⟨mokX8_woven, (ab_in3 136 rfl rfl), (ab_in3 137 rfl rfl), (ab_in3 138 rfl rfl), rfl, by decide, by decide⟩
theorem ml_8_242 : ab_lV RX8 242 mX3_isWoven 3 := ⟨mokX3_isWoven, (ab_in3 140 rfl rfl), (ab_in3 141 rfl rfl), (ab_in3 142 rfl rfl), rfl, by decide, by decide⟩
theorem ml_3_89 : ab_lV RX3 89 mX3_stripAt 3 := ⟨mokX3_stripAt, (ab_in3 144 rfl rfl), (ab_in3 146 rfl rfl), (ab_in0 16 rfl rfl), rfl, by decide, by decide⟩
theorem ml_L_107 : ab_lV RL 107 mX8_unweave 8 := ⟨mokX8_unweave, (ab_in3 148 rfl rfl), (ab_in3 149 rfl rfl), (ab_in3 150 rfl rfl), rfl, by decide, by decide⟩
theorem ml_8_246 : ab_lV RX8 246 mX3_unweaveFrom 3 := ⟨mokX3_unweaveFrom, (ab_in3 152 rfl rfl), (ab_in3 153 rfl rfl), (ab_in3 154 rfl rfl), rfl, by decide, by decide⟩
theorem ml_L_111 : ab_lV RL 111 mX8_many 8 := ⟨mokX8_many, (ab_in3 156 rfl rfl), (ab_in3 157 rfl rfl), (ab_in3 158 rfl rfl), rfl, by decide, by decide⟩
theorem ml_8_249 : ab_lV RX8 249 mX3_countWoven 3 := ⟨mokX3_countWoven, (ab_in3 160 rfl rfl), (ab_in3 161 rfl rfl), (ab_in3 162 rfl rfl), rfl, by decide, by decide⟩
theorem ml_3_92 : ab_lV RX3 92 mX3_countWovenOf 3 := ⟨mokX3_countWovenOf, (ab_in3 164 rfl rfl), (ab_in3 166 rfl rfl), (ab_in0 17 rfl rfl), rfl, by decide, by decide⟩
theorem ml_8_254 : ab_lV RX8 254 mX0_countFaces 0 := ⟨mokX0_countFaces, (ab_in3 168 rfl rfl), (ab_in3 169 rfl rfl), (ab_in3 170 rfl rfl), rfl, by decide, by decide⟩
theorem ml_L_115 : ab_lV RL 115 mX8_keep 8 := ⟨mokX8_keep, (ab_in3 172 rfl rfl), (ab_in3 173 rfl rfl), (ab_in3 174 rfl rfl), rfl, by decide, by decide⟩
theorem ml_8_257 : ab_lV RX8 257 mX6_copyFrom 6 := ⟨mokX6_copyFrom, (ab_in3 176 rfl rfl), (ab_in3 177 rfl rfl), (ab_in3 178 rfl rfl), rfl, by decide, by decide⟩
theorem ml_6_37 : ab_lV RX6 37 mX0_copyFrom 0 := ⟨mokX0_copyFrom, (ab_in3 180 rfl rfl), (ab_in3 181 rfl rfl), (ab_in3 182 rfl rfl), rfl, by decide, by decide⟩
theorem ml_0_28 : ab_lC RX0 28 := ⟨(ab_in3 184 rfl rfl), (ab_in3 51 rfl rfl), (ab_in3 50 rfl rfl), (ab_in1 13 rfl rfl)⟩
theorem ml_6_41 : ab_lV RX6 41 mX4_copyFrom 4 := ⟨mokX4_copyFrom, (ab_in3 185 rfl rfl), (ab_in3 186 rfl rfl), (ab_in3 187 rfl rfl), rfl, by decide, by decide⟩
theorem ml_4_22 : ab_lC RX4 22 := ⟨(ab_in3 189 rfl rfl), (ab_in3 51 rfl rfl), (ab_in3 50 rfl rfl), (ab_in1 13 rfl rfl)⟩
theorem ml_6_44 : ab_lV RX6 44 mX7_copyFrom 7 := ⟨mokX7_copyFrom, (ab_in3 190 rfl rfl), (ab_in3 191 rfl rfl), (ab_in3 192 rfl rfl), rfl, by decide, by decide⟩
theorem ml_6_47 : ab_lV RX6 47 mX3_copyFrom 3 := ⟨mokX3_copyFrom, (ab_in3 194 rfl rfl), (ab_in3 195 rfl rfl), (ab_in3 196 rfl rfl), rfl, by decide, by decide⟩
theorem ml_3_96 : ab_lC RX3 96 := ⟨(ab_in3 198 rfl rfl), (ab_in3 51 rfl rfl), (ab_in3 50 rfl rfl), (ab_in1 13 rfl rfl)⟩
theorem ml_L_119 : ab_lV RL 119 mX8_back 8 := ⟨mokX8_back, (ab_in3 199 rfl rfl), (ab_in3 200 rfl rfl), (ab_in3 201 rfl rfl), rfl, by decide, by decide⟩
theorem ml_L_12 : ab_lI RL 12 mX9_init := ⟨mokX9_init, (ab_in3 205 rfl rfl), (ab_in3 206 rfl rfl), rfl, rfl, by decide, by decide⟩
theorem ml_9_1 : ab_lO RX9 1 := ⟨(ab_in3 208 rfl rfl), (ab_in1 20 rfl rfl), (ab_in1 21 rfl rfl)⟩
theorem ml_L_17 : ab_lV RL 17 mX9_size 9 := ⟨mokX9_size, (ab_in4 102 rfl rfl), (ab_in4 103 rfl rfl), (ab_in4 104 rfl rfl), rfl, by decide, by decide⟩
theorem ml_9_111 : ab_lS RX9 111 mX9_in := ⟨mokX9_in, (ab_in4 106 rfl rfl), (ab_in4 107 rfl rfl), by decide⟩
theorem ml_L_22 : ab_lV RL 22 mX9_paint 9 := ⟨mokX9_paint, (ab_in4 109 rfl rfl), (ab_in4 110 rfl rfl), (ab_in4 111 rfl rfl), rfl, by decide, by decide⟩
theorem ml_9_118 : ab_lV RX9 118 mX9_isSquare 9 := ⟨mokX9_isSquare, (ab_in4 113 rfl rfl), (ab_in4 115 rfl rfl), (ab_in0 18 rfl rfl), rfl, by decide, by decide⟩
theorem ml_9_122 : ab_lV RX9 122 mX9_spot 9 := ⟨mokX9_spot, (ab_in4 117 rfl rfl), (ab_in4 119 rfl rfl), (ab_in0 19 rfl rfl), rfl, by decide, by decide⟩
theorem ml_L_27 : ab_lV RL 27 mX9_face 9 := ⟨mokX9_face, (ab_in4 121 rfl rfl), (ab_in4 122 rfl rfl), (ab_in4 123 rfl rfl), rfl, by decide, by decide⟩
theorem ml_L_31 : ab_lV RL 31 mX9_cartoon 9 := ⟨mokX9_cartoon, (ab_in4 125 rfl rfl), (ab_in4 126 rfl rfl), (ab_in4 127 rfl rfl), rfl, by decide, by decide⟩
theorem ml_9_126 : ab_lV RX9 126 mX9_toldAt 9 := ⟨mokX9_toldAt, (ab_in4 129 rfl rfl), (ab_in4 131 rfl rfl), (ab_in0 20 rfl rfl), rfl, by decide, by decide⟩
theorem ml_L_35 : ab_lV RL 35 mX9_loom 9 := ⟨mokX9_loom, (ab_in4 133 rfl rfl), (ab_in4 134 rfl rfl), (ab_in4 135 rfl rfl), rfl, by decide, by decide⟩
theorem ml_L_39 : ab_lV RL 39 mX9_rule 9 := ⟨mokX9_rule, (ab_in4 137 rfl rfl), (ab_in4 138 rfl rfl), (ab_in4 139 rfl rfl), rfl, by decide, by decide⟩
theorem ml_L_44 : ab_lV RL 44 mX9_slits 9 := ⟨mokX9_slits, (ab_in4 141 rfl rfl), (ab_in4 142 rfl rfl), (ab_in4 143 rfl rfl), rfl, by decide, by decide⟩
theorem ml_9_133 : ab_lV RX9 133 mX9_slitFrom 9 := ⟨mokX9_slitFrom, (ab_in4 145 rfl rfl), (ab_in4 147 rfl rfl), (ab_in0 21 rfl rfl), rfl, by decide, by decide⟩
theorem ml_9_130 : ab_lV RX9 130 mX9_isUnlike 9 := ⟨mokX9_isUnlike, (ab_in4 149 rfl rfl), (ab_in4 151 rfl rfl), (ab_in0 22 rfl rfl), rfl, by decide, by decide⟩
theorem ml_L_48 : ab_lV RL 48 mX9_slit 9 := ⟨mokX9_slit, (ab_in4 153 rfl rfl), (ab_in4 154 rfl rfl), (ab_in4 155 rfl rfl), rfl, by decide, by decide⟩
theorem ml_L_52 : ab_lV RL 52 mX9_field 9 := ⟨mokX9_field, (ab_in4 157 rfl rfl), (ab_in4 158 rfl rfl), (ab_in4 159 rfl rfl), rfl, by decide, by decide⟩
theorem ml_9_149 : ab_lV RX9 149 mX9_findFields 9 := ⟨mokX9_findFields, (ab_in4 161 rfl rfl), (ab_in4 163 rfl rfl), (ab_in0 23 rfl rfl), rfl, by decide, by decide⟩
theorem ml_9_136 : ab_lV RX9 136 mX9_lesser 9 := ⟨mokX9_lesser, (ab_in4 165 rfl rfl), (ab_in4 167 rfl rfl), (ab_in0 24 rfl rfl), rfl, by decide, by decide⟩
theorem ml_9_140 : ab_lV RX9 140 mX9_number 9 := ⟨mokX9_number, (ab_in4 169 rfl rfl), (ab_in4 171 rfl rfl), (ab_in0 25 rfl rfl), rfl, by decide, by decide⟩
theorem ml_9_146 : ab_lV RX9 146 mX9_sides 9 := ⟨mokX9_sides, (ab_in4 173 rfl rfl), (ab_in4 175 rfl rfl), (ab_in0 26 rfl rfl), rfl, by decide, by decide⟩
theorem ml_L_56 : ab_lV RL 56 mX9_of 9 := ⟨mokX9_of, (ab_in4 177 rfl rfl), (ab_in4 178 rfl rfl), (ab_in4 179 rfl rfl), rfl, by decide, by decide⟩
theorem ml_L_60 : ab_lV RL 60 mX9_dye 9 := ⟨mokX9_dye, (ab_in4 181 rfl rfl), (ab_in4 182 rfl rfl), (ab_in4 183 rfl rfl), rfl, by decide, by decide⟩
theorem ml_L_64 : ab_lV RL 64 mX9_lot 9 := ⟨mokX9_lot, (ab_in4 185 rfl rfl), (ab_in4 186 rfl rfl), (ab_in4 187 rfl rfl), rfl, by decide, by decide⟩
theorem ml_9_171 : ab_lV RX9 171 mX9_findDealing 9 := ⟨mokX9_findDealing, (ab_in4 189 rfl rfl), (ab_in4 191 rfl rfl), (ab_in0 27 rfl rfl), rfl, by decide, by decide⟩
theorem ml_9_161 : ab_lV RX9 161 mX9_gather 9 := ⟨mokX9_gather, (ab_in4 193 rfl rfl), (ab_in4 195 rfl rfl), (ab_in0 28 rfl rfl), rfl, by decide, by decide⟩
theorem ml_9_168 : ab_lV RX9 168 mX9_yarnFrom 9 := ⟨mokX9_yarnFrom, (ab_in4 197 rfl rfl), (ab_in4 199 rfl rfl), (ab_in0 29 rfl rfl), rfl, by decide, by decide⟩
theorem ml_L_68 : ab_lV RL 68 mX9_deal 9 := ⟨mokX9_deal, (ab_in4 201 rfl rfl), (ab_in4 202 rfl rfl), (ab_in4 203 rfl rfl), rfl, by decide, by decide⟩
theorem ml_L_72 : ab_lV RL 72 mX9_dealt 9 := ⟨mokX9_dealt, (ab_in4 205 rfl rfl), (ab_in4 206 rfl rfl), (ab_in4 207 rfl rfl), rfl, by decide, by decide⟩
theorem ml_L_77 : ab_lV RL 77 mX9_weaver 9 := ⟨mokX9_weaver, (ab_in4 209 rfl rfl), (ab_in4 210 rfl rfl), (ab_in4 211 rfl rfl), rfl, by decide, by decide⟩
theorem ml_L_81 : ab_lV RL 81 mX9_speed 9 := ⟨mokX9_speed, (ab_in4 213 rfl rfl), (ab_in4 214 rfl rfl), (ab_in4 215 rfl rfl), rfl, by decide, by decide⟩
theorem ml_L_85 : ab_lV RL 85 mX9_share 9 := ⟨mokX9_share, (ab_in4 217 rfl rfl), (ab_in4 218 rfl rfl), (ab_in4 219 rfl rfl), rfl, by decide, by decide⟩
theorem ml_9_198 : ab_lV RX9 198 mX9_findSharing 9 := ⟨mokX9_findSharing, (ab_in4 221 rfl rfl), (ab_in4 223 rfl rfl), (ab_in0 30 rfl rfl), rfl, by decide, by decide⟩
theorem ml_9_192 : ab_lV RX9 192 mX9_isTaken 9 := ⟨mokX9_isTaken, (ab_in4 225 rfl rfl), (ab_in4 227 rfl rfl), (ab_in0 31 rfl rfl), rfl, by decide, by decide⟩
theorem ml_9_195 : ab_lV RX9 195 mX9_daysOf 9 := ⟨mokX9_daysOf, (ab_in4 229 rfl rfl), (ab_in4 231 rfl rfl), (ab_in0 32 rfl rfl), rfl, by decide, by decide⟩
theorem ml_9_180 : ab_lV RX9 180 mX9_hasFace 9 := ⟨mokX9_hasFace, (ab_in4 233 rfl rfl), (ab_in4 235 rfl rfl), (ab_in0 33 rfl rfl), rfl, by decide, by decide⟩
theorem ml_9_183 : ab_lV RX9 183 mX9_work 9 := ⟨mokX9_work, (ab_in4 237 rfl rfl), (ab_in4 239 rfl rfl), (ab_in0 34 rfl rfl), rfl, by decide, by decide⟩
theorem ml_9_177 : ab_lV RX9 177 mX9_workAt 9 := ⟨mokX9_workAt, (ab_in5 1 rfl rfl), (ab_in5 3 rfl rfl), (ab_in0 35 rfl rfl), rfl, by decide, by decide⟩
theorem ml_L_89 : ab_lV RL 89 mX9_who 9 := ⟨mokX9_who, (ab_in5 5 rfl rfl), (ab_in5 6 rfl rfl), (ab_in5 7 rfl rfl), rfl, by decide, by decide⟩
theorem ml_L_94 : ab_lV RL 94 mX9_up 9 := ⟨mokX9_up, (ab_in5 9 rfl rfl), (ab_in5 10 rfl rfl), (ab_in5 11 rfl rfl), rfl, by decide, by decide⟩
theorem ml_L_98 : ab_lV RL 98 mX9_days 9 := ⟨mokX9_days, (ab_in5 13 rfl rfl), (ab_in5 14 rfl rfl), (ab_in5 15 rfl rfl), rfl, by decide, by decide⟩
theorem ml_9_208 : ab_lV RX9 208 mX9_findWhole 9 := ⟨mokX9_findWhole, (ab_in5 17 rfl rfl), (ab_in5 19 rfl rfl), (ab_in0 36 rfl rfl), rfl, by decide, by decide⟩
theorem ml_9_205 : ab_lV RX9 205 mX9_wholeOf 9 := ⟨mokX9_wholeOf, (ab_in5 21 rfl rfl), (ab_in5 23 rfl rfl), (ab_in0 37 rfl rfl), rfl, by decide, by decide⟩
theorem ml_9_211 : ab_lV RX9 211 mX9_allOf 9 := ⟨mokX9_allOf, (ab_in5 25 rfl rfl), (ab_in5 27 rfl rfl), (ab_in0 38 rfl rfl), rfl, by decide, by decide⟩
theorem ml_9_214 : ab_lV RX9 214 mX9_isAhead 9 := ⟨mokX9_isAhead, (ab_in5 29 rfl rfl), (ab_in5 31 rfl rfl), (ab_in0 39 rfl rfl), rfl, by decide, by decide⟩
theorem ml_L_102 : ab_lV RL 102 mX9_strip 9 := ⟨mokX9_strip, (ab_in5 33 rfl rfl), (ab_in5 34 rfl rfl), (ab_in5 35 rfl rfl), rfl, by decide, by decide⟩
theorem ml_L_106 : ab_lV RL 106 mX9_woven 9 := ⟨mokX9_woven, (ab_in5 37 rfl rfl), (ab_in5 38 rfl rfl), (ab_in5 39 rfl rfl), rfl, by decide, by decide⟩
theorem ml_9_217 : ab_lV RX9 217 mX9_isWoven 9 := ⟨mokX9_isWoven, (ab_in5 41 rfl rfl), (ab_in5 43 rfl rfl), (ab_in0 40 rfl rfl), rfl, by decide, by decide⟩
theorem ml_L_110 : ab_lV RL 110 mX9_unweave 9 := ⟨mokX9_unweave, (ab_in5 45 rfl rfl), (ab_in5 46 rfl rfl), (ab_in5 47 rfl rfl), rfl, by decide, by decide⟩
theorem ml_L_114 : ab_lV RL 114 mX9_many 9 := ⟨mokX9_many, (ab_in5 49 rfl rfl), (ab_in5 50 rfl rfl), (ab_in5 51 rfl rfl), rfl, by decide, by decide⟩
theorem ml_9_220 : ab_lV RX9 220 mX9_manyWoven 9 := ⟨mokX9_manyWoven, (ab_in5 53 rfl rfl), (ab_in5 55 rfl rfl), (ab_in0 41 rfl rfl), rfl, by decide, by decide⟩
theorem ml_9_224 : ab_lV RX9 224 mX9_manyFaces 9 := ⟨mokX9_manyFaces, (ab_in5 57 rfl rfl), (ab_in5 59 rfl rfl), (ab_in0 42 rfl rfl), rfl, by decide, by decide⟩
theorem ml_L_118 : ab_lV RL 118 mX9_keep 9 := ⟨mokX9_keep, (ab_in5 61 rfl rfl), (ab_in5 62 rfl rfl), (ab_in5 63 rfl rfl), rfl, by decide, by decide⟩
theorem ml_L_122 : ab_lV RL 122 mX9_back 9 := ⟨mokX9_back, (ab_in5 65 rfl rfl), (ab_in5 66 rfl rfl), (ab_in5 67 rfl rfl), rfl, by decide, by decide⟩
def ab_C (own : String) (ix ci : Nat) : Prop := ∃ (C : String) (T : u_T) (N : Nat), ab_cok ci C T N ∧ Cond.classLink own ix C ∈ ab_tb
def ab_K (own : String) (ix : Nat) (z : Int) : Prop := Cond.constant own ix (Int32.ofInt z) ∈ ab_tb
theorem cl_L_7 : ab_C RL 7 8 := ⟨_, _, _, cok_8, (ab_in1 14 rfl rfl)⟩
theorem cl_8_7 : ab_C RX8 7 6 := ⟨_, _, _, cok_6, (ab_in1 22 rfl rfl)⟩
theorem cl_6_7 : ab_C RX6 7 0 := ⟨_, _, _, cok_0, (ab_in1 28 rfl rfl)⟩
theorem ab_arr_int : Cond.arrayClass .int ∈ ab_tb := (ab_in1 51 rfl rfl)
theorem cl_6_16 : ab_C RX6 16 4 := ⟨_, _, _, cok_4, (ab_in1 52 rfl rfl)⟩
theorem cl_6_23 : ab_C RX6 23 7 := ⟨_, _, _, cok_7, (ab_in1 74 rfl rfl)⟩
theorem ab_arr_boolean : Cond.arrayClass .boolean ∈ ab_tb := (ab_in1 95 rfl rfl)
theorem cl_6_30 : ab_C RX6 30 3 := ⟨_, _, _, cok_3, (ab_in1 96 rfl rfl)⟩
theorem cl_8_30 : ab_C RX8 30 2 := ⟨_, _, _, cok_2, (ab_in1 153 rfl rfl)⟩
theorem cl_8_37 : ab_C RX8 37 1 := ⟨_, _, _, cok_1, (ab_in1 193 rfl rfl)⟩
theorem cl_8_44 : ab_C RX8 44 5 := ⟨_, _, _, cok_5, (ab_in1 228 rfl rfl)⟩
theorem kl_5_9 : ab_K RX5 9 1000000 := (ab_in1 234 rfl rfl)
theorem kl_1_75 : ab_K RX1 75 390625 := (ab_in2 221 rfl rfl)
theorem kl_7_23 : ab_K RX7 23 1000000 := (ab_in3 60 rfl rfl)
theorem cl_L_10 : ab_C RL 10 9 := ⟨_, _, _, cok_9, (ab_in3 203 rfl rfl)⟩
end
section
/-! ===== the small machine: ints are numbers in range, cells have small numbers, what is a reference in a field is in the layout ===== -/
abbrev ab_V : Type := Int ⊕ Nat
abbrev ab_CD : Type := (Nat × List Nat) ⊕ (Nat × Nat)
abbrev ab_H : Type := List ab_CD × (Nat → Nat → Int)
abbrev ab_L : Type := List (Option ab_V)
def ab_u1 (f : Nat → Int) (k : Nat) (z : Int) : Nat → Int := fun j => if j = k then z else f j
def ab_up (M : Nat → Nat → Int) (a k : Nat) (z : Int) : Nat → Nat → Int := fun a' => if a' = a then ab_u1 (M a) k z else M a'
def ab_rw (M : Nat → Nat → Int) (a : Nat) (f : Nat → Int) : Nat → Nat → Int := fun a' => if a' = a then f else M a'
def ab_isR (ci k : Nat) : Bool := match ab_ty ci k with
  | .object _ => true
  | .array _ => true
  | _ => false
def ab_gt (t : FieldType) : Bool := match t with
  | .int => true
  | .boolean => true
  | .object _ => true
  | .array _ => true
  | _ => false
def ab_ok (z : Int) : Prop := -2147483648 ≤ z ∧ z < 2147483648
def ab_b (f : Int32 → Int32 → Int32) (x y : Int) : Int := (f (Int32.ofInt x) (Int32.ofInt y)).toInt
def ab_cmp (c : Jvm.ClassFile.Cond) (x y : Int) : Bool := match c with
  | .eq => decide (x = y)
  | .ne => decide (¬ x = y)
  | .lt => decide (x < y)
  | .ge => decide (y ≤ x)
  | .gt => decide (y < x)
  | .le => decide (x ≤ y)
def ab_j (pc : Nat) (off : Int) : Option Nat := if 0 ≤ (pc : Int) + off then some ((pc : Int) + off).toNat else none
def ab_i1 {α : Type} (st : List ab_V) (k : Int → List ab_V → Option α) : Option α := match st with
  | .inl x :: r => k x r
  | _ => none
def ab_i2 {α : Type} (st : List ab_V) (k : Int → Int → List ab_V → Option α) : Option α := match st with
  | .inl y :: .inl x :: r => k x y r
  | _ => none
def ab_r1 {α : Type} (st : List ab_V) (k : Nat → List ab_V → Option α) : Option α := match st with
  | .inr x :: r => k x r
  | _ => none
abbrev ab_T : Type := Nat × ab_L × List ab_V
def ab_ldi (ls : ab_L) (k : Nat) (f : Int → Option ab_T) : Option ab_T := match ls[k]? with
  | some (some (.inl z)) => f z
  | _ => none
def ab_ldr (ls : ab_L) (k : Nat) (f : Nat → Option ab_T) : Option ab_T := match ls[k]? with
  | some (some (.inr z)) => f z
  | _ => none
def ab_bin (f : Int32 → Int32 → Int32) (len pc : Nat) (ls : ab_L) (st : List ab_V) : Option ab_T := if len = 1 then ab_i2 st fun x y r => some (pc + 1, ls, .inl (ab_b f x y) :: r) else none
def ab_ps (i : Instr) (len pc : Nat) (ls : ab_L) (st : List ab_V) : Option ab_T := match i with
  | .iconst z => if len = 1 ∧ -128 ≤ z ∧ z < 128 then some (pc + 1, ls, .inl z :: st) else none
  | .bipush z => if len = 2 ∧ -128 ≤ z ∧ z < 128 then some (pc + 2, ls, .inl z :: st) else none
  | .sipush z => if len = 3 ∧ -32768 ≤ z ∧ z < 32768 then some (pc + 3, ls, .inl z :: st) else none
  | .iload_n k => if len = 1 then ab_ldi ls k.val fun z => some (pc + 1, ls, .inl z :: st) else none
  | .iload k => if len = 2 then ab_ldi ls k fun z => some (pc + 2, ls, .inl z :: st) else none
  | .aload_n k => if len = 1 then ab_ldr ls k.val fun z => some (pc + 1, ls, .inr z :: st) else none
  | .aload k => if len = 2 then ab_ldr ls k fun z => some (pc + 2, ls, .inr z :: st) else none
  | .istore_n k => if len = 1 ∧ k.val < ls.length then ab_i1 st fun z r => some (pc + 1, ls.set k.val (some (.inl z)), r) else none
  | .istore k => if len = 2 ∧ k < ls.length then ab_i1 st fun z r => some (pc + 2, ls.set k (some (.inl z)), r) else none
  | .astore_n k => if len = 1 ∧ k.val < ls.length then ab_r1 st fun z r => some (pc + 1, ls.set k.val (some (.inr z)), r) else none
  | .astore k => if len = 2 ∧ k < ls.length then ab_r1 st fun z r => some (pc + 2, ls.set k (some (.inr z)), r) else none
  | .iinc k n => if len = 3 then ab_ldi ls k fun z => some (pc + 3, ls.set k (some (.inl (ab_b (fun a b => a + b) z n))), st) else none
  | .iadd => ab_bin (fun a b => a + b) len pc ls st
  | .isub => ab_bin (fun a b => a - b) len pc ls st
  | .imul => ab_bin (fun a b => a * b) len pc ls st
  | .iand => ab_bin (fun a b => a &&& b) len pc ls st
  | .ior => ab_bin (fun a b => a ||| b) len pc ls st
  | .ixor => ab_bin (fun a b => a ^^^ b) len pc ls st
  | .ishl => ab_bin (fun a b => a <<< (b &&& 31)) len pc ls st
  | .ishr => ab_bin (fun a b => a >>> (b &&& 31)) len pc ls st
  | .idiv => if len = 1 then ab_i2 st fun x y r => if y = 0 then none else some (pc + 1, ls, .inl (ab_b (fun a b => a / b) x y) :: r) else none
  | .irem => if len = 1 then ab_i2 st fun x y r => if y = 0 then none else some (pc + 1, ls, .inl (ab_b (fun a b => a - a / b * b) x y) :: r) else none
  | .dup => if len = 1 then (match st with
    | v :: r => some (pc + 1, ls, v :: v :: r)
    | _ => none) else none
  | .dup2 => if len = 1 then (match st with
    | v :: w :: r => some (pc + 1, ls, v :: w :: v :: w :: r)
    | _ => none) else none
  | .ifCond c off => if len = 3 then ab_i1 st fun x r => (ab_j pc off).bind fun t => some (if ab_cmp c x 0 = true then t else pc + 3, ls, r) else none
  | .if_icmp c off => if len = 3 then ab_i2 st fun x y r => (ab_j pc off).bind fun t => some (if ab_cmp c x y = true then t else pc + 3, ls, r) else none
  | .goto off => if len = 3 then (ab_j pc off).map fun t => (t, ls, st) else none
  | .tableswitch d lo hi offs => ab_i1 st fun x r => if x < lo ∨ hi < x then (ab_j pc d).map fun t => (t, ls, r) else (offs[(x - lo).toNat]?).bind fun o => (ab_j pc o).map fun t => (t, ls, r)
  | _ => none
def ab_sz (c : ab_CD) : Nat := match c with
  | .inl (ci, _) => ((vwCl[ci]?).map fun q => q.2.2).getD 0
  | .inr (_, n) => n
def ab_nS (lay : List ab_CD) : Nat := (lay.map ab_sz).sum
/-- what a field instruction, an array instruction, a new cell, or a call that is taken as one step does -/
def ab_hs (M : ab_M) (i : Instr) (len : Nat) (st : List ab_V) (h : ab_H) (st' : List ab_V) (h' : ab_H) : Prop :=
  (∃ (ix ci k a : Nat) (rest : List ab_V) (refs : List Nat), i = .getfield ix ∧ len = 3 ∧ ab_F M.1.cls ix ci k ∧ st = .inr a :: rest ∧ h.1[a]? = some (.inl (ci, refs)) ∧ ab_isR ci k = false ∧ st' = .inl (h.2 a k) :: rest ∧ h' = h) ∨
  (∃ (ix ci k a : Nat) (rest : List ab_V) (refs : List Nat) (r : Nat), i = .getfield ix ∧ len = 3 ∧ ab_F M.1.cls ix ci k ∧ st = .inr a :: rest ∧ h.1[a]? = some (.inl (ci, refs)) ∧ ab_isR ci k = true ∧ refs[k]? = some (r + 1) ∧ st' = .inr (r + 1) :: rest ∧ h' = h) ∨
  (∃ (ix ci k a : Nat) (z : Int) (rest : List ab_V) (refs : List Nat), i = .putfield ix ∧ len = 3 ∧ ab_F M.1.cls ix ci k ∧ st = .inl z :: .inr a :: rest ∧ h.1[a]? = some (.inl (ci, refs)) ∧ (ab_ty ci k = .int ∨ (ab_ty ci k = .boolean ∧ (z = 0 ∨ z = 1))) ∧ ((vwCl[ci]?).map fun q => (q.2.1 k).2.2.2) = some false ∧ st' = rest ∧ h' = (h.1, ab_up h.2 a k z)) ∨
  (∃ (ix ci k a r : Nat) (rest : List ab_V) (refs : List Nat), i = .putfield ix ∧ len = 3 ∧ ab_F M.1.cls ix ci k ∧ st = .inr (r + 1) :: .inr a :: rest ∧ h.1[a]? = some (.inl (ci, refs)) ∧ ab_isR ci k = true ∧ k < refs.length ∧ ((vwCl[ci]?).map fun q => (q.2.1 k).2.2.2) = some true ∧ ((vwCl[ci]?).map fun q => q.1) = some M.1.cls ∧ M.1.name = "<init>" ∧ st' = rest ∧ h' = (h.1.set a (.inl (ci, refs.set k (r + 1))), h.2)) ∨
  (∃ (a n : Nat) (x : Int) (rest : List ab_V), ((i = .iaload ∧ h.1[a]? = some (.inr (0, n))) ∨ (i = .baload ∧ 1 ≤ a ∧ h.1[a]? = some (.inr (1, n)))) ∧ len = 1 ∧ st = .inl x :: .inr a :: rest ∧ 0 ≤ x ∧ x < n ∧ st' = .inl (h.2 a x.toNat) :: rest ∧ h' = h) ∨
  (∃ (a n : Nat) (x z : Int) (rest : List ab_V), ((i = .iastore ∧ h.1[a]? = some (.inr (0, n))) ∨ (i = .bastore ∧ h.1[a]? = some (.inr (1, n)) ∧ (z = 0 ∨ z = 1))) ∧ len = 1 ∧ st = .inl z :: .inl x :: .inr a :: rest ∧ 1 ≤ a ∧ 0 ≤ x ∧ x < n ∧ st' = rest ∧ h' = (h.1, ab_up h.2 a x.toNat z)) ∨
  (∃ (a t n : Nat) (rest : List ab_V), i = .arraylength ∧ len = 1 ∧ st = .inr a :: rest ∧ h.1[a]? = some (.inr (t, n)) ∧ (a = 0 ∨ t < 2) ∧ n < 2147483648 ∧ st' = .inl (n : Int) :: rest ∧ h' = h) ∨
  (∃ (n t : Nat) (rest : List ab_V), ((i = .newarray .int ∧ t = 0) ∨ (i = .newarray .boolean ∧ t = 1)) ∧ len = 2 ∧ st = .inl (n : Int) :: rest ∧ n ≤ 100000 ∧ (∀ j, h.2 h.1.length j = 0) ∧ st' = .inr h.1.length :: rest ∧ h' = (h.1 ++ [.inr (t, n)], h.2)) ∨
  (∃ (ix ci N : Nat), i = .new ix ∧ len = 3 ∧ ab_C M.1.cls ix ci ∧ ((vwCl[ci]?).map fun q => q.2.2) = some N ∧ (∀ k, k < N → ab_gt (ab_ty ci k) = true) ∧ (∀ j, h.2 h.1.length j = 0) ∧ st' = .inr h.1.length :: st ∧ h' = (h.1 ++ [.inl (ci, List.replicate N 0)], h.2)) ∨
  (∃ (ix : Nat) (z : Int), i = .ldc ix ∧ len = 2 ∧ ab_K M.1.cls ix z ∧ ab_ok z ∧ st' = .inl z :: st ∧ h' = h) ∨
  (∃ (ix a : Nat) (rest : List ab_V), i = .invokespecial ix ∧ len = 3 ∧ ab_lO M.1.cls ix ∧ st = .inr a :: rest ∧ rest.length ≤ 8 ∧ st' = rest ∧ h' = h) ∨
  (∃ (ix a a0 n n0 N : Nat) (rest : List ab_V), i = .invokestatic ix ∧ len = 3 ∧ ab_lC M.1.cls ix ∧ st = .inl (N : Int) :: .inl 0 :: .inr a :: .inl 0 :: .inr a0 :: rest ∧ rest.length ≤ 8 ∧ 1 ≤ a ∧ 1 ≤ a0 ∧ a ≠ a0 ∧ h.1[a]? = some (.inr (0, n)) ∧ h.1[a0]? = some (.inr (0, n0)) ∧ N ≤ n ∧ N ≤ n0 ∧ N < 100000 ∧ st' = rest ∧ h' = (h.1, ab_rw h.2 a (fun k => if k < N then h.2 a0 k else h.2 a k))) ∨
  (∃ (ix : Nat) (x y : Int) (rest : List ab_V), i = .invokestatic ix ∧ len = 3 ∧ ab_lX M.1.cls ix ∧ st = .inl y :: .inl x :: rest ∧ rest.length ≤ 8 ∧ st' = .inl (if x < y then y else x) :: rest ∧ h' = h) ∨
  (∃ (ix : Nat) (x y : Int) (rest : List ab_V), i = .invokestatic ix ∧ len = 3 ∧ ab_lY M.1.cls ix ∧ st = .inl y :: .inl x :: rest ∧ rest.length ≤ 8 ∧ st' = .inl (if y < x then y else x) :: rest ∧ h' = h)
def ab_iv (M : ab_M) (i : Instr) (len : Nat) (M' : ab_M) (as : List ab_V) (h : ab_H) : Prop :=
  (∃ (ix ci a : Nat) (as' : List ab_V) (refs : List Nat), i = .invokevirtual ix ∧ len = 3 ∧ ab_lV M.1.cls ix M' ci ∧ as = .inr a :: as' ∧ h.1[a]? = some (.inl (ci, refs))) ∨
  (∃ ix : Nat, i = .invokestatic ix ∧ len = 3 ∧ ab_lS M.1.cls ix M') ∨
  (∃ ix : Nat, i = .invokestatic ix ∧ len = 3 ∧ ab_lN M.1.cls ix M') ∨
  (∃ (ix a : Nat) (as' : List ab_V), i = .invokespecial ix ∧ len = 3 ∧ ab_lI M.1.cls ix M' ∧ as = .inr a :: as')
abbrev ab_cal : Type := ab_M → List ab_V → ab_H → Option ab_V → ab_H → Prop
def ab_run (cal : ab_cal) (M : ab_M) : Nat → Nat → ab_L → List ab_V → ab_H → Option ab_V → ab_H → Prop
  | 0, _, _, _, _, _, _ => False
  | n + 1, pc, ls, st, h, r, h' => ∃ (i : Instr) (len : Nat), decode M.2.1 pc = .ok (i, len) ∧
    ((∃ (pc1 : Nat) (ls1 : ab_L) (st1 : List ab_V), ab_ps i len pc ls st = some (pc1, ls1, st1) ∧ ab_run cal M n pc1 ls1 st1 h r h') ∨
     (∃ (st1 : List ab_V) (h1 : ab_H), ab_hs M i len st h st1 h1 ∧ ab_run cal M n (pc + len) ls st1 h1 r h') ∨
     (∃ (M' : ab_M) (as rest : List ab_V) (r1 : Option ab_V) (h1 : ab_H), ab_iv M i len M' as h ∧ st = as.reverse ++ rest ∧ as.length = M'.2.2.2.2 ∧ rest.length ≤ 8 ∧ cal M' as h r1 h1 ∧ ab_run cal M n (pc + 3) ls (r1.toList ++ rest) h1 r h') ∨
     (i = .ireturn ∧ len = 1 ∧ (∃ z : Int, st = [.inl z] ∧ r = some (.inl z) ∧ (M.2.2.2.1 = some .int ∨ (M.2.2.2.1 = some .boolean ∧ (z = 0 ∨ z = 1)))) ∧ h' = h) ∨
     (i = .return_ ∧ len = 1 ∧ M.2.2.2.1 = none ∧ st = [] ∧ r = none ∧ h' = h))
def ab_ent (M : ab_M) (as : List ab_V) : ab_L := as.map some ++ List.replicate (M.2.2.1 - as.length) none
def ab_call : Nat → ab_cal
  | 0, _, _, _, _, _ => False
  | d + 1, M, as, h, r, h' => as.length ≤ M.2.2.1 ∧ ∃ n, ab_run (ab_call d) M n 0 (ab_ent M as) [] h r h'
theorem ab_run_mono {c1 c2 : ab_cal} (hc : ∀ M as h r h', c1 M as h r h' → c2 M as h r h') {M : ab_M} : ∀ {n pc : Nat} {ls : ab_L} {st : List ab_V} {h : ab_H} {r : Option ab_V} {h' : ab_H}, ab_run c1 M n pc ls st h r h' → ab_run c2 M n pc ls st h r h' := by
  intro n
  induction n with
  | zero => intro _ _ _ _ _ _ h; exact h
  | succ n ih =>
    intro pc ls st h r h' hr
    obtain ⟨i, len, hd, hr⟩ := hr
    refine ⟨i, len, hd, ?_⟩
    rcases hr with ⟨p1, l1, s1, q, hr⟩ | ⟨s1, h1, q, hr⟩ | ⟨M', as, rest, r1, h1, q1, q2, q3, q4, q5, hr⟩ | hr | hr
    · exact Or.inl ⟨p1, l1, s1, q, ih hr⟩
    · exact Or.inr (Or.inl ⟨s1, h1, q, ih hr⟩)
    · exact Or.inr (Or.inr (Or.inl ⟨M', as, rest, r1, h1, q1, q2, q3, q4, hc _ _ _ _ _ q5, ih hr⟩))
    · exact Or.inr (Or.inr (Or.inr (Or.inl hr)))
    · exact Or.inr (Or.inr (Or.inr (Or.inr hr)))
theorem ab_call_succ : ∀ (d : Nat) (M : ab_M) (as : List ab_V) (h : ab_H) (r : Option ab_V) (h' : ab_H), ab_call d M as h r h' → ab_call (d + 1) M as h r h' := by
  intro d
  induction d with
  | zero => intro _ _ _ _ _ h; exact h.elim
  | succ d ih =>
    intro M as h r h' q
    obtain ⟨q1, n, q2⟩ := q
    exact ⟨q1, n, ab_run_mono ih q2⟩
theorem ab_call_mono {d e : Nat} (hde : d ≤ e) {M : ab_M} {as : List ab_V} {h : ab_H} {r : Option ab_V} {h' : ab_H} (q : ab_call d M as h r h') : ab_call e M as h r h' := by
  induction hde with
  | refl => exact q
  | step _ ih => exact ab_call_succ _ _ _ _ _ _ ih
end
section
/-! ===== how the small machine's heap lies in the machine's ===== -/
def ab_rv (base b : Nat) : ab_V → Value
  | .inl z => .int (Int32.ofInt z)
  | .inr 0 => .ref b
  | .inr (k + 1) => .ref (base + k)
def ab_okv : ab_V → Prop
  | .inl z => ab_ok z
  | .inr _ => True
theorem ab_rv_cat (base b : Nat) (v : ab_V) : (ab_rv base b v).category = 1 := by
  match v with
  | .inl z => rfl
  | .inr 0 => rfl
  | .inr (k + 1) => rfl
theorem ab_toInt {z : Int} (h : ab_ok z) : (Int32.ofInt z).toInt = z := Int32.toInt_ofInt_of_le (by have := h.1; omega) (by have := h.2; omega)
theorem ab_ok_toInt (x : Int32) : ab_ok x.toInt := ⟨by have := Int32.le_toInt x; omega, by have := Int32.toInt_lt x; omega⟩
theorem ab_eq_iff {x y : Int} (hx : ab_ok x) (hy : ab_ok y) : Int32.ofInt x = Int32.ofInt y ↔ x = y := by
  rw [← Int32.toInt_inj, ab_toInt hx, ab_toInt hy]
theorem ab_lt_iff {x y : Int} (hx : ab_ok x) (hy : ab_ok y) : Int32.ofInt x < Int32.ofInt y ↔ x < y := by
  rw [Int32.lt_iff_toInt_lt, ab_toInt hx, ab_toInt hy]
theorem ab_le_iff {x y : Int} (hx : ab_ok x) (hy : ab_ok y) : Int32.ofInt x ≤ Int32.ofInt y ↔ x ≤ y := by
  rw [Int32.le_iff_toInt_le, ab_toInt hx, ab_toInt hy]
theorem ab_ok0 : ab_ok 0 := ⟨by decide, by decide⟩
theorem ab_zero : Int32.ofInt 0 = 0 := rfl
theorem ab_clamp {x : Int} (h : ab_ok x) : (Int32.ofInt x).toNatClampNeg = x.toNat := by
  show (Int32.ofInt x).toInt.toNat = _
  rw [ab_toInt h]
theorem ab_vin {x : Int} {n : Nat} (h : ab_ok x) (h0 : 0 ≤ x) (hn : x < n) : vp_in (Int32.ofInt x) n := by
  intro q
  rcases q with q | q
  · have := (ab_lt_iff h ab_ok0).mp q
    omega
  · rw [ab_clamp h] at q
    omega
def ab_rf (base r : Nat) : Value := match r with
  | 0 => .null
  | r + 1 => .ref (base + r)
def ab_fv (base : Nat) (refs : List Nat) (f : Nat → Int) (ci k : Nat) : Value := if ab_isR ci k = true then ab_rf base (refs.getD k 0) else .int (Int32.ofInt (f k))
def ab_ce (cI cZ base : Nat) (c : ab_CD) (f : Nat → Int) : va_E := match c with
  | .inl (ci, refs) => .inr (ci, (List.range (ab_sz (.inl (ci, refs)))).map (ab_fv base refs f ci))
  | .inr (t, n) => .inl (if t = 0 then cI else cZ, n, .inl fun j => Int32.ofInt (f j))
def ab_NW (U : State) : Prop := ∀ w ∈ ab_nl, va_Nw w U
theorem ab_NW.warm {s U : State} (hW : s.WarmedH U.vm) (h : ab_NW s) : ab_NW U := by
  intro w hw
  have h1 := h w hw
  simp only [ab_nl, List.mem_cons, List.not_mem_nil, or_false] at hw
  rcases hw with rfl | rfl | rfl | rfl <;> exact va_Nw.warmM hW h1
theorem ab_NW.same {u U : State} (h : u.vm = U.vm) (hn : ab_NW u) : ab_NW U := by
  intro w hw
  have h1 := hn w hw
  simp only [ab_nl, List.mem_cons, List.not_mem_nil, or_false] at hw
  rcases hw with rfl | rfl | rfl | rfl <;> exact va_Nw.same rfl h h1
def ab_R (dC : Nat → ClassId) (dI : Nat → Nat → Nat) (cI cZ base b : Nat) (h : ab_H) (U : State) (H : Heap) : Prop :=
  va_K (dC, dI) vwCl [(cI, .int), (cZ, .boolean)] U ∧
  (∀ (k : Nat) (cd : ab_CD), h.1[k + 1]? = some cd → va_at (dC, dI) vwCl (base + k, ab_ce cI cZ base cd (h.2 (k + 1))) H) ∧
  H.size + 1 = base + h.1.length ∧
  (∃ L : Nat, h.1[0]? = some (.inr (0, L)) ∧ va_X b L (fun j => Int32.ofInt (h.2 0 j)) U H) ∧
  b < base ∧ (∀ a k, ab_ok (h.2 a k)) ∧ ab_NW U
section AbRel
variable {dC : Nat → ClassId} {dI : Nat → Nat → Nat} {cI cZ base b : Nat} {h : ab_H} {s U : State} {H H' : Heap}
theorem ab_R.to (hR : ab_R dC dI cI cZ base b h s H) (hvm : s.vm.Alike U.vm) (hn : ab_NW U) : ab_R dC dI cI cZ base b h U H := by
  obtain ⟨h1, h2, h3, ⟨L, h4, h5⟩, h6, h7, h8⟩ := hR
  exact ⟨va_K.moved hvm h1, h2, h3, ⟨L, h4, h5.moved hvm⟩, h6, h7, hn⟩
theorem ab_R.warm (hR : ab_R dC dI cI cZ base b h s H) (hW : s.WarmedH U.vm) : ab_R dC dI cI cZ base b h U H := hR.to hW.alike (ab_NW.warm hW hR.2.2.2.2.2.2)
theorem ab_R.pos (hR : ab_R dC dI cI cZ base b h s H) {a : Nat} {q : Nat × List Nat} (ha : h.1[a]? = some (.inl q)) : ∃ k, a = k + 1 := by
  obtain ⟨-, -, -, ⟨L, h4, -⟩, -⟩ := hR
  cases a with
  | zero => rw [h4] at ha; cases ha
  | succ k => exact ⟨k, rfl⟩
theorem ab_R.set (hR : ab_R dC dI cI cZ base b h s H) {lay' : List ab_CD} {M' : Nat → Nat → Int} (k : Nat) {cd' : ab_CD} (h0 : lay'.length = h.1.length) (h1 : lay'[k + 1]? = some cd') (h2 : ∀ j, j ≠ k + 1 → lay'[j]? = h.1[j]?) (h3 : ∀ a, a ≠ k + 1 → M' a = h.2 a) (hok : ∀ j, ab_ok (M' (k + 1) j))
    (hz : H'.size = H.size) (ho : ∀ q, q ≠ base + k → H'[q]? = H[q]?) (hat : va_at (dC, dI) vwCl (base + k, ab_ce cI cZ base cd' (M' (k + 1))) H') : ab_R dC dI cI cZ base b (lay', M') s H' := by
  obtain ⟨r1, r2, r3, ⟨L, r4, r5⟩, r6, r7, r8⟩ := hR
  refine ⟨r1, fun j cd hj => ?_, by rw [hz, r3, h0], ⟨L, by rw [h2 0 (by omega)]; exact r4, ?_⟩, r6, fun a j => ?_, r8⟩
  · by_cases hjk : j = k
    · subst hjk
      rw [h1] at hj
      cases hj
      exact hat
    · have hj' : h.1[j + 1]? = some cd := by rw [← h2 (j + 1) (by omega)]; exact hj
      have := r2 j cd hj'
      show va_at _ _ (base + j, ab_ce cI cZ base cd (M' (j + 1))) H'
      rw [h3 (j + 1) (by omega)]
      exact this.kept (ho (base + j) (by omega))
  · show va_X b L (fun j => Int32.ofInt (M' 0 j)) s H'
    rw [h3 0 (by omega)]
    exact r5.kept (ho b (by omega))
  · by_cases ha : a = k + 1
    · subst ha; exact hok j
    · show ab_ok (M' a j)
      rw [h3 a ha]
      exact r7 a j
theorem ab_R.push (hR : ab_R dC dI cI cZ base b h s H) {cd : ab_CD} (hz : H'.size = H.size + 1) (ho : ∀ q, q < H.size → H'[q]? = H[q]?) (hat : va_at (dC, dI) vwCl (H.size, ab_ce cI cZ base cd (h.2 h.1.length)) H') : ab_R dC dI cI cZ base b (h.1 ++ [cd], h.2) s H' ∧ H.size = base + (h.1.length - 1) ∧ 1 ≤ h.1.length := by
  obtain ⟨r1, r2, r3, ⟨L, r4, r5⟩, r6, r7, r8⟩ := hR
  have hl : 0 < h.1.length := (List.getElem?_eq_some_iff.mp r4).1
  have hs : H.size = base + (h.1.length - 1) := by omega
  refine ⟨⟨r1, fun j c hj => ?_, by simp; omega, ⟨L, by rw [List.getElem?_append_left hl]; exact r4, r5.kept (ho b (by omega))⟩, r6, r7, r8⟩, hs, hl⟩
  by_cases hjl : j + 1 < h.1.length
  · have hj' : h.1[j + 1]? = some c := by rw [← List.getElem?_append_left (l₂ := [cd]) hjl]; exact hj
    exact (r2 j c hj').kept (ho (base + j) (by omega))
  · have hlen : j + 1 < h.1.length + 1 := by
      have := (List.getElem?_eq_some_iff.mp hj).1
      simpa using this
    have hj2 : j + 1 = h.1.length := by omega
    have hj' : (h.1 ++ [cd])[j + 1]? = some cd := by rw [hj2]; simp
    have hc : some c = some cd := hj.symm.trans hj'
    cases hc
    have : base + j = H.size := by omega
    rw [this]
    show va_at _ _ (H.size, ab_ce cI cZ base cd (h.2 (j + 1))) H'
    rw [hj2]
    exact hat
end AbRel
/-! ===== the locals ===== -/
def ab_lvs (base b : Nat) (ls : ab_L) : List (Nat × Value) := (List.range ls.length).filterMap fun i => match ls[i]? with
  | some (some v) => some (i, ab_rv base b v)
  | _ => none
theorem ab_lvs_mem {base b : Nat} {ls : ab_L} {q : Nat × Value} : q ∈ ab_lvs base b ls ↔ ∃ (v : ab_V), ls[q.1]? = some (some v) ∧ q.2 = ab_rv base b v := by
  unfold ab_lvs
  rw [List.mem_filterMap]
  constructor
  · rintro ⟨i, hi, h⟩
    split at h
    · rename_i v hv
      cases h
      exact ⟨v, hv, rfl⟩
    · cases h
  · rintro ⟨v, h1, h2⟩
    refine ⟨q.1, List.mem_range.mpr (List.getElem?_eq_some_iff.mp h1).1, ?_⟩
    rw [h1]
    show some (q.1, ab_rv base b v) = some q
    rw [← h2]
theorem ab_lv_at {base b nL : Nat} {lsC : Array Slot} {ls : ab_L} (hl : lv_has lsC nL (ab_lvs base b ls)) {k : Nat} {v : ab_V} (hk : ls[k]? = some (some v)) : lsC[k]? = some (.val (ab_rv base b v)) :=
  hl.2.2 (k, ab_rv base b v) (ab_lvs_mem.mpr ⟨v, hk, rfl⟩)
theorem ab_lv_set {base b nL : Nat} {lsC : Array Slot} {ls : ab_L} {i : Nat} {v : ab_V} (hi : i < ls.length) (hl : lv_has lsC nL ((i, ab_rv base b v) :: (ab_lvs base b ls).filter (fun q => !(q.1 == i) && !(q.1 + 1 == i && q.2.category == 2)))) : lv_has lsC nL (ab_lvs base b (ls.set i (some v))) := by
  refine ⟨hl.1, hl.2.1, fun q hq => hl.2.2 q ?_⟩
  obtain ⟨w, h1, h2⟩ := ab_lvs_mem.mp hq
  by_cases hqi : q.1 = i
  · rw [hqi, List.getElem?_set_self hi] at h1
    cases h1
    rw [List.mem_cons]
    left
    obtain ⟨a, c⟩ := q
    cases hqi
    cases h2
    rfl
  · rw [List.getElem?_set_ne (Ne.symm hqi)] at h1
    rw [List.mem_cons]
    right
    refine List.mem_filter.mpr ⟨ab_lvs_mem.mpr ⟨w, h1, h2⟩, ?_⟩
    rw [h2, ab_rv_cat]
    simp [hqi]
/-- a frame of the small machine: its locals, and what is known of its numbers -/
def ab_fr (base b nL : Nat) (lsC : Array Slot) (ls : ab_L) (st : List ab_V) : Prop :=
  lv_has lsC nL (ab_lvs base b ls) ∧ ls.length = nL ∧ (∀ v, some v ∈ ls → ab_okv v) ∧ ∀ v ∈ st, ab_okv v
theorem ab_cats (base b : Nat) (st : List ab_V) : ((st.map (ab_rv base b)).map fun v => v.category).sum = st.length := by
  induction st with
  | nil => rfl
  | cons v r ih => simp only [List.map_cons, List.sum_cons, ih, ab_rv_cat, List.length_cons]; omega
theorem ab_okset {ls : ab_L} {i : Nat} {v : ab_V} (h : ∀ v, some v ∈ ls → ab_okv v) (hv : ab_okv v) : ∀ w, some w ∈ ls.set i (some v) → ab_okv w := by
  intro w hw
  rcases List.mem_or_eq_of_mem_set hw with q | q
  · exact h w q
  · cases q; exact hv
theorem ab_args {base b : Nat} : ∀ (as : List ab_V) (i : Nat), lv_args i (as.map (ab_rv base b)) = (as.map (ab_rv base b)).mapIdx fun k v => (i + k, v) := by
  intro as
  induction as with
  | nil => intro i; rfl
  | cons v r ih =>
    intro i
    simp only [List.map_cons, lv_args, List.mapIdx_cons]
    rw [if_neg (by rw [ab_rv_cat]; decide), ih (i + 1)]
    congr 1
    apply List.ext_getElem?
    intro j
    simp only [List.getElem?_mapIdx]
    cases (List.map (ab_rv base b) r)[j]? with
    | none => rfl
    | some x => simp; omega
theorem ab_entry {base b : Nat} (m : MethodId) (M : ab_M) (as : List ab_V) (hlen : as.length ≤ M.2.2.1) (hok : ∀ v ∈ as, ab_okv v) :
    ∃ lsC : Array Slot, entryFrame m (as.map (ab_rv base b)).toArray M.2.2.1 = F0 m 0 lsC [] ∧ ab_fr base b M.2.2.1 lsC (ab_ent M as) [] := by
  have hsl : (lg_sl (as.map (ab_rv base b))) = (as.map (ab_rv base b)).map Slot.val := by
    clear hlen hok
    induction as with
    | nil => rfl
    | cons v r ih =>
      simp only [lg_sl, List.map_cons, List.flatMap_cons] at ih ⊢
      rw [if_neg (by rw [ab_rv_cat]; decide), ih]
      rfl
  have hle : (lg_sl (as.map (ab_rv base b))).length ≤ M.2.2.1 := by rw [hsl]; simpa using hlen
  have hl := lv_entry (as.map (ab_rv base b)) (n := M.2.2.1) hle
  refine ⟨_, lg_entry_eq m _ _, ⟨hl.1, hl.2.1, fun q hq => hl.2.2 q ?_⟩, ?_, ?_, fun v hv => by cases hv⟩
  · obtain ⟨v, h1, h2⟩ := ab_lvs_mem.mp hq
    rw [ab_args]
    have hlt : q.1 < as.length := by
      rcases Nat.lt_or_ge q.1 as.length with g | g
      · exact g
      · unfold ab_ent at h1
        rw [List.getElem?_append_right (by simpa using g)] at h1
        have := List.mem_of_getElem? h1
        rw [List.mem_replicate] at this
        cases this.2
    unfold ab_ent at h1
    rw [List.getElem?_append_left (by simpa using hlt), List.getElem?_map] at h1
    rw [List.mem_iff_getElem?]
    refine ⟨q.1, ?_⟩
    rw [List.getElem?_mapIdx, List.getElem?_map]
    cases hz : as[q.1]? with
    | none => rw [hz] at h1; cases h1
    | some w =>
      rw [hz] at h1
      simp only [Option.map_some, Option.some.injEq] at h1
      subst h1
      obtain ⟨a, c⟩ := q
      simp only at h2
      subst h2
      simp
  · simp [ab_ent]; omega
  · intro v hv
    unfold ab_ent at hv
    rcases List.mem_append.mp hv with g | g
    · obtain ⟨w, hw, e⟩ := List.mem_map.mp g
      cases e
      exact hok v hw
    · rw [List.mem_replicate] at g
      cases g.2
end
section
/-! ===== the small machine's plain steps are the machine's ===== -/
section AbPs
variable {p : Program} {l : Launch} {e : Env} {R : Room} {s : State} {m : MethodId} {args : Array Value} {below : List Frame} {meth : Method} {c : Code} {H : Heap} {locs : List Loc} {cells slots : Nat} {Q : State → Prop}
variable {cc : ByteArray} {pc : Nat} {lsC : Array Slot} {base b nL : Nat}
theorem ab_jv {pc t : Nat} {off : Int} (h : ab_j pc off = some t) : (pc : Int) + off = (t : Int) := by
  unfold ab_j at h
  split at h
  · cases h; omega
  · cases h
theorem ab_i1_some {α : Type} {st : List ab_V} {k : Int → List ab_V → Option α} {v : α} (h : ab_i1 st k = some v) : ∃ x r, st = .inl x :: r ∧ k x r = some v := by
  unfold ab_i1 at h
  split at h
  · exact ⟨_, _, rfl, h⟩
  · cases h
theorem ab_i2_some {α : Type} {st : List ab_V} {k : Int → Int → List ab_V → Option α} {v : α} (h : ab_i2 st k = some v) : ∃ x y r, st = .inl y :: .inl x :: r ∧ k x y r = some v := by
  unfold ab_i2 at h
  split at h
  · exact ⟨_, _, _, rfl, h⟩
  · cases h
theorem ab_r1_some {α : Type} {st : List ab_V} {k : Nat → List ab_V → Option α} {v : α} (h : ab_r1 st k = some v) : ∃ x r, st = .inr x :: r ∧ k x r = some v := by
  unfold ab_r1 at h
  split at h
  · exact ⟨_, _, rfl, h⟩
  · cases h
theorem ab_ldi_some {ls : ab_L} {k : Nat} {f : Int → Option ab_T} {v : ab_T} (h : ab_ldi ls k f = some v) : ∃ z, ls[k]? = some (some (.inl z)) ∧ f z = some v := by
  unfold ab_ldi at h
  split at h
  · exact ⟨_, by assumption, h⟩
  · cases h
theorem ab_ldr_some {ls : ab_L} {k : Nat} {f : Nat → Option ab_T} {v : ab_T} (h : ab_ldr ls k f = some v) : ∃ z, ls[k]? = some (some (.inr z)) ∧ f z = some v := by
  unfold ab_ldr at h
  split at h
  · exact ⟨_, by assumption, h⟩
  · cases h
theorem ab_bin_some {f : Int32 → Int32 → Int32} {len pc : Nat} {ls : ab_L} {st : List ab_V} {v : ab_T} (h : ab_bin f len pc ls st = some v) : ∃ x y r, len = 1 ∧ st = .inl y :: .inl x :: r ∧ v = (pc + 1, ls, .inl (ab_b f x y) :: r) := by
  unfold ab_bin at h
  split at h
  · obtain ⟨x, y, r, h1, h2⟩ := ab_i2_some h
    cases h2
    exact ⟨x, y, r, by assumption, h1, rfl⟩
  · cases h
theorem ab_bv {f : Int32 → Int32 → Int32} (x y : Int) : Int32.ofInt (ab_b f x y) = f (Int32.ofInt x) (Int32.ofInt y) := by
  unfold ab_b
  exact Int32.ofInt_toInt _
theorem ab_bok {f : Int32 → Int32 → Int32} (x y : Int) : ab_ok (ab_b f x y) := ab_ok_toInt _
theorem ab_rvr (k : Nat) : ∃ a : Nat, ab_rv base b (.inr k) = .ref a := by
  cases k with
  | zero => exact ⟨_, rfl⟩
  | succ k => exact ⟨_, rfl⟩
theorem ab_okc {v : ab_V} {st : List ab_V} (hv : ab_okv v) (h : ∀ v ∈ st, ab_okv v) : ∀ w ∈ v :: st, ab_okv w := fun w hw => (List.mem_cons.mp hw).elim (fun q => by rw [q]; exact hv) (h w)
theorem ab_cmp_sound {cnd : Jvm.ClassFile.Cond} {x y : Int} {off : Int} {tgt : Nat} {rest : List Value} (hexec : p.tables.exec = Jvm.exec) (hb : c.code = cc) (hx : ab_ok x) (hy : ab_ok y) (hdg : decode cc pc = .ok (.if_icmp cnd off, 3)) (hz : (pc : Int) + off = (tgt : Int))
    (kk : W p l e R s m args below meth c H locs cells slots Q (F0 m (if ab_cmp cnd x y = true then tgt else pc + 3) lsC rest)) : W p l e R s m args below meth c H locs cells slots Q (F0 m pc lsC (.int (Int32.ofInt y) :: .int (Int32.ofInt x) :: rest)) := by
  have kt : ab_cmp cnd x y = true → W p l e R s m args below meth c H locs cells slots Q (F0 m tgt lsC rest) := fun q => by rw [if_pos q] at kk; exact kk
  have kf : ¬ ab_cmp cnd x y = true → W p l e R s m args below meth c H locs cells slots Q (F0 m (pc + 3) lsC rest) := fun q => by rw [if_neg q] at kk; exact kk
  cases cnd with
  | eq => exact lv_icmp_eq hexec hb hdg hz (fun q => kt (decide_eq_true ((ab_eq_iff hx hy).mp q))) (fun q => kf (fun z => q ((ab_eq_iff hx hy).mpr (of_decide_eq_true z))))
  | ne => exact lv_icmp_ne hexec hb hdg hz (fun q => kt (decide_eq_true (fun z => q ((ab_eq_iff hx hy).mpr z)))) (fun q => kf (fun z => (of_decide_eq_true z) ((ab_eq_iff hx hy).mp q)))
  | lt => exact lv_icmp_lt hexec hb hdg hz (fun q => kt (decide_eq_true ((ab_lt_iff hx hy).mp q))) (fun q => kf (fun z => q ((ab_lt_iff hx hy).mpr (of_decide_eq_true z))))
  | ge => exact lv_icmp_ge hexec hb hdg hz (fun q => kt (decide_eq_true ((ab_le_iff hy hx).mp q))) (fun q => kf (fun z => q ((ab_le_iff hy hx).mpr (of_decide_eq_true z))))
  | gt => exact lv_icmp_gt hexec hb hdg hz (fun q => kt (decide_eq_true ((ab_lt_iff hy hx).mp q))) (fun q => kf (fun z => q ((ab_lt_iff hy hx).mpr (of_decide_eq_true z))))
  | le => exact lv_icmp_le hexec hb hdg hz (fun q => kt (decide_eq_true ((ab_le_iff hx hy).mp q))) (fun q => kf (fun z => q ((ab_le_iff hx hy).mpr (of_decide_eq_true z))))
theorem ab_if_sound {cnd : Jvm.ClassFile.Cond} {x : Int} {off : Int} {tgt : Nat} {rest : List Value} (hexec : p.tables.exec = Jvm.exec) (hb : c.code = cc) (hx : ab_ok x) (hdg : decode cc pc = .ok (.ifCond cnd off, 3)) (hz : (pc : Int) + off = (tgt : Int))
    (kk : W p l e R s m args below meth c H locs cells slots Q (F0 m (if ab_cmp cnd x 0 = true then tgt else pc + 3) lsC rest)) : W p l e R s m args below meth c H locs cells slots Q (F0 m pc lsC (.int (Int32.ofInt x) :: rest)) := by
  have kt : ab_cmp cnd x 0 = true → W p l e R s m args below meth c H locs cells slots Q (F0 m tgt lsC rest) := fun q => by rw [if_pos q] at kk; exact kk
  have kf : ¬ ab_cmp cnd x 0 = true → W p l e R s m args below meth c H locs cells slots Q (F0 m (pc + 3) lsC rest) := fun q => by rw [if_neg q] at kk; exact kk
  have hy := ab_ok0
  cases cnd with
  | eq => exact lv_if_eq hexec hb hdg hz (fun q => kt (decide_eq_true ((ab_eq_iff hx hy).mp q))) (fun q => kf (fun z => q ((ab_eq_iff hx hy).mpr (of_decide_eq_true z))))
  | ne => exact lv_if_ne hexec hb hdg hz (fun q => kt (decide_eq_true (fun z => q ((ab_eq_iff hx hy).mpr z)))) (fun q => kf (fun z => (of_decide_eq_true z) ((ab_eq_iff hx hy).mp q)))
  | lt => exact lv_if_lt hexec hb hdg hz (fun q => kt (decide_eq_true ((ab_lt_iff hx hy).mp q))) (fun q => kf (fun z => q ((ab_lt_iff hx hy).mpr (of_decide_eq_true z))))
  | ge => exact lv_if_ge hexec hb hdg hz (fun q => kt (decide_eq_true ((ab_le_iff hy hx).mp q))) (fun q => kf (fun z => q ((ab_le_iff hy hx).mpr (of_decide_eq_true z))))
  | gt => exact lv_if_gt hexec hb hdg hz (fun q => kt (decide_eq_true ((ab_lt_iff hy hx).mp q))) (fun q => kf (fun z => q ((ab_lt_iff hy hx).mpr (of_decide_eq_true z))))
  | le => exact lv_if_le hexec hb hdg hz (fun q => kt (decide_eq_true ((ab_le_iff hx hy).mp q))) (fun q => kf (fun z => q ((ab_le_iff hx hy).mpr (of_decide_eq_true z))))
set_option maxHeartbeats 4000000 in
theorem ab_ps_sound {i : Instr} {len pc1 : Nat} {ls ls1 : ab_L} {st st1 : List ab_V} (hps : ab_ps i len pc ls st = some (pc1, ls1, st1)) (hexec : p.tables.exec = Jvm.exec) (hb : c.code = cc) (hdg : decode cc pc = .ok (i, len)) (hF : ab_fr base b nL lsC ls st)
    (kk : ∀ lsC1 : Array Slot, ab_fr base b nL lsC1 ls1 st1 → W p l e R s m args below meth c H locs cells slots Q (F0 m pc1 lsC1 (st1.map (ab_rv base b)))) : W p l e R s m args below meth c H locs cells slots Q (F0 m pc lsC (st.map (ab_rv base b))) := by
  obtain ⟨hl, hlen, hokl, hoks⟩ := hF
  unfold ab_ps at hps
  split at hps
  · -- iconst
    split at hps
    · rename_i z hc
      cases hps
      obtain ⟨rfl, h1, h2⟩ := hc
      exact lv_iconst hexec hb hdg rfl (kk _ ⟨hl, hlen, hokl, ab_okc (v := .inl z) ⟨by omega, by omega⟩ hoks⟩)
    · cases hps
  · -- bipush
    split at hps
    · rename_i z hc
      cases hps
      obtain ⟨rfl, h1, h2⟩ := hc
      refine lv_bipush hexec hb hdg ?_ (kk _ ⟨hl, hlen, hokl, ab_okc (v := .inl z) ⟨by omega, by omega⟩ hoks⟩)
      rw [← Int32.toInt_inj, Int8.toInt_toInt32, Int8.toInt_ofInt_of_le (by omega) (by omega), ab_toInt ⟨by omega, by omega⟩]
    · cases hps
  · -- sipush
    split at hps
    · rename_i z hc
      cases hps
      obtain ⟨rfl, h1, h2⟩ := hc
      refine lv_sipush hexec hb hdg ?_ (kk _ ⟨hl, hlen, hokl, ab_okc (v := .inl z) ⟨by omega, by omega⟩ hoks⟩)
      rw [← Int32.toInt_inj, Int16.toInt_toInt32, Int16.toInt_ofInt_of_le (by omega) (by omega), ab_toInt ⟨by omega, by omega⟩]
    · cases hps
  · -- iload_n
    split at hps
    · rename_i hc
      subst hc
      obtain ⟨z, h1, h2⟩ := ab_ldi_some hps
      cases h2
      exact lv_iload_n hexec hb hdg rfl (ab_lv_at hl h1) (kk _ ⟨hl, hlen, hokl, ab_okc (hokl _ (List.mem_of_getElem? h1)) hoks⟩)
    · cases hps
  · -- iload
    split at hps
    · rename_i hc
      subst hc
      obtain ⟨z, h1, h2⟩ := ab_ldi_some hps
      cases h2
      exact lv_iload hexec hb hdg (ab_lv_at hl h1) (kk _ ⟨hl, hlen, hokl, ab_okc (hokl _ (List.mem_of_getElem? h1)) hoks⟩)
    · cases hps
  · -- aload_n
    split at hps
    · rename_i hc
      subst hc
      obtain ⟨z, h1, h2⟩ := ab_ldr_some hps
      cases h2
      have kk := kk _ ⟨hl, hlen, hokl, ab_okc (hokl _ (List.mem_of_getElem? h1)) hoks⟩
      have hv := ab_lv_at hl h1
      obtain ⟨a, ha⟩ := ab_rvr (base := base) (b := b) z
      rw [List.map_cons, ha] at kk
      rw [ha] at hv
      exact lv_aload_n hexec hb hdg rfl hv kk
    · cases hps
  · -- aload
    split at hps
    · rename_i hc
      subst hc
      obtain ⟨z, h1, h2⟩ := ab_ldr_some hps
      cases h2
      have kk := kk _ ⟨hl, hlen, hokl, ab_okc (hokl _ (List.mem_of_getElem? h1)) hoks⟩
      have hv := ab_lv_at hl h1
      obtain ⟨a, ha⟩ := ab_rvr (base := base) (b := b) z
      rw [List.map_cons, ha] at kk
      rw [ha] at hv
      exact lv_aload hexec hb hdg hv kk
    · cases hps
  · -- istore_n
    split at hps
    · rename_i hc
      obtain ⟨rfl, hk⟩ := hc
      obtain ⟨z, r, rfl, h2⟩ := ab_i1_some hps
      cases h2
      refine lv_istore_n hexec hb hdg rfl hl (by rw [← hlen]; exact hk) rfl (fun ls' hl' => kk ls' ⟨ab_lv_set (v := .inl z) hk hl', by rw [List.length_set]; exact hlen, ab_okset hokl (hoks _ List.mem_cons_self), fun v hv => hoks v (List.mem_cons_of_mem _ hv)⟩)
    · cases hps
  · -- istore
    split at hps
    · rename_i hc
      obtain ⟨rfl, hk⟩ := hc
      obtain ⟨z, r, rfl, h2⟩ := ab_i1_some hps
      cases h2
      refine lv_istore hexec hb hdg hl (by rw [← hlen]; exact hk) rfl (fun ls' hl' => kk ls' ⟨ab_lv_set (v := .inl z) hk hl', by rw [List.length_set]; exact hlen, ab_okset hokl (hoks _ List.mem_cons_self), fun v hv => hoks v (List.mem_cons_of_mem _ hv)⟩)
    · cases hps
  · -- astore_n
    split at hps
    · rename_i hc
      obtain ⟨rfl, hk⟩ := hc
      obtain ⟨z, r, rfl, h2⟩ := ab_r1_some hps
      cases h2
      obtain ⟨a, ha⟩ := ab_rvr (base := base) (b := b) z
      rw [List.map_cons, ha]
      refine lv_astore_n hexec hb hdg rfl hl (by rw [← hlen]; exact hk) rfl (fun ls' hl' => kk ls' ⟨ab_lv_set (v := .inr z) hk (by rw [ha]; exact hl'), by rw [List.length_set]; exact hlen, ab_okset hokl (hoks _ List.mem_cons_self), fun v hv => hoks v (List.mem_cons_of_mem _ hv)⟩)
    · cases hps
  · -- astore
    split at hps
    · rename_i hc
      obtain ⟨rfl, hk⟩ := hc
      obtain ⟨z, r, rfl, h2⟩ := ab_r1_some hps
      cases h2
      obtain ⟨a, ha⟩ := ab_rvr (base := base) (b := b) z
      rw [List.map_cons, ha]
      refine lv_astore hexec hb hdg hl (by rw [← hlen]; exact hk) rfl (fun ls' hl' => kk ls' ⟨ab_lv_set (v := .inr z) hk (by rw [ha]; exact hl'), by rw [List.length_set]; exact hlen, ab_okset hokl (hoks _ List.mem_cons_self), fun v hv => hoks v (List.mem_cons_of_mem _ hv)⟩)
    · cases hps
  · -- iinc
    split at hps
    · rename_i k n hc
      subst hc
      obtain ⟨z, h1, h2⟩ := ab_ldi_some hps
      cases h2
      have hk : k < ls.length := (List.getElem?_eq_some_iff.mp h1).1
      obtain ⟨j, hj⟩ := List.getElem?_of_mem (ab_lvs_mem.mpr ⟨_, h1, rfl⟩ : ((k, ab_rv base b (.inl z)) : Nat × Value) ∈ ab_lvs base b ls)
      exact lv_iinc hexec hb hdg hl hj (v := Int32.ofInt (ab_b (fun a b => a + b) z n)) (ab_bv z n).symm (by rw [← hlen]; exact hk) rfl (fun ls' hl' => kk ls' ⟨ab_lv_set (v := .inl (ab_b (fun a b => a + b) z n)) hk hl', by rw [List.length_set]; exact hlen, ab_okset hokl (ab_bok _ _), hoks⟩)
    · cases hps
  · obtain ⟨x, y, r, rfl, rfl, h⟩ := ab_bin_some hps
    cases h
    exact lv_iadd hexec hb hdg (by rw [← ab_bv (f := fun a b => a + b)]; exact kk _ ⟨hl, hlen, hokl, ab_okc (ab_bok x y) fun v hv => hoks v (List.mem_cons_of_mem _ (List.mem_cons_of_mem _ hv))⟩)
  · obtain ⟨x, y, r, rfl, rfl, h⟩ := ab_bin_some hps
    cases h
    exact lv_isub hexec hb hdg (by rw [← ab_bv (f := fun a b => a - b)]; exact kk _ ⟨hl, hlen, hokl, ab_okc (ab_bok x y) fun v hv => hoks v (List.mem_cons_of_mem _ (List.mem_cons_of_mem _ hv))⟩)
  · obtain ⟨x, y, r, rfl, rfl, h⟩ := ab_bin_some hps
    cases h
    exact lv_imul hexec hb hdg (by rw [← ab_bv (f := fun a b => a * b)]; exact kk _ ⟨hl, hlen, hokl, ab_okc (ab_bok x y) fun v hv => hoks v (List.mem_cons_of_mem _ (List.mem_cons_of_mem _ hv))⟩)
  · obtain ⟨x, y, r, rfl, rfl, h⟩ := ab_bin_some hps
    cases h
    exact lv_iand hexec hb hdg (by rw [← ab_bv (f := fun a b => a &&& b)]; exact kk _ ⟨hl, hlen, hokl, ab_okc (ab_bok x y) fun v hv => hoks v (List.mem_cons_of_mem _ (List.mem_cons_of_mem _ hv))⟩)
  · obtain ⟨x, y, r, rfl, rfl, h⟩ := ab_bin_some hps
    cases h
    exact lv_ior hexec hb hdg (by rw [← ab_bv (f := fun a b => a ||| b)]; exact kk _ ⟨hl, hlen, hokl, ab_okc (ab_bok x y) fun v hv => hoks v (List.mem_cons_of_mem _ (List.mem_cons_of_mem _ hv))⟩)
  · obtain ⟨x, y, r, rfl, rfl, h⟩ := ab_bin_some hps
    cases h
    exact lv_ixor hexec hb hdg (by rw [← ab_bv (f := fun a b => a ^^^ b)]; exact kk _ ⟨hl, hlen, hokl, ab_okc (ab_bok x y) fun v hv => hoks v (List.mem_cons_of_mem _ (List.mem_cons_of_mem _ hv))⟩)
  · obtain ⟨x, y, r, rfl, rfl, h⟩ := ab_bin_some hps
    cases h
    exact lv_ishl hexec hb hdg (by rw [← ab_bv (f := fun a b => a <<< (b &&& 31))]; exact kk _ ⟨hl, hlen, hokl, ab_okc (ab_bok x y) fun v hv => hoks v (List.mem_cons_of_mem _ (List.mem_cons_of_mem _ hv))⟩)
  · obtain ⟨x, y, r, rfl, rfl, h⟩ := ab_bin_some hps
    cases h
    exact lv_ishr hexec hb hdg (by rw [← ab_bv (f := fun a b => a >>> (b &&& 31))]; exact kk _ ⟨hl, hlen, hokl, ab_okc (ab_bok x y) fun v hv => hoks v (List.mem_cons_of_mem _ (List.mem_cons_of_mem _ hv))⟩)
  · -- idiv
    split at hps
    · rename_i hc
      subst hc
      obtain ⟨x, y, r, rfl, h⟩ := ab_i2_some hps
      split at h
      · cases h
      · rename_i hy
        cases h
        exact lv_idiv hexec hb hdg (fun q => hy ((ab_eq_iff (hoks (.inl y) List.mem_cons_self) ab_ok0).mp q)) (by rw [← ab_bv (f := fun a b => a / b)]; exact kk _ ⟨hl, hlen, hokl, ab_okc (ab_bok x y) fun v hv => hoks v (List.mem_cons_of_mem _ (List.mem_cons_of_mem _ hv))⟩)
    · cases hps
  · -- irem
    split at hps
    · rename_i hc
      subst hc
      obtain ⟨x, y, r, rfl, h⟩ := ab_i2_some hps
      split at h
      · cases h
      · rename_i hy
        cases h
        exact lv_irem hexec hb hdg (fun q => hy ((ab_eq_iff (hoks (.inl y) List.mem_cons_self) ab_ok0).mp q)) (by rw [← ab_bv (f := fun a b => a - a / b * b)]; exact kk _ ⟨hl, hlen, hokl, ab_okc (ab_bok x y) fun v hv => hoks v (List.mem_cons_of_mem _ (List.mem_cons_of_mem _ hv))⟩)
    · cases hps
  · -- dup
    split at hps
    · rename_i hc
      subst hc
      split at hps
      · rename_i v r
        cases hps
        exact lv_dup hexec hb hdg (ab_rv_cat _ _ v) (kk _ ⟨hl, hlen, hokl, ab_okc (hoks v List.mem_cons_self) hoks⟩)
      · cases hps
    · cases hps
  · -- dup2
    split at hps
    · rename_i hc
      subst hc
      split at hps
      · rename_i v w r
        cases hps
        exact lv_dup2_11 hexec hb hdg (ab_rv_cat _ _ v) (ab_rv_cat _ _ w) (kk _ ⟨hl, hlen, hokl, ab_okc (hoks v List.mem_cons_self) (ab_okc (hoks w (List.mem_cons_of_mem _ List.mem_cons_self)) hoks)⟩)
      · cases hps
    · cases hps
  · -- ifCond
    split at hps
    · rename_i cnd off hc
      subst hc
      obtain ⟨x, r, rfl, h⟩ := ab_i1_some hps
      cases hj : ab_j pc off with
      | none => rw [hj] at h; cases h
      | some t =>
        rw [hj] at h
        cases h
        exact ab_if_sound hexec hb (hoks (.inl x) List.mem_cons_self) hdg (ab_jv hj) (kk _ ⟨hl, hlen, hokl, fun v hv => hoks v (List.mem_cons_of_mem _ hv)⟩)
    · cases hps
  · -- if_icmp
    split at hps
    · rename_i cnd off hc
      subst hc
      obtain ⟨x, y, r, rfl, h⟩ := ab_i2_some hps
      cases hj : ab_j pc off with
      | none => rw [hj] at h; cases h
      | some t =>
        rw [hj] at h
        cases h
        exact ab_cmp_sound hexec hb (hoks (.inl x) (List.mem_cons_of_mem _ List.mem_cons_self)) (hoks (.inl y) List.mem_cons_self) hdg (ab_jv hj) (kk _ ⟨hl, hlen, hokl, fun v hv => hoks v (List.mem_cons_of_mem _ (List.mem_cons_of_mem _ hv))⟩)
    · cases hps
  · -- goto
    split at hps
    · rename_i off hc
      subst hc
      cases hj : ab_j pc off with
      | none => rw [hj] at hps; cases hps
      | some t =>
        rw [hj] at hps
        cases hps
        exact lv_goto hexec hb hdg (ab_jv hj) (kk _ ⟨hl, hlen, hokl, hoks⟩)
    · cases hps
  · -- tableswitch
    rename_i d lo hi offs
    obtain ⟨x, r, rfl, h⟩ := ab_i1_some hps
    have hx : (Int32.ofInt x).toInt = x := ab_toInt (hoks (.inl x) List.mem_cons_self)
    split at h
    · rename_i hc
      cases hj : ab_j pc d with
      | none => rw [hj] at h; cases h
      | some t =>
        rw [hj] at h
        cases h
        exact lv_tableOut hexec hb hdg (by rw [hx]; exact hc) (ab_jv hj) (kk _ ⟨hl, hlen, hokl, fun v hv => hoks v (List.mem_cons_of_mem _ hv)⟩)
    · rename_i hc
      cases ho : offs[(x - lo).toNat]? with
      | none => rw [ho] at h; cases h
      | some o =>
        rw [ho] at h
        cases hj : ab_j pc o with
        | none => simp [hj] at h
        | some t =>
          simp only [Option.bind_some, hj, Option.map_some] at h
          cases h
          exact lv_tableIn hexec hb hdg (by rw [hx]; omega) (by rw [hx]; omega) (by rw [hx]; exact ho) (ab_jv hj) (kk _ ⟨hl, hlen, hokl, fun v hv => hoks v (List.mem_cons_of_mem _ hv)⟩)
  · cases hps
end AbPs
end
section
/-! ===== the small machine's heap steps are the machine's ===== -/
theorem ab_vpV {n j : Nat} (g : Nat → Value) (hj : j < n) : vp_V ((List.range n).map g) j = g j := by
  simp [vp_V, List.getD, hj]
section AbHs
variable {p : Program} {l : Launch} {e : Env} {R : Room} {s : State} {m : MethodId} {args : Array Value} {below : List Frame} {meth : Method} {c : Code} {H : Heap} {locs : List Loc} {cells slots : Nat} {Q : State → Prop}
variable {cc : ByteArray} {pc : Nat} {lsC : Array Slot} {base b : Nat} {dC : Nat → ClassId} {dI : Nat → Nat → Nat} {cI cZ : Nat} {h : ab_H} {own : String} {rest : List Value}
theorem ab_one {q : Nat × va_E} {D : va_G} (hat : va_at D vwCl q H) : va_P D vwCl [q] H := by
  intro j x hj
  cases j with
  | zero => cases hj; exact hat
  | succ j => simp at hj
theorem ab_s_get {ix ci k a : Nat} {refs : List Nat} {v : Value} (hx : p.tables.exec = Jvm.exec) (hb : c.code = cc) (hts : ∀ w ∈ ab_tb, w.before args s = true) (hown : s.vm.findClass own = some m.cls) (hR : ab_R dC dI cI cZ base b h s H) (hF : ab_F own ix ci k) (ha : h.1[a]? = some (.inl (ci, refs))) (hv : ab_fv base refs (h.2 a) ci k = v) (hdg : decode cc pc = .ok (.getfield ix, 3))
    (kk : W p l e R s m args below meth c H locs cells slots Q (F0 m (pc + 3) lsC (v :: rest))) : W p l e R s m args below meth c H locs cells slots Q (F0 m pc lsC (ab_rv base b (.inr a) :: rest)) := by
  obtain ⟨k', rfl⟩ := hR.pos ha
  obtain ⟨C, T, N, ⟨hc, hin, hty, hnm, hins, hini, hC⟩, hk, hlink⟩ := hF
  have hat := hR.2.1 k' _ ha
  have hsz : ab_sz (.inl (ci, refs)) = N := by simp [ab_sz, hc]
  refine va_get (D := (dC, dI)) (C := C) (T := T) (N := N) hx hb hts hin hown hR.1 (ab_one hat) 0 rfl hc k hk (hts _ hlink) (fun x hx => by rw [hC k hk] at hx; exact hx) ?_ hdg kk
  rw [hsz, List.getElem?_map, List.getElem?_range hk, ← hv]
  rfl
theorem ab_s_putI {ix ci k a : Nat} {refs : List Nat} {z : Int} (hx : p.tables.exec = Jvm.exec) (hb : c.code = cc) (hts : ∀ w ∈ ab_tb, w.before args s = true) (hown : s.vm.findClass own = some m.cls) (hR : ab_R dC dI cI cZ base b h s H) (hS : va_S (fun q => base ≤ q) s.heap H locs) (hF : ab_F own ix ci k) (ha : h.1[a]? = some (.inl (ci, refs)))
    (hty2 : ab_ty ci k = .int ∨ (ab_ty ci k = .boolean ∧ (z = 0 ∨ z = 1))) (hfin : ((vwCl[ci]?).map fun q => (q.2.1 k).2.2.2) = some false) (hz : ab_ok z) (hdg : decode cc pc = .ok (.putfield ix, 3))
    (kk : ∀ (H1 : Heap) (locs1 : List Loc), ab_R dC dI cI cZ base b (h.1, ab_up h.2 a k z) s H1 → va_S (fun q => base ≤ q) s.heap H1 locs1 → W p l e R s m args below meth c H1 locs1 cells slots Q (F0 m (pc + 3) lsC rest)) : W p l e R s m args below meth c H locs cells slots Q (F0 m pc lsC (.int (Int32.ofInt z) :: ab_rv base b (.inr a) :: rest)) := by
  obtain ⟨k', rfl⟩ := hR.pos ha
  obtain ⟨C, T, N, ⟨hc, hin, hty, hnm, hins, hini, hC⟩, hk, hlink⟩ := hF
  rw [hc] at hfin
  have hfin : (T k).2.2.2 = false := Option.some.inj hfin
  obtain ⟨r, h1, cell, q1, q2, q3, q4⟩ := hR.2.1 k' _ ha
  have hr : r = (C, T, N) := Option.some.inj (h1.symm.trans hc)
  subst hr
  have hsz : ab_sz (.inl (ci, refs)) = N := by simp [ab_sz, hc]
  rw [hsz] at q4
  have hap := va_apart (own := own) hts hin (ab_ty ci) hty hnm hR.1 hc
  obtain ⟨hSl, hfc, kC, hkC, hkind⟩ := hR.1.1 ci _ hc
  obtain ⟨cf, kf, fi, f, hi, hsl⟩ := hSl k hk
  have hlay := hts _ (hin _ (u_in_lay hk))
  unfold u_lay at hlay
  rw [if_neg (by rw [hfin]; decide)] at hlay
  have hst := (u_facts hfc hkC (u_lays hts hin hk) hi).1
  have hnf : narrow (ab_ty ci k) (.int (Int32.ofInt z)) = .int (Int32.ofInt z) ∧ fits (ab_ty ci k) (.int (Int32.ofInt z)) = true := by
    rcases hty2 with q | ⟨q, rfl | rfl⟩ <;> rw [q] <;> exact ⟨rfl, rfl⟩
  have h6 := u_store hfc hkC hkind hlay hi (hty k hk) hnf.1 hnf.2
  have hi2 := hi
  rw [hC k hk] at hi2
  have hnR : ab_isR ci k = false := by
    unfold ab_isR
    rcases hty2 with q | ⟨q, -⟩ <;> rw [q]
  refine W.putK hx hb (f := f) ⟨hown, hts _ hlink, ⟨_, _, _, hi2⟩, hst⟩ (by rw [q2]; exact h6) q1 q3 (by rw [hsl]; exact k2_hasslot (q4 k hk)) rfl rfl hdg fun H' e1 e2 e3 => ?_
  rw [hsl] at e1 ⊢
  have hself : ab_up h.2 (k' + 1) k z (k' + 1) = ab_u1 (h.2 (k' + 1)) k z := by simp [ab_up]
  refine kk H' _ (hR.set k' (cd' := .inl (ci, refs)) rfl ha (fun _ _ => rfl) (fun a hne => by simp [ab_up, hne]) (fun j => ?_) e2 e3 ?_) (hS.put e2 e3 (Nat.le_add_right _ _))
  · rw [hself]
    unfold ab_u1
    split
    · exact hz
    · exact hR.2.2.2.2.2.1 _ _
  · refine ⟨_, hc, t_OB.to (V := updV (vp_V ((List.range N).map (ab_fv base refs (h.2 (k' + 1)) ci))) k (.int (Int32.ofInt z))) ⟨_, e1, q2, q3, t_set q4 hap hk _⟩ (fun j hj => ?_)⟩
    rw [hsz, hself]
    show _ = vp_V _ j
    rw [ab_vpV _ hj]
    by_cases hjk : j = k
    · subst hjk
      simp [updV, ab_fv, hnR, ab_u1]
    · simp only [updV, hjk, if_false]
      rw [ab_vpV _ hj]
      simp [ab_fv, ab_u1, hjk]
theorem ab_s_putR {ix ci k a r : Nat} {refs : List Nat} (hx : p.tables.exec = Jvm.exec) (hb : c.code = cc) (hts : ∀ w ∈ ab_tb, w.before args s = true) (hown : s.vm.findClass own = some m.cls) (hR : ab_R dC dI cI cZ base b h s H) (hS : va_S (fun q => base ≤ q) s.heap H locs) (hF : ab_F own ix ci k) (ha : h.1[a]? = some (.inl (ci, refs)))
    (hisR : ab_isR ci k = true) (hkr : k < refs.length) (hfin : ((vwCl[ci]?).map fun q => (q.2.1 k).2.2.2) = some true) (hcl : ((vwCl[ci]?).map fun q => q.1) = some own) (hin2 : meth.name = "<init>") (hdg : decode cc pc = .ok (.putfield ix, 3))
    (kk : ∀ (H1 : Heap) (locs1 : List Loc), ab_R dC dI cI cZ base b (h.1.set a (.inl (ci, refs.set k (r + 1))), h.2) s H1 → va_S (fun q => base ≤ q) s.heap H1 locs1 → W p l e R s m args below meth c H1 locs1 cells slots Q (F0 m (pc + 3) lsC rest)) : W p l e R s m args below meth c H locs cells slots Q (F0 m pc lsC (ab_rv base b (.inr (r + 1)) :: ab_rv base b (.inr a) :: rest)) := by
  obtain ⟨k', rfl⟩ := hR.pos ha
  obtain ⟨C, T, N, ⟨hc, hin, hty, hnm, hins, hini, hC⟩, hk, hlink⟩ := hF
  rw [hc] at hfin hcl
  have hfin : (T k).2.2.2 = true := Option.some.inj hfin
  have hcl : C = own := Option.some.inj hcl
  obtain ⟨q0, h1, cell, q1, q2, q3, q4⟩ := hR.2.1 k' _ ha
  have hr : q0 = (C, T, N) := Option.some.inj (h1.symm.trans hc)
  subst hr
  have hsz : ab_sz (.inl (ci, refs)) = N := by simp [ab_sz, hc]
  rw [hsz] at q4
  have hap := va_apart (own := own) hts hin (ab_ty ci) hty hnm hR.1 hc
  obtain ⟨hSl, hfc, kC, hkC, hkind⟩ := hR.1.1 ci _ hc
  obtain ⟨cf, kf, fi, f, hi, hsl⟩ := hSl k hk
  have hlay := hts _ (hin _ (u_in_lay hk))
  unfold u_lay at hlay
  rw [if_pos hfin] at hlay
  have hst := (u_facts hfc hkC (u_lays hts hin hk) hi).1
  have hnf : narrow (ab_ty ci k) (.ref (base + r)) = .ref (base + r) ∧ fits (ab_ty ci k) (.ref (base + r)) = true := by
    unfold ab_isR at hisR
    split at hisR
    · rename_i q; rw [q]; exact ⟨rfl, rfl⟩
    · rename_i q; rw [q]; exact ⟨rfl, rfl⟩
    · cases hisR
  have h6 := u_fits hfc hkC hkind (Or.inr hlay) hi (hty k hk) hnf.1 hnf.2
  have hi2 := hi
  rw [hC k hk] at hi2
  have hcf : m.cls = cf := by
    obtain ⟨_, _, c', _, _, _, -, -, hf', -, -, -, hown2, -⟩ := Cond.laysFinal_spec hlay
    have e1 : c' = cf := by
      have z := hi.symm.trans hf'
      simp at z
      exact z.1.symm
    rw [hC k hk, hcl] at hown2
    rw [← e1]
    exact Option.some.inj (hown.symm.trans hown2)
  refine W.putFinK hx hb hown (hts _ hlink) hi2 hst hcf hin2 (v := .ref (base + r)) (by rw [q2]; exact h6) q1 q3 (by rw [hsl]; exact k2_hasslot (q4 k hk)) rfl rfl hdg fun H' e1 e2 e3 => ?_
  rw [hsl] at e1 ⊢
  have hlt : k' + 1 < h.1.length := (List.getElem?_eq_some_iff.mp ha).1
  refine kk H' _ (hR.set k' (cd' := .inl (ci, refs.set k (r + 1))) (by simp) (by rw [List.getElem?_set_self hlt]) (fun j hj => by rw [List.getElem?_set_ne (Ne.symm hj)]) (fun a hne => rfl) (fun j => hR.2.2.2.2.2.1 _ _) e2 e3 ?_) (hS.put e2 e3 (Nat.le_add_right _ _))
  have hsz2 : ab_sz (.inl (ci, refs.set k (r + 1))) = N := by simp [ab_sz, hc]
  refine ⟨_, hc, t_OB.to (V := updV (vp_V ((List.range N).map (ab_fv base refs (h.2 (k' + 1)) ci))) k (.ref (base + r))) ⟨_, e1, q2, q3, t_set q4 hap hk _⟩ (fun j hj => ?_)⟩
  rw [hsz2]
  show _ = vp_V _ j
  rw [ab_vpV _ hj]
  by_cases hjk : j = k
  · subst hjk
    simp [updV, ab_fv, hisR, hkr, ab_rf]
  · simp only [updV, hjk, if_false]
    rw [ab_vpV _ hj]
    simp [ab_fv, List.getElem?_set_ne (Ne.symm hjk)]
end AbHs
end
section
section AbHt
variable {p : Program} {l : Launch} {e : Env} {R : Room} {s : State} {m : MethodId} {args : Array Value} {below : List Frame} {meth : Method} {c : Code} {H : Heap} {locs : List Loc} {cells slots : Nat} {Q : State → Prop}
variable {cc : ByteArray} {pc : Nat} {lsC : Array Slot} {base b : Nat} {dC : Nat → ClassId} {dI : Nat → Nat → Nat} {cI cZ : Nat} {h : ab_H} {own : String} {rest : List Value}
theorem ab_s_iald {a n : Nat} {x : Int} (hx : p.tables.exec = Jvm.exec) (hb : c.code = cc) (hR : ab_R dC dI cI cZ base b h s H) (ha : h.1[a]? = some (.inr (0, n))) (hxo : ab_ok x) (h0 : 0 ≤ x) (hn : x < n) (hdg : decode cc pc = .ok (.iaload, 1))
    (kk : W p l e R s m args below meth c H locs cells slots Q (F0 m (pc + 1) lsC (.int (Int32.ofInt (h.2 a x.toNat)) :: rest))) : W p l e R s m args below meth c H locs cells slots Q (F0 m pc lsC (.int (Int32.ofInt x) :: ab_rv base b (.inr a) :: rest)) := by
  cases a with
  | zero =>
    obtain ⟨L, h4, scr, g1, g2, g3, g4, g5⟩ := hR.2.2.2.1
    have hL : n = L := by
      have := ha.symm.trans h4
      simp at this
      exact this
    subst hL
    have hlt : x.toNat < n := by omega
    exact W.iald (v := .int (Int32.ofInt (h.2 0 x.toNat))) hx hb g1 g2 g3 (by rw [g4]; exact ab_vin hxo h0 hn) (by rw [ab_clamp hxo]; exact g5 _ hlt) rfl rfl hdg kk
  | succ k =>
    have hat := hR.2.1 k _ ha
    refine va_iald (D := (dC, dI)) hx hb hR.1 (ab_one hat) 0 0 rfl rfl (ab_vin hxo h0 hn) hdg ?_
    rw [ab_clamp hxo]
    exact kk
theorem ab_s_zald {a n : Nat} {x : Int} (hx : p.tables.exec = Jvm.exec) (hb : c.code = cc) (hR : ab_R dC dI cI cZ base b h s H) (ha1 : 1 ≤ a) (ha : h.1[a]? = some (.inr (1, n))) (hxo : ab_ok x) (h0 : 0 ≤ x) (hn : x < n) (hdg : decode cc pc = .ok (.baload, 1))
    (kk : W p l e R s m args below meth c H locs cells slots Q (F0 m (pc + 1) lsC (.int (Int32.ofInt (h.2 a x.toNat)) :: rest))) : W p l e R s m args below meth c H locs cells slots Q (F0 m pc lsC (.int (Int32.ofInt x) :: ab_rv base b (.inr a) :: rest)) := by
  cases a with
  | zero => exact absurd ha1 (by omega)
  | succ k =>
    have hat := hR.2.1 k _ ha
    refine va_zald (D := (dC, dI)) hx hb hR.1 (ab_one hat) 0 1 rfl rfl (ab_vin hxo h0 hn) hdg ?_
    rw [ab_clamp hxo]
    exact kk
theorem ab_cell_up {cA n k : Nat} {f : Nat → Int} {z : Int} : (vp_cell cA (n, .inl fun j => Int32.ofInt (f j))).setSlot k (.int (Int32.ofInt z)) = vp_cell cA (n, .inl fun j => Int32.ofInt (ab_u1 f k z j)) := by
  rw [vp_cell_i, vp_cell_i, arrV_store]
  congr 1
  funext q
  by_cases hq : q = k
  · subst hq; simp [updV, ab_u1]
  · simp [updV, ab_u1, hq]
theorem ab_s_iast {a n : Nat} {x z : Int} (hx : p.tables.exec = Jvm.exec) (hb : c.code = cc) (hR : ab_R dC dI cI cZ base b h s H) (hS : va_S (fun q => base ≤ q) s.heap H locs) (ha1 : 1 ≤ a) (ha : h.1[a]? = some (.inr (0, n))) (hxo : ab_ok x) (hzo : ab_ok z) (h0 : 0 ≤ x) (hn : x < n) (hdg : decode cc pc = .ok (.iastore, 1))
    (kk : ∀ (H1 : Heap) (locs1 : List Loc), ab_R dC dI cI cZ base b (h.1, ab_up h.2 a x.toNat z) s H1 → va_S (fun q => base ≤ q) s.heap H1 locs1 → W p l e R s m args below meth c H1 locs1 cells slots Q (F0 m (pc + 1) lsC rest)) : W p l e R s m args below meth c H locs cells slots Q (F0 m pc lsC (.int (Int32.ofInt z) :: .int (Int32.ofInt x) :: ab_rv base b (.inr a) :: rest)) := by
  cases a with
  | zero => exact absurd ha1 (by omega)
  | succ k =>
    have hat := hR.2.1 k _ ha
    refine W.iast hx hb hat ((hR.1.2 0 _ rfl).1 n (fun j => .int (Int32.ofInt (h.2 (k + 1) j)))) (fun q => by cases q) (by show ¬ (_ < 0 ∨ (arrV _ _ _).slots.size ≤ _); rw [arrV_size]; exact ab_vin hxo h0 hn) rfl rfl hdg fun H1 e z1 oq => ?_
    have hself : ab_up h.2 (k + 1) x.toNat z (k + 1) = ab_u1 (h.2 (k + 1)) x.toNat z := by simp [ab_up]
    refine kk H1 _ (hR.set k (cd' := .inr (0, n)) rfl ha (fun _ _ => rfl) (fun a hne => by simp [ab_up, hne]) (fun j => ?_) z1 oq ?_) (hS.put z1 oq (Nat.le_add_right _ _))
    · rw [hself]
      unfold ab_u1
      split
      · exact hzo
      · exact hR.2.2.2.2.2.1 _ _
    · show H1[base + k]? = some (vp_cell _ _)
      rw [e, ab_clamp hxo, hself]
      exact congrArg some ab_cell_up
theorem ab_s_zast {a n : Nat} {x z : Int} (hx : p.tables.exec = Jvm.exec) (hb : c.code = cc) (hR : ab_R dC dI cI cZ base b h s H) (hS : va_S (fun q => base ≤ q) s.heap H locs) (ha1 : 1 ≤ a) (ha : h.1[a]? = some (.inr (1, n))) (hxo : ab_ok x) (hz : z = 0 ∨ z = 1) (h0 : 0 ≤ x) (hn : x < n) (hdg : decode cc pc = .ok (.bastore, 1))
    (kk : ∀ (H1 : Heap) (locs1 : List Loc), ab_R dC dI cI cZ base b (h.1, ab_up h.2 a x.toNat z) s H1 → va_S (fun q => base ≤ q) s.heap H1 locs1 → W p l e R s m args below meth c H1 locs1 cells slots Q (F0 m (pc + 1) lsC rest)) : W p l e R s m args below meth c H locs cells slots Q (F0 m pc lsC (.int (Int32.ofInt z) :: .int (Int32.ofInt x) :: ab_rv base b (.inr a) :: rest)) := by
  have hzo : ab_ok z := by rcases hz with rfl | rfl <;> exact ⟨by decide, by decide⟩
  have hnar : narrow .boolean (.int (Int32.ofInt z)) = .int (Int32.ofInt z) := by rcases hz with rfl | rfl <;> rfl
  cases a with
  | zero => exact absurd ha1 (by omega)
  | succ k =>
    have hat := hR.2.1 k _ ha
    refine W.zast hx hb hat ((hR.1.2 1 _ rfl).1 n (fun j => .int (Int32.ofInt (h.2 (k + 1) j)))) (fun q => by cases q) (by show ¬ (_ < 0 ∨ (arrV _ _ _).slots.size ≤ _); rw [arrV_size]; exact ab_vin hxo h0 hn) rfl rfl hdg fun H1 e z1 oq => ?_
    have hself : ab_up h.2 (k + 1) x.toNat z (k + 1) = ab_u1 (h.2 (k + 1)) x.toNat z := by simp [ab_up]
    refine kk H1 _ (hR.set k (cd' := .inr (1, n)) rfl ha (fun _ _ => rfl) (fun a hne => by simp [ab_up, hne]) (fun j => ?_) z1 oq ?_) (hS.put z1 oq (Nat.le_add_right _ _))
    · rw [hself]
      unfold ab_u1
      split
      · exact hzo
      · exact hR.2.2.2.2.2.1 _ _
    · show H1[base + k]? = some (vp_cell _ _)
      rw [e, ab_clamp hxo, hself, hnar]
      exact congrArg some ab_cell_up
theorem ab_s_alen {a t n : Nat} (hx : p.tables.exec = Jvm.exec) (hb : c.code = cc) (hR : ab_R dC dI cI cZ base b h s H) (ha : h.1[a]? = some (.inr (t, n))) (ht : a = 0 ∨ t < 2) (hdg : decode cc pc = .ok (.arraylength, 1))
    (kk : W p l e R s m args below meth c H locs cells slots Q (F0 m (pc + 1) lsC (.int (Int32.ofInt (n : Int)) :: rest))) : W p l e R s m args below meth c H locs cells slots Q (F0 m pc lsC (ab_rv base b (.inr a) :: rest)) := by
  rw [Int32.ofInt_eq_ofNat] at kk
  cases a with
  | zero =>
    obtain ⟨L, h4, scr, g1, g2, g3, g4, g5⟩ := hR.2.2.2.1
    have hL : n = L := by
      have := ha.symm.trans h4
      simp at this
      exact this.2
    subst hL
    exact W.alen (n := Int32.ofNat n) hx hb g1 g2 (by rw [g4] <;> rfl) rfl rfl hdg kk
  | succ k =>
    have hat := hR.2.1 k _ ha
    have ht : t < 2 := by
      rcases ht with q | q
      · exact absurd q (by omega)
      · exact q
    match t, ht with
    | 0, _ => exact va_alen (D := (dC, dI)) hx hb hR.1 (ab_one hat) 0 0 rfl rfl rfl hdg kk
    | 1, _ => exact va_alen (D := (dC, dI)) hx hb hR.1 (ab_one hat) 0 1 rfl rfl rfl hdg kk
theorem ab_s_newa {n t : Nat} {at_ : ArrayType} (hx : p.tables.exec = Jvm.exec) (hb : c.code = cc) (hts : ∀ w ∈ ab_tb, w.before args s = true) (hR : ab_R dC dI cI cZ base b h s H) (hS : va_S (fun q => base ≤ q) s.heap H locs) (hat : (at_ = .int ∧ t = 0) ∨ (at_ = .boolean ∧ t = 1)) (hn : n ≤ 100000) (hf : ∀ j, h.2 h.1.length j = 0) (hcells : cells + 1 ≤ R.cells) (hslots : slots + n ≤ R.slots) (hdg : decode cc pc = .ok (.newarray at_, 2))
    (kk : ∀ (H1 : Heap), ab_R dC dI cI cZ base b (h.1 ++ [.inr (t, n)], h.2) s H1 → va_S (fun q => base ≤ q) s.heap H1 locs → W p l e R s m args below meth c H1 locs (cells + 1) (slots + n) Q (F0 m (pc + 2) lsC (ab_rv base b (.inr h.1.length) :: rest))) : W p l e R s m args below meth c H locs cells slots Q (F0 m pc lsC (.int (Int32.ofInt (n : Int)) :: rest)) := by
  have hno : ab_ok (n : Int) := ⟨by omega, by omega⟩
  have harr : (Cond.arrayClass (newarray.typeOf at_)).before args s = true := by
    rcases hat with ⟨rfl, -⟩ | ⟨rfl, -⟩
    · exact hts _ ab_arr_int
    · exact hts _ ab_arr_boolean
  have hbase : base ≤ H.size := by
    have h1 := hR.2.2.1
    obtain ⟨L, h4, -⟩ := hR.2.2.2.1
    have := (List.getElem?_eq_some_iff.mp h4).1
    omega
  refine va_newaK hx hb harr rfl hdg rfl (fun q => ?_) (N := n) (by rw [ab_clamp hno]; omega) (by rcases hat with ⟨rfl, -⟩ | ⟨rfl, -⟩ <;> (simp [newarray.typeOf, componentBytes]; omega)) hcells hslots rfl fun H1 cA e1 z1 o1 hAr hNm => ?_
  · have := (ab_lt_iff hno ab_ok0).mp q
    omega
  · have hcA : cA = if t = 0 then cI else cZ := by
      rcases hat with ⟨rfl, rfl⟩ | ⟨rfl, rfl⟩
      · exact Option.some.inj (hNm.symm.trans (hR.1.2 0 _ rfl).2)
      · exact Option.some.inj (hNm.symm.trans (hR.1.2 1 _ rfl).2)
    obtain ⟨g1, g2, g3⟩ := hR.push (cd := .inr (t, n)) z1 o1 (by
      show H1[H.size]? = some (vp_cell (if t = 0 then cI else cZ) (n, .inl fun j => Int32.ofInt (h.2 h.1.length j)))
      rw [e1, ← hcA, vp_cell_i]
      congr 2
      funext j
      rw [hf j]
      rcases hat with ⟨rfl, -⟩ | ⟨rfl, -⟩ <;> rfl)
    have hrv : ab_rv base b (.inr h.1.length) = .ref H.size := by
      obtain ⟨k, hk⟩ : ∃ k, h.1.length = k + 1 := ⟨h.1.length - 1, by omega⟩
      rw [hk]
      show Value.ref (base + k) = _
      rw [g2, hk]
      rfl
    have kk := kk H1 g1 ⟨Nat.le_trans hS.1 (by omega), fun q h1 h2 => (o1 q (Nat.lt_of_lt_of_le h1 hS.1)).trans (hS.2.1 q h1 h2), hS.2.2⟩
    rw [hrv] at kk
    exact kk
theorem ab_s_new {ix ci N : Nat} (hx : p.tables.exec = Jvm.exec) (hb : c.code = cc) (hts : ∀ w ∈ ab_tb, w.before args s = true) (hown : s.vm.findClass own = some m.cls) (hR : ab_R dC dI cI cZ base b h s H) (hS : va_S (fun q => base ≤ q) s.heap H locs) (hC : ab_C own ix ci) (hN : ((vwCl[ci]?).map fun q => q.2.2) = some N) (hgt : ∀ k, k < N → ab_gt (ab_ty ci k) = true) (hf : ∀ j, h.2 h.1.length j = 0) (hcells : cells + 1 ≤ R.cells) (hslots : slots + N ≤ R.slots) (hdg : decode cc pc = .ok (.new ix, 3))
    (kk : ∀ (H1 : Heap), ab_R dC dI cI cZ base b (h.1 ++ [.inl (ci, List.replicate N 0)], h.2) s H1 → va_S (fun q => base ≤ q) s.heap H1 locs → W p l e R s m args below meth c H1 locs (cells + 1) (slots + N) Q (F0 m (pc + 3) lsC (ab_rv base b (.inr h.1.length) :: rest))) : W p l e R s m args below meth c H locs cells slots Q (F0 m pc lsC rest) := by
  obtain ⟨C, T, N', ⟨hc, hin, hty, hnm, hins, hini, hC⟩, hlink⟩ := hC
  rw [hc] at hN
  have hN : N' = N := Option.some.inj hN
  subst hN
  have hKn := hR.1.1 ci _ hc
  refine W.newcK hx hb hown (hts _ hlink) (hts _ hins) (hts _ hini) rfl hdg hcells hslots hKn.2.1 rfl fun H1 kC hkC e1 z1 o1 => ?_
  have hsz : ab_sz (.inl (ci, List.replicate N' 0)) = N' := by simp [ab_sz, hc]
  obtain ⟨g1, g2, g3⟩ := hR.push (cd := .inl (ci, List.replicate N' 0)) z1 o1 (by
    refine ⟨_, hc, (u_born (ab_ty ci) hts hin hKn hkC e1 hty).to (fun j hj => ?_)⟩
    rw [hsz]
    show _ = vp_V _ j
    rw [ab_vpV _ hj]
    have hg := hgt j hj
    unfold ab_fv ab_isR
    unfold ab_gt at hg
    split at hg
    · rename_i q; rw [q, hf j]; rfl
    · rename_i q; rw [q, hf j]; rfl
    · rename_i q; rw [q]; simp [ab_rf, hj, defaultValue]
    · rename_i q; rw [q]; simp [ab_rf, hj, defaultValue]
    · cases hg)
  have hrv : ab_rv base b (.inr h.1.length) = .ref H.size := by
    obtain ⟨k, hk⟩ : ∃ k, h.1.length = k + 1 := ⟨h.1.length - 1, by omega⟩
    rw [hk]
    show Value.ref (base + k) = _
    rw [g2, hk]
    rfl
  have kk := kk H1 g1 ⟨Nat.le_trans hS.1 (by omega), fun q h1 h2 => (o1 q (Nat.lt_of_lt_of_le h1 hS.1)).trans (hS.2.1 q h1 h2), hS.2.2⟩
  rw [hrv] at kk
  exact kk
end AbHt
end
section
section AbHu
variable {p : Program} {l : Launch} {e : Env} {R : Room} {s : State} {m : MethodId} {args : Array Value} {below : List Frame} {meth : Method} {c : Code} {H : Heap} {locs : List Loc} {cells slots : Nat} {Q : State → Prop}
variable {cc : ByteArray} {pc : Nat} {lsC : Array Slot} {base b : Nat} {dC : Nat → ClassId} {dI : Nat → Nat → Nat} {cI cZ : Nat} {h : ab_H} {own : String} {rest : List Value}
theorem ab_s_copy {ix a a0 n n0 N : Nat} (hx : p.tables.exec = Jvm.exec) (hb : c.code = cc) (hml : c.maxLocals = lsC.size) (hts : ∀ w ∈ ab_tb, w.before args s = true) (hown : s.vm.findClass own = some m.cls) (hR : ab_R dC dI cI cZ base b h s H) (hS : va_S (fun q => base ≤ q) s.heap H locs) (hC : ab_lC own ix) (ha1 : 1 ≤ a) (ha01 : 1 ≤ a0) (ha : h.1[a]? = some (.inr (0, n))) (ha0 : h.1[a0]? = some (.inr (0, n0))) (hN : N ≤ n) (hN0 : N ≤ n0) (hNs : N < 100000)
    (hframes : 1 ≤ R.frames) (hlocals : (rest.map fun v => v.category).sum + (nativeFrameWords "java/lang/System" "arraycopy" 5 + 11) ≤ R.locals) (hdg : decode cc pc = .ok (.invokestatic ix, 3))
    (kk : ∀ (H1 : Heap) (locs1 : List Loc), ab_R dC dI cI cZ base b (h.1, ab_rw h.2 a (fun k => if k < N then h.2 a0 k else h.2 a k)) s H1 → va_S (fun q => base ≤ q) s.heap H1 locs1 → W p l e R s m args below meth c H1 locs1 cells slots Q (F0 m (pc + 3) lsC rest)) : W p l e R s m args below meth c H locs cells slots Q (F0 m pc lsC (.int (Int32.ofInt (N : Int)) :: .int (Int32.ofInt 0) :: ab_rv base b (.inr a) :: .int (Int32.ofInt 0) :: ab_rv base b (.inr a0) :: rest)) := by
  obtain ⟨k, rfl⟩ : ∃ k, a = k + 1 := ⟨a - 1, by omega⟩
  obtain ⟨k0, rfl⟩ : ∃ k0, a0 = k0 + 1 := ⟨a0 - 1, by omega⟩
  obtain ⟨c1, c2, c3, c4⟩ := hC
  have hNo : ab_ok (N : Int) := ⟨by omega, by omega⟩
  have hcl : (Int32.ofInt (N : Int)).toNatClampNeg = N := by rw [ab_clamp hNo]; omega
  have hc0 : H[base + k0]? = some (vp_cell cI (n0, .inl fun j => Int32.ofInt (h.2 (k0 + 1) j))) := hR.2.1 k0 _ ha0
  have hc1 : H[base + k]? = some (vp_cell cI (n, .inl fun j => Int32.ofInt (h.2 (k + 1) j))) := hR.2.1 k _ ha
  intro T hT X
  obtain ⟨-, z0, hk0, cm0, hkk0⟩ := (hR.1.2 0 _ rfl).1 n0 (fun j => .int (Int32.ofInt (h.2 (k0 + 1) j)))
  obtain ⟨-, z1, hk1, cm1, hkk1⟩ := (hR.1.2 0 _ rfl).1 n (fun j => .int (Int32.ofInt (h.2 (k + 1) j)))
  obtain ⟨vm', X', step⟩ := X.arraycopy hx hown (hts _ c1) (hts _ c2) (hts _ c3) (hts _ c4) (src := base + k0) (dst := base + k) (cs := vp_cell cI (n0, .inl fun j => Int32.ofInt (h.2 (k0 + 1) j))) (cd := vp_cell cI (n, .inl fun j => Int32.ofInt (h.2 (k + 1) j))) (srcPos := Int32.ofInt 0) (destPos := Int32.ofInt 0) (n := Int32.ofInt (N : Int)) (by rw [hT]; exact hc0) (by rw [hT]; exact hc1)
    (fun _ h => by cases h) (fun _ h => by cases h) (fun h => by cases h) (fun h => by cases h) hk0 hk1 hkk0 hkk1 (by simp [refKind]) (by decide) (by decide) (fun q => by have := (ab_lt_iff hNo ab_ok0).mp q; omega)
    (by rw [ab_toInt hNo, ab_toInt ab_ok0]; show ¬ _ > ((arrV cI n0 _).slots.size : Int); rw [arrV_size]; omega)
    (by rw [ab_toInt hNo, ab_toInt ab_ok0]; show ¬ _ > ((arrV cI n _).slots.size : Int); rw [arrV_size]; omega)
    (fun vm₁ _ i hi => by
      rw [hcl] at hi
      have e : (vp_cell cI (n0, .inl fun j => Int32.ofInt (h.2 (k0 + 1) j))).slots.getD ((Int32.ofInt 0).toNatClampNeg + i) .null = .int (Int32.ofInt (h.2 (k0 + 1) i)) := by
        show (arrV cI n0 (fun j => .int (Int32.ofInt (h.2 (k0 + 1) j)))).slots.getD _ _ = _
        rw [show (Int32.ofInt 0).toNatClampNeg + i = i by rw [ab_clamp ab_ok0]; simp, Array.getD_eq_getD_getElem?, arrV_read _ _ (by omega)]
        rfl
      rw [e]
      exact ⟨rfl, trivial⟩)
    (g := F0 m pc lsC (.int (Int32.ofInt (N : Int)) :: .int (Int32.ofInt 0) :: .ref (base + k) :: .int (Int32.ofInt 0) :: .ref (base + k0) :: rest)) rfl (by rw [hml]) (rest := rest) rfl (by rw [hb]; exact hdg) hframes (by show 2 * 0 + _ + _ ≤ _; omega)
  have e1 : copied (vp_cell cI (n0, .inl fun j => Int32.ofInt (h.2 (k0 + 1) j))) (vp_cell cI (n, .inl fun j => Int32.ofInt (h.2 (k + 1) j))) (Int32.ofInt 0) (Int32.ofInt 0) (Int32.ofInt (N : Int)) = vp_cell cI (n, .inl fun j => Int32.ofInt (if j < N then h.2 (k0 + 1) j else h.2 (k + 1) j)) := by
    have h4 : (Int32.ofInt 0).toNatClampNeg + (Int32.ofInt (N : Int)).toNatClampNeg ≤ n0 := by rw [hcl, ab_clamp ab_ok0]; simpa using hN0
    refine (va_copied (fun z => .int z) cI cI (fun j => Int32.ofInt (h.2 (k0 + 1) j)) (fun j => Int32.ofInt (h.2 (k + 1) j)) h4).trans ?_
    rw [vp_cell_i]
    congr 1
    funext j
    rw [hcl, ab_clamp ab_ok0]
    unfold va_cpy
    by_cases hj : j < N
    · rw [if_pos ⟨by simp, by simpa using hj⟩, if_pos hj]
      simp
    · rw [if_neg (by simp; omega), if_neg hj]
  rw [e1] at X' step
  have hl : base + k < H.size := (Array.getElem?_eq_some_iff.mp hc1).1
  have hheap : ((T.setVm vm').setCell (base + k) (vp_cell cI (n, .inl fun j => Int32.ofInt (if j < N then h.2 (k0 + 1) j else h.2 (k + 1) j)))).heap = H.setIfInBounds (base + k) (vp_cell cI (n, .inl fun j => Int32.ofInt (if j < N then h.2 (k0 + 1) j else h.2 (k + 1) j))) := by rw [← hT]; rfl
  have oq : ∀ q : Nat, q ≠ base + k → (H.setIfInBounds (base + k) (vp_cell cI (n, .inl fun j => Int32.ofInt (if j < N then h.2 (k0 + 1) j else h.2 (k + 1) j))))[q]? = H[q]? := fun q hq => by simp [Array.getElem?_setIfInBounds, Ne.symm hq]
  have hself : ab_rw h.2 (k + 1) (fun j => if j < N then h.2 (k0 + 1) j else h.2 (k + 1) j) (k + 1) = (fun j => if j < N then h.2 (k0 + 1) j else h.2 (k + 1) j) := by simp [ab_rw]
  obtain ⟨t, a1, b1⟩ := kk _ _ (hR.set k (cd' := .inr (0, n)) rfl ha (fun _ _ => rfl) (fun a hne => by simp [ab_rw, hne]) (fun j => by
      rw [hself]
      show ab_ok (if j < N then _ else _)
      split
      · exact hR.2.2.2.2.2.1 _ _
      · exact hR.2.2.2.2.2.1 _ _) (by simp) oq (by
      rw [hself]
      show (H.setIfInBounds (base + k) _)[base + k]? = some _
      first | (simp [Array.getElem?_setIfInBounds, hl]; done) | (simp [Array.getElem?_setIfInBounds, hl]; rfl))) ⟨by simp; exact hS.1, fun q g1 g2 => by
      rw [oq q (fun e => g2 (by rw [e]; exact Nat.le_add_right _ _))]
      exact hS.2.1 q g1 g2, fun q hq => by
      rcases List.mem_append.mp hq with h | h
      · exact hS.2.2 q h
      · obtain ⟨z, -, hz⟩ := List.mem_map.mp h
        rw [← hz]
        exact Nat.le_add_right _ _⟩ _ hheap X'
  exact ⟨t, step t a1, b1⟩
theorem ab_nS_app (a : List ab_CD) (x : ab_CD) : ab_nS (a ++ [x]) = ab_nS a + ab_sz x := by simp [ab_nS]
set_option maxHeartbeats 4000000 in
theorem ab_hs_sound {M : ab_M} {i : Instr} {len : Nat} {ls : ab_L} {st st1 : List ab_V} {h1 : ab_H} {nL : Nat} (hhs : ab_hs M i len st h st1 h1) (hx : p.tables.exec = Jvm.exec) (hb : c.code = cc) (hml : c.maxLocals = nL) (hts : ∀ w ∈ ab_tb, w.before args s = true) (hown : s.vm.findClass M.1.cls = some m.cls) (hnm : M.1.name = "<init>" → meth.name = "<init>") (hdg : decode cc pc = .ok (i, len))
    (hR : ab_R dC dI cI cZ base b h s H) (hS : va_S (fun q => base ≤ q) s.heap H locs) (hF : ab_fr base b nL lsC ls st) (hc1 : cells + (h1.1.length - h.1.length) ≤ R.cells) (hs1 : slots + (ab_nS h1.1 - ab_nS h.1) ≤ R.slots) (hfr : 1 ≤ R.frames) (hlo : 40 ≤ R.locals)
    (kk : ∀ (H1 : Heap) (locs1 : List Loc), ab_R dC dI cI cZ base b h1 s H1 → va_S (fun q => base ≤ q) s.heap H1 locs1 → ab_fr base b nL lsC ls st1 → W p l e R s m args below meth c H1 locs1 (cells + (h1.1.length - h.1.length)) (slots + (ab_nS h1.1 - ab_nS h.1)) Q (F0 m (pc + len) lsC (st1.map (ab_rv base b)))) : W p l e R s m args below meth c H locs cells slots Q (F0 m pc lsC (st.map (ab_rv base b))) := by
  obtain ⟨hl, hlen, hokl, hoks⟩ := hF
  have hsz : c.maxLocals = lsC.size := by rw [hml]; exact hl.1.symm
  rcases hhs with ⟨ix, ci, k, a, rest, refs, rfl, rfl, hF, rfl, ha, hr, rfl, rfl⟩ | ⟨ix, ci, k, a, rest, refs, r, rfl, rfl, hF, rfl, ha, hr, hrr, rfl, rfl⟩ | ⟨ix, ci, k, a, z, rest, refs, rfl, rfl, hF, rfl, ha, hty, hfin, rfl, rfl⟩ | ⟨ix, ci, k, a, r, rest, refs, rfl, rfl, hF, rfl, ha, hr, hkr, hfin, hcl, hini, rfl, rfl⟩ | ⟨a, n, x, rest, hi, rfl, rfl, h0, hn, rfl, rfl⟩ | ⟨a, n, x, z, rest, hi, rfl, rfl, ha1, h0, hn, rfl, rfl⟩ | ⟨a, t, n, rest, rfl, rfl, rfl, ha, ht, hn, rfl, rfl⟩ | ⟨n, t, rest, hi, rfl, rfl, hn, hf, rfl, rfl⟩ | ⟨ix, ci, N, rfl, rfl, hC, hN, hgt, hf, rfl, rfl⟩ | ⟨ix, z, rfl, rfl, hK, hz, rfl, rfl⟩ | ⟨ix, a, rest, rfl, rfl, hO, rfl, hrl, rfl, rfl⟩ | ⟨ix, a, a0, n, n0, N, rest, rfl, rfl, hC, rfl, hrl, ha1, ha01, hne, ha, ha0, hN, hN0, hNs, rfl, rfl⟩ | ⟨ix, x, y, rest, rfl, rfl, hX, rfl, hrl, rfl, rfl⟩ | ⟨ix, x, y, rest, rfl, rfl, hX, rfl, hrl, rfl, rfl⟩
  · simp only [Nat.sub_self, Nat.add_zero] at kk hc1 hs1
    refine ab_s_get hx hb hts hown hR hF ha ?_ hdg (kk H locs hR hS ⟨hl, hlen, hokl, ab_okc (hR.2.2.2.2.2.1 a k) fun v hv => hoks v (List.mem_cons_of_mem _ hv)⟩)
    simp [ab_fv, hr]
    rfl
  · simp only [Nat.sub_self, Nat.add_zero] at kk hc1 hs1
    refine ab_s_get hx hb hts hown hR hF ha ?_ hdg (kk H locs hR hS ⟨hl, hlen, hokl, ab_okc trivial fun v hv => hoks v (List.mem_cons_of_mem _ hv)⟩)
    simp [ab_fv, hr, hrr, ab_rf]
    rfl
  · simp only [Nat.sub_self, Nat.add_zero] at kk hc1 hs1
    exact ab_s_putI hx hb hts hown hR hS hF ha hty hfin (hoks (.inl z) List.mem_cons_self) hdg (fun H1 locs1 g1 g2 => kk H1 locs1 g1 g2 ⟨hl, hlen, hokl, fun v hv => hoks v (List.mem_cons_of_mem _ (List.mem_cons_of_mem _ hv))⟩)
  · have e0 : (h.1.set a (.inl (ci, refs.set k (r + 1)))).length - h.1.length = 0 := by simp
    have e1 : ab_nS (h.1.set a (.inl (ci, refs.set k (r + 1)))) = ab_nS h.1 := by
      unfold ab_nS
      congr 1
      rw [List.map_set]
      apply List.ext_getElem?
      intro j
      by_cases hj : j = a
      · subst hj
        have hlt : j < h.1.length := (List.getElem?_eq_some_iff.mp ha).1
        rw [List.getElem?_set_self (by simpa using hlt), List.getElem?_map, ha]
        rfl
      · rw [List.getElem?_set_ne (Ne.symm hj)]
    simp only [e0, e1, Nat.sub_self, Nat.add_zero] at kk hc1 hs1
    exact ab_s_putR hx hb hts hown hR hS hF ha hr hkr hfin hcl (hnm hini) hdg (fun H1 locs1 g1 g2 => kk H1 locs1 g1 g2 ⟨hl, hlen, hokl, fun v hv => hoks v (List.mem_cons_of_mem _ (List.mem_cons_of_mem _ hv))⟩)
  · simp only [Nat.sub_self, Nat.add_zero] at kk hc1 hs1
    have hxo : ab_ok x := hoks (.inl x) List.mem_cons_self
    have kk := kk H locs hR hS ⟨hl, hlen, hokl, ab_okc (hR.2.2.2.2.2.1 a x.toNat) fun v hv => hoks v (List.mem_cons_of_mem _ (List.mem_cons_of_mem _ hv))⟩
    rcases hi with ⟨rfl, ha⟩ | ⟨rfl, ha1, ha⟩
    · exact ab_s_iald hx hb hR ha hxo h0 hn hdg kk
    · exact ab_s_zald hx hb hR ha1 ha hxo h0 hn hdg kk
  · simp only [Nat.sub_self, Nat.add_zero] at kk hc1 hs1
    have hzo : ab_ok z := hoks (.inl z) List.mem_cons_self
    have hxo : ab_ok x := hoks (.inl x) (List.mem_cons_of_mem _ List.mem_cons_self)
    have hok3 : ∀ v ∈ st1, ab_okv v := fun v hv => hoks v (List.mem_cons_of_mem _ (List.mem_cons_of_mem _ (List.mem_cons_of_mem _ hv)))
    rcases hi with ⟨rfl, ha⟩ | ⟨rfl, ha, hz⟩
    · exact ab_s_iast hx hb hR hS ha1 ha hxo hzo h0 hn hdg (fun H1 locs1 g1 g2 => kk H1 locs1 g1 g2 ⟨hl, hlen, hokl, hok3⟩)
    · exact ab_s_zast hx hb hR hS ha1 ha hxo hz h0 hn hdg (fun H1 locs1 g1 g2 => kk H1 locs1 g1 g2 ⟨hl, hlen, hokl, hok3⟩)
  · simp only [Nat.sub_self, Nat.add_zero] at kk hc1 hs1
    exact ab_s_alen hx hb hR ha ht hdg (kk H locs hR hS ⟨hl, hlen, hokl, ab_okc (v := .inl (n : Int)) ⟨by omega, by omega⟩ fun v hv => hoks v (List.mem_cons_of_mem _ hv)⟩)
  · have e0 : (h.1 ++ [(.inr (t, n) : ab_CD)]).length - h.1.length = 1 := by simp
    have e1 : ab_nS (h.1 ++ [(.inr (t, n) : ab_CD)]) - ab_nS h.1 = n := by rw [ab_nS_app]; simp [ab_sz]
    simp only [e0, e1] at kk hc1 hs1
    have hok1 : ∀ v ∈ rest, ab_okv v := fun v hv => hoks v (List.mem_cons_of_mem _ hv)
    rcases hi with ⟨rfl, rfl⟩ | ⟨rfl, rfl⟩
    · exact ab_s_newa hx hb hts hR hS (Or.inl ⟨rfl, rfl⟩) hn hf hc1 hs1 hdg (fun H1 g1 g2 => kk H1 locs g1 g2 ⟨hl, hlen, hokl, ab_okc trivial hok1⟩)
    · exact ab_s_newa hx hb hts hR hS (Or.inr ⟨rfl, rfl⟩) hn hf hc1 hs1 hdg (fun H1 g1 g2 => kk H1 locs g1 g2 ⟨hl, hlen, hokl, ab_okc trivial hok1⟩)
  · have e0 : (h.1 ++ [(.inl (ci, List.replicate N 0) : ab_CD)]).length - h.1.length = 1 := by simp
    have e1 : ab_nS (h.1 ++ [(.inl (ci, List.replicate N 0) : ab_CD)]) - ab_nS h.1 = N := by rw [ab_nS_app]; simp [ab_sz, hN]
    simp only [e0, e1] at kk hc1 hs1
    exact ab_s_new hx hb hts hown hR hS hC hN hgt hf hc1 hs1 hdg (fun H1 g1 g2 => kk H1 locs g1 g2 ⟨hl, hlen, hokl, ab_okc trivial hoks⟩)
  · simp only [Nat.sub_self, Nat.add_zero] at kk hc1 hs1
    exact lv_ldc hx hb hown (hts _ hK) hdg (kk H locs hR hS ⟨hl, hlen, hokl, ab_okc (v := .inl z) hz hoks⟩)
  · simp only [Nat.sub_self, Nat.add_zero] at kk hc1 hs1
    obtain ⟨a', ha'⟩ := ab_rvr (base := base) (b := b) a
    have kk := kk H locs hR hS ⟨hl, hlen, hokl, fun v hv => hoks v (List.mem_cons_of_mem _ hv)⟩
    rw [List.map_cons, ha']
    refine W.objInit hx hb hown (hts _ hO.1) (hts _ hO.2.1) (hts _ hO.2.2) rfl (by rw [hml]; exact hl.1) rfl hdg hfr ?_ kk
    show 2 * 0 + ((st1.map (ab_rv base b)).map fun v => v.category).sum + 12 ≤ R.locals
    rw [ab_cats]
    omega
  · simp only [Nat.sub_self, Nat.add_zero] at kk hc1 hs1
    refine ab_s_copy hx hb hsz hts hown hR hS hC ha1 ha01 ha ha0 hN hN0 hNs hfr ?_ hdg (fun H1 locs1 g1 g2 => kk H1 locs1 g1 g2 ⟨hl, hlen, hokl, fun v hv => hoks v (List.mem_cons_of_mem _ (List.mem_cons_of_mem _ (List.mem_cons_of_mem _ (List.mem_cons_of_mem _ (List.mem_cons_of_mem _ hv)))))⟩)
    rw [ab_cats]
    have : nativeFrameWords "java/lang/System" "arraycopy" 5 = 7 := by decide
    omega
  · simp only [Nat.sub_self, Nat.add_zero] at kk hc1 hs1
    have hyo : ab_ok y := hoks (.inl y) List.mem_cons_self
    have hxo : ab_ok x := hoks (.inl x) (List.mem_cons_of_mem _ List.mem_cons_self)
    have kk := kk H locs hR hS ⟨hl, hlen, hokl, ab_okc (v := .inl (if x < y then y else x)) (by show ab_ok (if x < y then y else x); split <;> assumption) fun v hv => hoks v (List.mem_cons_of_mem _ (List.mem_cons_of_mem _ hv))⟩
    have e : (if Int32.ofInt x < Int32.ofInt y then Int32.ofInt y else Int32.ofInt x) = Int32.ofInt (if x < y then y else x) := by
      by_cases hq : x < y
      · rw [if_pos ((ab_lt_iff hxo hyo).mpr hq), if_pos hq]
      · rw [if_neg (fun z => hq ((ab_lt_iff hxo hyo).mp z)), if_neg hq]
    refine va_mmax hx hb hsz hown (hts _ hX.1) (hts _ hX.2.1) (hts _ hX.2.2.1) (hts _ hX.2.2.2) hfr ?_ hc1 hs1 hdg ?_
    · rw [ab_cats]; omega
    · rw [e]; exact kk
  · simp only [Nat.sub_self, Nat.add_zero] at kk hc1 hs1
    have hyo : ab_ok y := hoks (.inl y) List.mem_cons_self
    have hxo : ab_ok x := hoks (.inl x) (List.mem_cons_of_mem _ List.mem_cons_self)
    have kk := kk H locs hR hS ⟨hl, hlen, hokl, ab_okc (v := .inl (if y < x then y else x)) (by show ab_ok (if y < x then y else x); split <;> assumption) fun v hv => hoks v (List.mem_cons_of_mem _ (List.mem_cons_of_mem _ hv))⟩
    have e : (if Int32.ofInt y < Int32.ofInt x then Int32.ofInt y else Int32.ofInt x) = Int32.ofInt (if y < x then y else x) := by
      by_cases hq : y < x
      · rw [if_pos ((ab_lt_iff hyo hxo).mpr hq), if_pos hq]
      · rw [if_neg (fun z => hq ((ab_lt_iff hyo hxo).mp z)), if_neg hq]
    refine va_mmin hx hb hsz hown (hts _ hX.1) (hts _ hX.2.1) (hts _ hX.2.2.1) (hts _ hX.2.2.2) hfr ?_ hc1 hs1 hdg ?_
    · rw [ab_cats]; omega
    · rw [e]; exact kk
end AbHu
end
section
def ab_le (h h' : ab_H) : Prop := h.1.length ≤ h'.1.length ∧ ab_nS h.1 ≤ ab_nS h'.1
theorem ab_le.trans {a b c : ab_H} (h1 : ab_le a b) (h2 : ab_le b c) : ab_le a c := ⟨Nat.le_trans h1.1 h2.1, Nat.le_trans h1.2 h2.2⟩
theorem ab_le.rfl {a : ab_H} : ab_le a a := ⟨Nat.le_refl _, Nat.le_refl _⟩
theorem ab_hs_le {M : ab_M} {i : Instr} {len : Nat} {st st1 : List ab_V} {h h1 : ab_H} (hhs : ab_hs M i len st h st1 h1) : ab_le h h1 := by
  rcases hhs with ⟨ix, ci, k, a, rest, refs, rfl, rfl, hF, rfl, ha, hr, rfl, rfl⟩ | ⟨ix, ci, k, a, rest, refs, r, rfl, rfl, hF, rfl, ha, hr, hrr, rfl, rfl⟩ | ⟨ix, ci, k, a, z, rest, refs, rfl, rfl, hF, rfl, ha, hty, hfin, rfl, rfl⟩ | ⟨ix, ci, k, a, r, rest, refs, rfl, rfl, hF, rfl, ha, hr, hkr, hfin, hcl, hini, rfl, rfl⟩ | ⟨a, n, x, rest, hi, rfl, rfl, h0, hn, rfl, rfl⟩ | ⟨a, n, x, z, rest, hi, rfl, rfl, ha1, h0, hn, rfl, rfl⟩ | ⟨a, t, n, rest, rfl, rfl, rfl, ha, ht, hn, rfl, rfl⟩ | ⟨n, t, rest, hi, rfl, rfl, hn, hf, rfl, rfl⟩ | ⟨ix, ci, N, rfl, rfl, hC, hN, hgt, hf, rfl, rfl⟩ | ⟨ix, z, rfl, rfl, hK, hz, rfl, rfl⟩ | ⟨ix, a, rest, rfl, rfl, hO, rfl, hrl, rfl, rfl⟩ | ⟨ix, a, a0, n, n0, N, rest, rfl, rfl, hC, rfl, hrl, ha1, ha01, hne, ha, ha0, hN, hN0, hNs, rfl, rfl⟩ | ⟨ix, x, y, rest, rfl, rfl, hX, rfl, hrl, rfl, rfl⟩ | ⟨ix, x, y, rest, rfl, rfl, hX, rfl, hrl, rfl, rfl⟩
  · exact ab_le.rfl
  · exact ab_le.rfl
  · exact ab_le.rfl
  · refine ⟨by simp, Nat.le_of_eq ?_⟩
    unfold ab_nS
    congr 1
    rw [List.map_set]
    apply List.ext_getElem?
    intro j
    by_cases hj : j = a
    · subst hj
      have hlt : j < h.1.length := (List.getElem?_eq_some_iff.mp ha).1
      rw [List.getElem?_set_self (by simpa using hlt), List.getElem?_map, ha]
      rfl
    · rw [List.getElem?_set_ne (Ne.symm hj)]
  · exact ab_le.rfl
  · exact ab_le.rfl
  · exact ab_le.rfl
  · exact ⟨by simp, by rw [ab_nS_app]; omega⟩
  · exact ⟨by simp, by rw [ab_nS_app]; omega⟩
  · exact ab_le.rfl
  · exact ab_le.rfl
  · exact ab_le.rfl
  · exact ab_le.rfl
  · exact ab_le.rfl
theorem ab_run_le {cal : ab_cal} (hc : ∀ M as h r h', cal M as h r h' → ab_le h h' ∧ (r = none ∨ ∃ z, r = some (.inl z))) {M : ab_M} {r : Option ab_V} {h' : ab_H} : ∀ {n pc : Nat} {ls : ab_L} {st : List ab_V} {h : ab_H}, ab_run cal M n pc ls st h r h' → ab_le h h' ∧ (r = none ∨ ∃ z, r = some (.inl z)) := by
  intro n
  induction n with
  | zero => intro _ _ _ _ h; exact h.elim
  | succ n ih =>
    intro pc ls st h hr
    obtain ⟨i, len, hd, hr⟩ := hr
    rcases hr with ⟨p1, l1, s1, q, hr⟩ | ⟨s1, h1, q, hr⟩ | ⟨M', as, rest, r1, h1, q1, q2, q3, q4, q5, hr⟩ | ⟨-, -, ⟨z, -, hz, -⟩, rfl⟩ | ⟨-, -, -, -, hz, rfl⟩
    · exact ih hr
    · exact ⟨(ab_hs_le q).trans (ih hr).1, (ih hr).2⟩
    · exact ⟨(hc _ _ _ _ _ q5).1.trans (ih hr).1, (ih hr).2⟩
    · exact ⟨ab_le.rfl, Or.inr ⟨z, hz⟩⟩
    · exact ⟨ab_le.rfl, Or.inl hz⟩
theorem ab_call_le : ∀ (d : Nat) (M : ab_M) (as : List ab_V) (h : ab_H) (r : Option ab_V) (h' : ab_H), ab_call d M as h r h' → ab_le h h' ∧ (r = none ∨ ∃ z, r = some (.inl z)) := by
  intro d
  induction d with
  | zero => intro _ _ _ _ _ h; exact h.elim
  | succ d ih => intro M as h r h' q; obtain ⟨-, n, q⟩ := q; exact ab_run_le ih q
def ab_ws (M : ab_M) : List Cond := Cond.code M.1 M.2.1 M.2.2.1 M.2.2.2.1 :: ab_tb
theorem ab_good {w : Cond} (h : w ∈ ab_tb) : (w.onTables && w.keeps) = true ∨ ∃ ty, w = .arrayClass ty := good_of_word (List.mem_filter.mp h).2
theorem ab_goodIn {ws : List Cond} (h : ∀ w ∈ ws, w ∈ ab_tb) : GoodIn ab_tb ws := fun w hw => ⟨h w hw, ab_good (h w hw)⟩
theorem ab_ws_in {M : ab_M} (hM : ab_mok M) : ∀ w ∈ ab_ws M, w ∈ ab_tb := by
  intro w hw
  rcases List.mem_cons.mp hw with rfl | q
  · exact hM.1
  · exact q
def ab_rm (d mc ms : Nat) : Room := { frames := d, cells := mc, slots := ms, locals := 40 * d }
def ab_Pc (dC : Nat → ClassId) (dI : Nat → Nat → Nat) (cI cZ base b : Nat) (as : List ab_V) (h : ab_H) : Array Value → State → Prop := fun v U => v = (as.map (ab_rv base b)).toArray ∧ ab_R dC dI cI cZ base b h U U.heap
def ab_Qc (dC : Nat → ClassId) (dI : Nat → Nat → Nat) (cI cZ base b : Nat) (r : Option ab_V) (h' : ab_H) : Array Value → State → Outcome → State → Prop := match r with
  | some (.inl z) => va_Qi (S := Unit) (fun r _ => r = Int32.ofInt z ∧ ab_ok z) (fun _ t => ab_R dC dI cI cZ base b h' t t.heap) (fun q => base ≤ q)
  | _ => va_Qv (S := Unit) (fun _ => True) (fun _ t => ab_R dC dI cI cZ base b h' t t.heap) (fun q => base ≤ q)
def ab_gc (l : Launch) (dC : Nat → ClassId) (dI : Nat → Nat → Nat) (cI cZ base b d : Nat) (cal : ab_cal) : Prop := ∀ (M : ab_M) (as : List ab_V) (h : ab_H) (r : Option ab_V) (h' : ab_H), cal M as h r h' → (∀ v ∈ as, ab_okv v) → ab_mok M →
  Met l M.1 (ab_ws M) (ab_rm d (h'.1.length - h.1.length) (ab_nS h'.1 - ab_nS h.1)) (ab_Pc dC dI cI cZ base b as h) (ab_Qc dC dI cI cZ base b r h') (h'.1.length - h.1.length) (ab_nS h'.1 - ab_nS h.1) (fun q => base ≤ q)
section AbRun
variable {p : Program} {l : Launch} {e : Env} {R : Room} {s : State} {m : MethodId} {args : Array Value} {below : List Frame} {meth : Method} {c : Code} {H : Heap} {locs : List Loc} {cells slots : Nat} {Q : State → Prop}
variable {cc : ByteArray} {pc : Nat} {lsC : Array Slot} {base b : Nat} {dC : Nat → ClassId} {dI : Nat → Nat → Nat} {cI cZ : Nat} {h : ab_H}
theorem ab_blind {as : List ab_V} : FrameBlind (ab_Pc dC dI cI cZ base b as h) := fun a U g mk q => ⟨q.1, q.2.to (U := U.calling g mk a) (Vm.Alike.refl U.vm) (ab_NW.same (u := U) (U := U.calling g mk a) rfl q.2.2.2.2.2.2.2)⟩
theorem ab_after {r1 : Option ab_V} {h1 : ab_H} {rest : List ab_V} {st0 : List Value} {mc ms : Nat} {avs : Array Value} (hrun : va_Run p l e R s m args below meth c H locs cells slots mc ms (F0 m pc lsC st0) (rest.map (ab_rv base b)) (ab_Qc dC dI cI cZ base b r1 h1 avs) (fun q => base ≤ q)) (hr1 : r1 = none ∨ ∃ z, r1 = some (.inl z)) (hN : ab_NW s) (hS : va_S (fun q => base ≤ q) s.heap H locs)
    (kk : ∀ (H1 : Heap) (locs1 : List Loc), ab_R dC dI cI cZ base b h1 s H1 → va_S (fun q => base ≤ q) s.heap H1 locs1 → (∀ v ∈ r1.toList, ab_okv v) → W p l e R s m args below meth c H1 locs1 (cells + mc) (slots + ms) Q (F0 m (pc + 3) lsC ((r1.toList ++ rest).map (ab_rv base b)))) : W p l e R s m args below meth c H locs cells slots Q (F0 m pc lsC st0) := by
  rcases hr1 with rfl | ⟨z, rfl⟩
  · refine va_callv (S := Unit) (a := avs) hrun hS (fun q _ h => h) (fun q h => h) (fun u t H1 locs1 ht hvm hp hB _ _ hS1 => ?_)
    refine kk H1 locs1 ?_ hS1 (fun v hv => by cases hv)
    rw [← ht]
    exact hB.to hvm.symm hN
  · refine va_calli (S := Unit) (a := avs) hrun hS (fun q _ h => h) (fun q h => h) (fun r u t H1 locs1 ht hvm hp hB _ _ hS1 => ?_)
    obtain ⟨rfl, hz⟩ := hp
    refine kk H1 locs1 ?_ hS1 (fun v hv => ?_)
    · rw [← ht]
      exact hB.to hvm.symm hN
    · have : v = .inl z := by simpa using hv
      rw [this]
      exact hz
set_option maxHeartbeats 4000000 in
theorem ab_iv_sound {M M' : ab_M} {i : Instr} {len : Nat} {as rest : List ab_V} {r1 : Option ab_V} {h1 : ab_H} {d mc ms nL : Nat} (hiv : ab_iv M i len M' as h) (hx : p.tables.exec = Jvm.exec) (hb : c.code = cc) (hml : c.maxLocals = nL) (hlC : lsC.size = nL) (hts : ∀ w ∈ ab_tb, w.before args s = true) (hown : s.vm.findClass M.1.cls = some m.cls) (hdg : decode cc pc = .ok (i, len))
    (hR : ab_R dC dI cI cZ base b h s H) (hlen : as.length = M'.2.2.2.2) (hrest : rest.length ≤ 8) (hf : d + 1 ≤ R.frames) (hlo : 40 * (d + 1) ≤ R.locals) (hc1 : cells + mc ≤ R.cells) (hs1 : slots + ms ≤ R.slots)
    (hM : ab_mok M' → Met l M'.1 (ab_ws M') (ab_rm d mc ms) (ab_Pc dC dI cI cZ base b as h) (ab_Qc dC dI cI cZ base b r1 h1) mc ms (fun q => base ≤ q)) :
    len = 3 ∧ va_Run p l e R s m args below meth c H locs cells slots mc ms (F0 m pc lsC ((as.reverse ++ rest).map (ab_rv base b))) (rest.map (ab_rv base b)) (ab_Qc dC dI cI cZ base b r1 h1 (as.map (ab_rv base b)).toArray) (fun q => base ≤ q) := by
  have hW : ((rest.map (ab_rv base b)).map fun v => v.category).sum ≤ 8 := by rw [ab_cats]; exact hrest
  have hPc : ∀ U : State, U.heap = H → s.WarmedH U.vm → ab_Pc dC dI cI cZ base b as h (as.map (ab_rv base b)).toArray U := fun U hU hW => ⟨rfl, by rw [hU]; exact hR.warm hW⟩
  rcases hiv with ⟨ix, ci, a, as', refs, rfl, rfl, hL, rfl, ha⟩ | ⟨ix, rfl, rfl, hL⟩ | ⟨ix, rfl, rfl, hL⟩ | ⟨ix, a, as', rfl, rfl, hL, rfl⟩
  · obtain ⟨hmok, l1, l2, l3, l4, l5, l6⟩ := hL
    refine ⟨rfl, ?_⟩
    obtain ⟨k', rfl⟩ := hR.pos ha
    have hG : GoodIn ab_tb (wsV M.1.cls ix M'.1.cls M'.1 (ab_ws M')) := ab_goodIn (fun w hw => by
      rcases List.mem_append.mp hw with q | q
      · simp only [List.mem_cons, List.not_mem_nil, or_false] at q
        rcases q with rfl | rfl | rfl | rfl
        · exact l1
        · exact l2
        · exact l3
        · exact hmok.2.1
      · exact ab_ws_in hmok w q)
    have hat := hR.2.1 k' _ ha
    obtain ⟨q0, hq0, hq1⟩ : ∃ q0, vwCl[ci]? = some q0 ∧ q0.1 = M'.1.cls := by
      cases hz : vwCl[ci]? with
      | none => rw [hz] at l4; cases l4
      | some q0 => rw [hz] at l4; exact ⟨q0, rfl, Option.some.inj l4⟩
    have hrecv := va_recv (q0 := 0) hR.1 (ab_one hat) hq0 rfl
    rw [hq1] at hrecv
    exact va_runV (As := as'.map (ab_rv base b)) (rest := rest.map (ab_rv base b)) (b := base + k') ⟨hx, hb, hml, hown, hts⟩ (hM hmok) (cwV (M'.2.2.2.2 - 1) hts hG rfl rfl rfl ⟨rfl, hmok.2.2.2.1.1, hmok.2.2.2.1.2, l5⟩ ⟨hf, by have := hmok.2.2.2.2; show 8 + (M'.2.2.1 + 11) + 40 * d ≤ _; omega⟩) ⟨ab_blind, hrecv, hPc⟩ rfl (by rw [List.length_map]; rw [List.length_cons] at hlen; omega) hlC (by simp [ab_rv]) (lv_room hW) hdg ⟨hc1, hs1⟩
  · obtain ⟨hmok, l1, l2, l3⟩ := hL
    refine ⟨rfl, ?_⟩
    have hcb : CallB R s args M.1.cls ix M'.1 M'.2.1 M'.2.2.1 M'.2.2.2.1 (ab_ws M') (ab_rm d mc ms) mc ms M'.2.2.2.2 := callB_of M'.2.2.2.2 hts (ab_goodIn (ab_ws_in hmok)) rfl rfl rfl (hts _ hmok.2.1) (hts _ l1) ⟨hmok.2.2.2.1.1, hmok.2.2.2.1.2, l3⟩ ⟨hf, by have := hmok.2.2.2.2; show 8 + (M'.2.2.1 + 11) + 40 * d ≤ _; omega⟩
    exact va_runS (As := as.map (ab_rv base b)) (rest := rest.map (ab_rv base b)) ⟨hx, hb, hml, hown, hts⟩ (hM hmok) ⟨hcb, hts _ l2⟩ ⟨ab_blind, hPc⟩ rfl (by rw [List.length_map]; exact hlen) hlC (by simp) (lv_room hW) hdg ⟨hc1, hs1⟩
  · obtain ⟨hmok, ⟨host, l1⟩, l2, l3⟩ := hL
    refine ⟨rfl, ?_⟩
    have hcn := va_cnB (R := R) (host := host) (index := ix) (own := M.1.cls) (mc := mc) (ms := ms) (rm := ab_rm d mc ms) M'.2.2.2.2 hts (ab_goodIn (ab_ws_in hmok)) rfl rfl rfl (hR.2.2.2.2.2.2 _ l1) (hts _ hmok.2.1) ⟨hmok.2.2.2.1.1, hmok.2.2.2.1.2, l3⟩ ⟨hf, by have := hmok.2.2.2.2; show 8 + (M'.2.2.1 + 11) + 40 * d ≤ _; omega⟩
    exact va_runSN (As := as.map (ab_rv base b)) (rest := rest.map (ab_rv base b)) ⟨hx, hb, hml, hown, hts⟩ (hM hmok) ⟨hcn, hts _ l2, trivial⟩ ⟨ab_blind, hPc⟩ rfl (by rw [List.length_map]; exact hlen) hlC (by simp) (lv_room hW) hdg ⟨hc1, hs1⟩
  · obtain ⟨hmok, l1, l2, l3, l4, l5, l6⟩ := hL
    refine ⟨rfl, ?_⟩
    obtain ⟨a', ha'⟩ := ab_rvr (base := base) (b := b) a
    have hw : ab_ws M' = Cond.code M'.1 M'.2.1 M'.2.2.1 none :: ab_tb := by unfold ab_ws; rw [l4]
    have hcw := cwI (R := R) (own := M.1.cls) (index := ix) (mc := mc) (ms := ms) (rm := ab_rm d mc ms) (M'.2.2.2.2 - 1) hts (ab_goodIn (ab_ws_in hmok)) hw rfl rfl (hts _ hmok.2.1) (hts _ l1) (hts _ l2) l3 ⟨hmok.2.2.2.1.1, hmok.2.2.2.1.2, l5⟩ ⟨hf, by have := hmok.2.2.2.2; show 8 + (M'.2.2.1 + 11) + 40 * d ≤ _; omega⟩
    rw [List.map_cons, ha'] at hPc ⊢
    exact va_runI (As := as'.map (ab_rv base b)) (rest := rest.map (ab_rv base b)) (b := a') ⟨hx, hb, hml, hown, hts⟩ (hM hmok) hcw ⟨ab_blind, hPc⟩ rfl (by rw [List.length_map]; rw [List.length_cons] at hlen; omega) hlC (by simp [ha']) (lv_room hW) hdg ⟨hc1, hs1⟩
set_option maxHeartbeats 4000000 in
theorem ab_run_sound {d : Nat} {cal : ab_cal} (hcal : ab_gc l dC dI cI cZ base b d cal) (hcle : ∀ M as h r h', cal M as h r h' → ab_le h h' ∧ (r = none ∨ ∃ z, r = some (.inl z))) {M : ab_M} {r : Option ab_V} {h' : ab_H} {mc ms : Nat}
    (hx : p.tables.exec = Jvm.exec) (hb : c.code = M.2.1) (hml : c.maxLocals = M.2.2.1) (hown : s.vm.findClass M.1.cls = some m.cls) (hnm : M.1.name = "<init>" → meth.name = "<init>") (hts : ∀ w ∈ ab_tb, w.before args s = true) (hRc : mc ≤ R.cells) (hRs : ms ≤ R.slots) (hRf : d + 1 ≤ R.frames) (hRl : 40 * (d + 1) ≤ R.locals)
    (hfin : ∀ (z : Int) (H1 : Heap) (locs1 : List Loc) (lsC1 : Array Slot) (pc1 : Nat), r = some (.inl z) → ab_ok z → (M.2.2.2.1 = some .int ∨ (M.2.2.2.1 = some .boolean ∧ (z = 0 ∨ z = 1))) → decode M.2.1 pc1 = .ok (.ireturn, 1) → ab_R dC dI cI cZ base b h' s H1 → va_S (fun q => base ≤ q) s.heap H1 locs1 → W p l e R s m args below meth c H1 locs1 mc ms Q (F0 m pc1 lsC1 [.int (Int32.ofInt z)]))
    (hfin0 : ∀ (H1 : Heap) (locs1 : List Loc) (lsC1 : Array Slot) (pc1 : Nat), r = none → M.2.2.2.1 = none → decode M.2.1 pc1 = .ok (.return_, 1) → ab_R dC dI cI cZ base b h' s H1 → va_S (fun q => base ≤ q) s.heap H1 locs1 → W p l e R s m args below meth c H1 locs1 mc ms Q (F0 m pc1 lsC1 [])) :
    ∀ (n pc : Nat) (ls : ab_L) (st : List ab_V) (h : ab_H), ab_run cal M n pc ls st h r h' → ∀ (H : Heap) (locs : List Loc) (cells slots : Nat) (lsC : Array Slot), ab_R dC dI cI cZ base b h s H → va_S (fun q => base ≤ q) s.heap H locs → ab_fr base b M.2.2.1 lsC ls st → cells + h'.1.length = mc + h.1.length → slots + ab_nS h'.1 = ms + ab_nS h.1 → W p l e R s m args below meth c H locs cells slots Q (F0 m pc lsC (st.map (ab_rv base b))) := by
  intro n
  induction n with
  | zero => intro _ _ _ _ h; exact h.elim
  | succ n ih =>
    intro pc ls st h hr H locs cells slots lsC hR hS hF hcc hss
    obtain ⟨i, len, hd, hr⟩ := hr
    rcases hr with ⟨p1, l1, s1, q, hr⟩ | ⟨s1, h1, q, hr⟩ | ⟨M', as, rest, r1, h1, q1, rfl, q3, q4, q5, hr⟩ | ⟨rfl, rfl, ⟨z, rfl, hz, hrt⟩, rfl⟩ | ⟨rfl, rfl, hrt, rfl, hz, rfl⟩
    · exact ab_ps_sound q hx hb hd hF (fun lsC1 hF1 => ih _ _ _ _ hr H locs cells slots lsC1 hR hS hF1 hcc hss)
    · have g1 := ab_hs_le q
      have g2 := (ab_run_le hcle hr).1
      have e1 := g1.1
      have e2 := g1.2
      have e3 := g2.1
      have e4 := g2.2
      exact ab_hs_sound q hx hb hml hts hown hnm hd hR hS hF (by omega) (by omega) (by omega) (by omega) (fun H1 locs1 k1 k2 k3 => ih _ _ _ _ hr H1 locs1 _ _ lsC k1 k2 k3 (by omega) (by omega))
    · have g1 := (hcle _ _ _ _ _ q5).1
      have g2 := (ab_run_le hcle hr).1
      have e1 := g1.1
      have e2 := g1.2
      have e3 := g2.1
      have e4 := g2.2
      have hoka : ∀ v ∈ as, ab_okv v := fun v hv => hF.2.2.2 v (List.mem_append_left _ (List.mem_reverse.mpr hv))
      have hokr : ∀ v ∈ rest, ab_okv v := fun v hv => hF.2.2.2 v (List.mem_append_right _ hv)
      obtain ⟨rfl, hrun⟩ := ab_iv_sound (R := R) (p := p) (e := e) (below := below) (meth := meth) (locs := locs) (cells := cells) (slots := slots) (d := d) (mc := h1.1.length - h.1.length) (ms := ab_nS h1.1 - ab_nS h.1) (r1 := r1) (h1 := h1) (rest := rest) q1 hx hb hml hF.1.1 hts hown hd hR q3 q4 hRf hRl (by omega) (by omega) (fun hmok => hcal M' as h r1 h1 q5 hoka hmok)
      refine ab_after hrun (hcle _ _ _ _ _ q5).2 hR.2.2.2.2.2.2 hS (fun H1 locs1 k1 k2 k3 => ?_)
      exact ih _ _ _ _ hr H1 locs1 _ _ lsC k1 k2 ⟨hF.1, hF.2.1, hF.2.2.1, fun v hv => (List.mem_append.mp hv).elim (k3 v) (hokr v)⟩ (by omega) (by omega)
    · have ec : cells = mc := by omega
      have es : slots = ms := by omega
      subst ec; subst es
      exact hfin z H locs lsC pc hz (hF.2.2.2 (.inl z) List.mem_cons_self) hrt hd hR hS
    · have ec : cells = mc := by omega
      have es : slots = ms := by omega
      subst ec; subst es
      exact hfin0 H locs lsC pc hz hrt hd hR hS
end AbRun
set_option maxHeartbeats 4000000 in
theorem ab_sound (l : Launch) (dC : Nat → ClassId) (dI : Nat → Nat → Nat) (cI cZ base b : Nat) : ∀ d : Nat, ab_gc l dC dI cI cZ base b d (ab_call d) := by
  intro d
  induction d with
  | zero => intro M as h r h' q; exact q.elim
  | succ d ih =>
    intro M as h r h' q hok hM
    obtain ⟨hlen, n, hr⟩ := q
    have hle := (ab_run_le (ab_call_le d) hr).1
    have e3 := hle.1
    have e4 := hle.2
    refine Met.ofW (cc := M.2.1) (maxL := M.2.2.1) (ret := M.2.2.2.1) hM.2.2.1 rfl ?_
    intro p e s m args below meth c s₁ B hml hv
    obtain ⟨rfl, hR⟩ := hv
    have hx := B.exec
    have hb := B.bytes
    have hret := B.returns
    have hts0 := atoms_spec (ws := ab_ws M) B.pre
    have hown : s.vm.findClass M.1.cls = some m.cls := findClass_of_methodNamed B.named
    have hlocks := B.notSynchronized
    have hnm : M.1.name = "<init>" → meth.name = "<init>" := fun q => ((name_of_methodNamed B.named B.method).1).trans q
    obtain ⟨lsC, he, hF⟩ := ab_entry (base := base) (b := b) m M as hlen hok
    rw [he]
    refine ab_run_sound (mc := h'.1.length - h.1.length) (ms := ab_nS h'.1 - ab_nS h.1) ih (ab_call_le d) hx hb hml hown hnm (fun w hw => hts0 w (List.mem_cons_of_mem _ hw)) (Nat.le_refl _) (Nat.le_refl _) (Nat.le_refl _) (Nat.le_refl _) ?_ ?_ n 0 _ _ _ hr s.heap [] 0 0 lsC hR va_S.rf hF (by omega) (by omega)
    · intro z H1 locs1 lsC1 pc1 hr1 hz hrt hdg hR1 hS1
      subst hr1
      rcases hrt with q | ⟨q, hz01⟩
      · exact W.iret hx hb (hret.trans q) (fun t ht hW => ⟨⟨_, (), rfl, ⟨rfl, hz⟩, by show ab_R dC dI cI cZ base b h' t t.heap; rw [ht]; exact hR1.warm hW⟩, hS1.F ht⟩) hS1.2.2 hdg
      · exact W.zret hx hb (hret.trans q) (by rcases hz01 with rfl | rfl <;> rfl) (fun t ht hW => ⟨⟨_, (), rfl, ⟨rfl, hz⟩, by show ab_R dC dI cI cZ base b h' t t.heap; rw [ht]; exact hR1.warm hW⟩, hS1.F ht⟩) hS1.2.2 hdg
    · intro H1 locs1 lsC1 pc1 hr1 hrt hdg hR1 hS1
      subst hr1
      exact W.vret hx hb (hret.trans hrt) (fun t ht hW => ⟨⟨(), rfl, trivial, by show ab_R dC dI cI cZ base b h' t t.heap; rw [ht]; exact hR1.warm hW⟩, hS1.F ht⟩) hS1.2.2 hdg
end
section
/-! ===== the layout behind the two constructors, and the rules of the small machine over it (written by program) ===== -/
def LAY (L : Nat) : List ab_CD := [.inr (0, L), .inl (8, [2, 18, 0, 0, 0, 34, 41, 49]), .inl (6, [3, 5, 8, 11]), .inl (0, [0, 0, 4]), .inr (0, 120), .inl (4, [0, 6, 7]), .inr (0, 12), .inr (0, 12), .inl (7, [0, 9, 10]), .inr (0, 4), .inr (1, 4), .inl (3, [0, 0, 12, 13, 14, 15, 0, 16, 17]), .inr (0, 4), .inr (0, 4), .inr (0, 4), .inr (0, 4), .inr (0, 44), .inr (0, 4), .inl (6, [19, 21, 24, 27]), .inl (0, [0, 0, 20]), .inr (0, 120), .inl (4, [0, 22, 23]), .inr (0, 12), .inr (0, 12), .inl (7, [0, 25, 26]), .inr (0, 4), .inr (1, 4), .inl (3, [0, 0, 28, 29, 30, 31, 0, 32, 33]), .inr (0, 4), .inr (0, 4), .inr (0, 4), .inr (0, 4), .inr (0, 44), .inr (0, 4), .inl (2, [0, 35, 36, 37, 38, 39, 40, 0]), .inr (0, 120), .inr (0, 120), .inr (0, 120), .inr (0, 120), .inr (0, 120), .inr (0, 120), .inl (1, [0, 42, 43, 0, 44, 45, 46, 47, 48]), .inr (0, 8), .inr (0, 8), .inr (0, 4), .inr (0, 256), .inr (0, 256), .inr (0, 256), .inr (0, 1024), .inl (5, [0, 0, 50, 51, 0, 52, 53, 54, 55]), .inr (0, 4), .inr (0, 4), .inr (0, 13), .inr (0, 13), .inr (0, 4), .inr (0, 4), .inl (9, [0, 0, 57, 58, 0, 59, 60, 0, 61, 62, 0, 0, 0, 0, 63, 64, 65, 66, 0, 67, 68, 69, 70, 71, 0, 72, 73, 74, 75, 0, 76, 0, 77, 78, 79, 80, 0, 81, 82, 83, 84, 0, 0, 85]), .inr (0, 120), .inr (1, 120), .inr (0, 12), .inr (0, 12), .inr (0, 4), .inr (1, 4), .inr (0, 4), .inr (0, 4), .inr (0, 4), .inr (0, 4), .inr (0, 6), .inr (0, 120), .inr (0, 24), .inr (0, 8), .inr (0, 16), .inr (0, 120), .inr (0, 120), .inr (0, 120), .inr (0, 120), .inr (0, 8), .inr (0, 4), .inr (0, 4), .inr (0, 8), .inr (0, 8), .inr (0, 5), .inr (0, 5), .inr (0, 5), .inr (0, 4), .inr (0, 4)]
abbrev ab_Me : Type := Nat → Nat → Int
def wp (L d : Nat) (m : ab_M) (pc : Nat) (ls : ab_L) (st : List ab_V) (M : ab_Me) (Q : Option ab_V → ab_Me → Prop) : Prop := ∃ (n : Nat) (r : Option ab_V) (M1 : ab_Me), ab_run (ab_call d) m n pc ls st (LAY L, M) r (LAY L, M1) ∧ Q r M1
def ct (L d : Nat) (m : ab_M) (as : List ab_V) (M : ab_Me) (Q : Option ab_V → ab_Me → Prop) : Prop := ∃ (r : Option ab_V) (M1 : ab_Me), ab_call d m as (LAY L, M) r (LAY L, M1) ∧ Q r M1
def cF (L d : Nat) (m : ab_M) (as : List ab_V) (M : ab_Me) (v : Int) : Prop := ab_call d m as (LAY L, M) (some (.inl v)) (LAY L, M)
def cG (L d : Nat) (m : ab_M) (as : List ab_V) (M : ab_Me) (v : Int) (M1 : ab_Me) : Prop := ab_call d m as (LAY L, M) (some (.inl v)) (LAY L, M1)
def cV (L d : Nat) (m : ab_M) (as : List ab_V) (M M1 : ab_Me) : Prop := ab_call d m as (LAY L, M) none (LAY L, M1)
def ab_at (m : ab_M) (pc : Nat) (i : Instr) (len q : Nat) : Prop := decode m.2.1 pc = .ok (i, len) ∧ pc + len = q
def ab_bc (m : ab_M) (pc : Nat) (c : Jvm.ClassFile.Cond) (q t : Nat) : Prop := ∃ off, decode m.2.1 pc = .ok (.if_icmp c off, 3) ∧ pc + 3 = q ∧ ab_j pc off = some t
def ab_bi (m : ab_M) (pc : Nat) (c : Jvm.ClassFile.Cond) (q t : Nat) : Prop := ∃ off, decode m.2.1 pc = .ok (.ifCond c off, 3) ∧ pc + 3 = q ∧ ab_j pc off = some t
def ab_bg (m : ab_M) (pc t : Nat) : Prop := ∃ off, decode m.2.1 pc = .ok (.goto off, 3) ∧ ab_j pc off = some t
def ab_FI (own : String) (ix ci k : Nat) : Prop := ab_F own ix ci k ∧ ab_isR ci k = false
def ab_FR (own : String) (ix ci k : Nat) : Prop := ab_F own ix ci k ∧ ab_isR ci k = true
def ab_FP (own : String) (ix ci k : Nat) : Prop := ab_F own ix ci k ∧ ab_ty ci k = .int ∧ ((vwCl[ci]?).map fun q => (q.2.1 k).2.2.2) = some false
def ab_FB (own : String) (ix ci k : Nat) : Prop := ab_F own ix ci k ∧ ab_ty ci k = .boolean ∧ ((vwCl[ci]?).map fun q => (q.2.1 k).2.2.2) = some false
theorem fr_8_10 : ab_FR RX8 10 8 0 := ⟨fl_8_10, rfl⟩
theorem fr_8_16 : ab_FR RX8 16 8 1 := ⟨fl_8_16, rfl⟩
theorem fi_8_19 : ab_FI RX8 19 8 2 := ⟨fl_8_19, rfl⟩
theorem fb_8_19 : ab_FB RX8 19 8 2 := ⟨fl_8_19, rfl, rfl⟩
theorem fi_8_23 : ab_FI RX8 23 8 3 := ⟨fl_8_23, rfl⟩
theorem fp_8_23 : ab_FP RX8 23 8 3 := ⟨fl_8_23, rfl, rfl⟩
theorem fi_8_27 : ab_FI RX8 27 8 4 := ⟨fl_8_27, rfl⟩
theorem fp_8_27 : ab_FP RX8 27 8 4 := ⟨fl_8_27, rfl, rfl⟩
theorem fr_8_33 : ab_FR RX8 33 8 5 := ⟨fl_8_33, rfl⟩
theorem fr_8_40 : ab_FR RX8 40 8 6 := ⟨fl_8_40, rfl⟩
theorem fr_8_47 : ab_FR RX8 47 8 7 := ⟨fl_8_47, rfl⟩
theorem fr_8_55 : ab_FR RX8 55 6 0 := ⟨fl_8_55, rfl⟩
theorem fr_8_65 : ab_FR RX8 65 6 3 := ⟨fl_8_65, rfl⟩
theorem fi_8_74 : ab_FI RX8 74 0 0 := ⟨fl_8_74, rfl⟩
theorem fp_8_74 : ab_FP RX8 74 0 0 := ⟨fl_8_74, rfl, rfl⟩
theorem fi_8_80 : ab_FI RX8 80 0 1 := ⟨fl_8_80, rfl⟩
theorem fp_8_80 : ab_FP RX8 80 0 1 := ⟨fl_8_80, rfl, rfl⟩
theorem fr_8_105 : ab_FR RX8 105 0 2 := ⟨fl_8_105, rfl⟩
theorem fr_8_126 : ab_FR RX8 126 2 1 := ⟨fl_8_126, rfl⟩
theorem fi_8_129 : ab_FI RX8 129 2 0 := ⟨fl_8_129, rfl⟩
theorem fp_8_129 : ab_FP RX8 129 2 0 := ⟨fl_8_129, rfl, rfl⟩
theorem fr_8_135 : ab_FR RX8 135 2 2 := ⟨fl_8_135, rfl⟩
theorem fr_8_138 : ab_FR RX8 138 2 3 := ⟨fl_8_138, rfl⟩
theorem fr_8_141 : ab_FR RX8 141 2 4 := ⟨fl_8_141, rfl⟩
theorem fr_8_144 : ab_FR RX8 144 2 5 := ⟨fl_8_144, rfl⟩
theorem fr_8_147 : ab_FR RX8 147 6 1 := ⟨fl_8_147, rfl⟩
theorem fi_8_151 : ab_FI RX8 151 4 0 := ⟨fl_8_151, rfl⟩
theorem fp_8_151 : ab_FP RX8 151 4 0 := ⟨fl_8_151, rfl, rfl⟩
theorem fr_8_157 : ab_FR RX8 157 4 1 := ⟨fl_8_157, rfl⟩
theorem fr_8_158 : ab_FR RX8 158 4 2 := ⟨fl_8_158, rfl⟩
theorem fi_8_178 : ab_FI RX8 178 1 0 := ⟨fl_8_178, rfl⟩
theorem fp_8_178 : ab_FP RX8 178 1 0 := ⟨fl_8_178, rfl, rfl⟩
theorem fr_8_181 : ab_FR RX8 181 6 2 := ⟨fl_8_181, rfl⟩
theorem fi_8_185 : ab_FI RX8 185 7 0 := ⟨fl_8_185, rfl⟩
theorem fp_8_185 : ab_FP RX8 185 7 0 := ⟨fl_8_185, rfl, rfl⟩
theorem fr_8_191 : ab_FR RX8 191 7 1 := ⟨fl_8_191, rfl⟩
theorem fi_8_197 : ab_FI RX8 197 5 0 := ⟨fl_8_197, rfl⟩
theorem fp_8_197 : ab_FP RX8 197 5 0 := ⟨fl_8_197, rfl, rfl⟩
theorem fi_8_200 : ab_FI RX8 200 5 1 := ⟨fl_8_200, rfl⟩
theorem fp_8_200 : ab_FP RX8 200 5 1 := ⟨fl_8_200, rfl, rfl⟩
theorem fi_8_210 : ab_FI RX8 210 3 0 := ⟨fl_8_210, rfl⟩
theorem fp_8_210 : ab_FP RX8 210 3 0 := ⟨fl_8_210, rfl, rfl⟩
theorem fr_8_222 : ab_FR RX8 222 3 2 := ⟨fl_8_222, rfl⟩
theorem fr_8_224 : ab_FR RX8 224 3 3 := ⟨fl_8_224, rfl⟩
theorem fr_8_227 : ab_FR RX8 227 3 4 := ⟨fl_8_227, rfl⟩
theorem fr_8_230 : ab_FR RX8 230 3 5 := ⟨fl_8_230, rfl⟩
theorem fi_8_253 : ab_FI RX8 253 3 1 := ⟨fl_8_253, rfl⟩
theorem fp_8_253 : ab_FP RX8 253 3 1 := ⟨fl_8_253, rfl, rfl⟩
theorem fi_0_9 : ab_FI RX0 9 0 0 := ⟨fl_0_9, rfl⟩
theorem fp_0_9 : ab_FP RX0 9 0 0 := ⟨fl_0_9, rfl, rfl⟩
theorem fi_0_15 : ab_FI RX0 15 0 1 := ⟨fl_0_15, rfl⟩
theorem fp_0_15 : ab_FP RX0 15 0 1 := ⟨fl_0_15, rfl, rfl⟩
theorem fr_0_18 : ab_FR RX0 18 0 2 := ⟨fl_0_18, rfl⟩
theorem fi_1_9 : ab_FI RX1 9 1 0 := ⟨fl_1_9, rfl⟩
theorem fp_1_9 : ab_FP RX1 9 1 0 := ⟨fl_1_9, rfl, rfl⟩
theorem fr_1_15 : ab_FR RX1 15 1 1 := ⟨fl_1_15, rfl⟩
theorem fr_1_19 : ab_FR RX1 19 1 2 := ⟨fl_1_19, rfl⟩
theorem fi_1_22 : ab_FI RX1 22 1 3 := ⟨fl_1_22, rfl⟩
theorem fp_1_22 : ab_FP RX1 22 1 3 := ⟨fl_1_22, rfl, rfl⟩
theorem fr_1_25 : ab_FR RX1 25 1 4 := ⟨fl_1_25, rfl⟩
theorem fr_1_28 : ab_FR RX1 28 1 5 := ⟨fl_1_28, rfl⟩
theorem fr_1_31 : ab_FR RX1 31 1 6 := ⟨fl_1_31, rfl⟩
theorem fr_1_34 : ab_FR RX1 34 1 7 := ⟨fl_1_34, rfl⟩
theorem fr_1_37 : ab_FR RX1 37 1 8 := ⟨fl_1_37, rfl⟩
theorem fr_1_52 : ab_FR RX1 52 4 2 := ⟨fl_1_52, rfl⟩
theorem fi_1_64 : ab_FI RX1 64 2 0 := ⟨fl_1_64, rfl⟩
theorem fp_1_64 : ab_FP RX1 64 2 0 := ⟨fl_1_64, rfl, rfl⟩
theorem fr_1_69 : ab_FR RX1 69 2 2 := ⟨fl_1_69, rfl⟩
theorem fi_1_72 : ab_FI RX1 72 4 0 := ⟨fl_1_72, rfl⟩
theorem fp_1_72 : ab_FP RX1 72 4 0 := ⟨fl_1_72, rfl, rfl⟩
theorem fr_1_73 : ab_FR RX1 73 4 1 := ⟨fl_1_73, rfl⟩
theorem fr_1_74 : ab_FR RX1 74 2 4 := ⟨fl_1_74, rfl⟩
theorem fi_2_9 : ab_FI RX2 9 2 0 := ⟨fl_2_9, rfl⟩
theorem fp_2_9 : ab_FP RX2 9 2 0 := ⟨fl_2_9, rfl, rfl⟩
theorem fr_2_15 : ab_FR RX2 15 2 1 := ⟨fl_2_15, rfl⟩
theorem fr_2_19 : ab_FR RX2 19 2 2 := ⟨fl_2_19, rfl⟩
theorem fr_2_22 : ab_FR RX2 22 2 3 := ⟨fl_2_22, rfl⟩
theorem fr_2_25 : ab_FR RX2 25 2 4 := ⟨fl_2_25, rfl⟩
theorem fr_2_28 : ab_FR RX2 28 2 5 := ⟨fl_2_28, rfl⟩
theorem fr_2_31 : ab_FR RX2 31 2 6 := ⟨fl_2_31, rfl⟩
theorem fi_2_34 : ab_FI RX2 34 2 7 := ⟨fl_2_34, rfl⟩
theorem fp_2_34 : ab_FP RX2 34 2 7 := ⟨fl_2_34, rfl, rfl⟩
theorem fi_2_43 : ab_FI RX2 43 0 1 := ⟨fl_2_43, rfl⟩
theorem fp_2_43 : ab_FP RX2 43 0 1 := ⟨fl_2_43, rfl, rfl⟩
theorem fi_2_48 : ab_FI RX2 48 0 0 := ⟨fl_2_48, rfl⟩
theorem fp_2_48 : ab_FP RX2 48 0 0 := ⟨fl_2_48, rfl, rfl⟩
theorem fi_3_9 : ab_FI RX3 9 3 0 := ⟨fl_3_9, rfl⟩
theorem fp_3_9 : ab_FP RX3 9 3 0 := ⟨fl_3_9, rfl, rfl⟩
theorem fi_3_15 : ab_FI RX3 15 3 1 := ⟨fl_3_15, rfl⟩
theorem fp_3_15 : ab_FP RX3 15 3 1 := ⟨fl_3_15, rfl, rfl⟩
theorem fr_3_18 : ab_FR RX3 18 3 2 := ⟨fl_3_18, rfl⟩
theorem fr_3_22 : ab_FR RX3 22 3 3 := ⟨fl_3_22, rfl⟩
theorem fr_3_25 : ab_FR RX3 25 3 4 := ⟨fl_3_25, rfl⟩
theorem fr_3_28 : ab_FR RX3 28 3 5 := ⟨fl_3_28, rfl⟩
theorem fi_3_31 : ab_FI RX3 31 3 6 := ⟨fl_3_31, rfl⟩
theorem fp_3_31 : ab_FP RX3 31 3 6 := ⟨fl_3_31, rfl, rfl⟩
theorem fr_3_34 : ab_FR RX3 34 3 7 := ⟨fl_3_34, rfl⟩
theorem fr_3_37 : ab_FR RX3 37 3 8 := ⟨fl_3_37, rfl⟩
theorem fi_3_40 : ab_FI RX3 40 5 1 := ⟨fl_3_40, rfl⟩
theorem fp_3_40 : ab_FP RX3 40 5 1 := ⟨fl_3_40, rfl, rfl⟩
theorem fi_3_43 : ab_FI RX3 43 0 1 := ⟨fl_3_43, rfl⟩
theorem fp_3_43 : ab_FP RX3 43 0 1 := ⟨fl_3_43, rfl, rfl⟩
theorem fr_3_48 : ab_FR RX3 48 5 2 := ⟨fl_3_48, rfl⟩
theorem fr_3_49 : ab_FR RX3 49 5 3 := ⟨fl_3_49, rfl⟩
theorem fr_3_81 : ab_FR RX3 81 7 1 := ⟨fl_3_81, rfl⟩
theorem fi_4_9 : ab_FI RX4 9 4 0 := ⟨fl_4_9, rfl⟩
theorem fp_4_9 : ab_FP RX4 9 4 0 := ⟨fl_4_9, rfl, rfl⟩
theorem fr_4_15 : ab_FR RX4 15 4 1 := ⟨fl_4_15, rfl⟩
theorem fr_4_19 : ab_FR RX4 19 4 2 := ⟨fl_4_19, rfl⟩
theorem fi_5_10 : ab_FI RX5 10 5 0 := ⟨fl_5_10, rfl⟩
theorem fp_5_10 : ab_FP RX5 10 5 0 := ⟨fl_5_10, rfl, rfl⟩
theorem fi_5_16 : ab_FI RX5 16 5 1 := ⟨fl_5_16, rfl⟩
theorem fp_5_16 : ab_FP RX5 16 5 1 := ⟨fl_5_16, rfl, rfl⟩
theorem fr_5_19 : ab_FR RX5 19 5 2 := ⟨fl_5_19, rfl⟩
theorem fr_5_23 : ab_FR RX5 23 5 3 := ⟨fl_5_23, rfl⟩
theorem fi_5_26 : ab_FI RX5 26 5 4 := ⟨fl_5_26, rfl⟩
theorem fp_5_26 : ab_FP RX5 26 5 4 := ⟨fl_5_26, rfl, rfl⟩
theorem fr_5_29 : ab_FR RX5 29 5 5 := ⟨fl_5_29, rfl⟩
theorem fr_5_32 : ab_FR RX5 32 5 6 := ⟨fl_5_32, rfl⟩
theorem fr_5_35 : ab_FR RX5 35 5 7 := ⟨fl_5_35, rfl⟩
theorem fr_5_38 : ab_FR RX5 38 5 8 := ⟨fl_5_38, rfl⟩
theorem fi_5_41 : ab_FI RX5 41 0 0 := ⟨fl_5_41, rfl⟩
theorem fp_5_41 : ab_FP RX5 41 0 0 := ⟨fl_5_41, rfl, rfl⟩
theorem fi_5_59 : ab_FI RX5 59 7 0 := ⟨fl_5_59, rfl⟩
theorem fp_5_59 : ab_FP RX5 59 7 0 := ⟨fl_5_59, rfl, rfl⟩
theorem fr_5_74 : ab_FR RX5 74 7 2 := ⟨fl_5_74, rfl⟩
theorem fr_6_10 : ab_FR RX6 10 6 0 := ⟨fl_6_10, rfl⟩
theorem fr_6_19 : ab_FR RX6 19 6 1 := ⟨fl_6_19, rfl⟩
theorem fr_6_26 : ab_FR RX6 26 6 2 := ⟨fl_6_26, rfl⟩
theorem fr_6_33 : ab_FR RX6 33 6 3 := ⟨fl_6_33, rfl⟩
theorem fi_7_9 : ab_FI RX7 9 7 0 := ⟨fl_7_9, rfl⟩
theorem fp_7_9 : ab_FP RX7 9 7 0 := ⟨fl_7_9, rfl, rfl⟩
theorem fr_7_15 : ab_FR RX7 15 7 1 := ⟨fl_7_15, rfl⟩
theorem fr_7_19 : ab_FR RX7 19 7 2 := ⟨fl_7_19, rfl⟩
theorem fi_9_7 : ab_FI RX9 7 9 0 := ⟨fl_9_7, rfl⟩
theorem fp_9_7 : ab_FP RX9 7 9 0 := ⟨fl_9_7, rfl, rfl⟩
theorem fi_9_13 : ab_FI RX9 13 9 1 := ⟨fl_9_13, rfl⟩
theorem fp_9_13 : ab_FP RX9 13 9 1 := ⟨fl_9_13, rfl, rfl⟩
theorem fr_9_16 : ab_FR RX9 16 9 2 := ⟨fl_9_16, rfl⟩
theorem fr_9_20 : ab_FR RX9 20 9 3 := ⟨fl_9_20, rfl⟩
theorem fr_9_24 : ab_FR RX9 24 9 5 := ⟨fl_9_24, rfl⟩
theorem fr_9_27 : ab_FR RX9 27 9 6 := ⟨fl_9_27, rfl⟩
theorem fr_9_30 : ab_FR RX9 30 9 8 := ⟨fl_9_30, rfl⟩
theorem fr_9_33 : ab_FR RX9 33 9 9 := ⟨fl_9_33, rfl⟩
theorem fi_9_36 : ab_FI RX9 36 9 10 := ⟨fl_9_36, rfl⟩
theorem fp_9_36 : ab_FP RX9 36 9 10 := ⟨fl_9_36, rfl, rfl⟩
theorem fi_9_39 : ab_FI RX9 39 9 11 := ⟨fl_9_39, rfl⟩
theorem fp_9_39 : ab_FP RX9 39 9 11 := ⟨fl_9_39, rfl, rfl⟩
theorem fr_9_42 : ab_FR RX9 42 9 14 := ⟨fl_9_42, rfl⟩
theorem fr_9_45 : ab_FR RX9 45 9 15 := ⟨fl_9_45, rfl⟩
theorem fr_9_48 : ab_FR RX9 48 9 16 := ⟨fl_9_48, rfl⟩
theorem fr_9_51 : ab_FR RX9 51 9 17 := ⟨fl_9_51, rfl⟩
theorem fr_9_54 : ab_FR RX9 54 9 19 := ⟨fl_9_54, rfl⟩
theorem fr_9_57 : ab_FR RX9 57 9 20 := ⟨fl_9_57, rfl⟩
theorem fr_9_60 : ab_FR RX9 60 9 21 := ⟨fl_9_60, rfl⟩
theorem fr_9_63 : ab_FR RX9 63 9 22 := ⟨fl_9_63, rfl⟩
theorem fr_9_66 : ab_FR RX9 66 9 23 := ⟨fl_9_66, rfl⟩
theorem fr_9_69 : ab_FR RX9 69 9 25 := ⟨fl_9_69, rfl⟩
theorem fr_9_72 : ab_FR RX9 72 9 26 := ⟨fl_9_72, rfl⟩
theorem fr_9_75 : ab_FR RX9 75 9 27 := ⟨fl_9_75, rfl⟩
theorem fr_9_78 : ab_FR RX9 78 9 28 := ⟨fl_9_78, rfl⟩
theorem fr_9_81 : ab_FR RX9 81 9 30 := ⟨fl_9_81, rfl⟩
theorem fr_9_84 : ab_FR RX9 84 9 32 := ⟨fl_9_84, rfl⟩
theorem fr_9_87 : ab_FR RX9 87 9 33 := ⟨fl_9_87, rfl⟩
theorem fr_9_90 : ab_FR RX9 90 9 34 := ⟨fl_9_90, rfl⟩
theorem fr_9_93 : ab_FR RX9 93 9 35 := ⟨fl_9_93, rfl⟩
theorem fr_9_96 : ab_FR RX9 96 9 37 := ⟨fl_9_96, rfl⟩
theorem fr_9_99 : ab_FR RX9 99 9 38 := ⟨fl_9_99, rfl⟩
theorem fr_9_102 : ab_FR RX9 102 9 39 := ⟨fl_9_102, rfl⟩
theorem fr_9_105 : ab_FR RX9 105 9 40 := ⟨fl_9_105, rfl⟩
theorem fr_9_108 : ab_FR RX9 108 9 43 := ⟨fl_9_108, rfl⟩
theorem fi_9_115 : ab_FI RX9 115 9 12 := ⟨fl_9_115, rfl⟩
theorem fp_9_115 : ab_FP RX9 115 9 12 := ⟨fl_9_115, rfl, rfl⟩
theorem fi_9_143 : ab_FI RX9 143 9 24 := ⟨fl_9_143, rfl⟩
theorem fp_9_143 : ab_FP RX9 143 9 24 := ⟨fl_9_143, rfl, rfl⟩
theorem fi_9_152 : ab_FI RX9 152 9 4 := ⟨fl_9_152, rfl⟩
theorem fp_9_152 : ab_FP RX9 152 9 4 := ⟨fl_9_152, rfl, rfl⟩
theorem fi_9_155 : ab_FI RX9 155 9 29 := ⟨fl_9_155, rfl⟩
theorem fp_9_155 : ab_FP RX9 155 9 29 := ⟨fl_9_155, rfl, rfl⟩
theorem fi_9_158 : ab_FI RX9 158 9 31 := ⟨fl_9_158, rfl⟩
theorem fp_9_158 : ab_FP RX9 158 9 31 := ⟨fl_9_158, rfl, rfl⟩
theorem fi_9_165 : ab_FI RX9 165 9 36 := ⟨fl_9_165, rfl⟩
theorem fp_9_165 : ab_FP RX9 165 9 36 := ⟨fl_9_165, rfl, rfl⟩
theorem fi_9_174 : ab_FI RX9 174 9 7 := ⟨fl_9_174, rfl⟩
theorem fp_9_174 : ab_FP RX9 174 9 7 := ⟨fl_9_174, rfl, rfl⟩
theorem fi_9_186 : ab_FI RX9 186 9 41 := ⟨fl_9_186, rfl⟩
theorem fp_9_186 : ab_FP RX9 186 9 41 := ⟨fl_9_186, rfl, rfl⟩
theorem fi_9_189 : ab_FI RX9 189 9 42 := ⟨fl_9_189, rfl⟩
theorem fp_9_189 : ab_FP RX9 189 9 42 := ⟨fl_9_189, rfl, rfl⟩
theorem fi_9_202 : ab_FI RX9 202 9 13 := ⟨fl_9_202, rfl⟩
theorem fp_9_202 : ab_FP RX9 202 9 13 := ⟨fl_9_202, rfl, rfl⟩
theorem fi_9_227 : ab_FI RX9 227 9 18 := ⟨fl_9_227, rfl⟩
theorem fb_9_227 : ab_FB RX9 227 9 18 := ⟨fl_9_227, rfl, rfl⟩
section WpRules
variable {L d : Nat} {m : ab_M} {pc q t : Nat} {ls l : ab_L} {st : List ab_V} {M : ab_Me} {Q : Option ab_V → ab_Me → Prop} {x y z : Int} {a : Nat}
theorem wp_ps {i : Instr} {len pc1 : Nat} {ls1 : ab_L} {st1 : List ab_V} (hd : decode m.2.1 pc = .ok (i, len)) (h : ab_ps i len pc ls st = some (pc1, ls1, st1)) (k : wp L d m pc1 ls1 st1 M Q) : wp L d m pc ls st M Q := by
  obtain ⟨n, r, M1, e1, e2⟩ := k
  exact ⟨n + 1, r, M1, ⟨i, len, hd, Or.inl ⟨_, _, _, h, e1⟩⟩, e2⟩
theorem wp_hs {i : Instr} {len : Nat} {st1 : List ab_V} {M1 : ab_Me} (h0 : ab_at m pc i len q) (h : ab_hs m i len st (LAY L, M) st1 (LAY L, M1)) (k : wp L d m q ls st1 M1 Q) : wp L d m pc ls st M Q := by
  obtain ⟨n, r, M2, e1, e2⟩ := k
  obtain ⟨hd, rfl⟩ := h0
  exact ⟨n + 1, r, M2, ⟨i, len, hd, Or.inr (Or.inl ⟨_, _, h, e1⟩)⟩, e2⟩
theorem wp_iv {i : Instr} {m1 : ab_M} {as rest : List ab_V} {r1 : Option ab_V} {M1 : ab_Me} {d1 : Nat} (h0 : ab_at m pc i 3 q) (h : ab_iv m i 3 m1 as (LAY L, M)) (hn : as.length = m1.2.2.2.2) (hrest : Nat.ble rest.length 8 = true) (hd1 : Nat.ble d1 d = true) (hc : ab_call d1 m1 as (LAY L, M) r1 (LAY L, M1)) (k : wp L d m q ls (r1.toList ++ rest) M1 Q) : wp L d m pc ls (as.reverse ++ rest) M Q := by
  obtain ⟨n, r, M2, e1, e2⟩ := k
  obtain ⟨hd, rfl⟩ := h0
  exact ⟨n + 1, r, M2, ⟨i, 3, hd, Or.inr (Or.inr (Or.inl ⟨m1, as, rest, r1, _, h, rfl, hn, Nat.le_of_ble_eq_true hrest, ab_call_mono (Nat.le_of_ble_eq_true hd1) hc, e1⟩))⟩, e2⟩
theorem wp_ret (h : ab_at m pc .ireturn 1 q) (hr : m.2.2.2.1 = some .int) (k : Q (some (.inl z)) M) : wp L d m pc ls [.inl z] M Q := ⟨1, _, M, ⟨_, _, h.1, Or.inr (Or.inr (Or.inr (Or.inl ⟨rfl, rfl, ⟨z, rfl, rfl, Or.inl hr⟩, rfl⟩)))⟩, k⟩
theorem wp_retb (h : ab_at m pc .ireturn 1 q) (hr : m.2.2.2.1 = some .boolean) (hz : z = 0 ∨ z = 1) (k : Q (some (.inl z)) M) : wp L d m pc ls [.inl z] M Q := ⟨1, _, M, ⟨_, _, h.1, Or.inr (Or.inr (Or.inr (Or.inl ⟨rfl, rfl, ⟨z, rfl, rfl, Or.inr ⟨hr, hz⟩⟩, rfl⟩)))⟩, k⟩
theorem wp_retv (h : ab_at m pc .return_ 1 q) (hr : m.2.2.2.1 = none) (k : Q none M) : wp L d m pc ls [] M Q := ⟨1, _, M, ⟨_, _, h.1, Or.inr (Or.inr (Or.inr (Or.inr ⟨rfl, rfl, hr, rfl, rfl, rfl⟩)))⟩, k⟩
theorem wp_ic (h : ab_at m pc (.iconst z) 1 q) (hz : -128 ≤ z ∧ z < 128) (k : wp L d m q ls (.inl z :: st) M Q) : wp L d m pc ls st M Q := by
  obtain ⟨hd, rfl⟩ := h
  exact wp_ps hd (by simp [ab_ps, hz]) k
theorem wp_bp (h : ab_at m pc (.bipush z) 2 q) (hz : -128 ≤ z ∧ z < 128) (k : wp L d m q ls (.inl z :: st) M Q) : wp L d m pc ls st M Q := by
  obtain ⟨hd, rfl⟩ := h
  exact wp_ps hd (by simp [ab_ps, hz]) k
theorem wp_sp (h : ab_at m pc (.sipush z) 3 q) (hz : -32768 ≤ z ∧ z < 32768) (k : wp L d m q ls (.inl z :: st) M Q) : wp L d m pc ls st M Q := by
  obtain ⟨hd, rfl⟩ := h
  exact wp_ps hd (by simp [ab_ps, hz]) k
theorem wp_ldc {ix : Nat} (h : ab_at m pc (.ldc ix) 2 q) (hk : ab_K m.1.cls ix z) (hz : -2147483648 ≤ z ∧ z < 2147483648) (k : wp L d m q ls (.inl z :: st) M Q) : wp L d m pc ls st M Q :=
  wp_hs h (Or.inr (Or.inr (Or.inr (Or.inr (Or.inr (Or.inr (Or.inr (Or.inr (Or.inr (Or.inl ⟨ix, z, rfl, rfl, hk, hz, rfl, rfl⟩)))))))))) k
theorem wp_dup {v : ab_V} (h : ab_at m pc .dup 1 q) (k : wp L d m q ls (v :: v :: st) M Q) : wp L d m pc ls (v :: st) M Q := by
  obtain ⟨hd, rfl⟩ := h
  exact wp_ps hd (by simp [ab_ps]) k
theorem wp_dup2 {v w : ab_V} (h : ab_at m pc .dup2 1 q) (k : wp L d m q ls (v :: w :: v :: w :: st) M Q) : wp L d m pc ls (v :: w :: st) M Q := by
  obtain ⟨hd, rfl⟩ := h
  exact wp_ps hd (by simp [ab_ps]) k
theorem wp_goto (h : ab_bg m pc t) (k : wp L d m t ls st M Q) : wp L d m pc ls st M Q := by
  obtain ⟨off, hd, hj⟩ := h
  exact wp_ps hd (by simp [ab_ps, hj]) k
theorem ab_add_eq (h : -2147483648 ≤ x + y ∧ x + y < 2147483648) : ab_b (fun a b => a + b) x y = x + y := by
  show (Int32.ofInt x + Int32.ofInt y).toInt = x + y
  rw [← Int32.ofInt_add, ab_toInt h]
theorem ab_sub_eq (h : -2147483648 ≤ x - y ∧ x - y < 2147483648) : ab_b (fun a b => a - b) x y = x - y := by
  show (Int32.ofInt x - Int32.ofInt y).toInt = x - y
  rw [← Int32.ofInt_sub, ab_toInt h]
theorem ab_mul_eq (h : -2147483648 ≤ x * y ∧ x * y < 2147483648) : ab_b (fun a b => a * b) x y = x * y := by
  show (Int32.ofInt x * Int32.ofInt y).toInt = x * y
  rw [← Int32.ofInt_mul, ab_toInt h]
theorem ab_divle (hx : 0 ≤ x) (hy : 0 < y) : 0 ≤ x / y ∧ x / y ≤ x := ⟨Int.ediv_nonneg hx (by omega), Int.ediv_le_self y hx⟩
theorem ab_div_eq (h : 0 ≤ x ∧ x < 2147483648 ∧ 0 < y ∧ y < 2147483648) : ab_b (fun a b => a / b) x y = x / y := by
  obtain ⟨h1, h2, h3, h4⟩ := h
  have hd := ab_divle h1 h3
  unfold ab_b
  rw [Int32.toInt_div, ab_toInt ⟨by omega, h2⟩, ab_toInt ⟨by omega, h4⟩, Int.tdiv_eq_ediv_of_nonneg h1, Int.bmod_eq_of_le (by omega) (by omega)]
theorem ab_rem_eq (h : 0 ≤ x ∧ x < 2147483648 ∧ 0 < y ∧ y < 2147483648) : ab_b (fun a b => a - a / b * b) x y = x % y := by
  have hq := ab_div_eq h
  obtain ⟨h1, h2, h3, h4⟩ := h
  have hd := ab_divle h1 h3
  unfold ab_b at hq ⊢
  have e : Int32.ofInt x / Int32.ofInt y = Int32.ofInt (x / y) := by rw [← hq, Int32.ofInt_toInt]
  have e2 : x - x / y * y = x % y := by have := Int.mul_ediv_add_emod x y; rw [Int.mul_comm] at this; omega
  have hm := Int.emod_nonneg x (by omega : y ≠ 0)
  have hm2 := Int.emod_lt_of_pos x h3
  show (Int32.ofInt x - Int32.ofInt x / Int32.ofInt y * Int32.ofInt y).toInt = x % y
  rw [e, ← Int32.ofInt_mul, ← Int32.ofInt_sub, e2, ab_toInt ⟨by omega, by omega⟩]
theorem wp_bin {f : Int32 → Int32 → Int32} {i : Instr} (h : ab_at m pc i 1 q) (hi : ∀ ls st, ab_ps i 1 pc ls st = ab_bin f 1 pc ls st) (hz : ab_b f x y = z) (k : wp L d m q ls (.inl z :: st) M Q) : wp L d m pc ls (.inl y :: .inl x :: st) M Q := by
  obtain ⟨hd, rfl⟩ := h
  exact wp_ps hd (by rw [hi]; simp [ab_bin, ab_i2, hz]) k
theorem wp_add (h : ab_at m pc .iadd 1 q) (hz : -2147483648 ≤ x + y ∧ x + y < 2147483648) (k : wp L d m q ls (.inl (x + y) :: st) M Q) : wp L d m pc ls (.inl y :: .inl x :: st) M Q := wp_bin h (fun _ _ => rfl) (ab_add_eq hz) k
theorem wp_sub (h : ab_at m pc .isub 1 q) (hz : -2147483648 ≤ x - y ∧ x - y < 2147483648) (k : wp L d m q ls (.inl (x - y) :: st) M Q) : wp L d m pc ls (.inl y :: .inl x :: st) M Q := wp_bin h (fun _ _ => rfl) (ab_sub_eq hz) k
theorem wp_mul (h : ab_at m pc .imul 1 q) (hz : -2147483648 ≤ x * y ∧ x * y < 2147483648) (k : wp L d m q ls (.inl (x * y) :: st) M Q) : wp L d m pc ls (.inl y :: .inl x :: st) M Q := wp_bin h (fun _ _ => rfl) (ab_mul_eq hz) k
theorem wp_and (h : ab_at m pc .iand 1 q) (hz : ab_b (fun a b => a &&& b) x y = z) (k : wp L d m q ls (.inl z :: st) M Q) : wp L d m pc ls (.inl y :: .inl x :: st) M Q := wp_bin h (fun _ _ => rfl) hz k
theorem wp_or (h : ab_at m pc .ior 1 q) (hz : ab_b (fun a b => a ||| b) x y = z) (k : wp L d m q ls (.inl z :: st) M Q) : wp L d m pc ls (.inl y :: .inl x :: st) M Q := wp_bin h (fun _ _ => rfl) hz k
theorem wp_xor (h : ab_at m pc .ixor 1 q) (hz : ab_b (fun a b => a ^^^ b) x y = z) (k : wp L d m q ls (.inl z :: st) M Q) : wp L d m pc ls (.inl y :: .inl x :: st) M Q := wp_bin h (fun _ _ => rfl) hz k
theorem wp_shl (h : ab_at m pc .ishl 1 q) (hz : ab_b (fun a b => a <<< (b &&& 31)) x y = z) (k : wp L d m q ls (.inl z :: st) M Q) : wp L d m pc ls (.inl y :: .inl x :: st) M Q := wp_bin h (fun _ _ => rfl) hz k
theorem wp_shr (h : ab_at m pc .ishr 1 q) (hz : ab_b (fun a b => a >>> (b &&& 31)) x y = z) (k : wp L d m q ls (.inl z :: st) M Q) : wp L d m pc ls (.inl y :: .inl x :: st) M Q := wp_bin h (fun _ _ => rfl) hz k
theorem wp_div (h : ab_at m pc .idiv 1 q) (hz : 0 ≤ x ∧ x < 2147483648 ∧ 0 < y ∧ y < 2147483648) (k : wp L d m q ls (.inl (x / y) :: st) M Q) : wp L d m pc ls (.inl y :: .inl x :: st) M Q := by
  have e := ab_div_eq hz
  obtain ⟨hd, rfl⟩ := h
  exact wp_ps hd (by simp [ab_ps, ab_i2, e]; omega) k
theorem wp_rem (h : ab_at m pc .irem 1 q) (hz : 0 ≤ x ∧ x < 2147483648 ∧ 0 < y ∧ y < 2147483648) (k : wp L d m q ls (.inl (x % y) :: st) M Q) : wp L d m pc ls (.inl y :: .inl x :: st) M Q := by
  have e := ab_rem_eq hz
  obtain ⟨hd, rfl⟩ := h
  exact wp_ps hd (by simp [ab_ps, ab_i2, e]; omega) k

theorem wp_ceq (h : ab_bc m pc .eq q t) (kt : x = y → wp L d m t ls st M Q) (kf : ¬ x = y → wp L d m q ls st M Q) : wp L d m pc ls (.inl y :: .inl x :: st) M Q := by
  obtain ⟨off, hd, rfl, hj⟩ := h
  by_cases hc : x = y
  · exact wp_ps hd (by simp [ab_ps, ab_i2, hj, ab_cmp, hc]) (kt hc)
  · exact wp_ps hd (pc1 := pc + 3) (ls1 := ls) (st1 := st) (by simp [ab_ps, ab_i2, hj, ab_cmp, hc]) (kf (by omega))
theorem wp_zeq (h : ab_bi m pc .eq q t) (kt : x = 0 → wp L d m t ls st M Q) (kf : ¬ x = 0 → wp L d m q ls st M Q) : wp L d m pc ls (.inl x :: st) M Q := by
  obtain ⟨off, hd, rfl, hj⟩ := h
  by_cases hc : x = 0
  · exact wp_ps hd (by simp [ab_ps, ab_i1, hj, ab_cmp, hc]) (kt hc)
  · exact wp_ps hd (pc1 := pc + 3) (ls1 := ls) (st1 := st) (by simp [ab_ps, ab_i1, hj, ab_cmp, hc]) (kf (by omega))
theorem wp_cne (h : ab_bc m pc .ne q t) (kt : ¬ x = y → wp L d m t ls st M Q) (kf : x = y → wp L d m q ls st M Q) : wp L d m pc ls (.inl y :: .inl x :: st) M Q := by
  obtain ⟨off, hd, rfl, hj⟩ := h
  by_cases hc : ¬ x = y
  · exact wp_ps hd (by simp [ab_ps, ab_i2, hj, ab_cmp, hc]) (kt hc)
  · exact wp_ps hd (pc1 := pc + 3) (ls1 := ls) (st1 := st) (by simp [ab_ps, ab_i2, hj, ab_cmp, hc]) (kf (by omega))
theorem wp_zne (h : ab_bi m pc .ne q t) (kt : ¬ x = 0 → wp L d m t ls st M Q) (kf : x = 0 → wp L d m q ls st M Q) : wp L d m pc ls (.inl x :: st) M Q := by
  obtain ⟨off, hd, rfl, hj⟩ := h
  by_cases hc : ¬ x = 0
  · exact wp_ps hd (by simp [ab_ps, ab_i1, hj, ab_cmp, hc]) (kt hc)
  · exact wp_ps hd (pc1 := pc + 3) (ls1 := ls) (st1 := st) (by simp [ab_ps, ab_i1, hj, ab_cmp, hc]) (kf (by omega))
theorem wp_clt (h : ab_bc m pc .lt q t) (kt : x < y → wp L d m t ls st M Q) (kf : y ≤ x → wp L d m q ls st M Q) : wp L d m pc ls (.inl y :: .inl x :: st) M Q := by
  obtain ⟨off, hd, rfl, hj⟩ := h
  by_cases hc : x < y
  · exact wp_ps hd (by simp [ab_ps, ab_i2, hj, ab_cmp, hc]) (kt hc)
  · exact wp_ps hd (pc1 := pc + 3) (ls1 := ls) (st1 := st) (by simp [ab_ps, ab_i2, hj, ab_cmp, hc]) (kf (by omega))
theorem wp_zlt (h : ab_bi m pc .lt q t) (kt : x < 0 → wp L d m t ls st M Q) (kf : 0 ≤ x → wp L d m q ls st M Q) : wp L d m pc ls (.inl x :: st) M Q := by
  obtain ⟨off, hd, rfl, hj⟩ := h
  by_cases hc : x < 0
  · exact wp_ps hd (by simp [ab_ps, ab_i1, hj, ab_cmp, hc]) (kt hc)
  · exact wp_ps hd (pc1 := pc + 3) (ls1 := ls) (st1 := st) (by simp [ab_ps, ab_i1, hj, ab_cmp, hc]) (kf (by omega))
theorem wp_cge (h : ab_bc m pc .ge q t) (kt : y ≤ x → wp L d m t ls st M Q) (kf : x < y → wp L d m q ls st M Q) : wp L d m pc ls (.inl y :: .inl x :: st) M Q := by
  obtain ⟨off, hd, rfl, hj⟩ := h
  by_cases hc : y ≤ x
  · exact wp_ps hd (by simp [ab_ps, ab_i2, hj, ab_cmp, hc]) (kt hc)
  · exact wp_ps hd (pc1 := pc + 3) (ls1 := ls) (st1 := st) (by simp [ab_ps, ab_i2, hj, ab_cmp, hc]) (kf (by omega))
theorem wp_zge (h : ab_bi m pc .ge q t) (kt : 0 ≤ x → wp L d m t ls st M Q) (kf : x < 0 → wp L d m q ls st M Q) : wp L d m pc ls (.inl x :: st) M Q := by
  obtain ⟨off, hd, rfl, hj⟩ := h
  by_cases hc : 0 ≤ x
  · exact wp_ps hd (by simp [ab_ps, ab_i1, hj, ab_cmp, hc]) (kt hc)
  · exact wp_ps hd (pc1 := pc + 3) (ls1 := ls) (st1 := st) (by simp [ab_ps, ab_i1, hj, ab_cmp, hc]) (kf (by omega))
theorem wp_cgt (h : ab_bc m pc .gt q t) (kt : y < x → wp L d m t ls st M Q) (kf : x ≤ y → wp L d m q ls st M Q) : wp L d m pc ls (.inl y :: .inl x :: st) M Q := by
  obtain ⟨off, hd, rfl, hj⟩ := h
  by_cases hc : y < x
  · exact wp_ps hd (by simp [ab_ps, ab_i2, hj, ab_cmp, hc]) (kt hc)
  · exact wp_ps hd (pc1 := pc + 3) (ls1 := ls) (st1 := st) (by simp [ab_ps, ab_i2, hj, ab_cmp, hc]) (kf (by omega))
theorem wp_zgt (h : ab_bi m pc .gt q t) (kt : 0 < x → wp L d m t ls st M Q) (kf : x ≤ 0 → wp L d m q ls st M Q) : wp L d m pc ls (.inl x :: st) M Q := by
  obtain ⟨off, hd, rfl, hj⟩ := h
  by_cases hc : 0 < x
  · exact wp_ps hd (by simp [ab_ps, ab_i1, hj, ab_cmp, hc]) (kt hc)
  · exact wp_ps hd (pc1 := pc + 3) (ls1 := ls) (st1 := st) (by simp [ab_ps, ab_i1, hj, ab_cmp, hc]) (kf (by omega))
theorem wp_cle (h : ab_bc m pc .le q t) (kt : x ≤ y → wp L d m t ls st M Q) (kf : y < x → wp L d m q ls st M Q) : wp L d m pc ls (.inl y :: .inl x :: st) M Q := by
  obtain ⟨off, hd, rfl, hj⟩ := h
  by_cases hc : x ≤ y
  · exact wp_ps hd (by simp [ab_ps, ab_i2, hj, ab_cmp, hc]) (kt hc)
  · exact wp_ps hd (pc1 := pc + 3) (ls1 := ls) (st1 := st) (by simp [ab_ps, ab_i2, hj, ab_cmp, hc]) (kf (by omega))
theorem wp_zle (h : ab_bi m pc .le q t) (kt : x ≤ 0 → wp L d m t ls st M Q) (kf : 0 < x → wp L d m q ls st M Q) : wp L d m pc ls (.inl x :: st) M Q := by
  obtain ⟨off, hd, rfl, hj⟩ := h
  by_cases hc : x ≤ 0
  · exact wp_ps hd (by simp [ab_ps, ab_i1, hj, ab_cmp, hc]) (kt hc)
  · exact wp_ps hd (pc1 := pc + 3) (ls1 := ls) (st1 := st) (by simp [ab_ps, ab_i1, hj, ab_cmp, hc]) (kf (by omega))
theorem wp_beq {p : Prop} [Decidable p] (h : ab_bi m pc .eq q t) (kt : ¬ p → wp L d m t ls st M Q) (kf : p → wp L d m q ls st M Q) : wp L d m pc ls (.inl (if p then 1 else 0) :: st) M Q := by
  by_cases hp : p
  · rw [if_pos hp]; exact wp_zeq h (fun q => by omega) (fun _ => kf hp)
  · rw [if_neg hp]; exact wp_zeq h (fun _ => kt hp) (fun q => absurd rfl q)
theorem wp_bne {p : Prop} [Decidable p] (h : ab_bi m pc .ne q t) (kt : p → wp L d m t ls st M Q) (kf : ¬ p → wp L d m q ls st M Q) : wp L d m pc ls (.inl (if p then 1 else 0) :: st) M Q := by
  by_cases hp : p
  · rw [if_pos hp]; exact wp_zne h (fun _ => kt hp) (fun q => by omega)
  · rw [if_neg hp]; exact wp_zne h (fun q => absurd rfl q) (fun _ => kf hp)
theorem wp_sw {dd lo hi : Int} {offs : Array Int} {len : Nat} (c : Int) {of_ : Int} (h : decode m.2.1 pc = .ok (.tableswitch dd lo hi offs, len)) (hx : x = c) (hc : ¬ (c < lo ∨ hi < c)) (ho : offs[(c - lo).toNat]? = some of_) (hj : ab_j pc of_ = some t) (k : wp L d m t ls st M Q) : wp L d m pc ls (.inl x :: st) M Q := by
  subst hx
  exact wp_ps h (by simp only [ab_ps, ab_i1]; rw [if_neg hc, ho]; simp [hj]) k
theorem wp_swd {dd lo hi : Int} {offs : Array Int} {len : Nat} (h : decode m.2.1 pc = .ok (.tableswitch dd lo hi offs, len)) (hx : x < lo ∨ hi < x) (hj : ab_j pc dd = some t) (k : wp L d m t ls st M Q) : wp L d m pc ls (.inl x :: st) M Q := by
  exact wp_ps h (by simp only [ab_ps, ab_i1]; rw [if_pos hx, hj]; rfl) k
theorem wp_gI {ix ci f : Nat} {refs : List Nat} (h : ab_at m pc (.getfield ix) 3 q) (hF : ab_FI m.1.cls ix ci f) (ha : (LAY L)[a]? = some (.inl (ci, refs))) (k : wp L d m q ls (.inl (M a f) :: st) M Q) : wp L d m pc ls (.inr a :: st) M Q :=
  wp_hs h (Or.inl ⟨ix, ci, f, a, st, refs, rfl, rfl, hF.1, rfl, ha, hF.2, rfl, rfl⟩) k
theorem wp_gR {ix ci f r : Nat} {refs : List Nat} (h : ab_at m pc (.getfield ix) 3 q) (hF : ab_FR m.1.cls ix ci f) (ha : (LAY L)[a]? = some (.inl (ci, refs))) (hr : refs[f]? = some r) (h0 : Nat.ble 1 r = true) (k : wp L d m q ls (.inr r :: st) M Q) : wp L d m pc ls (.inr a :: st) M Q := by
  obtain ⟨r0, rfl⟩ : ∃ r0, r = r0 + 1 := ⟨r - 1, by have := Nat.le_of_ble_eq_true h0; omega⟩
  exact wp_hs h (Or.inr (Or.inl ⟨ix, ci, f, a, st, refs, r0, rfl, rfl, hF.1, rfl, ha, hF.2, hr, rfl, rfl⟩)) k
theorem wp_pI {ix ci f : Nat} {refs : List Nat} (h : ab_at m pc (.putfield ix) 3 q) (hF : ab_FP m.1.cls ix ci f) (ha : (LAY L)[a]? = some (.inl (ci, refs))) (k : wp L d m q ls st (ab_up M a f z) Q) : wp L d m pc ls (.inl z :: .inr a :: st) M Q :=
  wp_hs h (Or.inr (Or.inr (Or.inl ⟨ix, ci, f, a, z, st, refs, rfl, rfl, hF.1, rfl, ha, Or.inl hF.2.1, hF.2.2, rfl, rfl⟩))) k
theorem wp_pB {ix ci f : Nat} {refs : List Nat} (h : ab_at m pc (.putfield ix) 3 q) (hF : ab_FB m.1.cls ix ci f) (ha : (LAY L)[a]? = some (.inl (ci, refs))) (hz : z = 0 ∨ z = 1) (k : wp L d m q ls st (ab_up M a f z) Q) : wp L d m pc ls (.inl z :: .inr a :: st) M Q :=
  wp_hs h (Or.inr (Or.inr (Or.inl ⟨ix, ci, f, a, z, st, refs, rfl, rfl, hF.1, rfl, ha, Or.inr ⟨hF.2.1, hz⟩, hF.2.2, rfl, rfl⟩))) k
theorem wp_ia {n : Nat} (h : ab_at m pc .iaload 1 q) (ha : (LAY L)[a]? = some (.inr (0, n))) (hx : 0 ≤ x ∧ x < n) (k : wp L d m q ls (.inl (M a x.toNat) :: st) M Q) : wp L d m pc ls (.inl x :: .inr a :: st) M Q :=
  wp_hs h (Or.inr (Or.inr (Or.inr (Or.inr (Or.inl ⟨a, n, x, st, Or.inl ⟨rfl, ha⟩, rfl, rfl, hx.1, hx.2, rfl, rfl⟩))))) k
theorem wp_ba {n : Nat} (h : ab_at m pc .baload 1 q) (h1 : Nat.ble 1 a = true) (ha : (LAY L)[a]? = some (.inr (1, n))) (hx : 0 ≤ x ∧ x < n) (k : wp L d m q ls (.inl (M a x.toNat) :: st) M Q) : wp L d m pc ls (.inl x :: .inr a :: st) M Q :=
  wp_hs h (Or.inr (Or.inr (Or.inr (Or.inr (Or.inl ⟨a, n, x, st, Or.inr ⟨rfl, Nat.le_of_ble_eq_true h1, ha⟩, rfl, rfl, hx.1, hx.2, rfl, rfl⟩))))) k
theorem wp_is {n : Nat} (h : ab_at m pc .iastore 1 q) (h1 : Nat.ble 1 a = true) (ha : (LAY L)[a]? = some (.inr (0, n))) (hx : 0 ≤ x ∧ x < n) (k : wp L d m q ls st (ab_up M a x.toNat z) Q) : wp L d m pc ls (.inl z :: .inl x :: .inr a :: st) M Q :=
  wp_hs h (Or.inr (Or.inr (Or.inr (Or.inr (Or.inr (Or.inl ⟨a, n, x, z, st, Or.inl ⟨rfl, ha⟩, rfl, rfl, Nat.le_of_ble_eq_true h1, hx.1, hx.2, rfl, rfl⟩)))))) k
theorem wp_bs {n : Nat} (h : ab_at m pc .bastore 1 q) (h1 : Nat.ble 1 a = true) (ha : (LAY L)[a]? = some (.inr (1, n))) (hx : 0 ≤ x ∧ x < n) (hz : z = 0 ∨ z = 1) (k : wp L d m q ls st (ab_up M a x.toNat z) Q) : wp L d m pc ls (.inl z :: .inl x :: .inr a :: st) M Q :=
  wp_hs h (Or.inr (Or.inr (Or.inr (Or.inr (Or.inr (Or.inl ⟨a, n, x, z, st, Or.inr ⟨rfl, ha, hz⟩, rfl, rfl, Nat.le_of_ble_eq_true h1, hx.1, hx.2, rfl, rfl⟩)))))) k
theorem wp_al {t0 n : Nat} (h : ab_at m pc .arraylength 1 q) (ha : (LAY L)[a]? = some (.inr (t0, n))) (ht : a = 0 ∨ t0 < 2) (hn : n < 2147483648) (k : wp L d m q ls (.inl (n : Int) :: st) M Q) : wp L d m pc ls (.inr a :: st) M Q :=
  wp_hs h (Or.inr (Or.inr (Or.inr (Or.inr (Or.inr (Or.inr (Or.inl ⟨a, t0, n, st, rfl, rfl, rfl, ha, ht, hn, rfl, rfl⟩))))))) k
theorem wp_cp {ix n n0 a0 N : Nat} (h : ab_at m pc (.invokestatic ix) 3 q) (hl : ab_lC m.1.cls ix) (hrest : Nat.ble st.length 8 = true) (hN : x = (N : Int)) (h1 : Nat.ble 1 a = true) (h2 : Nat.ble 1 a0 = true) (hne : a ≠ a0) (ha : (LAY L)[a]? = some (.inr (0, n))) (ha0 : (LAY L)[a0]? = some (.inr (0, n0))) (hNn : Nat.ble N n = true) (hNn0 : Nat.ble N n0 = true) (hNs : N < 100000)
    (k : wp L d m q ls st (ab_rw M a (fun k => if k < N then M a0 k else M a k)) Q) : wp L d m pc ls (.inl x :: .inl 0 :: .inr a :: .inl 0 :: .inr a0 :: st) M Q := by
  subst hN
  exact wp_hs h (Or.inr (Or.inr (Or.inr (Or.inr (Or.inr (Or.inr (Or.inr (Or.inr (Or.inr (Or.inr (Or.inr (Or.inl ⟨ix, a, a0, n, n0, N, st, rfl, rfl, hl, rfl, Nat.le_of_ble_eq_true hrest, Nat.le_of_ble_eq_true h1, Nat.le_of_ble_eq_true h2, hne, ha, ha0, Nat.le_of_ble_eq_true hNn, Nat.le_of_ble_eq_true hNn0, hNs, rfl, rfl⟩)))))))))))) k
theorem wp_mx {ix : Nat} (h : ab_at m pc (.invokestatic ix) 3 q) (hl : ab_lX m.1.cls ix) (hrest : Nat.ble st.length 8 = true) (k : wp L d m q ls (.inl (if x < y then y else x) :: st) M Q) : wp L d m pc ls (.inl y :: .inl x :: st) M Q :=
  wp_hs h (Or.inr (Or.inr (Or.inr (Or.inr (Or.inr (Or.inr (Or.inr (Or.inr (Or.inr (Or.inr (Or.inr (Or.inr (Or.inl ⟨ix, x, y, st, rfl, rfl, hl, rfl, Nat.le_of_ble_eq_true hrest, rfl, rfl⟩))))))))))))) k
theorem wp_mn {ix : Nat} (h : ab_at m pc (.invokestatic ix) 3 q) (hl : ab_lY m.1.cls ix) (hrest : Nat.ble st.length 8 = true) (k : wp L d m q ls (.inl (if y < x then y else x) :: st) M Q) : wp L d m pc ls (.inl y :: .inl x :: st) M Q :=
  wp_hs h (Or.inr (Or.inr (Or.inr (Or.inr (Or.inr (Or.inr (Or.inr (Or.inr (Or.inr (Or.inr (Or.inr (Or.inr (Or.inr ⟨ix, x, y, st, rfl, rfl, hl, rfl, Nat.le_of_ble_eq_true hrest, rfl, rfl⟩))))))))))))) k

theorem wp_il0 (h : ab_at m pc (.iload_n 0) 1 q) (k : wp L d m q (some (.inl z) :: l) (.inl z :: st) M Q) : wp L d m pc (some (.inl z) :: l) st M Q := by
  obtain ⟨hd, rfl⟩ := h
  exact wp_ps hd (by first | rfl | simp [ab_ps, ab_ldi]) k
theorem wp_al0 (h : ab_at m pc (.aload_n 0) 1 q) (k : wp L d m q (some (.inr a) :: l) (.inr a :: st) M Q) : wp L d m pc (some (.inr a) :: l) st M Q := by
  obtain ⟨hd, rfl⟩ := h
  exact wp_ps hd (by first | rfl | simp [ab_ps, ab_ldr]) k
theorem wp_is0 {w : Option ab_V} (h : ab_at m pc (.istore_n 0) 1 q) (k : wp L d m q (some (.inl z) :: l) st M Q) : wp L d m pc (w :: l) (.inl z :: st) M Q := by
  obtain ⟨hd, rfl⟩ := h
  exact wp_ps hd (by first | rfl | simp [ab_ps, ab_i1]) k
theorem wp_as0 {w : Option ab_V} (h : ab_at m pc (.astore_n 0) 1 q) (k : wp L d m q (some (.inr a) :: l) st M Q) : wp L d m pc (w :: l) (.inr a :: st) M Q := by
  obtain ⟨hd, rfl⟩ := h
  exact wp_ps hd (by first | rfl | simp [ab_ps, ab_r1]) k
theorem wp_ii0 (h : ab_at m pc (.iinc 0 y) 3 q) (hz : -2147483648 ≤ z + y ∧ z + y < 2147483648) (k : wp L d m q (some (.inl (z + y)) :: l) st M Q) : wp L d m pc (some (.inl z) :: l) st M Q := by
  have e := ab_add_eq hz
  obtain ⟨hd, rfl⟩ := h
  exact wp_ps hd (by simp [ab_ps, ab_ldi, e]) k
theorem wp_il1 {v0 : Option ab_V} (h : ab_at m pc (.iload_n 1) 1 q) (k : wp L d m q (v0 :: some (.inl z) :: l) (.inl z :: st) M Q) : wp L d m pc (v0 :: some (.inl z) :: l) st M Q := by
  obtain ⟨hd, rfl⟩ := h
  exact wp_ps hd (by first | rfl | simp [ab_ps, ab_ldi]) k
theorem wp_al1 {v0 : Option ab_V} (h : ab_at m pc (.aload_n 1) 1 q) (k : wp L d m q (v0 :: some (.inr a) :: l) (.inr a :: st) M Q) : wp L d m pc (v0 :: some (.inr a) :: l) st M Q := by
  obtain ⟨hd, rfl⟩ := h
  exact wp_ps hd (by first | rfl | simp [ab_ps, ab_ldr]) k
theorem wp_is1 {v0 : Option ab_V} {w : Option ab_V} (h : ab_at m pc (.istore_n 1) 1 q) (k : wp L d m q (v0 :: some (.inl z) :: l) st M Q) : wp L d m pc (v0 :: w :: l) (.inl z :: st) M Q := by
  obtain ⟨hd, rfl⟩ := h
  exact wp_ps hd (by first | rfl | simp [ab_ps, ab_i1]) k
theorem wp_as1 {v0 : Option ab_V} {w : Option ab_V} (h : ab_at m pc (.astore_n 1) 1 q) (k : wp L d m q (v0 :: some (.inr a) :: l) st M Q) : wp L d m pc (v0 :: w :: l) (.inr a :: st) M Q := by
  obtain ⟨hd, rfl⟩ := h
  exact wp_ps hd (by first | rfl | simp [ab_ps, ab_r1]) k
theorem wp_ii1 {v0 : Option ab_V} (h : ab_at m pc (.iinc 1 y) 3 q) (hz : -2147483648 ≤ z + y ∧ z + y < 2147483648) (k : wp L d m q (v0 :: some (.inl (z + y)) :: l) st M Q) : wp L d m pc (v0 :: some (.inl z) :: l) st M Q := by
  have e := ab_add_eq hz
  obtain ⟨hd, rfl⟩ := h
  exact wp_ps hd (by simp [ab_ps, ab_ldi, e]) k
theorem wp_il2 {v0 v1 : Option ab_V} (h : ab_at m pc (.iload_n 2) 1 q) (k : wp L d m q (v0 :: v1 :: some (.inl z) :: l) (.inl z :: st) M Q) : wp L d m pc (v0 :: v1 :: some (.inl z) :: l) st M Q := by
  obtain ⟨hd, rfl⟩ := h
  exact wp_ps hd (by first | rfl | simp [ab_ps, ab_ldi]) k
theorem wp_al2 {v0 v1 : Option ab_V} (h : ab_at m pc (.aload_n 2) 1 q) (k : wp L d m q (v0 :: v1 :: some (.inr a) :: l) (.inr a :: st) M Q) : wp L d m pc (v0 :: v1 :: some (.inr a) :: l) st M Q := by
  obtain ⟨hd, rfl⟩ := h
  exact wp_ps hd (by first | rfl | simp [ab_ps, ab_ldr]) k
theorem wp_is2 {v0 v1 : Option ab_V} {w : Option ab_V} (h : ab_at m pc (.istore_n 2) 1 q) (k : wp L d m q (v0 :: v1 :: some (.inl z) :: l) st M Q) : wp L d m pc (v0 :: v1 :: w :: l) (.inl z :: st) M Q := by
  obtain ⟨hd, rfl⟩ := h
  exact wp_ps hd (by first | rfl | simp [ab_ps, ab_i1]) k
theorem wp_as2 {v0 v1 : Option ab_V} {w : Option ab_V} (h : ab_at m pc (.astore_n 2) 1 q) (k : wp L d m q (v0 :: v1 :: some (.inr a) :: l) st M Q) : wp L d m pc (v0 :: v1 :: w :: l) (.inr a :: st) M Q := by
  obtain ⟨hd, rfl⟩ := h
  exact wp_ps hd (by first | rfl | simp [ab_ps, ab_r1]) k
theorem wp_ii2 {v0 v1 : Option ab_V} (h : ab_at m pc (.iinc 2 y) 3 q) (hz : -2147483648 ≤ z + y ∧ z + y < 2147483648) (k : wp L d m q (v0 :: v1 :: some (.inl (z + y)) :: l) st M Q) : wp L d m pc (v0 :: v1 :: some (.inl z) :: l) st M Q := by
  have e := ab_add_eq hz
  obtain ⟨hd, rfl⟩ := h
  exact wp_ps hd (by simp [ab_ps, ab_ldi, e]) k
theorem wp_il3 {v0 v1 v2 : Option ab_V} (h : ab_at m pc (.iload_n 3) 1 q) (k : wp L d m q (v0 :: v1 :: v2 :: some (.inl z) :: l) (.inl z :: st) M Q) : wp L d m pc (v0 :: v1 :: v2 :: some (.inl z) :: l) st M Q := by
  obtain ⟨hd, rfl⟩ := h
  exact wp_ps hd (by first | rfl | simp [ab_ps, ab_ldi]) k
theorem wp_al3 {v0 v1 v2 : Option ab_V} (h : ab_at m pc (.aload_n 3) 1 q) (k : wp L d m q (v0 :: v1 :: v2 :: some (.inr a) :: l) (.inr a :: st) M Q) : wp L d m pc (v0 :: v1 :: v2 :: some (.inr a) :: l) st M Q := by
  obtain ⟨hd, rfl⟩ := h
  exact wp_ps hd (by first | rfl | simp [ab_ps, ab_ldr]) k
theorem wp_is3 {v0 v1 v2 : Option ab_V} {w : Option ab_V} (h : ab_at m pc (.istore_n 3) 1 q) (k : wp L d m q (v0 :: v1 :: v2 :: some (.inl z) :: l) st M Q) : wp L d m pc (v0 :: v1 :: v2 :: w :: l) (.inl z :: st) M Q := by
  obtain ⟨hd, rfl⟩ := h
  exact wp_ps hd (by first | rfl | simp [ab_ps, ab_i1]) k
theorem wp_as3 {v0 v1 v2 : Option ab_V} {w : Option ab_V} (h : ab_at m pc (.astore_n 3) 1 q) (k : wp L d m q (v0 :: v1 :: v2 :: some (.inr a) :: l) st M Q) : wp L d m pc (v0 :: v1 :: v2 :: w :: l) (.inr a :: st) M Q := by
  obtain ⟨hd, rfl⟩ := h
  exact wp_ps hd (by first | rfl | simp [ab_ps, ab_r1]) k
theorem wp_ii3 {v0 v1 v2 : Option ab_V} (h : ab_at m pc (.iinc 3 y) 3 q) (hz : -2147483648 ≤ z + y ∧ z + y < 2147483648) (k : wp L d m q (v0 :: v1 :: v2 :: some (.inl (z + y)) :: l) st M Q) : wp L d m pc (v0 :: v1 :: v2 :: some (.inl z) :: l) st M Q := by
  have e := ab_add_eq hz
  obtain ⟨hd, rfl⟩ := h
  exact wp_ps hd (by simp [ab_ps, ab_ldi, e]) k
theorem wp_il4 {v0 v1 v2 v3 : Option ab_V} (h : ab_at m pc (.iload 4) 2 q) (k : wp L d m q (v0 :: v1 :: v2 :: v3 :: some (.inl z) :: l) (.inl z :: st) M Q) : wp L d m pc (v0 :: v1 :: v2 :: v3 :: some (.inl z) :: l) st M Q := by
  obtain ⟨hd, rfl⟩ := h
  exact wp_ps hd (by first | rfl | simp [ab_ps, ab_ldi]) k
theorem wp_al4 {v0 v1 v2 v3 : Option ab_V} (h : ab_at m pc (.aload 4) 2 q) (k : wp L d m q (v0 :: v1 :: v2 :: v3 :: some (.inr a) :: l) (.inr a :: st) M Q) : wp L d m pc (v0 :: v1 :: v2 :: v3 :: some (.inr a) :: l) st M Q := by
  obtain ⟨hd, rfl⟩ := h
  exact wp_ps hd (by first | rfl | simp [ab_ps, ab_ldr]) k
theorem wp_is4 {v0 v1 v2 v3 : Option ab_V} {w : Option ab_V} (h : ab_at m pc (.istore 4) 2 q) (k : wp L d m q (v0 :: v1 :: v2 :: v3 :: some (.inl z) :: l) st M Q) : wp L d m pc (v0 :: v1 :: v2 :: v3 :: w :: l) (.inl z :: st) M Q := by
  obtain ⟨hd, rfl⟩ := h
  exact wp_ps hd (by first | rfl | simp [ab_ps, ab_i1]) k
theorem wp_as4 {v0 v1 v2 v3 : Option ab_V} {w : Option ab_V} (h : ab_at m pc (.astore 4) 2 q) (k : wp L d m q (v0 :: v1 :: v2 :: v3 :: some (.inr a) :: l) st M Q) : wp L d m pc (v0 :: v1 :: v2 :: v3 :: w :: l) (.inr a :: st) M Q := by
  obtain ⟨hd, rfl⟩ := h
  exact wp_ps hd (by first | rfl | simp [ab_ps, ab_r1]) k
theorem wp_ii4 {v0 v1 v2 v3 : Option ab_V} (h : ab_at m pc (.iinc 4 y) 3 q) (hz : -2147483648 ≤ z + y ∧ z + y < 2147483648) (k : wp L d m q (v0 :: v1 :: v2 :: v3 :: some (.inl (z + y)) :: l) st M Q) : wp L d m pc (v0 :: v1 :: v2 :: v3 :: some (.inl z) :: l) st M Q := by
  have e := ab_add_eq hz
  obtain ⟨hd, rfl⟩ := h
  exact wp_ps hd (by simp [ab_ps, ab_ldi, e]) k
theorem wp_il5 {v0 v1 v2 v3 v4 : Option ab_V} (h : ab_at m pc (.iload 5) 2 q) (k : wp L d m q (v0 :: v1 :: v2 :: v3 :: v4 :: some (.inl z) :: l) (.inl z :: st) M Q) : wp L d m pc (v0 :: v1 :: v2 :: v3 :: v4 :: some (.inl z) :: l) st M Q := by
  obtain ⟨hd, rfl⟩ := h
  exact wp_ps hd (by first | rfl | simp [ab_ps, ab_ldi]) k
theorem wp_al5 {v0 v1 v2 v3 v4 : Option ab_V} (h : ab_at m pc (.aload 5) 2 q) (k : wp L d m q (v0 :: v1 :: v2 :: v3 :: v4 :: some (.inr a) :: l) (.inr a :: st) M Q) : wp L d m pc (v0 :: v1 :: v2 :: v3 :: v4 :: some (.inr a) :: l) st M Q := by
  obtain ⟨hd, rfl⟩ := h
  exact wp_ps hd (by first | rfl | simp [ab_ps, ab_ldr]) k
theorem wp_is5 {v0 v1 v2 v3 v4 : Option ab_V} {w : Option ab_V} (h : ab_at m pc (.istore 5) 2 q) (k : wp L d m q (v0 :: v1 :: v2 :: v3 :: v4 :: some (.inl z) :: l) st M Q) : wp L d m pc (v0 :: v1 :: v2 :: v3 :: v4 :: w :: l) (.inl z :: st) M Q := by
  obtain ⟨hd, rfl⟩ := h
  exact wp_ps hd (by first | rfl | simp [ab_ps, ab_i1]) k
theorem wp_as5 {v0 v1 v2 v3 v4 : Option ab_V} {w : Option ab_V} (h : ab_at m pc (.astore 5) 2 q) (k : wp L d m q (v0 :: v1 :: v2 :: v3 :: v4 :: some (.inr a) :: l) st M Q) : wp L d m pc (v0 :: v1 :: v2 :: v3 :: v4 :: w :: l) (.inr a :: st) M Q := by
  obtain ⟨hd, rfl⟩ := h
  exact wp_ps hd (by first | rfl | simp [ab_ps, ab_r1]) k
theorem wp_ii5 {v0 v1 v2 v3 v4 : Option ab_V} (h : ab_at m pc (.iinc 5 y) 3 q) (hz : -2147483648 ≤ z + y ∧ z + y < 2147483648) (k : wp L d m q (v0 :: v1 :: v2 :: v3 :: v4 :: some (.inl (z + y)) :: l) st M Q) : wp L d m pc (v0 :: v1 :: v2 :: v3 :: v4 :: some (.inl z) :: l) st M Q := by
  have e := ab_add_eq hz
  obtain ⟨hd, rfl⟩ := h
  exact wp_ps hd (by simp [ab_ps, ab_ldi, e]) k
theorem wp_il6 {v0 v1 v2 v3 v4 v5 : Option ab_V} (h : ab_at m pc (.iload 6) 2 q) (k : wp L d m q (v0 :: v1 :: v2 :: v3 :: v4 :: v5 :: some (.inl z) :: l) (.inl z :: st) M Q) : wp L d m pc (v0 :: v1 :: v2 :: v3 :: v4 :: v5 :: some (.inl z) :: l) st M Q := by
  obtain ⟨hd, rfl⟩ := h
  exact wp_ps hd (by first | rfl | simp [ab_ps, ab_ldi]) k
theorem wp_al6 {v0 v1 v2 v3 v4 v5 : Option ab_V} (h : ab_at m pc (.aload 6) 2 q) (k : wp L d m q (v0 :: v1 :: v2 :: v3 :: v4 :: v5 :: some (.inr a) :: l) (.inr a :: st) M Q) : wp L d m pc (v0 :: v1 :: v2 :: v3 :: v4 :: v5 :: some (.inr a) :: l) st M Q := by
  obtain ⟨hd, rfl⟩ := h
  exact wp_ps hd (by first | rfl | simp [ab_ps, ab_ldr]) k
theorem wp_is6 {v0 v1 v2 v3 v4 v5 : Option ab_V} {w : Option ab_V} (h : ab_at m pc (.istore 6) 2 q) (k : wp L d m q (v0 :: v1 :: v2 :: v3 :: v4 :: v5 :: some (.inl z) :: l) st M Q) : wp L d m pc (v0 :: v1 :: v2 :: v3 :: v4 :: v5 :: w :: l) (.inl z :: st) M Q := by
  obtain ⟨hd, rfl⟩ := h
  exact wp_ps hd (by first | rfl | simp [ab_ps, ab_i1]) k
theorem wp_as6 {v0 v1 v2 v3 v4 v5 : Option ab_V} {w : Option ab_V} (h : ab_at m pc (.astore 6) 2 q) (k : wp L d m q (v0 :: v1 :: v2 :: v3 :: v4 :: v5 :: some (.inr a) :: l) st M Q) : wp L d m pc (v0 :: v1 :: v2 :: v3 :: v4 :: v5 :: w :: l) (.inr a :: st) M Q := by
  obtain ⟨hd, rfl⟩ := h
  exact wp_ps hd (by first | rfl | simp [ab_ps, ab_r1]) k
theorem wp_ii6 {v0 v1 v2 v3 v4 v5 : Option ab_V} (h : ab_at m pc (.iinc 6 y) 3 q) (hz : -2147483648 ≤ z + y ∧ z + y < 2147483648) (k : wp L d m q (v0 :: v1 :: v2 :: v3 :: v4 :: v5 :: some (.inl (z + y)) :: l) st M Q) : wp L d m pc (v0 :: v1 :: v2 :: v3 :: v4 :: v5 :: some (.inl z) :: l) st M Q := by
  have e := ab_add_eq hz
  obtain ⟨hd, rfl⟩ := h
  exact wp_ps hd (by simp [ab_ps, ab_ldi, e]) k
theorem wp_il7 {v0 v1 v2 v3 v4 v5 v6 : Option ab_V} (h : ab_at m pc (.iload 7) 2 q) (k : wp L d m q (v0 :: v1 :: v2 :: v3 :: v4 :: v5 :: v6 :: some (.inl z) :: l) (.inl z :: st) M Q) : wp L d m pc (v0 :: v1 :: v2 :: v3 :: v4 :: v5 :: v6 :: some (.inl z) :: l) st M Q := by
  obtain ⟨hd, rfl⟩ := h
  exact wp_ps hd (by first | rfl | simp [ab_ps, ab_ldi]) k
theorem wp_al7 {v0 v1 v2 v3 v4 v5 v6 : Option ab_V} (h : ab_at m pc (.aload 7) 2 q) (k : wp L d m q (v0 :: v1 :: v2 :: v3 :: v4 :: v5 :: v6 :: some (.inr a) :: l) (.inr a :: st) M Q) : wp L d m pc (v0 :: v1 :: v2 :: v3 :: v4 :: v5 :: v6 :: some (.inr a) :: l) st M Q := by
  obtain ⟨hd, rfl⟩ := h
  exact wp_ps hd (by first | rfl | simp [ab_ps, ab_ldr]) k
theorem wp_is7 {v0 v1 v2 v3 v4 v5 v6 : Option ab_V} {w : Option ab_V} (h : ab_at m pc (.istore 7) 2 q) (k : wp L d m q (v0 :: v1 :: v2 :: v3 :: v4 :: v5 :: v6 :: some (.inl z) :: l) st M Q) : wp L d m pc (v0 :: v1 :: v2 :: v3 :: v4 :: v5 :: v6 :: w :: l) (.inl z :: st) M Q := by
  obtain ⟨hd, rfl⟩ := h
  exact wp_ps hd (by first | rfl | simp [ab_ps, ab_i1]) k
theorem wp_as7 {v0 v1 v2 v3 v4 v5 v6 : Option ab_V} {w : Option ab_V} (h : ab_at m pc (.astore 7) 2 q) (k : wp L d m q (v0 :: v1 :: v2 :: v3 :: v4 :: v5 :: v6 :: some (.inr a) :: l) st M Q) : wp L d m pc (v0 :: v1 :: v2 :: v3 :: v4 :: v5 :: v6 :: w :: l) (.inr a :: st) M Q := by
  obtain ⟨hd, rfl⟩ := h
  exact wp_ps hd (by first | rfl | simp [ab_ps, ab_r1]) k
theorem wp_ii7 {v0 v1 v2 v3 v4 v5 v6 : Option ab_V} (h : ab_at m pc (.iinc 7 y) 3 q) (hz : -2147483648 ≤ z + y ∧ z + y < 2147483648) (k : wp L d m q (v0 :: v1 :: v2 :: v3 :: v4 :: v5 :: v6 :: some (.inl (z + y)) :: l) st M Q) : wp L d m pc (v0 :: v1 :: v2 :: v3 :: v4 :: v5 :: v6 :: some (.inl z) :: l) st M Q := by
  have e := ab_add_eq hz
  obtain ⟨hd, rfl⟩ := h
  exact wp_ps hd (by simp [ab_ps, ab_ldi, e]) k
theorem wp_il8 {v0 v1 v2 v3 v4 v5 v6 v7 : Option ab_V} (h : ab_at m pc (.iload 8) 2 q) (k : wp L d m q (v0 :: v1 :: v2 :: v3 :: v4 :: v5 :: v6 :: v7 :: some (.inl z) :: l) (.inl z :: st) M Q) : wp L d m pc (v0 :: v1 :: v2 :: v3 :: v4 :: v5 :: v6 :: v7 :: some (.inl z) :: l) st M Q := by
  obtain ⟨hd, rfl⟩ := h
  exact wp_ps hd (by first | rfl | simp [ab_ps, ab_ldi]) k
theorem wp_al8 {v0 v1 v2 v3 v4 v5 v6 v7 : Option ab_V} (h : ab_at m pc (.aload 8) 2 q) (k : wp L d m q (v0 :: v1 :: v2 :: v3 :: v4 :: v5 :: v6 :: v7 :: some (.inr a) :: l) (.inr a :: st) M Q) : wp L d m pc (v0 :: v1 :: v2 :: v3 :: v4 :: v5 :: v6 :: v7 :: some (.inr a) :: l) st M Q := by
  obtain ⟨hd, rfl⟩ := h
  exact wp_ps hd (by first | rfl | simp [ab_ps, ab_ldr]) k
theorem wp_is8 {v0 v1 v2 v3 v4 v5 v6 v7 : Option ab_V} {w : Option ab_V} (h : ab_at m pc (.istore 8) 2 q) (k : wp L d m q (v0 :: v1 :: v2 :: v3 :: v4 :: v5 :: v6 :: v7 :: some (.inl z) :: l) st M Q) : wp L d m pc (v0 :: v1 :: v2 :: v3 :: v4 :: v5 :: v6 :: v7 :: w :: l) (.inl z :: st) M Q := by
  obtain ⟨hd, rfl⟩ := h
  exact wp_ps hd (by first | rfl | simp [ab_ps, ab_i1]) k
theorem wp_as8 {v0 v1 v2 v3 v4 v5 v6 v7 : Option ab_V} {w : Option ab_V} (h : ab_at m pc (.astore 8) 2 q) (k : wp L d m q (v0 :: v1 :: v2 :: v3 :: v4 :: v5 :: v6 :: v7 :: some (.inr a) :: l) st M Q) : wp L d m pc (v0 :: v1 :: v2 :: v3 :: v4 :: v5 :: v6 :: v7 :: w :: l) (.inr a :: st) M Q := by
  obtain ⟨hd, rfl⟩ := h
  exact wp_ps hd (by first | rfl | simp [ab_ps, ab_r1]) k
theorem wp_ii8 {v0 v1 v2 v3 v4 v5 v6 v7 : Option ab_V} (h : ab_at m pc (.iinc 8 y) 3 q) (hz : -2147483648 ≤ z + y ∧ z + y < 2147483648) (k : wp L d m q (v0 :: v1 :: v2 :: v3 :: v4 :: v5 :: v6 :: v7 :: some (.inl (z + y)) :: l) st M Q) : wp L d m pc (v0 :: v1 :: v2 :: v3 :: v4 :: v5 :: v6 :: v7 :: some (.inl z) :: l) st M Q := by
  have e := ab_add_eq hz
  obtain ⟨hd, rfl⟩ := h
  exact wp_ps hd (by simp [ab_ps, ab_ldi, e]) k
theorem wp_v0f {ix ci : Nat} {refs : List Nat} {m1 : ab_M} {d1 : Nat} (h : ab_at m pc (.invokevirtual ix) 3 q) (hl : ab_lV m.1.cls ix m1 ci) (ha : (LAY L)[a]? = some (.inl (ci, refs))) (hn : ([.inr a] : List ab_V).length = m1.2.2.2.2) (hrest : Nat.ble st.length 8 = true) (hd1 : Nat.ble d1 d = true) {v : Int} (hc : cF L d1 m1 [.inr a] M v) (k : wp L d m q ls (.inl v :: st) M Q) : wp L d m pc ls (.inr a :: st) M Q := wp_iv (as := [.inr a]) h (Or.inl ⟨ix, ci, a, [], refs, rfl, rfl, hl, rfl, ha⟩) hn hrest hd1  hc k
theorem wp_v0g {ix ci : Nat} {refs : List Nat} {m1 : ab_M} {d1 : Nat} (h : ab_at m pc (.invokevirtual ix) 3 q) (hl : ab_lV m.1.cls ix m1 ci) (ha : (LAY L)[a]? = some (.inl (ci, refs))) (hn : ([.inr a] : List ab_V).length = m1.2.2.2.2) (hrest : Nat.ble st.length 8 = true) (hd1 : Nat.ble d1 d = true) {v : Int} {M1 : ab_Me} (hc : cG L d1 m1 [.inr a] M v M1) (k : wp L d m q ls (.inl v :: st) M1 Q) : wp L d m pc ls (.inr a :: st) M Q := wp_iv (as := [.inr a]) h (Or.inl ⟨ix, ci, a, [], refs, rfl, rfl, hl, rfl, ha⟩) hn hrest hd1  hc k
theorem wp_v0v {ix ci : Nat} {refs : List Nat} {m1 : ab_M} {d1 : Nat} (h : ab_at m pc (.invokevirtual ix) 3 q) (hl : ab_lV m.1.cls ix m1 ci) (ha : (LAY L)[a]? = some (.inl (ci, refs))) (hn : ([.inr a] : List ab_V).length = m1.2.2.2.2) (hrest : Nat.ble st.length 8 = true) (hd1 : Nat.ble d1 d = true) {M1 : ab_Me} (hc : cV L d1 m1 [.inr a] M M1) (k : wp L d m q ls st M1 Q) : wp L d m pc ls (.inr a :: st) M Q := wp_iv (as := [.inr a]) h (Or.inl ⟨ix, ci, a, [], refs, rfl, rfl, hl, rfl, ha⟩) hn hrest hd1  hc k
theorem wp_v0x {ix ci : Nat} {refs : List Nat} {m1 : ab_M} {d1 : Nat} (h : ab_at m pc (.invokevirtual ix) 3 q) (hl : ab_lV m.1.cls ix m1 ci) (ha : (LAY L)[a]? = some (.inl (ci, refs))) (hn : ([.inr a] : List ab_V).length = m1.2.2.2.2) (hrest : Nat.ble st.length 8 = true) (hd1 : Nat.ble d1 d = true) {Q1 : Option ab_V → ab_Me → Prop} (hc : ct L d1 m1 [.inr a] M Q1) (k : ∀ r M1, Q1 r M1 → wp L d m q ls (r.toList ++ st) M1 Q) : wp L d m pc ls (.inr a :: st) M Q := by
  obtain ⟨r, M1, e1, e2⟩ := hc
  exact wp_iv (as := [.inr a]) h (Or.inl ⟨ix, ci, a, [], refs, rfl, rfl, hl, rfl, ha⟩) hn hrest hd1  e1 (k r M1 e2)
theorem wp_v1f {ix ci : Nat} {refs : List Nat} {m1 : ab_M} {d1 : Nat} {x1 : ab_V} (h : ab_at m pc (.invokevirtual ix) 3 q) (hl : ab_lV m.1.cls ix m1 ci) (ha : (LAY L)[a]? = some (.inl (ci, refs))) (hn : ([.inr a, x1] : List ab_V).length = m1.2.2.2.2) (hrest : Nat.ble st.length 8 = true) (hd1 : Nat.ble d1 d = true) {v : Int} (hc : cF L d1 m1 [.inr a, x1] M v) (k : wp L d m q ls (.inl v :: st) M Q) : wp L d m pc ls (x1 :: .inr a :: st) M Q := wp_iv (as := [.inr a, x1]) h (Or.inl ⟨ix, ci, a, [x1], refs, rfl, rfl, hl, rfl, ha⟩) hn hrest hd1  hc k
theorem wp_v1g {ix ci : Nat} {refs : List Nat} {m1 : ab_M} {d1 : Nat} {x1 : ab_V} (h : ab_at m pc (.invokevirtual ix) 3 q) (hl : ab_lV m.1.cls ix m1 ci) (ha : (LAY L)[a]? = some (.inl (ci, refs))) (hn : ([.inr a, x1] : List ab_V).length = m1.2.2.2.2) (hrest : Nat.ble st.length 8 = true) (hd1 : Nat.ble d1 d = true) {v : Int} {M1 : ab_Me} (hc : cG L d1 m1 [.inr a, x1] M v M1) (k : wp L d m q ls (.inl v :: st) M1 Q) : wp L d m pc ls (x1 :: .inr a :: st) M Q := wp_iv (as := [.inr a, x1]) h (Or.inl ⟨ix, ci, a, [x1], refs, rfl, rfl, hl, rfl, ha⟩) hn hrest hd1  hc k
theorem wp_v1v {ix ci : Nat} {refs : List Nat} {m1 : ab_M} {d1 : Nat} {x1 : ab_V} (h : ab_at m pc (.invokevirtual ix) 3 q) (hl : ab_lV m.1.cls ix m1 ci) (ha : (LAY L)[a]? = some (.inl (ci, refs))) (hn : ([.inr a, x1] : List ab_V).length = m1.2.2.2.2) (hrest : Nat.ble st.length 8 = true) (hd1 : Nat.ble d1 d = true) {M1 : ab_Me} (hc : cV L d1 m1 [.inr a, x1] M M1) (k : wp L d m q ls st M1 Q) : wp L d m pc ls (x1 :: .inr a :: st) M Q := wp_iv (as := [.inr a, x1]) h (Or.inl ⟨ix, ci, a, [x1], refs, rfl, rfl, hl, rfl, ha⟩) hn hrest hd1  hc k
theorem wp_v1x {ix ci : Nat} {refs : List Nat} {m1 : ab_M} {d1 : Nat} {x1 : ab_V} (h : ab_at m pc (.invokevirtual ix) 3 q) (hl : ab_lV m.1.cls ix m1 ci) (ha : (LAY L)[a]? = some (.inl (ci, refs))) (hn : ([.inr a, x1] : List ab_V).length = m1.2.2.2.2) (hrest : Nat.ble st.length 8 = true) (hd1 : Nat.ble d1 d = true) {Q1 : Option ab_V → ab_Me → Prop} (hc : ct L d1 m1 [.inr a, x1] M Q1) (k : ∀ r M1, Q1 r M1 → wp L d m q ls (r.toList ++ st) M1 Q) : wp L d m pc ls (x1 :: .inr a :: st) M Q := by
  obtain ⟨r, M1, e1, e2⟩ := hc
  exact wp_iv (as := [.inr a, x1]) h (Or.inl ⟨ix, ci, a, [x1], refs, rfl, rfl, hl, rfl, ha⟩) hn hrest hd1  e1 (k r M1 e2)
theorem wp_s1f {ix : Nat} {m1 : ab_M} {d1 : Nat} {x1 : ab_V} (h : ab_at m pc (.invokestatic ix) 3 q) (hl : ab_lS m.1.cls ix m1) (hn : ([x1] : List ab_V).length = m1.2.2.2.2) (hrest : Nat.ble st.length 8 = true) (hd1 : Nat.ble d1 d = true) {v : Int} (hc : cF L d1 m1 [x1] M v) (k : wp L d m q ls (.inl v :: st) M Q) : wp L d m pc ls (x1 :: st) M Q := wp_iv (as := [x1]) h (Or.inr (Or.inl ⟨ix, rfl, rfl, hl⟩)) hn hrest hd1  hc k
theorem wp_s1g {ix : Nat} {m1 : ab_M} {d1 : Nat} {x1 : ab_V} (h : ab_at m pc (.invokestatic ix) 3 q) (hl : ab_lS m.1.cls ix m1) (hn : ([x1] : List ab_V).length = m1.2.2.2.2) (hrest : Nat.ble st.length 8 = true) (hd1 : Nat.ble d1 d = true) {v : Int} {M1 : ab_Me} (hc : cG L d1 m1 [x1] M v M1) (k : wp L d m q ls (.inl v :: st) M1 Q) : wp L d m pc ls (x1 :: st) M Q := wp_iv (as := [x1]) h (Or.inr (Or.inl ⟨ix, rfl, rfl, hl⟩)) hn hrest hd1  hc k
theorem wp_s1v {ix : Nat} {m1 : ab_M} {d1 : Nat} {x1 : ab_V} (h : ab_at m pc (.invokestatic ix) 3 q) (hl : ab_lS m.1.cls ix m1) (hn : ([x1] : List ab_V).length = m1.2.2.2.2) (hrest : Nat.ble st.length 8 = true) (hd1 : Nat.ble d1 d = true) {M1 : ab_Me} (hc : cV L d1 m1 [x1] M M1) (k : wp L d m q ls st M1 Q) : wp L d m pc ls (x1 :: st) M Q := wp_iv (as := [x1]) h (Or.inr (Or.inl ⟨ix, rfl, rfl, hl⟩)) hn hrest hd1  hc k
theorem wp_s1x {ix : Nat} {m1 : ab_M} {d1 : Nat} {x1 : ab_V} (h : ab_at m pc (.invokestatic ix) 3 q) (hl : ab_lS m.1.cls ix m1) (hn : ([x1] : List ab_V).length = m1.2.2.2.2) (hrest : Nat.ble st.length 8 = true) (hd1 : Nat.ble d1 d = true) {Q1 : Option ab_V → ab_Me → Prop} (hc : ct L d1 m1 [x1] M Q1) (k : ∀ r M1, Q1 r M1 → wp L d m q ls (r.toList ++ st) M1 Q) : wp L d m pc ls (x1 :: st) M Q := by
  obtain ⟨r, M1, e1, e2⟩ := hc
  exact wp_iv (as := [x1]) h (Or.inr (Or.inl ⟨ix, rfl, rfl, hl⟩)) hn hrest hd1  e1 (k r M1 e2)
theorem wp_n1f {ix : Nat} {m1 : ab_M} {d1 : Nat} {x1 : ab_V} (h : ab_at m pc (.invokestatic ix) 3 q) (hl : ab_lN m.1.cls ix m1) (hn : ([x1] : List ab_V).length = m1.2.2.2.2) (hrest : Nat.ble st.length 8 = true) (hd1 : Nat.ble d1 d = true) {v : Int} (hc : cF L d1 m1 [x1] M v) (k : wp L d m q ls (.inl v :: st) M Q) : wp L d m pc ls (x1 :: st) M Q := wp_iv (as := [x1]) h (Or.inr (Or.inr (Or.inl ⟨ix, rfl, rfl, hl⟩))) hn hrest hd1  hc k
theorem wp_n1g {ix : Nat} {m1 : ab_M} {d1 : Nat} {x1 : ab_V} (h : ab_at m pc (.invokestatic ix) 3 q) (hl : ab_lN m.1.cls ix m1) (hn : ([x1] : List ab_V).length = m1.2.2.2.2) (hrest : Nat.ble st.length 8 = true) (hd1 : Nat.ble d1 d = true) {v : Int} {M1 : ab_Me} (hc : cG L d1 m1 [x1] M v M1) (k : wp L d m q ls (.inl v :: st) M1 Q) : wp L d m pc ls (x1 :: st) M Q := wp_iv (as := [x1]) h (Or.inr (Or.inr (Or.inl ⟨ix, rfl, rfl, hl⟩))) hn hrest hd1  hc k
theorem wp_n1v {ix : Nat} {m1 : ab_M} {d1 : Nat} {x1 : ab_V} (h : ab_at m pc (.invokestatic ix) 3 q) (hl : ab_lN m.1.cls ix m1) (hn : ([x1] : List ab_V).length = m1.2.2.2.2) (hrest : Nat.ble st.length 8 = true) (hd1 : Nat.ble d1 d = true) {M1 : ab_Me} (hc : cV L d1 m1 [x1] M M1) (k : wp L d m q ls st M1 Q) : wp L d m pc ls (x1 :: st) M Q := wp_iv (as := [x1]) h (Or.inr (Or.inr (Or.inl ⟨ix, rfl, rfl, hl⟩))) hn hrest hd1  hc k
theorem wp_n1x {ix : Nat} {m1 : ab_M} {d1 : Nat} {x1 : ab_V} (h : ab_at m pc (.invokestatic ix) 3 q) (hl : ab_lN m.1.cls ix m1) (hn : ([x1] : List ab_V).length = m1.2.2.2.2) (hrest : Nat.ble st.length 8 = true) (hd1 : Nat.ble d1 d = true) {Q1 : Option ab_V → ab_Me → Prop} (hc : ct L d1 m1 [x1] M Q1) (k : ∀ r M1, Q1 r M1 → wp L d m q ls (r.toList ++ st) M1 Q) : wp L d m pc ls (x1 :: st) M Q := by
  obtain ⟨r, M1, e1, e2⟩ := hc
  exact wp_iv (as := [x1]) h (Or.inr (Or.inr (Or.inl ⟨ix, rfl, rfl, hl⟩))) hn hrest hd1  e1 (k r M1 e2)
theorem wp_v2f {ix ci : Nat} {refs : List Nat} {m1 : ab_M} {d1 : Nat} {x1 x2 : ab_V} (h : ab_at m pc (.invokevirtual ix) 3 q) (hl : ab_lV m.1.cls ix m1 ci) (ha : (LAY L)[a]? = some (.inl (ci, refs))) (hn : ([.inr a, x1, x2] : List ab_V).length = m1.2.2.2.2) (hrest : Nat.ble st.length 8 = true) (hd1 : Nat.ble d1 d = true) {v : Int} (hc : cF L d1 m1 [.inr a, x1, x2] M v) (k : wp L d m q ls (.inl v :: st) M Q) : wp L d m pc ls (x2 :: x1 :: .inr a :: st) M Q := wp_iv (as := [.inr a, x1, x2]) h (Or.inl ⟨ix, ci, a, [x1, x2], refs, rfl, rfl, hl, rfl, ha⟩) hn hrest hd1  hc k
theorem wp_v2g {ix ci : Nat} {refs : List Nat} {m1 : ab_M} {d1 : Nat} {x1 x2 : ab_V} (h : ab_at m pc (.invokevirtual ix) 3 q) (hl : ab_lV m.1.cls ix m1 ci) (ha : (LAY L)[a]? = some (.inl (ci, refs))) (hn : ([.inr a, x1, x2] : List ab_V).length = m1.2.2.2.2) (hrest : Nat.ble st.length 8 = true) (hd1 : Nat.ble d1 d = true) {v : Int} {M1 : ab_Me} (hc : cG L d1 m1 [.inr a, x1, x2] M v M1) (k : wp L d m q ls (.inl v :: st) M1 Q) : wp L d m pc ls (x2 :: x1 :: .inr a :: st) M Q := wp_iv (as := [.inr a, x1, x2]) h (Or.inl ⟨ix, ci, a, [x1, x2], refs, rfl, rfl, hl, rfl, ha⟩) hn hrest hd1  hc k
theorem wp_v2v {ix ci : Nat} {refs : List Nat} {m1 : ab_M} {d1 : Nat} {x1 x2 : ab_V} (h : ab_at m pc (.invokevirtual ix) 3 q) (hl : ab_lV m.1.cls ix m1 ci) (ha : (LAY L)[a]? = some (.inl (ci, refs))) (hn : ([.inr a, x1, x2] : List ab_V).length = m1.2.2.2.2) (hrest : Nat.ble st.length 8 = true) (hd1 : Nat.ble d1 d = true) {M1 : ab_Me} (hc : cV L d1 m1 [.inr a, x1, x2] M M1) (k : wp L d m q ls st M1 Q) : wp L d m pc ls (x2 :: x1 :: .inr a :: st) M Q := wp_iv (as := [.inr a, x1, x2]) h (Or.inl ⟨ix, ci, a, [x1, x2], refs, rfl, rfl, hl, rfl, ha⟩) hn hrest hd1  hc k
theorem wp_v2x {ix ci : Nat} {refs : List Nat} {m1 : ab_M} {d1 : Nat} {x1 x2 : ab_V} (h : ab_at m pc (.invokevirtual ix) 3 q) (hl : ab_lV m.1.cls ix m1 ci) (ha : (LAY L)[a]? = some (.inl (ci, refs))) (hn : ([.inr a, x1, x2] : List ab_V).length = m1.2.2.2.2) (hrest : Nat.ble st.length 8 = true) (hd1 : Nat.ble d1 d = true) {Q1 : Option ab_V → ab_Me → Prop} (hc : ct L d1 m1 [.inr a, x1, x2] M Q1) (k : ∀ r M1, Q1 r M1 → wp L d m q ls (r.toList ++ st) M1 Q) : wp L d m pc ls (x2 :: x1 :: .inr a :: st) M Q := by
  obtain ⟨r, M1, e1, e2⟩ := hc
  exact wp_iv (as := [.inr a, x1, x2]) h (Or.inl ⟨ix, ci, a, [x1, x2], refs, rfl, rfl, hl, rfl, ha⟩) hn hrest hd1  e1 (k r M1 e2)
theorem wp_s2f {ix : Nat} {m1 : ab_M} {d1 : Nat} {x1 x2 : ab_V} (h : ab_at m pc (.invokestatic ix) 3 q) (hl : ab_lS m.1.cls ix m1) (hn : ([x1, x2] : List ab_V).length = m1.2.2.2.2) (hrest : Nat.ble st.length 8 = true) (hd1 : Nat.ble d1 d = true) {v : Int} (hc : cF L d1 m1 [x1, x2] M v) (k : wp L d m q ls (.inl v :: st) M Q) : wp L d m pc ls (x2 :: x1 :: st) M Q := wp_iv (as := [x1, x2]) h (Or.inr (Or.inl ⟨ix, rfl, rfl, hl⟩)) hn hrest hd1  hc k
theorem wp_s2g {ix : Nat} {m1 : ab_M} {d1 : Nat} {x1 x2 : ab_V} (h : ab_at m pc (.invokestatic ix) 3 q) (hl : ab_lS m.1.cls ix m1) (hn : ([x1, x2] : List ab_V).length = m1.2.2.2.2) (hrest : Nat.ble st.length 8 = true) (hd1 : Nat.ble d1 d = true) {v : Int} {M1 : ab_Me} (hc : cG L d1 m1 [x1, x2] M v M1) (k : wp L d m q ls (.inl v :: st) M1 Q) : wp L d m pc ls (x2 :: x1 :: st) M Q := wp_iv (as := [x1, x2]) h (Or.inr (Or.inl ⟨ix, rfl, rfl, hl⟩)) hn hrest hd1  hc k
theorem wp_s2v {ix : Nat} {m1 : ab_M} {d1 : Nat} {x1 x2 : ab_V} (h : ab_at m pc (.invokestatic ix) 3 q) (hl : ab_lS m.1.cls ix m1) (hn : ([x1, x2] : List ab_V).length = m1.2.2.2.2) (hrest : Nat.ble st.length 8 = true) (hd1 : Nat.ble d1 d = true) {M1 : ab_Me} (hc : cV L d1 m1 [x1, x2] M M1) (k : wp L d m q ls st M1 Q) : wp L d m pc ls (x2 :: x1 :: st) M Q := wp_iv (as := [x1, x2]) h (Or.inr (Or.inl ⟨ix, rfl, rfl, hl⟩)) hn hrest hd1  hc k
theorem wp_s2x {ix : Nat} {m1 : ab_M} {d1 : Nat} {x1 x2 : ab_V} (h : ab_at m pc (.invokestatic ix) 3 q) (hl : ab_lS m.1.cls ix m1) (hn : ([x1, x2] : List ab_V).length = m1.2.2.2.2) (hrest : Nat.ble st.length 8 = true) (hd1 : Nat.ble d1 d = true) {Q1 : Option ab_V → ab_Me → Prop} (hc : ct L d1 m1 [x1, x2] M Q1) (k : ∀ r M1, Q1 r M1 → wp L d m q ls (r.toList ++ st) M1 Q) : wp L d m pc ls (x2 :: x1 :: st) M Q := by
  obtain ⟨r, M1, e1, e2⟩ := hc
  exact wp_iv (as := [x1, x2]) h (Or.inr (Or.inl ⟨ix, rfl, rfl, hl⟩)) hn hrest hd1  e1 (k r M1 e2)
theorem wp_n2f {ix : Nat} {m1 : ab_M} {d1 : Nat} {x1 x2 : ab_V} (h : ab_at m pc (.invokestatic ix) 3 q) (hl : ab_lN m.1.cls ix m1) (hn : ([x1, x2] : List ab_V).length = m1.2.2.2.2) (hrest : Nat.ble st.length 8 = true) (hd1 : Nat.ble d1 d = true) {v : Int} (hc : cF L d1 m1 [x1, x2] M v) (k : wp L d m q ls (.inl v :: st) M Q) : wp L d m pc ls (x2 :: x1 :: st) M Q := wp_iv (as := [x1, x2]) h (Or.inr (Or.inr (Or.inl ⟨ix, rfl, rfl, hl⟩))) hn hrest hd1  hc k
theorem wp_n2g {ix : Nat} {m1 : ab_M} {d1 : Nat} {x1 x2 : ab_V} (h : ab_at m pc (.invokestatic ix) 3 q) (hl : ab_lN m.1.cls ix m1) (hn : ([x1, x2] : List ab_V).length = m1.2.2.2.2) (hrest : Nat.ble st.length 8 = true) (hd1 : Nat.ble d1 d = true) {v : Int} {M1 : ab_Me} (hc : cG L d1 m1 [x1, x2] M v M1) (k : wp L d m q ls (.inl v :: st) M1 Q) : wp L d m pc ls (x2 :: x1 :: st) M Q := wp_iv (as := [x1, x2]) h (Or.inr (Or.inr (Or.inl ⟨ix, rfl, rfl, hl⟩))) hn hrest hd1  hc k
theorem wp_n2v {ix : Nat} {m1 : ab_M} {d1 : Nat} {x1 x2 : ab_V} (h : ab_at m pc (.invokestatic ix) 3 q) (hl : ab_lN m.1.cls ix m1) (hn : ([x1, x2] : List ab_V).length = m1.2.2.2.2) (hrest : Nat.ble st.length 8 = true) (hd1 : Nat.ble d1 d = true) {M1 : ab_Me} (hc : cV L d1 m1 [x1, x2] M M1) (k : wp L d m q ls st M1 Q) : wp L d m pc ls (x2 :: x1 :: st) M Q := wp_iv (as := [x1, x2]) h (Or.inr (Or.inr (Or.inl ⟨ix, rfl, rfl, hl⟩))) hn hrest hd1  hc k
theorem wp_n2x {ix : Nat} {m1 : ab_M} {d1 : Nat} {x1 x2 : ab_V} (h : ab_at m pc (.invokestatic ix) 3 q) (hl : ab_lN m.1.cls ix m1) (hn : ([x1, x2] : List ab_V).length = m1.2.2.2.2) (hrest : Nat.ble st.length 8 = true) (hd1 : Nat.ble d1 d = true) {Q1 : Option ab_V → ab_Me → Prop} (hc : ct L d1 m1 [x1, x2] M Q1) (k : ∀ r M1, Q1 r M1 → wp L d m q ls (r.toList ++ st) M1 Q) : wp L d m pc ls (x2 :: x1 :: st) M Q := by
  obtain ⟨r, M1, e1, e2⟩ := hc
  exact wp_iv (as := [x1, x2]) h (Or.inr (Or.inr (Or.inl ⟨ix, rfl, rfl, hl⟩))) hn hrest hd1  e1 (k r M1 e2)
theorem wp_v3f {ix ci : Nat} {refs : List Nat} {m1 : ab_M} {d1 : Nat} {x1 x2 x3 : ab_V} (h : ab_at m pc (.invokevirtual ix) 3 q) (hl : ab_lV m.1.cls ix m1 ci) (ha : (LAY L)[a]? = some (.inl (ci, refs))) (hn : ([.inr a, x1, x2, x3] : List ab_V).length = m1.2.2.2.2) (hrest : Nat.ble st.length 8 = true) (hd1 : Nat.ble d1 d = true) {v : Int} (hc : cF L d1 m1 [.inr a, x1, x2, x3] M v) (k : wp L d m q ls (.inl v :: st) M Q) : wp L d m pc ls (x3 :: x2 :: x1 :: .inr a :: st) M Q := wp_iv (as := [.inr a, x1, x2, x3]) h (Or.inl ⟨ix, ci, a, [x1, x2, x3], refs, rfl, rfl, hl, rfl, ha⟩) hn hrest hd1  hc k
theorem wp_v3g {ix ci : Nat} {refs : List Nat} {m1 : ab_M} {d1 : Nat} {x1 x2 x3 : ab_V} (h : ab_at m pc (.invokevirtual ix) 3 q) (hl : ab_lV m.1.cls ix m1 ci) (ha : (LAY L)[a]? = some (.inl (ci, refs))) (hn : ([.inr a, x1, x2, x3] : List ab_V).length = m1.2.2.2.2) (hrest : Nat.ble st.length 8 = true) (hd1 : Nat.ble d1 d = true) {v : Int} {M1 : ab_Me} (hc : cG L d1 m1 [.inr a, x1, x2, x3] M v M1) (k : wp L d m q ls (.inl v :: st) M1 Q) : wp L d m pc ls (x3 :: x2 :: x1 :: .inr a :: st) M Q := wp_iv (as := [.inr a, x1, x2, x3]) h (Or.inl ⟨ix, ci, a, [x1, x2, x3], refs, rfl, rfl, hl, rfl, ha⟩) hn hrest hd1  hc k
theorem wp_v3v {ix ci : Nat} {refs : List Nat} {m1 : ab_M} {d1 : Nat} {x1 x2 x3 : ab_V} (h : ab_at m pc (.invokevirtual ix) 3 q) (hl : ab_lV m.1.cls ix m1 ci) (ha : (LAY L)[a]? = some (.inl (ci, refs))) (hn : ([.inr a, x1, x2, x3] : List ab_V).length = m1.2.2.2.2) (hrest : Nat.ble st.length 8 = true) (hd1 : Nat.ble d1 d = true) {M1 : ab_Me} (hc : cV L d1 m1 [.inr a, x1, x2, x3] M M1) (k : wp L d m q ls st M1 Q) : wp L d m pc ls (x3 :: x2 :: x1 :: .inr a :: st) M Q := wp_iv (as := [.inr a, x1, x2, x3]) h (Or.inl ⟨ix, ci, a, [x1, x2, x3], refs, rfl, rfl, hl, rfl, ha⟩) hn hrest hd1  hc k
theorem wp_v3x {ix ci : Nat} {refs : List Nat} {m1 : ab_M} {d1 : Nat} {x1 x2 x3 : ab_V} (h : ab_at m pc (.invokevirtual ix) 3 q) (hl : ab_lV m.1.cls ix m1 ci) (ha : (LAY L)[a]? = some (.inl (ci, refs))) (hn : ([.inr a, x1, x2, x3] : List ab_V).length = m1.2.2.2.2) (hrest : Nat.ble st.length 8 = true) (hd1 : Nat.ble d1 d = true) {Q1 : Option ab_V → ab_Me → Prop} (hc : ct L d1 m1 [.inr a, x1, x2, x3] M Q1) (k : ∀ r M1, Q1 r M1 → wp L d m q ls (r.toList ++ st) M1 Q) : wp L d m pc ls (x3 :: x2 :: x1 :: .inr a :: st) M Q := by
  obtain ⟨r, M1, e1, e2⟩ := hc
  exact wp_iv (as := [.inr a, x1, x2, x3]) h (Or.inl ⟨ix, ci, a, [x1, x2, x3], refs, rfl, rfl, hl, rfl, ha⟩) hn hrest hd1  e1 (k r M1 e2)
theorem wp_s3f {ix : Nat} {m1 : ab_M} {d1 : Nat} {x1 x2 x3 : ab_V} (h : ab_at m pc (.invokestatic ix) 3 q) (hl : ab_lS m.1.cls ix m1) (hn : ([x1, x2, x3] : List ab_V).length = m1.2.2.2.2) (hrest : Nat.ble st.length 8 = true) (hd1 : Nat.ble d1 d = true) {v : Int} (hc : cF L d1 m1 [x1, x2, x3] M v) (k : wp L d m q ls (.inl v :: st) M Q) : wp L d m pc ls (x3 :: x2 :: x1 :: st) M Q := wp_iv (as := [x1, x2, x3]) h (Or.inr (Or.inl ⟨ix, rfl, rfl, hl⟩)) hn hrest hd1  hc k
theorem wp_s3g {ix : Nat} {m1 : ab_M} {d1 : Nat} {x1 x2 x3 : ab_V} (h : ab_at m pc (.invokestatic ix) 3 q) (hl : ab_lS m.1.cls ix m1) (hn : ([x1, x2, x3] : List ab_V).length = m1.2.2.2.2) (hrest : Nat.ble st.length 8 = true) (hd1 : Nat.ble d1 d = true) {v : Int} {M1 : ab_Me} (hc : cG L d1 m1 [x1, x2, x3] M v M1) (k : wp L d m q ls (.inl v :: st) M1 Q) : wp L d m pc ls (x3 :: x2 :: x1 :: st) M Q := wp_iv (as := [x1, x2, x3]) h (Or.inr (Or.inl ⟨ix, rfl, rfl, hl⟩)) hn hrest hd1  hc k
theorem wp_s3v {ix : Nat} {m1 : ab_M} {d1 : Nat} {x1 x2 x3 : ab_V} (h : ab_at m pc (.invokestatic ix) 3 q) (hl : ab_lS m.1.cls ix m1) (hn : ([x1, x2, x3] : List ab_V).length = m1.2.2.2.2) (hrest : Nat.ble st.length 8 = true) (hd1 : Nat.ble d1 d = true) {M1 : ab_Me} (hc : cV L d1 m1 [x1, x2, x3] M M1) (k : wp L d m q ls st M1 Q) : wp L d m pc ls (x3 :: x2 :: x1 :: st) M Q := wp_iv (as := [x1, x2, x3]) h (Or.inr (Or.inl ⟨ix, rfl, rfl, hl⟩)) hn hrest hd1  hc k
theorem wp_s3x {ix : Nat} {m1 : ab_M} {d1 : Nat} {x1 x2 x3 : ab_V} (h : ab_at m pc (.invokestatic ix) 3 q) (hl : ab_lS m.1.cls ix m1) (hn : ([x1, x2, x3] : List ab_V).length = m1.2.2.2.2) (hrest : Nat.ble st.length 8 = true) (hd1 : Nat.ble d1 d = true) {Q1 : Option ab_V → ab_Me → Prop} (hc : ct L d1 m1 [x1, x2, x3] M Q1) (k : ∀ r M1, Q1 r M1 → wp L d m q ls (r.toList ++ st) M1 Q) : wp L d m pc ls (x3 :: x2 :: x1 :: st) M Q := by
  obtain ⟨r, M1, e1, e2⟩ := hc
  exact wp_iv (as := [x1, x2, x3]) h (Or.inr (Or.inl ⟨ix, rfl, rfl, hl⟩)) hn hrest hd1  e1 (k r M1 e2)
theorem wp_n3f {ix : Nat} {m1 : ab_M} {d1 : Nat} {x1 x2 x3 : ab_V} (h : ab_at m pc (.invokestatic ix) 3 q) (hl : ab_lN m.1.cls ix m1) (hn : ([x1, x2, x3] : List ab_V).length = m1.2.2.2.2) (hrest : Nat.ble st.length 8 = true) (hd1 : Nat.ble d1 d = true) {v : Int} (hc : cF L d1 m1 [x1, x2, x3] M v) (k : wp L d m q ls (.inl v :: st) M Q) : wp L d m pc ls (x3 :: x2 :: x1 :: st) M Q := wp_iv (as := [x1, x2, x3]) h (Or.inr (Or.inr (Or.inl ⟨ix, rfl, rfl, hl⟩))) hn hrest hd1  hc k
theorem wp_n3g {ix : Nat} {m1 : ab_M} {d1 : Nat} {x1 x2 x3 : ab_V} (h : ab_at m pc (.invokestatic ix) 3 q) (hl : ab_lN m.1.cls ix m1) (hn : ([x1, x2, x3] : List ab_V).length = m1.2.2.2.2) (hrest : Nat.ble st.length 8 = true) (hd1 : Nat.ble d1 d = true) {v : Int} {M1 : ab_Me} (hc : cG L d1 m1 [x1, x2, x3] M v M1) (k : wp L d m q ls (.inl v :: st) M1 Q) : wp L d m pc ls (x3 :: x2 :: x1 :: st) M Q := wp_iv (as := [x1, x2, x3]) h (Or.inr (Or.inr (Or.inl ⟨ix, rfl, rfl, hl⟩))) hn hrest hd1  hc k
theorem wp_n3v {ix : Nat} {m1 : ab_M} {d1 : Nat} {x1 x2 x3 : ab_V} (h : ab_at m pc (.invokestatic ix) 3 q) (hl : ab_lN m.1.cls ix m1) (hn : ([x1, x2, x3] : List ab_V).length = m1.2.2.2.2) (hrest : Nat.ble st.length 8 = true) (hd1 : Nat.ble d1 d = true) {M1 : ab_Me} (hc : cV L d1 m1 [x1, x2, x3] M M1) (k : wp L d m q ls st M1 Q) : wp L d m pc ls (x3 :: x2 :: x1 :: st) M Q := wp_iv (as := [x1, x2, x3]) h (Or.inr (Or.inr (Or.inl ⟨ix, rfl, rfl, hl⟩))) hn hrest hd1  hc k
theorem wp_n3x {ix : Nat} {m1 : ab_M} {d1 : Nat} {x1 x2 x3 : ab_V} (h : ab_at m pc (.invokestatic ix) 3 q) (hl : ab_lN m.1.cls ix m1) (hn : ([x1, x2, x3] : List ab_V).length = m1.2.2.2.2) (hrest : Nat.ble st.length 8 = true) (hd1 : Nat.ble d1 d = true) {Q1 : Option ab_V → ab_Me → Prop} (hc : ct L d1 m1 [x1, x2, x3] M Q1) (k : ∀ r M1, Q1 r M1 → wp L d m q ls (r.toList ++ st) M1 Q) : wp L d m pc ls (x3 :: x2 :: x1 :: st) M Q := by
  obtain ⟨r, M1, e1, e2⟩ := hc
  exact wp_iv (as := [x1, x2, x3]) h (Or.inr (Or.inr (Or.inl ⟨ix, rfl, rfl, hl⟩))) hn hrest hd1  e1 (k r M1 e2)
theorem wp_v4f {ix ci : Nat} {refs : List Nat} {m1 : ab_M} {d1 : Nat} {x1 x2 x3 x4 : ab_V} (h : ab_at m pc (.invokevirtual ix) 3 q) (hl : ab_lV m.1.cls ix m1 ci) (ha : (LAY L)[a]? = some (.inl (ci, refs))) (hn : ([.inr a, x1, x2, x3, x4] : List ab_V).length = m1.2.2.2.2) (hrest : Nat.ble st.length 8 = true) (hd1 : Nat.ble d1 d = true) {v : Int} (hc : cF L d1 m1 [.inr a, x1, x2, x3, x4] M v) (k : wp L d m q ls (.inl v :: st) M Q) : wp L d m pc ls (x4 :: x3 :: x2 :: x1 :: .inr a :: st) M Q := wp_iv (as := [.inr a, x1, x2, x3, x4]) h (Or.inl ⟨ix, ci, a, [x1, x2, x3, x4], refs, rfl, rfl, hl, rfl, ha⟩) hn hrest hd1  hc k
theorem wp_v4g {ix ci : Nat} {refs : List Nat} {m1 : ab_M} {d1 : Nat} {x1 x2 x3 x4 : ab_V} (h : ab_at m pc (.invokevirtual ix) 3 q) (hl : ab_lV m.1.cls ix m1 ci) (ha : (LAY L)[a]? = some (.inl (ci, refs))) (hn : ([.inr a, x1, x2, x3, x4] : List ab_V).length = m1.2.2.2.2) (hrest : Nat.ble st.length 8 = true) (hd1 : Nat.ble d1 d = true) {v : Int} {M1 : ab_Me} (hc : cG L d1 m1 [.inr a, x1, x2, x3, x4] M v M1) (k : wp L d m q ls (.inl v :: st) M1 Q) : wp L d m pc ls (x4 :: x3 :: x2 :: x1 :: .inr a :: st) M Q := wp_iv (as := [.inr a, x1, x2, x3, x4]) h (Or.inl ⟨ix, ci, a, [x1, x2, x3, x4], refs, rfl, rfl, hl, rfl, ha⟩) hn hrest hd1  hc k
theorem wp_v4v {ix ci : Nat} {refs : List Nat} {m1 : ab_M} {d1 : Nat} {x1 x2 x3 x4 : ab_V} (h : ab_at m pc (.invokevirtual ix) 3 q) (hl : ab_lV m.1.cls ix m1 ci) (ha : (LAY L)[a]? = some (.inl (ci, refs))) (hn : ([.inr a, x1, x2, x3, x4] : List ab_V).length = m1.2.2.2.2) (hrest : Nat.ble st.length 8 = true) (hd1 : Nat.ble d1 d = true) {M1 : ab_Me} (hc : cV L d1 m1 [.inr a, x1, x2, x3, x4] M M1) (k : wp L d m q ls st M1 Q) : wp L d m pc ls (x4 :: x3 :: x2 :: x1 :: .inr a :: st) M Q := wp_iv (as := [.inr a, x1, x2, x3, x4]) h (Or.inl ⟨ix, ci, a, [x1, x2, x3, x4], refs, rfl, rfl, hl, rfl, ha⟩) hn hrest hd1  hc k
theorem wp_v4x {ix ci : Nat} {refs : List Nat} {m1 : ab_M} {d1 : Nat} {x1 x2 x3 x4 : ab_V} (h : ab_at m pc (.invokevirtual ix) 3 q) (hl : ab_lV m.1.cls ix m1 ci) (ha : (LAY L)[a]? = some (.inl (ci, refs))) (hn : ([.inr a, x1, x2, x3, x4] : List ab_V).length = m1.2.2.2.2) (hrest : Nat.ble st.length 8 = true) (hd1 : Nat.ble d1 d = true) {Q1 : Option ab_V → ab_Me → Prop} (hc : ct L d1 m1 [.inr a, x1, x2, x3, x4] M Q1) (k : ∀ r M1, Q1 r M1 → wp L d m q ls (r.toList ++ st) M1 Q) : wp L d m pc ls (x4 :: x3 :: x2 :: x1 :: .inr a :: st) M Q := by
  obtain ⟨r, M1, e1, e2⟩ := hc
  exact wp_iv (as := [.inr a, x1, x2, x3, x4]) h (Or.inl ⟨ix, ci, a, [x1, x2, x3, x4], refs, rfl, rfl, hl, rfl, ha⟩) hn hrest hd1  e1 (k r M1 e2)
theorem wp_s4f {ix : Nat} {m1 : ab_M} {d1 : Nat} {x1 x2 x3 x4 : ab_V} (h : ab_at m pc (.invokestatic ix) 3 q) (hl : ab_lS m.1.cls ix m1) (hn : ([x1, x2, x3, x4] : List ab_V).length = m1.2.2.2.2) (hrest : Nat.ble st.length 8 = true) (hd1 : Nat.ble d1 d = true) {v : Int} (hc : cF L d1 m1 [x1, x2, x3, x4] M v) (k : wp L d m q ls (.inl v :: st) M Q) : wp L d m pc ls (x4 :: x3 :: x2 :: x1 :: st) M Q := wp_iv (as := [x1, x2, x3, x4]) h (Or.inr (Or.inl ⟨ix, rfl, rfl, hl⟩)) hn hrest hd1  hc k
theorem wp_s4g {ix : Nat} {m1 : ab_M} {d1 : Nat} {x1 x2 x3 x4 : ab_V} (h : ab_at m pc (.invokestatic ix) 3 q) (hl : ab_lS m.1.cls ix m1) (hn : ([x1, x2, x3, x4] : List ab_V).length = m1.2.2.2.2) (hrest : Nat.ble st.length 8 = true) (hd1 : Nat.ble d1 d = true) {v : Int} {M1 : ab_Me} (hc : cG L d1 m1 [x1, x2, x3, x4] M v M1) (k : wp L d m q ls (.inl v :: st) M1 Q) : wp L d m pc ls (x4 :: x3 :: x2 :: x1 :: st) M Q := wp_iv (as := [x1, x2, x3, x4]) h (Or.inr (Or.inl ⟨ix, rfl, rfl, hl⟩)) hn hrest hd1  hc k
theorem wp_s4v {ix : Nat} {m1 : ab_M} {d1 : Nat} {x1 x2 x3 x4 : ab_V} (h : ab_at m pc (.invokestatic ix) 3 q) (hl : ab_lS m.1.cls ix m1) (hn : ([x1, x2, x3, x4] : List ab_V).length = m1.2.2.2.2) (hrest : Nat.ble st.length 8 = true) (hd1 : Nat.ble d1 d = true) {M1 : ab_Me} (hc : cV L d1 m1 [x1, x2, x3, x4] M M1) (k : wp L d m q ls st M1 Q) : wp L d m pc ls (x4 :: x3 :: x2 :: x1 :: st) M Q := wp_iv (as := [x1, x2, x3, x4]) h (Or.inr (Or.inl ⟨ix, rfl, rfl, hl⟩)) hn hrest hd1  hc k
theorem wp_s4x {ix : Nat} {m1 : ab_M} {d1 : Nat} {x1 x2 x3 x4 : ab_V} (h : ab_at m pc (.invokestatic ix) 3 q) (hl : ab_lS m.1.cls ix m1) (hn : ([x1, x2, x3, x4] : List ab_V).length = m1.2.2.2.2) (hrest : Nat.ble st.length 8 = true) (hd1 : Nat.ble d1 d = true) {Q1 : Option ab_V → ab_Me → Prop} (hc : ct L d1 m1 [x1, x2, x3, x4] M Q1) (k : ∀ r M1, Q1 r M1 → wp L d m q ls (r.toList ++ st) M1 Q) : wp L d m pc ls (x4 :: x3 :: x2 :: x1 :: st) M Q := by
  obtain ⟨r, M1, e1, e2⟩ := hc
  exact wp_iv (as := [x1, x2, x3, x4]) h (Or.inr (Or.inl ⟨ix, rfl, rfl, hl⟩)) hn hrest hd1  e1 (k r M1 e2)
theorem wp_n4f {ix : Nat} {m1 : ab_M} {d1 : Nat} {x1 x2 x3 x4 : ab_V} (h : ab_at m pc (.invokestatic ix) 3 q) (hl : ab_lN m.1.cls ix m1) (hn : ([x1, x2, x3, x4] : List ab_V).length = m1.2.2.2.2) (hrest : Nat.ble st.length 8 = true) (hd1 : Nat.ble d1 d = true) {v : Int} (hc : cF L d1 m1 [x1, x2, x3, x4] M v) (k : wp L d m q ls (.inl v :: st) M Q) : wp L d m pc ls (x4 :: x3 :: x2 :: x1 :: st) M Q := wp_iv (as := [x1, x2, x3, x4]) h (Or.inr (Or.inr (Or.inl ⟨ix, rfl, rfl, hl⟩))) hn hrest hd1  hc k
theorem wp_n4g {ix : Nat} {m1 : ab_M} {d1 : Nat} {x1 x2 x3 x4 : ab_V} (h : ab_at m pc (.invokestatic ix) 3 q) (hl : ab_lN m.1.cls ix m1) (hn : ([x1, x2, x3, x4] : List ab_V).length = m1.2.2.2.2) (hrest : Nat.ble st.length 8 = true) (hd1 : Nat.ble d1 d = true) {v : Int} {M1 : ab_Me} (hc : cG L d1 m1 [x1, x2, x3, x4] M v M1) (k : wp L d m q ls (.inl v :: st) M1 Q) : wp L d m pc ls (x4 :: x3 :: x2 :: x1 :: st) M Q := wp_iv (as := [x1, x2, x3, x4]) h (Or.inr (Or.inr (Or.inl ⟨ix, rfl, rfl, hl⟩))) hn hrest hd1  hc k
theorem wp_n4v {ix : Nat} {m1 : ab_M} {d1 : Nat} {x1 x2 x3 x4 : ab_V} (h : ab_at m pc (.invokestatic ix) 3 q) (hl : ab_lN m.1.cls ix m1) (hn : ([x1, x2, x3, x4] : List ab_V).length = m1.2.2.2.2) (hrest : Nat.ble st.length 8 = true) (hd1 : Nat.ble d1 d = true) {M1 : ab_Me} (hc : cV L d1 m1 [x1, x2, x3, x4] M M1) (k : wp L d m q ls st M1 Q) : wp L d m pc ls (x4 :: x3 :: x2 :: x1 :: st) M Q := wp_iv (as := [x1, x2, x3, x4]) h (Or.inr (Or.inr (Or.inl ⟨ix, rfl, rfl, hl⟩))) hn hrest hd1  hc k
theorem wp_n4x {ix : Nat} {m1 : ab_M} {d1 : Nat} {x1 x2 x3 x4 : ab_V} (h : ab_at m pc (.invokestatic ix) 3 q) (hl : ab_lN m.1.cls ix m1) (hn : ([x1, x2, x3, x4] : List ab_V).length = m1.2.2.2.2) (hrest : Nat.ble st.length 8 = true) (hd1 : Nat.ble d1 d = true) {Q1 : Option ab_V → ab_Me → Prop} (hc : ct L d1 m1 [x1, x2, x3, x4] M Q1) (k : ∀ r M1, Q1 r M1 → wp L d m q ls (r.toList ++ st) M1 Q) : wp L d m pc ls (x4 :: x3 :: x2 :: x1 :: st) M Q := by
  obtain ⟨r, M1, e1, e2⟩ := hc
  exact wp_iv (as := [x1, x2, x3, x4]) h (Or.inr (Or.inr (Or.inl ⟨ix, rfl, rfl, hl⟩))) hn hrest hd1  e1 (k r M1 e2)
theorem wp_v5f {ix ci : Nat} {refs : List Nat} {m1 : ab_M} {d1 : Nat} {x1 x2 x3 x4 x5 : ab_V} (h : ab_at m pc (.invokevirtual ix) 3 q) (hl : ab_lV m.1.cls ix m1 ci) (ha : (LAY L)[a]? = some (.inl (ci, refs))) (hn : ([.inr a, x1, x2, x3, x4, x5] : List ab_V).length = m1.2.2.2.2) (hrest : Nat.ble st.length 8 = true) (hd1 : Nat.ble d1 d = true) {v : Int} (hc : cF L d1 m1 [.inr a, x1, x2, x3, x4, x5] M v) (k : wp L d m q ls (.inl v :: st) M Q) : wp L d m pc ls (x5 :: x4 :: x3 :: x2 :: x1 :: .inr a :: st) M Q := wp_iv (as := [.inr a, x1, x2, x3, x4, x5]) h (Or.inl ⟨ix, ci, a, [x1, x2, x3, x4, x5], refs, rfl, rfl, hl, rfl, ha⟩) hn hrest hd1  hc k
theorem wp_v5g {ix ci : Nat} {refs : List Nat} {m1 : ab_M} {d1 : Nat} {x1 x2 x3 x4 x5 : ab_V} (h : ab_at m pc (.invokevirtual ix) 3 q) (hl : ab_lV m.1.cls ix m1 ci) (ha : (LAY L)[a]? = some (.inl (ci, refs))) (hn : ([.inr a, x1, x2, x3, x4, x5] : List ab_V).length = m1.2.2.2.2) (hrest : Nat.ble st.length 8 = true) (hd1 : Nat.ble d1 d = true) {v : Int} {M1 : ab_Me} (hc : cG L d1 m1 [.inr a, x1, x2, x3, x4, x5] M v M1) (k : wp L d m q ls (.inl v :: st) M1 Q) : wp L d m pc ls (x5 :: x4 :: x3 :: x2 :: x1 :: .inr a :: st) M Q := wp_iv (as := [.inr a, x1, x2, x3, x4, x5]) h (Or.inl ⟨ix, ci, a, [x1, x2, x3, x4, x5], refs, rfl, rfl, hl, rfl, ha⟩) hn hrest hd1  hc k
theorem wp_v5v {ix ci : Nat} {refs : List Nat} {m1 : ab_M} {d1 : Nat} {x1 x2 x3 x4 x5 : ab_V} (h : ab_at m pc (.invokevirtual ix) 3 q) (hl : ab_lV m.1.cls ix m1 ci) (ha : (LAY L)[a]? = some (.inl (ci, refs))) (hn : ([.inr a, x1, x2, x3, x4, x5] : List ab_V).length = m1.2.2.2.2) (hrest : Nat.ble st.length 8 = true) (hd1 : Nat.ble d1 d = true) {M1 : ab_Me} (hc : cV L d1 m1 [.inr a, x1, x2, x3, x4, x5] M M1) (k : wp L d m q ls st M1 Q) : wp L d m pc ls (x5 :: x4 :: x3 :: x2 :: x1 :: .inr a :: st) M Q := wp_iv (as := [.inr a, x1, x2, x3, x4, x5]) h (Or.inl ⟨ix, ci, a, [x1, x2, x3, x4, x5], refs, rfl, rfl, hl, rfl, ha⟩) hn hrest hd1  hc k
theorem wp_v5x {ix ci : Nat} {refs : List Nat} {m1 : ab_M} {d1 : Nat} {x1 x2 x3 x4 x5 : ab_V} (h : ab_at m pc (.invokevirtual ix) 3 q) (hl : ab_lV m.1.cls ix m1 ci) (ha : (LAY L)[a]? = some (.inl (ci, refs))) (hn : ([.inr a, x1, x2, x3, x4, x5] : List ab_V).length = m1.2.2.2.2) (hrest : Nat.ble st.length 8 = true) (hd1 : Nat.ble d1 d = true) {Q1 : Option ab_V → ab_Me → Prop} (hc : ct L d1 m1 [.inr a, x1, x2, x3, x4, x5] M Q1) (k : ∀ r M1, Q1 r M1 → wp L d m q ls (r.toList ++ st) M1 Q) : wp L d m pc ls (x5 :: x4 :: x3 :: x2 :: x1 :: .inr a :: st) M Q := by
  obtain ⟨r, M1, e1, e2⟩ := hc
  exact wp_iv (as := [.inr a, x1, x2, x3, x4, x5]) h (Or.inl ⟨ix, ci, a, [x1, x2, x3, x4, x5], refs, rfl, rfl, hl, rfl, ha⟩) hn hrest hd1  e1 (k r M1 e2)
theorem wp_s5f {ix : Nat} {m1 : ab_M} {d1 : Nat} {x1 x2 x3 x4 x5 : ab_V} (h : ab_at m pc (.invokestatic ix) 3 q) (hl : ab_lS m.1.cls ix m1) (hn : ([x1, x2, x3, x4, x5] : List ab_V).length = m1.2.2.2.2) (hrest : Nat.ble st.length 8 = true) (hd1 : Nat.ble d1 d = true) {v : Int} (hc : cF L d1 m1 [x1, x2, x3, x4, x5] M v) (k : wp L d m q ls (.inl v :: st) M Q) : wp L d m pc ls (x5 :: x4 :: x3 :: x2 :: x1 :: st) M Q := wp_iv (as := [x1, x2, x3, x4, x5]) h (Or.inr (Or.inl ⟨ix, rfl, rfl, hl⟩)) hn hrest hd1  hc k
theorem wp_s5g {ix : Nat} {m1 : ab_M} {d1 : Nat} {x1 x2 x3 x4 x5 : ab_V} (h : ab_at m pc (.invokestatic ix) 3 q) (hl : ab_lS m.1.cls ix m1) (hn : ([x1, x2, x3, x4, x5] : List ab_V).length = m1.2.2.2.2) (hrest : Nat.ble st.length 8 = true) (hd1 : Nat.ble d1 d = true) {v : Int} {M1 : ab_Me} (hc : cG L d1 m1 [x1, x2, x3, x4, x5] M v M1) (k : wp L d m q ls (.inl v :: st) M1 Q) : wp L d m pc ls (x5 :: x4 :: x3 :: x2 :: x1 :: st) M Q := wp_iv (as := [x1, x2, x3, x4, x5]) h (Or.inr (Or.inl ⟨ix, rfl, rfl, hl⟩)) hn hrest hd1  hc k
theorem wp_s5v {ix : Nat} {m1 : ab_M} {d1 : Nat} {x1 x2 x3 x4 x5 : ab_V} (h : ab_at m pc (.invokestatic ix) 3 q) (hl : ab_lS m.1.cls ix m1) (hn : ([x1, x2, x3, x4, x5] : List ab_V).length = m1.2.2.2.2) (hrest : Nat.ble st.length 8 = true) (hd1 : Nat.ble d1 d = true) {M1 : ab_Me} (hc : cV L d1 m1 [x1, x2, x3, x4, x5] M M1) (k : wp L d m q ls st M1 Q) : wp L d m pc ls (x5 :: x4 :: x3 :: x2 :: x1 :: st) M Q := wp_iv (as := [x1, x2, x3, x4, x5]) h (Or.inr (Or.inl ⟨ix, rfl, rfl, hl⟩)) hn hrest hd1  hc k
theorem wp_s5x {ix : Nat} {m1 : ab_M} {d1 : Nat} {x1 x2 x3 x4 x5 : ab_V} (h : ab_at m pc (.invokestatic ix) 3 q) (hl : ab_lS m.1.cls ix m1) (hn : ([x1, x2, x3, x4, x5] : List ab_V).length = m1.2.2.2.2) (hrest : Nat.ble st.length 8 = true) (hd1 : Nat.ble d1 d = true) {Q1 : Option ab_V → ab_Me → Prop} (hc : ct L d1 m1 [x1, x2, x3, x4, x5] M Q1) (k : ∀ r M1, Q1 r M1 → wp L d m q ls (r.toList ++ st) M1 Q) : wp L d m pc ls (x5 :: x4 :: x3 :: x2 :: x1 :: st) M Q := by
  obtain ⟨r, M1, e1, e2⟩ := hc
  exact wp_iv (as := [x1, x2, x3, x4, x5]) h (Or.inr (Or.inl ⟨ix, rfl, rfl, hl⟩)) hn hrest hd1  e1 (k r M1 e2)
theorem wp_n5f {ix : Nat} {m1 : ab_M} {d1 : Nat} {x1 x2 x3 x4 x5 : ab_V} (h : ab_at m pc (.invokestatic ix) 3 q) (hl : ab_lN m.1.cls ix m1) (hn : ([x1, x2, x3, x4, x5] : List ab_V).length = m1.2.2.2.2) (hrest : Nat.ble st.length 8 = true) (hd1 : Nat.ble d1 d = true) {v : Int} (hc : cF L d1 m1 [x1, x2, x3, x4, x5] M v) (k : wp L d m q ls (.inl v :: st) M Q) : wp L d m pc ls (x5 :: x4 :: x3 :: x2 :: x1 :: st) M Q := wp_iv (as := [x1, x2, x3, x4, x5]) h (Or.inr (Or.inr (Or.inl ⟨ix, rfl, rfl, hl⟩))) hn hrest hd1  hc k
theorem wp_n5g {ix : Nat} {m1 : ab_M} {d1 : Nat} {x1 x2 x3 x4 x5 : ab_V} (h : ab_at m pc (.invokestatic ix) 3 q) (hl : ab_lN m.1.cls ix m1) (hn : ([x1, x2, x3, x4, x5] : List ab_V).length = m1.2.2.2.2) (hrest : Nat.ble st.length 8 = true) (hd1 : Nat.ble d1 d = true) {v : Int} {M1 : ab_Me} (hc : cG L d1 m1 [x1, x2, x3, x4, x5] M v M1) (k : wp L d m q ls (.inl v :: st) M1 Q) : wp L d m pc ls (x5 :: x4 :: x3 :: x2 :: x1 :: st) M Q := wp_iv (as := [x1, x2, x3, x4, x5]) h (Or.inr (Or.inr (Or.inl ⟨ix, rfl, rfl, hl⟩))) hn hrest hd1  hc k
theorem wp_n5v {ix : Nat} {m1 : ab_M} {d1 : Nat} {x1 x2 x3 x4 x5 : ab_V} (h : ab_at m pc (.invokestatic ix) 3 q) (hl : ab_lN m.1.cls ix m1) (hn : ([x1, x2, x3, x4, x5] : List ab_V).length = m1.2.2.2.2) (hrest : Nat.ble st.length 8 = true) (hd1 : Nat.ble d1 d = true) {M1 : ab_Me} (hc : cV L d1 m1 [x1, x2, x3, x4, x5] M M1) (k : wp L d m q ls st M1 Q) : wp L d m pc ls (x5 :: x4 :: x3 :: x2 :: x1 :: st) M Q := wp_iv (as := [x1, x2, x3, x4, x5]) h (Or.inr (Or.inr (Or.inl ⟨ix, rfl, rfl, hl⟩))) hn hrest hd1  hc k
theorem wp_n5x {ix : Nat} {m1 : ab_M} {d1 : Nat} {x1 x2 x3 x4 x5 : ab_V} (h : ab_at m pc (.invokestatic ix) 3 q) (hl : ab_lN m.1.cls ix m1) (hn : ([x1, x2, x3, x4, x5] : List ab_V).length = m1.2.2.2.2) (hrest : Nat.ble st.length 8 = true) (hd1 : Nat.ble d1 d = true) {Q1 : Option ab_V → ab_Me → Prop} (hc : ct L d1 m1 [x1, x2, x3, x4, x5] M Q1) (k : ∀ r M1, Q1 r M1 → wp L d m q ls (r.toList ++ st) M1 Q) : wp L d m pc ls (x5 :: x4 :: x3 :: x2 :: x1 :: st) M Q := by
  obtain ⟨r, M1, e1, e2⟩ := hc
  exact wp_iv (as := [x1, x2, x3, x4, x5]) h (Or.inr (Or.inr (Or.inl ⟨ix, rfl, rfl, hl⟩))) hn hrest hd1  e1 (k r M1 e2)
theorem ct_of {as : List ab_V} (hn : Nat.ble as.length m.2.2.1 = true) (k : wp L d m 0 (ab_ent m as) [] M Q) : ct L (d + 1) m as M Q := by
  obtain ⟨n, r, M1, e1, e2⟩ := k
  exact ⟨r, M1, ⟨Nat.le_of_ble_eq_true hn, n, e1⟩, e2⟩
theorem cF_of {as : List ab_V} {v : Int} (hn : Nat.ble as.length m.2.2.1 = true) (k : wp L d m 0 (ab_ent m as) [] M (fun r M1 => r = some (.inl v) ∧ M1 = M)) : cF L (d + 1) m as M v := by
  obtain ⟨n, r, M1, e1, rfl, rfl⟩ := k
  exact ⟨Nat.le_of_ble_eq_true hn, n, e1⟩
theorem cG_of {as : List ab_V} {v : Int} {M1 : ab_Me} (hn : Nat.ble as.length m.2.2.1 = true) (k : wp L d m 0 (ab_ent m as) [] M (fun r M2 => r = some (.inl v) ∧ M2 = M1)) : cG L (d + 1) m as M v M1 := by
  obtain ⟨n, r, M1, e1, rfl, rfl⟩ := k
  exact ⟨Nat.le_of_ble_eq_true hn, n, e1⟩
theorem cV_of {as : List ab_V} {M1 : ab_Me} (hn : Nat.ble as.length m.2.2.1 = true) (k : wp L d m 0 (ab_ent m as) [] M (fun r M2 => r = none ∧ M2 = M1)) : cV L (d + 1) m as M M1 := by
  obtain ⟨n, r, M1, e1, rfl, rfl⟩ := k
  exact ⟨Nat.le_of_ble_eq_true hn, n, e1⟩
theorem wp_mono {Q1 : Option ab_V → ab_Me → Prop} (h : wp L d m pc ls st M Q1) (hq : ∀ r M1, Q1 r M1 → Q r M1) : wp L d m pc ls st M Q := by
  obtain ⟨n, r, M1, e1, e2⟩ := h
  exact ⟨n, r, M1, e1, hq r M1 e2⟩
theorem ct_mono {as : List ab_V} {Q1 : Option ab_V → ab_Me → Prop} (h : ct L d m as M Q1) (hq : ∀ r M1, Q1 r M1 → Q r M1) : ct L d m as M Q := by
  obtain ⟨r, M1, e1, e2⟩ := h
  exact ⟨r, M1, e1, hq r M1 e2⟩
end WpRules
theorem ab_up_self (M : ab_Me) (a k : Nat) (z : Int) : ab_up M a k z a = ab_u1 (M a) k z := by simp [ab_up]
theorem ab_up_ne (M : ab_Me) {a a' : Nat} (k : Nat) (z : Int) (h : a' ≠ a) : ab_up M a k z a' = M a' := by simp [ab_up, h]
theorem ab_u1_self (f : Nat → Int) (k : Nat) (z : Int) : ab_u1 f k z k = z := by simp [ab_u1]
theorem ab_u1_ne (f : Nat → Int) {k k' : Nat} (z : Int) (h : k' ≠ k) : ab_u1 f k z k' = f k' := by simp [ab_u1, h]
theorem ab_rw_self (M : ab_Me) (a : Nat) (f : Nat → Int) : ab_rw M a f a = f := by simp [ab_rw]
theorem ab_rw_ne (M : ab_Me) {a a' : Nat} (f : Nat → Int) (h : a' ≠ a) : ab_rw M a f a' = M a' := by simp [ab_rw, h]
end
section
theorem iX0_init_0 : ab_at mX0_init 0 (.aload_n 0) 1 1 := ⟨by decide +kernel, rfl⟩
theorem iX0_init_1 : ab_at mX0_init 1 (.invokespecial 3) 3 4 := ⟨by decide +kernel, rfl⟩
theorem iX0_init_4 : ab_at mX0_init 4 (.aload_n 0) 1 5 := ⟨by decide +kernel, rfl⟩
theorem iX0_init_5 : ab_at mX0_init 5 (.iconst 1) 1 6 := ⟨by decide +kernel, rfl⟩
theorem iX0_init_6 : ab_at mX0_init 6 (.putfield 9) 3 9 := ⟨by decide +kernel, rfl⟩
theorem iX0_init_9 : ab_at mX0_init 9 (.aload_n 0) 1 10 := ⟨by decide +kernel, rfl⟩
theorem iX0_init_10 : ab_at mX0_init 10 (.iconst 1) 1 11 := ⟨by decide +kernel, rfl⟩
theorem iX0_init_11 : ab_at mX0_init 11 (.putfield 15) 3 14 := ⟨by decide +kernel, rfl⟩
theorem iX0_init_14 : ab_at mX0_init 14 (.aload_n 0) 1 15 := ⟨by decide +kernel, rfl⟩
theorem iX0_init_15 : ab_at mX0_init 15 (.bipush 120) 2 17 := ⟨by decide +kernel, rfl⟩
theorem iX0_init_17 : ab_at mX0_init 17 (.newarray .int) 2 19 := ⟨by decide +kernel, rfl⟩
theorem iX0_init_19 : ab_at mX0_init 19 (.putfield 18) 3 22 := ⟨by decide +kernel, rfl⟩
theorem iX0_init_22 : ab_at mX0_init 22 (.return_) 1 23 := ⟨by decide +kernel, rfl⟩
theorem iX0_renew_0 : ab_at mX0_renew 0 (.aload_n 0) 1 1 := ⟨by decide +kernel, rfl⟩
theorem iX0_renew_1 : ab_at mX0_renew 1 (.iload_n 1) 1 2 := ⟨by decide +kernel, rfl⟩
theorem iX0_renew_2 : ab_at mX0_renew 2 (.putfield 9) 3 5 := ⟨by decide +kernel, rfl⟩
theorem iX0_renew_5 : ab_at mX0_renew 5 (.aload_n 0) 1 6 := ⟨by decide +kernel, rfl⟩
theorem iX0_renew_6 : ab_at mX0_renew 6 (.iload_n 2) 1 7 := ⟨by decide +kernel, rfl⟩
theorem iX0_renew_7 : ab_at mX0_renew 7 (.putfield 15) 3 10 := ⟨by decide +kernel, rfl⟩
theorem iX0_renew_10 : ab_at mX0_renew 10 (.aload_n 0) 1 11 := ⟨by decide +kernel, rfl⟩
theorem iX0_renew_11 : ab_at mX0_renew 11 (.getfield 18) 3 14 := ⟨by decide +kernel, rfl⟩
theorem iX0_renew_14 : ab_at mX0_renew 14 (.iconst 0) 1 15 := ⟨by decide +kernel, rfl⟩
theorem iX0_renew_15 : ab_at mX0_renew 15 (.invokestatic 22) 3 18 := ⟨by decide +kernel, rfl⟩
theorem iX0_renew_18 : ab_at mX0_renew 18 (.return_) 1 19 := ⟨by decide +kernel, rfl⟩
theorem iX0_copyFrom_0 : ab_at mX0_copyFrom 0 (.aload_n 0) 1 1 := ⟨by decide +kernel, rfl⟩
theorem iX0_copyFrom_1 : ab_at mX0_copyFrom 1 (.aload_n 1) 1 2 := ⟨by decide +kernel, rfl⟩
theorem iX0_copyFrom_2 : ab_at mX0_copyFrom 2 (.getfield 9) 3 5 := ⟨by decide +kernel, rfl⟩
theorem iX0_copyFrom_5 : ab_at mX0_copyFrom 5 (.putfield 9) 3 8 := ⟨by decide +kernel, rfl⟩
theorem iX0_copyFrom_8 : ab_at mX0_copyFrom 8 (.aload_n 0) 1 9 := ⟨by decide +kernel, rfl⟩
theorem iX0_copyFrom_9 : ab_at mX0_copyFrom 9 (.aload_n 1) 1 10 := ⟨by decide +kernel, rfl⟩
theorem iX0_copyFrom_10 : ab_at mX0_copyFrom 10 (.getfield 15) 3 13 := ⟨by decide +kernel, rfl⟩
theorem iX0_copyFrom_13 : ab_at mX0_copyFrom 13 (.putfield 15) 3 16 := ⟨by decide +kernel, rfl⟩
theorem iX0_copyFrom_16 : ab_at mX0_copyFrom 16 (.aload_n 1) 1 17 := ⟨by decide +kernel, rfl⟩
theorem iX0_copyFrom_17 : ab_at mX0_copyFrom 17 (.getfield 18) 3 20 := ⟨by decide +kernel, rfl⟩
theorem iX0_copyFrom_20 : ab_at mX0_copyFrom 20 (.iconst 0) 1 21 := ⟨by decide +kernel, rfl⟩
theorem iX0_copyFrom_21 : ab_at mX0_copyFrom 21 (.aload_n 0) 1 22 := ⟨by decide +kernel, rfl⟩
theorem iX0_copyFrom_22 : ab_at mX0_copyFrom 22 (.getfield 18) 3 25 := ⟨by decide +kernel, rfl⟩
theorem iX0_copyFrom_25 : ab_at mX0_copyFrom 25 (.iconst 0) 1 26 := ⟨by decide +kernel, rfl⟩
theorem iX0_copyFrom_26 : ab_at mX0_copyFrom 26 (.bipush 120) 2 28 := ⟨by decide +kernel, rfl⟩
theorem iX0_copyFrom_28 : ab_at mX0_copyFrom 28 (.invokestatic 28) 3 31 := ⟨by decide +kernel, rfl⟩
theorem iX0_copyFrom_31 : ab_at mX0_copyFrom 31 (.return_) 1 32 := ⟨by decide +kernel, rfl⟩
theorem iX0_hasSquare_0 : ab_at mX0_hasSquare 0 (.iload_n 1) 1 1 := ⟨by decide +kernel, rfl⟩
theorem iX0_hasSquare_1 : ab_at mX0_hasSquare 1 (.aload_n 0) 1 2 := ⟨by decide +kernel, rfl⟩
theorem iX0_hasSquare_2 : ab_at mX0_hasSquare 2 (.getfield 9) 3 5 := ⟨by decide +kernel, rfl⟩
theorem iX0_hasSquare_5 : ab_at mX0_hasSquare 5 (.invokestatic 34) 3 8 := ⟨by decide +kernel, rfl⟩
theorem iX0_hasSquare_8 : ab_bi mX0_hasSquare 8 .eq 11 26 := ⟨18, by decide +kernel, rfl, by decide⟩
theorem iX0_hasSquare_11 : ab_at mX0_hasSquare 11 (.iload_n 2) 1 12 := ⟨by decide +kernel, rfl⟩
theorem iX0_hasSquare_12 : ab_at mX0_hasSquare 12 (.aload_n 0) 1 13 := ⟨by decide +kernel, rfl⟩
theorem iX0_hasSquare_13 : ab_at mX0_hasSquare 13 (.getfield 15) 3 16 := ⟨by decide +kernel, rfl⟩
theorem iX0_hasSquare_16 : ab_at mX0_hasSquare 16 (.invokestatic 34) 3 19 := ⟨by decide +kernel, rfl⟩
theorem iX0_hasSquare_19 : ab_bi mX0_hasSquare 19 .eq 22 26 := ⟨7, by decide +kernel, rfl, by decide⟩
theorem iX0_hasSquare_22 : ab_at mX0_hasSquare 22 (.iconst 1) 1 23 := ⟨by decide +kernel, rfl⟩
theorem iX0_hasSquare_23 : ab_bg mX0_hasSquare 23 27 := ⟨4, by decide +kernel, by decide⟩
theorem iX0_hasSquare_26 : ab_at mX0_hasSquare 26 (.iconst 0) 1 27 := ⟨by decide +kernel, rfl⟩
theorem iX0_hasSquare_27 : ab_at mX0_hasSquare 27 (.ireturn) 1 28 := ⟨by decide +kernel, rfl⟩
theorem iX0_cellOfCartoon_0 : ab_at mX0_cellOfCartoon 0 (.aload_n 0) 1 1 := ⟨by decide +kernel, rfl⟩
theorem iX0_cellOfCartoon_1 : ab_at mX0_cellOfCartoon 1 (.getfield 9) 3 4 := ⟨by decide +kernel, rfl⟩
theorem iX0_cellOfCartoon_4 : ab_at mX0_cellOfCartoon 4 (.iconst 1) 1 5 := ⟨by decide +kernel, rfl⟩
theorem iX0_cellOfCartoon_5 : ab_at mX0_cellOfCartoon 5 (.isub) 1 6 := ⟨by decide +kernel, rfl⟩
theorem iX0_cellOfCartoon_6 : ab_at mX0_cellOfCartoon 6 (.iload_n 1) 1 7 := ⟨by decide +kernel, rfl⟩
theorem iX0_cellOfCartoon_7 : ab_at mX0_cellOfCartoon 7 (.isub) 1 8 := ⟨by decide +kernel, rfl⟩
theorem iX0_cellOfCartoon_8 : ab_at mX0_cellOfCartoon 8 (.iload_n 2) 1 9 := ⟨by decide +kernel, rfl⟩
theorem iX0_cellOfCartoon_9 : ab_at mX0_cellOfCartoon 9 (.invokestatic 38) 3 12 := ⟨by decide +kernel, rfl⟩
theorem iX0_cellOfCartoon_12 : ab_at mX0_cellOfCartoon 12 (.ireturn) 1 13 := ⟨by decide +kernel, rfl⟩
theorem iX0_colourAt_0 : ab_at mX0_colourAt 0 (.aload_n 0) 1 1 := ⟨by decide +kernel, rfl⟩
theorem iX0_colourAt_1 : ab_at mX0_colourAt 1 (.getfield 18) 3 4 := ⟨by decide +kernel, rfl⟩
theorem iX0_colourAt_4 : ab_at mX0_colourAt 4 (.iload_n 1) 1 5 := ⟨by decide +kernel, rfl⟩
theorem iX0_colourAt_5 : ab_at mX0_colourAt 5 (.iaload) 1 6 := ⟨by decide +kernel, rfl⟩
theorem iX0_colourAt_6 : ab_at mX0_colourAt 6 (.bipush 7) 2 8 := ⟨by decide +kernel, rfl⟩
theorem iX0_colourAt_8 : ab_at mX0_colourAt 8 (.iand) 1 9 := ⟨by decide +kernel, rfl⟩
theorem iX0_colourAt_9 : ab_at mX0_colourAt 9 (.ireturn) 1 10 := ⟨by decide +kernel, rfl⟩
theorem iX0_hasFace_0 : ab_at mX0_hasFace 0 (.aload_n 0) 1 1 := ⟨by decide +kernel, rfl⟩
theorem iX0_hasFace_1 : ab_at mX0_hasFace 1 (.getfield 18) 3 4 := ⟨by decide +kernel, rfl⟩
theorem iX0_hasFace_4 : ab_at mX0_hasFace 4 (.iload_n 1) 1 5 := ⟨by decide +kernel, rfl⟩
theorem iX0_hasFace_5 : ab_at mX0_hasFace 5 (.iaload) 1 6 := ⟨by decide +kernel, rfl⟩
theorem iX0_hasFace_6 : ab_at mX0_hasFace 6 (.bipush 8) 2 8 := ⟨by decide +kernel, rfl⟩
theorem iX0_hasFace_8 : ab_at mX0_hasFace 8 (.iand) 1 9 := ⟨by decide +kernel, rfl⟩
theorem iX0_hasFace_9 : ab_bi mX0_hasFace 9 .eq 12 16 := ⟨7, by decide +kernel, rfl, by decide⟩
theorem iX0_hasFace_12 : ab_at mX0_hasFace 12 (.iconst 1) 1 13 := ⟨by decide +kernel, rfl⟩
theorem iX0_hasFace_13 : ab_bg mX0_hasFace 13 17 := ⟨4, by decide +kernel, by decide⟩
theorem iX0_hasFace_16 : ab_at mX0_hasFace 16 (.iconst 0) 1 17 := ⟨by decide +kernel, rfl⟩
theorem iX0_hasFace_17 : ab_at mX0_hasFace 17 (.ireturn) 1 18 := ⟨by decide +kernel, rfl⟩
theorem iX0_workAt_0 : ab_at mX0_workAt 0 (.aload_n 0) 1 1 := ⟨by decide +kernel, rfl⟩
theorem iX0_workAt_1 : ab_at mX0_workAt 1 (.iload_n 1) 1 2 := ⟨by decide +kernel, rfl⟩
theorem iX0_workAt_2 : ab_at mX0_workAt 2 (.invokevirtual 42) 3 5 := ⟨by decide +kernel, rfl⟩
theorem iX0_workAt_5 : ab_bi mX0_workAt 5 .eq 8 12 := ⟨7, by decide +kernel, rfl, by decide⟩
theorem iX0_workAt_8 : ab_at mX0_workAt 8 (.iconst 3) 1 9 := ⟨by decide +kernel, rfl⟩
theorem iX0_workAt_9 : ab_bg mX0_workAt 9 13 := ⟨4, by decide +kernel, by decide⟩
theorem iX0_workAt_12 : ab_at mX0_workAt 12 (.iconst 1) 1 13 := ⟨by decide +kernel, rfl⟩
theorem iX0_workAt_13 : ab_at mX0_workAt 13 (.ireturn) 1 14 := ⟨by decide +kernel, rfl⟩
theorem iX0_dip_0 : ab_at mX0_dip 0 (.aload_n 0) 1 1 := ⟨by decide +kernel, rfl⟩
theorem iX0_dip_1 : ab_at mX0_dip 1 (.getfield 18) 3 4 := ⟨by decide +kernel, rfl⟩
theorem iX0_dip_4 : ab_at mX0_dip 4 (.iload_n 1) 1 5 := ⟨by decide +kernel, rfl⟩
theorem iX0_dip_5 : ab_at mX0_dip 5 (.aload_n 0) 1 6 := ⟨by decide +kernel, rfl⟩
theorem iX0_dip_6 : ab_at mX0_dip 6 (.getfield 18) 3 9 := ⟨by decide +kernel, rfl⟩
theorem iX0_dip_9 : ab_at mX0_dip 9 (.iload_n 1) 1 10 := ⟨by decide +kernel, rfl⟩
theorem iX0_dip_10 : ab_at mX0_dip 10 (.iaload) 1 11 := ⟨by decide +kernel, rfl⟩
theorem iX0_dip_11 : ab_at mX0_dip 11 (.bipush 8) 2 13 := ⟨by decide +kernel, rfl⟩
theorem iX0_dip_13 : ab_at mX0_dip 13 (.iand) 1 14 := ⟨by decide +kernel, rfl⟩
theorem iX0_dip_14 : ab_at mX0_dip 14 (.iload_n 2) 1 15 := ⟨by decide +kernel, rfl⟩
theorem iX0_dip_15 : ab_at mX0_dip 15 (.ior) 1 16 := ⟨by decide +kernel, rfl⟩
theorem iX0_dip_16 : ab_at mX0_dip 16 (.iastore) 1 17 := ⟨by decide +kernel, rfl⟩
theorem iX0_dip_17 : ab_at mX0_dip 17 (.return_) 1 18 := ⟨by decide +kernel, rfl⟩
theorem iX0_turnFace_0 : ab_at mX0_turnFace 0 (.aload_n 0) 1 1 := ⟨by decide +kernel, rfl⟩
theorem iX0_turnFace_1 : ab_at mX0_turnFace 1 (.getfield 18) 3 4 := ⟨by decide +kernel, rfl⟩
theorem iX0_turnFace_4 : ab_at mX0_turnFace 4 (.iload_n 1) 1 5 := ⟨by decide +kernel, rfl⟩
theorem iX0_turnFace_5 : ab_at mX0_turnFace 5 (.dup2) 1 6 := ⟨by decide +kernel, rfl⟩
theorem iX0_turnFace_6 : ab_at mX0_turnFace 6 (.iaload) 1 7 := ⟨by decide +kernel, rfl⟩
theorem iX0_turnFace_7 : ab_at mX0_turnFace 7 (.bipush 8) 2 9 := ⟨by decide +kernel, rfl⟩
theorem iX0_turnFace_9 : ab_at mX0_turnFace 9 (.ixor) 1 10 := ⟨by decide +kernel, rfl⟩
theorem iX0_turnFace_10 : ab_at mX0_turnFace 10 (.iastore) 1 11 := ⟨by decide +kernel, rfl⟩
theorem iX0_turnFace_11 : ab_at mX0_turnFace 11 (.return_) 1 12 := ⟨by decide +kernel, rfl⟩
theorem iX0_countFaces_0 : ab_at mX0_countFaces 0 (.iconst 0) 1 1 := ⟨by decide +kernel, rfl⟩
theorem iX0_countFaces_1 : ab_at mX0_countFaces 1 (.istore_n 1) 1 2 := ⟨by decide +kernel, rfl⟩
theorem iX0_countFaces_2 : ab_at mX0_countFaces 2 (.iconst 0) 1 3 := ⟨by decide +kernel, rfl⟩
theorem iX0_countFaces_3 : ab_at mX0_countFaces 3 (.istore_n 2) 1 4 := ⟨by decide +kernel, rfl⟩
theorem iX0_countFaces_4 : ab_at mX0_countFaces 4 (.iload_n 2) 1 5 := ⟨by decide +kernel, rfl⟩
theorem iX0_countFaces_5 : ab_at mX0_countFaces 5 (.aload_n 0) 1 6 := ⟨by decide +kernel, rfl⟩
theorem iX0_countFaces_6 : ab_at mX0_countFaces 6 (.getfield 9) 3 9 := ⟨by decide +kernel, rfl⟩
theorem iX0_countFaces_9 : ab_bc mX0_countFaces 9 .ge 12 26 := ⟨17, by decide +kernel, rfl, by decide⟩
theorem iX0_countFaces_12 : ab_at mX0_countFaces 12 (.iload_n 1) 1 13 := ⟨by decide +kernel, rfl⟩
theorem iX0_countFaces_13 : ab_at mX0_countFaces 13 (.aload_n 0) 1 14 := ⟨by decide +kernel, rfl⟩
theorem iX0_countFaces_14 : ab_at mX0_countFaces 14 (.iload_n 2) 1 15 := ⟨by decide +kernel, rfl⟩
theorem iX0_countFaces_15 : ab_at mX0_countFaces 15 (.invokevirtual 46) 3 18 := ⟨by decide +kernel, rfl⟩
theorem iX0_countFaces_18 : ab_at mX0_countFaces 18 (.iadd) 1 19 := ⟨by decide +kernel, rfl⟩
theorem iX0_countFaces_19 : ab_at mX0_countFaces 19 (.istore_n 1) 1 20 := ⟨by decide +kernel, rfl⟩
theorem iX0_countFaces_20 : ab_at mX0_countFaces 20 (.iinc 2 1) 3 23 := ⟨by decide +kernel, rfl⟩
theorem iX0_countFaces_23 : ab_bg mX0_countFaces 23 4 := ⟨-19, by decide +kernel, by decide⟩
theorem iX0_countFaces_26 : ab_at mX0_countFaces 26 (.iload_n 1) 1 27 := ⟨by decide +kernel, rfl⟩
theorem iX0_countFaces_27 : ab_at mX0_countFaces 27 (.ireturn) 1 28 := ⟨by decide +kernel, rfl⟩
theorem iX0_facesOfWarp_0 : ab_at mX0_facesOfWarp 0 (.iconst 0) 1 1 := ⟨by decide +kernel, rfl⟩
theorem iX0_facesOfWarp_1 : ab_at mX0_facesOfWarp 1 (.istore_n 2) 1 2 := ⟨by decide +kernel, rfl⟩
theorem iX0_facesOfWarp_2 : ab_at mX0_facesOfWarp 2 (.iconst 0) 1 3 := ⟨by decide +kernel, rfl⟩
theorem iX0_facesOfWarp_3 : ab_at mX0_facesOfWarp 3 (.istore_n 3) 1 4 := ⟨by decide +kernel, rfl⟩
theorem iX0_facesOfWarp_4 : ab_at mX0_facesOfWarp 4 (.iload_n 3) 1 5 := ⟨by decide +kernel, rfl⟩
theorem iX0_facesOfWarp_5 : ab_at mX0_facesOfWarp 5 (.aload_n 0) 1 6 := ⟨by decide +kernel, rfl⟩
theorem iX0_facesOfWarp_6 : ab_at mX0_facesOfWarp 6 (.getfield 15) 3 9 := ⟨by decide +kernel, rfl⟩
theorem iX0_facesOfWarp_9 : ab_bc mX0_facesOfWarp 9 .ge 12 33 := ⟨24, by decide +kernel, rfl, by decide⟩
theorem iX0_facesOfWarp_12 : ab_at mX0_facesOfWarp 12 (.aload_n 0) 1 13 := ⟨by decide +kernel, rfl⟩
theorem iX0_facesOfWarp_13 : ab_at mX0_facesOfWarp 13 (.iload_n 1) 1 14 := ⟨by decide +kernel, rfl⟩
theorem iX0_facesOfWarp_14 : ab_at mX0_facesOfWarp 14 (.iload_n 3) 1 15 := ⟨by decide +kernel, rfl⟩
theorem iX0_facesOfWarp_15 : ab_at mX0_facesOfWarp 15 (.invokestatic 38) 3 18 := ⟨by decide +kernel, rfl⟩
theorem iX0_facesOfWarp_18 : ab_at mX0_facesOfWarp 18 (.invokevirtual 42) 3 21 := ⟨by decide +kernel, rfl⟩
theorem iX0_facesOfWarp_21 : ab_bi mX0_facesOfWarp 21 .eq 24 27 := ⟨6, by decide +kernel, rfl, by decide⟩
theorem iX0_facesOfWarp_24 : ab_at mX0_facesOfWarp 24 (.iinc 2 1) 3 27 := ⟨by decide +kernel, rfl⟩
theorem iX0_facesOfWarp_27 : ab_at mX0_facesOfWarp 27 (.iinc 3 1) 3 30 := ⟨by decide +kernel, rfl⟩
theorem iX0_facesOfWarp_30 : ab_bg mX0_facesOfWarp 30 4 := ⟨-26, by decide +kernel, by decide⟩
theorem iX0_facesOfWarp_33 : ab_at mX0_facesOfWarp 33 (.iload_n 2) 1 34 := ⟨by decide +kernel, rfl⟩
theorem iX0_facesOfWarp_34 : ab_at mX0_facesOfWarp 34 (.ireturn) 1 35 := ⟨by decide +kernel, rfl⟩
theorem iX0_workOfWarp_0 : ab_at mX0_workOfWarp 0 (.aload_n 0) 1 1 := ⟨by decide +kernel, rfl⟩
theorem iX0_workOfWarp_1 : ab_at mX0_workOfWarp 1 (.getfield 15) 3 4 := ⟨by decide +kernel, rfl⟩
theorem iX0_workOfWarp_4 : ab_at mX0_workOfWarp 4 (.iconst 2) 1 5 := ⟨by decide +kernel, rfl⟩
theorem iX0_workOfWarp_5 : ab_at mX0_workOfWarp 5 (.aload_n 0) 1 6 := ⟨by decide +kernel, rfl⟩
theorem iX0_workOfWarp_6 : ab_at mX0_workOfWarp 6 (.iload_n 1) 1 7 := ⟨by decide +kernel, rfl⟩
theorem iX0_workOfWarp_7 : ab_at mX0_workOfWarp 7 (.invokevirtual 46) 3 10 := ⟨by decide +kernel, rfl⟩
theorem iX0_workOfWarp_10 : ab_at mX0_workOfWarp 10 (.imul) 1 11 := ⟨by decide +kernel, rfl⟩
theorem iX0_workOfWarp_11 : ab_at mX0_workOfWarp 11 (.iadd) 1 12 := ⟨by decide +kernel, rfl⟩
theorem iX0_workOfWarp_12 : ab_at mX0_workOfWarp 12 (.ireturn) 1 13 := ⟨by decide +kernel, rfl⟩
theorem iX0_isSlitAt_0 : ab_at mX0_isSlitAt 0 (.aload_n 0) 1 1 := ⟨by decide +kernel, rfl⟩
theorem iX0_isSlitAt_1 : ab_at mX0_isSlitAt 1 (.iload_n 1) 1 2 := ⟨by decide +kernel, rfl⟩
theorem iX0_isSlitAt_2 : ab_at mX0_isSlitAt 2 (.iload_n 2) 1 3 := ⟨by decide +kernel, rfl⟩
theorem iX0_isSlitAt_3 : ab_at mX0_isSlitAt 3 (.invokestatic 38) 3 6 := ⟨by decide +kernel, rfl⟩
theorem iX0_isSlitAt_6 : ab_at mX0_isSlitAt 6 (.invokevirtual 50) 3 9 := ⟨by decide +kernel, rfl⟩
theorem iX0_isSlitAt_9 : ab_at mX0_isSlitAt 9 (.aload_n 0) 1 10 := ⟨by decide +kernel, rfl⟩
theorem iX0_isSlitAt_10 : ab_at mX0_isSlitAt 10 (.iload_n 1) 1 11 := ⟨by decide +kernel, rfl⟩
theorem iX0_isSlitAt_11 : ab_at mX0_isSlitAt 11 (.iconst 1) 1 12 := ⟨by decide +kernel, rfl⟩
theorem iX0_isSlitAt_12 : ab_at mX0_isSlitAt 12 (.iadd) 1 13 := ⟨by decide +kernel, rfl⟩
theorem iX0_isSlitAt_13 : ab_at mX0_isSlitAt 13 (.iload_n 2) 1 14 := ⟨by decide +kernel, rfl⟩
theorem iX0_isSlitAt_14 : ab_at mX0_isSlitAt 14 (.invokestatic 38) 3 17 := ⟨by decide +kernel, rfl⟩
theorem iX0_isSlitAt_17 : ab_at mX0_isSlitAt 17 (.invokevirtual 50) 3 20 := ⟨by decide +kernel, rfl⟩
theorem iX0_isSlitAt_20 : ab_bc mX0_isSlitAt 20 .eq 23 27 := ⟨7, by decide +kernel, rfl, by decide⟩
theorem iX0_isSlitAt_23 : ab_at mX0_isSlitAt 23 (.iconst 1) 1 24 := ⟨by decide +kernel, rfl⟩
theorem iX0_isSlitAt_24 : ab_bg mX0_isSlitAt 24 28 := ⟨4, by decide +kernel, by decide⟩
theorem iX0_isSlitAt_27 : ab_at mX0_isSlitAt 27 (.iconst 0) 1 28 := ⟨by decide +kernel, rfl⟩
theorem iX0_isSlitAt_28 : ab_at mX0_isSlitAt 28 (.ireturn) 1 29 := ⟨by decide +kernel, rfl⟩
theorem iX0_slitLength_0 : ab_at mX0_slitLength 0 (.iload_n 2) 1 1 := ⟨by decide +kernel, rfl⟩
theorem iX0_slitLength_1 : ab_at mX0_slitLength 1 (.istore_n 3) 1 2 := ⟨by decide +kernel, rfl⟩
theorem iX0_slitLength_2 : ab_at mX0_slitLength 2 (.iload_n 3) 1 3 := ⟨by decide +kernel, rfl⟩
theorem iX0_slitLength_3 : ab_bi mX0_slitLength 3 .le 6 32 := ⟨29, by decide +kernel, rfl, by decide⟩
theorem iX0_slitLength_6 : ab_at mX0_slitLength 6 (.aload_n 0) 1 7 := ⟨by decide +kernel, rfl⟩
theorem iX0_slitLength_7 : ab_at mX0_slitLength 7 (.iload_n 1) 1 8 := ⟨by decide +kernel, rfl⟩
theorem iX0_slitLength_8 : ab_at mX0_slitLength 8 (.iload_n 3) 1 9 := ⟨by decide +kernel, rfl⟩
theorem iX0_slitLength_9 : ab_at mX0_slitLength 9 (.invokevirtual 53) 3 12 := ⟨by decide +kernel, rfl⟩
theorem iX0_slitLength_12 : ab_bi mX0_slitLength 12 .eq 15 32 := ⟨20, by decide +kernel, rfl, by decide⟩
theorem iX0_slitLength_15 : ab_at mX0_slitLength 15 (.aload_n 0) 1 16 := ⟨by decide +kernel, rfl⟩
theorem iX0_slitLength_16 : ab_at mX0_slitLength 16 (.iload_n 1) 1 17 := ⟨by decide +kernel, rfl⟩
theorem iX0_slitLength_17 : ab_at mX0_slitLength 17 (.iload_n 3) 1 18 := ⟨by decide +kernel, rfl⟩
theorem iX0_slitLength_18 : ab_at mX0_slitLength 18 (.iconst 1) 1 19 := ⟨by decide +kernel, rfl⟩
theorem iX0_slitLength_19 : ab_at mX0_slitLength 19 (.isub) 1 20 := ⟨by decide +kernel, rfl⟩
theorem iX0_slitLength_20 : ab_at mX0_slitLength 20 (.invokevirtual 53) 3 23 := ⟨by decide +kernel, rfl⟩
theorem iX0_slitLength_23 : ab_bi mX0_slitLength 23 .eq 26 32 := ⟨9, by decide +kernel, rfl, by decide⟩
theorem iX0_slitLength_26 : ab_at mX0_slitLength 26 (.iinc 3 (-1)) 3 29 := ⟨by decide +kernel, rfl⟩
theorem iX0_slitLength_29 : ab_bg mX0_slitLength 29 2 := ⟨-27, by decide +kernel, by decide⟩
theorem iX0_slitLength_32 : ab_at mX0_slitLength 32 (.aload_n 0) 1 33 := ⟨by decide +kernel, rfl⟩
theorem iX0_slitLength_33 : ab_at mX0_slitLength 33 (.iload_n 1) 1 34 := ⟨by decide +kernel, rfl⟩
theorem iX0_slitLength_34 : ab_at mX0_slitLength 34 (.iload_n 3) 1 35 := ⟨by decide +kernel, rfl⟩
theorem iX0_slitLength_35 : ab_at mX0_slitLength 35 (.invokevirtual 56) 3 38 := ⟨by decide +kernel, rfl⟩
theorem iX0_slitLength_38 : ab_at mX0_slitLength 38 (.ireturn) 1 39 := ⟨by decide +kernel, rfl⟩
theorem iX0_lengthOfSlitFrom_0 : ab_at mX0_lengthOfSlitFrom 0 (.iload_n 2) 1 1 := ⟨by decide +kernel, rfl⟩
theorem iX0_lengthOfSlitFrom_1 : ab_bi mX0_lengthOfSlitFrom 1 .le 4 17 := ⟨16, by decide +kernel, rfl, by decide⟩
theorem iX0_lengthOfSlitFrom_4 : ab_at mX0_lengthOfSlitFrom 4 (.aload_n 0) 1 5 := ⟨by decide +kernel, rfl⟩
theorem iX0_lengthOfSlitFrom_5 : ab_at mX0_lengthOfSlitFrom 5 (.iload_n 1) 1 6 := ⟨by decide +kernel, rfl⟩
theorem iX0_lengthOfSlitFrom_6 : ab_at mX0_lengthOfSlitFrom 6 (.iload_n 2) 1 7 := ⟨by decide +kernel, rfl⟩
theorem iX0_lengthOfSlitFrom_7 : ab_at mX0_lengthOfSlitFrom 7 (.iconst 1) 1 8 := ⟨by decide +kernel, rfl⟩
theorem iX0_lengthOfSlitFrom_8 : ab_at mX0_lengthOfSlitFrom 8 (.isub) 1 9 := ⟨by decide +kernel, rfl⟩
theorem iX0_lengthOfSlitFrom_9 : ab_at mX0_lengthOfSlitFrom 9 (.invokevirtual 53) 3 12 := ⟨by decide +kernel, rfl⟩
theorem iX0_lengthOfSlitFrom_12 : ab_bi mX0_lengthOfSlitFrom 12 .eq 15 17 := ⟨5, by decide +kernel, rfl, by decide⟩
theorem iX0_lengthOfSlitFrom_15 : ab_at mX0_lengthOfSlitFrom 15 (.iconst 0) 1 16 := ⟨by decide +kernel, rfl⟩
theorem iX0_lengthOfSlitFrom_16 : ab_at mX0_lengthOfSlitFrom 16 (.ireturn) 1 17 := ⟨by decide +kernel, rfl⟩
theorem iX0_lengthOfSlitFrom_17 : ab_at mX0_lengthOfSlitFrom 17 (.iload_n 2) 1 18 := ⟨by decide +kernel, rfl⟩
theorem iX0_lengthOfSlitFrom_18 : ab_at mX0_lengthOfSlitFrom 18 (.istore_n 3) 1 19 := ⟨by decide +kernel, rfl⟩
theorem iX0_lengthOfSlitFrom_19 : ab_at mX0_lengthOfSlitFrom 19 (.iload_n 3) 1 20 := ⟨by decide +kernel, rfl⟩
theorem iX0_lengthOfSlitFrom_20 : ab_at mX0_lengthOfSlitFrom 20 (.aload_n 0) 1 21 := ⟨by decide +kernel, rfl⟩
theorem iX0_lengthOfSlitFrom_21 : ab_at mX0_lengthOfSlitFrom 21 (.getfield 15) 3 24 := ⟨by decide +kernel, rfl⟩
theorem iX0_lengthOfSlitFrom_24 : ab_bc mX0_lengthOfSlitFrom 24 .ge 27 42 := ⟨18, by decide +kernel, rfl, by decide⟩
theorem iX0_lengthOfSlitFrom_27 : ab_at mX0_lengthOfSlitFrom 27 (.aload_n 0) 1 28 := ⟨by decide +kernel, rfl⟩
theorem iX0_lengthOfSlitFrom_28 : ab_at mX0_lengthOfSlitFrom 28 (.iload_n 1) 1 29 := ⟨by decide +kernel, rfl⟩
theorem iX0_lengthOfSlitFrom_29 : ab_at mX0_lengthOfSlitFrom 29 (.iload_n 3) 1 30 := ⟨by decide +kernel, rfl⟩
theorem iX0_lengthOfSlitFrom_30 : ab_at mX0_lengthOfSlitFrom 30 (.invokevirtual 53) 3 33 := ⟨by decide +kernel, rfl⟩
theorem iX0_lengthOfSlitFrom_33 : ab_bi mX0_lengthOfSlitFrom 33 .eq 36 42 := ⟨9, by decide +kernel, rfl, by decide⟩
theorem iX0_lengthOfSlitFrom_36 : ab_at mX0_lengthOfSlitFrom 36 (.iinc 3 1) 3 39 := ⟨by decide +kernel, rfl⟩
theorem iX0_lengthOfSlitFrom_39 : ab_bg mX0_lengthOfSlitFrom 39 19 := ⟨-20, by decide +kernel, by decide⟩
theorem iX0_lengthOfSlitFrom_42 : ab_at mX0_lengthOfSlitFrom 42 (.iload_n 3) 1 43 := ⟨by decide +kernel, rfl⟩
theorem iX0_lengthOfSlitFrom_43 : ab_at mX0_lengthOfSlitFrom 43 (.iload_n 2) 1 44 := ⟨by decide +kernel, rfl⟩
theorem iX0_lengthOfSlitFrom_44 : ab_at mX0_lengthOfSlitFrom 44 (.isub) 1 45 := ⟨by decide +kernel, rfl⟩
theorem iX0_lengthOfSlitFrom_45 : ab_at mX0_lengthOfSlitFrom 45 (.ireturn) 1 46 := ⟨by decide +kernel, rfl⟩
theorem iX4_init_0 : ab_at mX4_init 0 (.aload_n 0) 1 1 := ⟨by decide +kernel, rfl⟩
theorem iX4_init_1 : ab_at mX4_init 1 (.invokespecial 3) 3 4 := ⟨by decide +kernel, rfl⟩
theorem iX4_init_4 : ab_at mX4_init 4 (.aload_n 0) 1 5 := ⟨by decide +kernel, rfl⟩
theorem iX4_init_5 : ab_at mX4_init 5 (.iconst 0) 1 6 := ⟨by decide +kernel, rfl⟩
theorem iX4_init_6 : ab_at mX4_init 6 (.putfield 9) 3 9 := ⟨by decide +kernel, rfl⟩
theorem iX4_init_9 : ab_at mX4_init 9 (.aload_n 0) 1 10 := ⟨by decide +kernel, rfl⟩
theorem iX4_init_10 : ab_at mX4_init 10 (.bipush 12) 2 12 := ⟨by decide +kernel, rfl⟩
theorem iX4_init_12 : ab_at mX4_init 12 (.newarray .int) 2 14 := ⟨by decide +kernel, rfl⟩
theorem iX4_init_14 : ab_at mX4_init 14 (.putfield 15) 3 17 := ⟨by decide +kernel, rfl⟩
theorem iX4_init_17 : ab_at mX4_init 17 (.aload_n 0) 1 18 := ⟨by decide +kernel, rfl⟩
theorem iX4_init_18 : ab_at mX4_init 18 (.bipush 12) 2 20 := ⟨by decide +kernel, rfl⟩
theorem iX4_init_20 : ab_at mX4_init 20 (.newarray .int) 2 22 := ⟨by decide +kernel, rfl⟩
theorem iX4_init_22 : ab_at mX4_init 22 (.putfield 19) 3 25 := ⟨by decide +kernel, rfl⟩
theorem iX4_init_25 : ab_at mX4_init 25 (.return_) 1 26 := ⟨by decide +kernel, rfl⟩
theorem iX4_add_0 : ab_at mX4_add 0 (.aload_n 0) 1 1 := ⟨by decide +kernel, rfl⟩
theorem iX4_add_1 : ab_at mX4_add 1 (.getfield 15) 3 4 := ⟨by decide +kernel, rfl⟩
theorem iX4_add_4 : ab_at mX4_add 4 (.aload_n 0) 1 5 := ⟨by decide +kernel, rfl⟩
theorem iX4_add_5 : ab_at mX4_add 5 (.getfield 9) 3 8 := ⟨by decide +kernel, rfl⟩
theorem iX4_add_8 : ab_at mX4_add 8 (.iload_n 1) 1 9 := ⟨by decide +kernel, rfl⟩
theorem iX4_add_9 : ab_at mX4_add 9 (.iastore) 1 10 := ⟨by decide +kernel, rfl⟩
theorem iX4_add_10 : ab_at mX4_add 10 (.aload_n 0) 1 11 := ⟨by decide +kernel, rfl⟩
theorem iX4_add_11 : ab_at mX4_add 11 (.getfield 19) 3 14 := ⟨by decide +kernel, rfl⟩
theorem iX4_add_14 : ab_at mX4_add 14 (.aload_n 0) 1 15 := ⟨by decide +kernel, rfl⟩
theorem iX4_add_15 : ab_at mX4_add 15 (.getfield 9) 3 18 := ⟨by decide +kernel, rfl⟩
theorem iX4_add_18 : ab_at mX4_add 18 (.iload_n 2) 1 19 := ⟨by decide +kernel, rfl⟩
theorem iX4_add_19 : ab_at mX4_add 19 (.iastore) 1 20 := ⟨by decide +kernel, rfl⟩
theorem iX4_add_20 : ab_at mX4_add 20 (.aload_n 0) 1 21 := ⟨by decide +kernel, rfl⟩
theorem iX4_add_21 : ab_at mX4_add 21 (.dup) 1 22 := ⟨by decide +kernel, rfl⟩
theorem iX4_add_22 : ab_at mX4_add 22 (.getfield 9) 3 25 := ⟨by decide +kernel, rfl⟩
theorem iX4_add_25 : ab_at mX4_add 25 (.iconst 1) 1 26 := ⟨by decide +kernel, rfl⟩
theorem iX4_add_26 : ab_at mX4_add 26 (.iadd) 1 27 := ⟨by decide +kernel, rfl⟩
theorem iX4_add_27 : ab_at mX4_add 27 (.putfield 9) 3 30 := ⟨by decide +kernel, rfl⟩
theorem iX4_add_30 : ab_at mX4_add 30 (.aload_n 0) 1 31 := ⟨by decide +kernel, rfl⟩
theorem iX4_add_31 : ab_at mX4_add 31 (.getfield 9) 3 34 := ⟨by decide +kernel, rfl⟩
theorem iX4_add_34 : ab_at mX4_add 34 (.iconst 1) 1 35 := ⟨by decide +kernel, rfl⟩
theorem iX4_add_35 : ab_at mX4_add 35 (.isub) 1 36 := ⟨by decide +kernel, rfl⟩
theorem iX4_add_36 : ab_at mX4_add 36 (.ireturn) 1 37 := ⟨by decide +kernel, rfl⟩
theorem iX4_copyFrom_0 : ab_at mX4_copyFrom 0 (.aload_n 0) 1 1 := ⟨by decide +kernel, rfl⟩
theorem iX4_copyFrom_1 : ab_at mX4_copyFrom 1 (.aload_n 1) 1 2 := ⟨by decide +kernel, rfl⟩
theorem iX4_copyFrom_2 : ab_at mX4_copyFrom 2 (.getfield 9) 3 5 := ⟨by decide +kernel, rfl⟩
theorem iX4_copyFrom_5 : ab_at mX4_copyFrom 5 (.putfield 9) 3 8 := ⟨by decide +kernel, rfl⟩
theorem iX4_copyFrom_8 : ab_at mX4_copyFrom 8 (.aload_n 1) 1 9 := ⟨by decide +kernel, rfl⟩
theorem iX4_copyFrom_9 : ab_at mX4_copyFrom 9 (.getfield 15) 3 12 := ⟨by decide +kernel, rfl⟩
theorem iX4_copyFrom_12 : ab_at mX4_copyFrom 12 (.iconst 0) 1 13 := ⟨by decide +kernel, rfl⟩
theorem iX4_copyFrom_13 : ab_at mX4_copyFrom 13 (.aload_n 0) 1 14 := ⟨by decide +kernel, rfl⟩
theorem iX4_copyFrom_14 : ab_at mX4_copyFrom 14 (.getfield 15) 3 17 := ⟨by decide +kernel, rfl⟩
theorem iX4_copyFrom_17 : ab_at mX4_copyFrom 17 (.iconst 0) 1 18 := ⟨by decide +kernel, rfl⟩
theorem iX4_copyFrom_18 : ab_at mX4_copyFrom 18 (.bipush 12) 2 20 := ⟨by decide +kernel, rfl⟩
theorem iX4_copyFrom_20 : ab_at mX4_copyFrom 20 (.invokestatic 22) 3 23 := ⟨by decide +kernel, rfl⟩
theorem iX4_copyFrom_23 : ab_at mX4_copyFrom 23 (.aload_n 1) 1 24 := ⟨by decide +kernel, rfl⟩
theorem iX4_copyFrom_24 : ab_at mX4_copyFrom 24 (.getfield 19) 3 27 := ⟨by decide +kernel, rfl⟩
theorem iX4_copyFrom_27 : ab_at mX4_copyFrom 27 (.iconst 0) 1 28 := ⟨by decide +kernel, rfl⟩
theorem iX4_copyFrom_28 : ab_at mX4_copyFrom 28 (.aload_n 0) 1 29 := ⟨by decide +kernel, rfl⟩
theorem iX4_copyFrom_29 : ab_at mX4_copyFrom 29 (.getfield 19) 3 32 := ⟨by decide +kernel, rfl⟩
theorem iX4_copyFrom_32 : ab_at mX4_copyFrom 32 (.iconst 0) 1 33 := ⟨by decide +kernel, rfl⟩
theorem iX4_copyFrom_33 : ab_at mX4_copyFrom 33 (.bipush 12) 2 35 := ⟨by decide +kernel, rfl⟩
theorem iX4_copyFrom_35 : ab_at mX4_copyFrom 35 (.invokestatic 22) 3 38 := ⟨by decide +kernel, rfl⟩
theorem iX4_copyFrom_38 : ab_at mX4_copyFrom 38 (.return_) 1 39 := ⟨by decide +kernel, rfl⟩
theorem iX6_init_0 : ab_at mX6_init 0 (.aload_n 0) 1 1 := ⟨by decide +kernel, rfl⟩
theorem iX6_init_1 : ab_at mX6_init 1 (.invokespecial 1) 3 4 := ⟨by decide +kernel, rfl⟩
theorem iX6_init_4 : ab_at mX6_init 4 (.aload_n 0) 1 5 := ⟨by decide +kernel, rfl⟩
theorem iX6_init_5 : ab_at mX6_init 5 (.new 7) 3 8 := ⟨by decide +kernel, rfl⟩
theorem iX6_init_8 : ab_at mX6_init 8 (.dup) 1 9 := ⟨by decide +kernel, rfl⟩
theorem iX6_init_9 : ab_at mX6_init 9 (.invokespecial 9) 3 12 := ⟨by decide +kernel, rfl⟩
theorem iX6_init_12 : ab_at mX6_init 12 (.putfield 10) 3 15 := ⟨by decide +kernel, rfl⟩
theorem iX6_init_15 : ab_at mX6_init 15 (.aload_n 0) 1 16 := ⟨by decide +kernel, rfl⟩
theorem iX6_init_16 : ab_at mX6_init 16 (.new 16) 3 19 := ⟨by decide +kernel, rfl⟩
theorem iX6_init_19 : ab_at mX6_init 19 (.dup) 1 20 := ⟨by decide +kernel, rfl⟩
theorem iX6_init_20 : ab_at mX6_init 20 (.invokespecial 18) 3 23 := ⟨by decide +kernel, rfl⟩
theorem iX6_init_23 : ab_at mX6_init 23 (.putfield 19) 3 26 := ⟨by decide +kernel, rfl⟩
theorem iX6_init_26 : ab_at mX6_init 26 (.aload_n 0) 1 27 := ⟨by decide +kernel, rfl⟩
theorem iX6_init_27 : ab_at mX6_init 27 (.new 23) 3 30 := ⟨by decide +kernel, rfl⟩
theorem iX6_init_30 : ab_at mX6_init 30 (.dup) 1 31 := ⟨by decide +kernel, rfl⟩
theorem iX6_init_31 : ab_at mX6_init 31 (.invokespecial 25) 3 34 := ⟨by decide +kernel, rfl⟩
theorem iX6_init_34 : ab_at mX6_init 34 (.putfield 26) 3 37 := ⟨by decide +kernel, rfl⟩
theorem iX6_init_37 : ab_at mX6_init 37 (.aload_n 0) 1 38 := ⟨by decide +kernel, rfl⟩
theorem iX6_init_38 : ab_at mX6_init 38 (.new 30) 3 41 := ⟨by decide +kernel, rfl⟩
theorem iX6_init_41 : ab_at mX6_init 41 (.dup) 1 42 := ⟨by decide +kernel, rfl⟩
theorem iX6_init_42 : ab_at mX6_init 42 (.invokespecial 32) 3 45 := ⟨by decide +kernel, rfl⟩
theorem iX6_init_45 : ab_at mX6_init 45 (.putfield 33) 3 48 := ⟨by decide +kernel, rfl⟩
theorem iX6_init_48 : ab_at mX6_init 48 (.return_) 1 49 := ⟨by decide +kernel, rfl⟩
theorem iX6_copyFrom_0 : ab_at mX6_copyFrom 0 (.aload_n 0) 1 1 := ⟨by decide +kernel, rfl⟩
theorem iX6_copyFrom_1 : ab_at mX6_copyFrom 1 (.getfield 10) 3 4 := ⟨by decide +kernel, rfl⟩
theorem iX6_copyFrom_4 : ab_at mX6_copyFrom 4 (.aload_n 1) 1 5 := ⟨by decide +kernel, rfl⟩
theorem iX6_copyFrom_5 : ab_at mX6_copyFrom 5 (.getfield 10) 3 8 := ⟨by decide +kernel, rfl⟩
theorem iX6_copyFrom_8 : ab_at mX6_copyFrom 8 (.invokevirtual 37) 3 11 := ⟨by decide +kernel, rfl⟩
theorem iX6_copyFrom_11 : ab_at mX6_copyFrom 11 (.aload_n 0) 1 12 := ⟨by decide +kernel, rfl⟩
theorem iX6_copyFrom_12 : ab_at mX6_copyFrom 12 (.getfield 19) 3 15 := ⟨by decide +kernel, rfl⟩
theorem iX6_copyFrom_15 : ab_at mX6_copyFrom 15 (.aload_n 1) 1 16 := ⟨by decide +kernel, rfl⟩
theorem iX6_copyFrom_16 : ab_at mX6_copyFrom 16 (.getfield 19) 3 19 := ⟨by decide +kernel, rfl⟩
theorem iX6_copyFrom_19 : ab_at mX6_copyFrom 19 (.invokevirtual 41) 3 22 := ⟨by decide +kernel, rfl⟩
theorem iX6_copyFrom_22 : ab_at mX6_copyFrom 22 (.aload_n 0) 1 23 := ⟨by decide +kernel, rfl⟩
theorem iX6_copyFrom_23 : ab_at mX6_copyFrom 23 (.getfield 26) 3 26 := ⟨by decide +kernel, rfl⟩
theorem iX6_copyFrom_26 : ab_at mX6_copyFrom 26 (.aload_n 1) 1 27 := ⟨by decide +kernel, rfl⟩
theorem iX6_copyFrom_27 : ab_at mX6_copyFrom 27 (.getfield 26) 3 30 := ⟨by decide +kernel, rfl⟩
theorem iX6_copyFrom_30 : ab_at mX6_copyFrom 30 (.invokevirtual 44) 3 33 := ⟨by decide +kernel, rfl⟩
theorem iX6_copyFrom_33 : ab_at mX6_copyFrom 33 (.aload_n 0) 1 34 := ⟨by decide +kernel, rfl⟩
theorem iX6_copyFrom_34 : ab_at mX6_copyFrom 34 (.getfield 33) 3 37 := ⟨by decide +kernel, rfl⟩
theorem iX6_copyFrom_37 : ab_at mX6_copyFrom 37 (.aload_n 1) 1 38 := ⟨by decide +kernel, rfl⟩
theorem iX6_copyFrom_38 : ab_at mX6_copyFrom 38 (.getfield 33) 3 41 := ⟨by decide +kernel, rfl⟩
theorem iX6_copyFrom_41 : ab_at mX6_copyFrom 41 (.invokevirtual 47) 3 44 := ⟨by decide +kernel, rfl⟩
theorem iX6_copyFrom_44 : ab_at mX6_copyFrom 44 (.return_) 1 45 := ⟨by decide +kernel, rfl⟩
theorem iX7_init_0 : ab_at mX7_init 0 (.aload_n 0) 1 1 := ⟨by decide +kernel, rfl⟩
theorem iX7_init_1 : ab_at mX7_init 1 (.invokespecial 3) 3 4 := ⟨by decide +kernel, rfl⟩
theorem iX7_init_4 : ab_at mX7_init 4 (.aload_n 0) 1 5 := ⟨by decide +kernel, rfl⟩
theorem iX7_init_5 : ab_at mX7_init 5 (.iconst 0) 1 6 := ⟨by decide +kernel, rfl⟩
theorem iX7_init_6 : ab_at mX7_init 6 (.putfield 9) 3 9 := ⟨by decide +kernel, rfl⟩
theorem iX7_init_9 : ab_at mX7_init 9 (.aload_n 0) 1 10 := ⟨by decide +kernel, rfl⟩
theorem iX7_init_10 : ab_at mX7_init 10 (.iconst 4) 1 11 := ⟨by decide +kernel, rfl⟩
theorem iX7_init_11 : ab_at mX7_init 11 (.newarray .int) 2 13 := ⟨by decide +kernel, rfl⟩
theorem iX7_init_13 : ab_at mX7_init 13 (.putfield 15) 3 16 := ⟨by decide +kernel, rfl⟩
theorem iX7_init_16 : ab_at mX7_init 16 (.aload_n 0) 1 17 := ⟨by decide +kernel, rfl⟩
theorem iX7_init_17 : ab_at mX7_init 17 (.iconst 4) 1 18 := ⟨by decide +kernel, rfl⟩
theorem iX7_init_18 : ab_at mX7_init 18 (.newarray .boolean) 2 20 := ⟨by decide +kernel, rfl⟩
theorem iX7_init_20 : ab_at mX7_init 20 (.putfield 19) 3 23 := ⟨by decide +kernel, rfl⟩
theorem iX7_init_23 : ab_at mX7_init 23 (.return_) 1 24 := ⟨by decide +kernel, rfl⟩
theorem iX7_add_0 : ab_at mX7_add 0 (.aload_n 0) 1 1 := ⟨by decide +kernel, rfl⟩
theorem iX7_add_1 : ab_at mX7_add 1 (.getfield 15) 3 4 := ⟨by decide +kernel, rfl⟩
theorem iX7_add_4 : ab_at mX7_add 4 (.aload_n 0) 1 5 := ⟨by decide +kernel, rfl⟩
theorem iX7_add_5 : ab_at mX7_add 5 (.getfield 9) 3 8 := ⟨by decide +kernel, rfl⟩
theorem iX7_add_8 : ab_at mX7_add 8 (.iload_n 1) 1 9 := ⟨by decide +kernel, rfl⟩
theorem iX7_add_9 : ab_at mX7_add 9 (.iastore) 1 10 := ⟨by decide +kernel, rfl⟩
theorem iX7_add_10 : ab_at mX7_add 10 (.aload_n 0) 1 11 := ⟨by decide +kernel, rfl⟩
theorem iX7_add_11 : ab_at mX7_add 11 (.getfield 19) 3 14 := ⟨by decide +kernel, rfl⟩
theorem iX7_add_14 : ab_at mX7_add 14 (.aload_n 0) 1 15 := ⟨by decide +kernel, rfl⟩
theorem iX7_add_15 : ab_at mX7_add 15 (.getfield 9) 3 18 := ⟨by decide +kernel, rfl⟩
theorem iX7_add_18 : ab_at mX7_add 18 (.iload_n 2) 1 19 := ⟨by decide +kernel, rfl⟩
theorem iX7_add_19 : ab_at mX7_add 19 (.bastore) 1 20 := ⟨by decide +kernel, rfl⟩
theorem iX7_add_20 : ab_at mX7_add 20 (.aload_n 0) 1 21 := ⟨by decide +kernel, rfl⟩
theorem iX7_add_21 : ab_at mX7_add 21 (.dup) 1 22 := ⟨by decide +kernel, rfl⟩
theorem iX7_add_22 : ab_at mX7_add 22 (.getfield 9) 3 25 := ⟨by decide +kernel, rfl⟩
theorem iX7_add_25 : ab_at mX7_add 25 (.iconst 1) 1 26 := ⟨by decide +kernel, rfl⟩
theorem iX7_add_26 : ab_at mX7_add 26 (.iadd) 1 27 := ⟨by decide +kernel, rfl⟩
theorem iX7_add_27 : ab_at mX7_add 27 (.putfield 9) 3 30 := ⟨by decide +kernel, rfl⟩
theorem iX7_add_30 : ab_at mX7_add 30 (.aload_n 0) 1 31 := ⟨by decide +kernel, rfl⟩
theorem iX7_add_31 : ab_at mX7_add 31 (.getfield 9) 3 34 := ⟨by decide +kernel, rfl⟩
theorem iX7_add_34 : ab_at mX7_add 34 (.iconst 1) 1 35 := ⟨by decide +kernel, rfl⟩
theorem iX7_add_35 : ab_at mX7_add 35 (.isub) 1 36 := ⟨by decide +kernel, rfl⟩
theorem iX7_add_36 : ab_at mX7_add 36 (.ireturn) 1 37 := ⟨by decide +kernel, rfl⟩
theorem iX7_daysFor_0 : ab_at mX7_daysFor 0 (.aload_n 0) 1 1 := ⟨by decide +kernel, rfl⟩
theorem iX7_daysFor_1 : ab_at mX7_daysFor 1 (.getfield 15) 3 4 := ⟨by decide +kernel, rfl⟩
theorem iX7_daysFor_4 : ab_at mX7_daysFor 4 (.iload_n 1) 1 5 := ⟨by decide +kernel, rfl⟩
theorem iX7_daysFor_5 : ab_at mX7_daysFor 5 (.iaload) 1 6 := ⟨by decide +kernel, rfl⟩
theorem iX7_daysFor_6 : ab_at mX7_daysFor 6 (.istore_n 3) 1 7 := ⟨by decide +kernel, rfl⟩
theorem iX7_daysFor_7 : ab_at mX7_daysFor 7 (.iload_n 3) 1 8 := ⟨by decide +kernel, rfl⟩
theorem iX7_daysFor_8 : ab_at mX7_daysFor 8 (.iconst 1) 1 9 := ⟨by decide +kernel, rfl⟩
theorem iX7_daysFor_9 : ab_bc mX7_daysFor 9 .ge 12 17 := ⟨8, by decide +kernel, rfl, by decide⟩
theorem iX7_daysFor_12 : ab_at mX7_daysFor 12 (.ldc 23) 2 14 := ⟨by decide +kernel, rfl⟩
theorem iX7_daysFor_14 : ab_bg mX7_daysFor 14 24 := ⟨10, by decide +kernel, by decide⟩
theorem iX7_daysFor_17 : ab_at mX7_daysFor 17 (.iload_n 2) 1 18 := ⟨by decide +kernel, rfl⟩
theorem iX7_daysFor_18 : ab_at mX7_daysFor 18 (.iload_n 3) 1 19 := ⟨by decide +kernel, rfl⟩
theorem iX7_daysFor_19 : ab_at mX7_daysFor 19 (.iadd) 1 20 := ⟨by decide +kernel, rfl⟩
theorem iX7_daysFor_20 : ab_at mX7_daysFor 20 (.iconst 1) 1 21 := ⟨by decide +kernel, rfl⟩
theorem iX7_daysFor_21 : ab_at mX7_daysFor 21 (.isub) 1 22 := ⟨by decide +kernel, rfl⟩
theorem iX7_daysFor_22 : ab_at mX7_daysFor 22 (.iload_n 3) 1 23 := ⟨by decide +kernel, rfl⟩
theorem iX7_daysFor_23 : ab_at mX7_daysFor 23 (.idiv) 1 24 := ⟨by decide +kernel, rfl⟩
theorem iX7_daysFor_24 : ab_at mX7_daysFor 24 (.ireturn) 1 25 := ⟨by decide +kernel, rfl⟩
theorem iX7_copyFrom_0 : ab_at mX7_copyFrom 0 (.aload_n 0) 1 1 := ⟨by decide +kernel, rfl⟩
theorem iX7_copyFrom_1 : ab_at mX7_copyFrom 1 (.aload_n 1) 1 2 := ⟨by decide +kernel, rfl⟩
theorem iX7_copyFrom_2 : ab_at mX7_copyFrom 2 (.getfield 9) 3 5 := ⟨by decide +kernel, rfl⟩
theorem iX7_copyFrom_5 : ab_at mX7_copyFrom 5 (.putfield 9) 3 8 := ⟨by decide +kernel, rfl⟩
theorem iX7_copyFrom_8 : ab_at mX7_copyFrom 8 (.iconst 0) 1 9 := ⟨by decide +kernel, rfl⟩
theorem iX7_copyFrom_9 : ab_at mX7_copyFrom 9 (.istore_n 2) 1 10 := ⟨by decide +kernel, rfl⟩
theorem iX7_copyFrom_10 : ab_at mX7_copyFrom 10 (.iload_n 2) 1 11 := ⟨by decide +kernel, rfl⟩
theorem iX7_copyFrom_11 : ab_at mX7_copyFrom 11 (.iconst 4) 1 12 := ⟨by decide +kernel, rfl⟩
theorem iX7_copyFrom_12 : ab_bc mX7_copyFrom 12 .ge 15 45 := ⟨33, by decide +kernel, rfl, by decide⟩
theorem iX7_copyFrom_15 : ab_at mX7_copyFrom 15 (.aload_n 0) 1 16 := ⟨by decide +kernel, rfl⟩
theorem iX7_copyFrom_16 : ab_at mX7_copyFrom 16 (.getfield 15) 3 19 := ⟨by decide +kernel, rfl⟩
theorem iX7_copyFrom_19 : ab_at mX7_copyFrom 19 (.iload_n 2) 1 20 := ⟨by decide +kernel, rfl⟩
theorem iX7_copyFrom_20 : ab_at mX7_copyFrom 20 (.aload_n 1) 1 21 := ⟨by decide +kernel, rfl⟩
theorem iX7_copyFrom_21 : ab_at mX7_copyFrom 21 (.getfield 15) 3 24 := ⟨by decide +kernel, rfl⟩
theorem iX7_copyFrom_24 : ab_at mX7_copyFrom 24 (.iload_n 2) 1 25 := ⟨by decide +kernel, rfl⟩
theorem iX7_copyFrom_25 : ab_at mX7_copyFrom 25 (.iaload) 1 26 := ⟨by decide +kernel, rfl⟩
theorem iX7_copyFrom_26 : ab_at mX7_copyFrom 26 (.iastore) 1 27 := ⟨by decide +kernel, rfl⟩
theorem iX7_copyFrom_27 : ab_at mX7_copyFrom 27 (.aload_n 0) 1 28 := ⟨by decide +kernel, rfl⟩
theorem iX7_copyFrom_28 : ab_at mX7_copyFrom 28 (.getfield 19) 3 31 := ⟨by decide +kernel, rfl⟩
theorem iX7_copyFrom_31 : ab_at mX7_copyFrom 31 (.iload_n 2) 1 32 := ⟨by decide +kernel, rfl⟩
theorem iX7_copyFrom_32 : ab_at mX7_copyFrom 32 (.aload_n 1) 1 33 := ⟨by decide +kernel, rfl⟩
theorem iX7_copyFrom_33 : ab_at mX7_copyFrom 33 (.getfield 19) 3 36 := ⟨by decide +kernel, rfl⟩
theorem iX7_copyFrom_36 : ab_at mX7_copyFrom 36 (.iload_n 2) 1 37 := ⟨by decide +kernel, rfl⟩
theorem iX7_copyFrom_37 : ab_at mX7_copyFrom 37 (.baload) 1 38 := ⟨by decide +kernel, rfl⟩
theorem iX7_copyFrom_38 : ab_at mX7_copyFrom 38 (.bastore) 1 39 := ⟨by decide +kernel, rfl⟩
theorem iX7_copyFrom_39 : ab_at mX7_copyFrom 39 (.iinc 2 1) 3 42 := ⟨by decide +kernel, rfl⟩
theorem iX7_copyFrom_42 : ab_bg mX7_copyFrom 42 10 := ⟨-32, by decide +kernel, by decide⟩
theorem iX7_copyFrom_45 : ab_at mX7_copyFrom 45 (.return_) 1 46 := ⟨by decide +kernel, rfl⟩
theorem iJ7_fill_53178_0 : ab_at mJ7_fill_53178 0 (.iconst 0) 1 1 := ⟨by decide +kernel, rfl⟩
theorem iJ7_fill_53178_1 : ab_at mJ7_fill_53178 1 (.istore_n 2) 1 2 := ⟨by decide +kernel, rfl⟩
theorem iJ7_fill_53178_2 : ab_at mJ7_fill_53178 2 (.aload_n 0) 1 3 := ⟨by decide +kernel, rfl⟩
theorem iJ7_fill_53178_3 : ab_at mJ7_fill_53178 3 (.arraylength) 1 4 := ⟨by decide +kernel, rfl⟩
theorem iJ7_fill_53178_4 : ab_at mJ7_fill_53178 4 (.istore_n 3) 1 5 := ⟨by decide +kernel, rfl⟩
theorem iJ7_fill_53178_5 : ab_at mJ7_fill_53178 5 (.iload_n 2) 1 6 := ⟨by decide +kernel, rfl⟩
theorem iJ7_fill_53178_6 : ab_at mJ7_fill_53178 6 (.iload_n 3) 1 7 := ⟨by decide +kernel, rfl⟩
theorem iJ7_fill_53178_7 : ab_bc mJ7_fill_53178 7 .ge 10 20 := ⟨13, by decide +kernel, rfl, by decide⟩
theorem iJ7_fill_53178_10 : ab_at mJ7_fill_53178 10 (.aload_n 0) 1 11 := ⟨by decide +kernel, rfl⟩
theorem iJ7_fill_53178_11 : ab_at mJ7_fill_53178 11 (.iload_n 2) 1 12 := ⟨by decide +kernel, rfl⟩
theorem iJ7_fill_53178_12 : ab_at mJ7_fill_53178 12 (.iload_n 1) 1 13 := ⟨by decide +kernel, rfl⟩
theorem iJ7_fill_53178_13 : ab_at mJ7_fill_53178 13 (.iastore) 1 14 := ⟨by decide +kernel, rfl⟩
theorem iJ7_fill_53178_14 : ab_at mJ7_fill_53178 14 (.iinc 2 1) 3 17 := ⟨by decide +kernel, rfl⟩
theorem iJ7_fill_53178_17 : ab_bg mJ7_fill_53178 17 5 := ⟨-12, by decide +kernel, by decide⟩
theorem iJ7_fill_53178_20 : ab_at mJ7_fill_53178 20 (.return_) 1 21 := ⟨by decide +kernel, rfl⟩
end
section
theorem iX1_init_0 : ab_at mX1_init 0 (.aload_n 0) 1 1 := ⟨by decide +kernel, rfl⟩
theorem iX1_init_1 : ab_at mX1_init 1 (.invokespecial 3) 3 4 := ⟨by decide +kernel, rfl⟩
theorem iX1_init_4 : ab_at mX1_init 4 (.aload_n 0) 1 5 := ⟨by decide +kernel, rfl⟩
theorem iX1_init_5 : ab_at mX1_init 5 (.iconst 0) 1 6 := ⟨by decide +kernel, rfl⟩
theorem iX1_init_6 : ab_at mX1_init 6 (.putfield 9) 3 9 := ⟨by decide +kernel, rfl⟩
theorem iX1_init_9 : ab_at mX1_init 9 (.aload_n 0) 1 10 := ⟨by decide +kernel, rfl⟩
theorem iX1_init_10 : ab_at mX1_init 10 (.bipush 8) 2 12 := ⟨by decide +kernel, rfl⟩
theorem iX1_init_12 : ab_at mX1_init 12 (.newarray .int) 2 14 := ⟨by decide +kernel, rfl⟩
theorem iX1_init_14 : ab_at mX1_init 14 (.putfield 15) 3 17 := ⟨by decide +kernel, rfl⟩
theorem iX1_init_17 : ab_at mX1_init 17 (.aload_n 0) 1 18 := ⟨by decide +kernel, rfl⟩
theorem iX1_init_18 : ab_at mX1_init 18 (.bipush 8) 2 20 := ⟨by decide +kernel, rfl⟩
theorem iX1_init_20 : ab_at mX1_init 20 (.newarray .int) 2 22 := ⟨by decide +kernel, rfl⟩
theorem iX1_init_22 : ab_at mX1_init 22 (.putfield 19) 3 25 := ⟨by decide +kernel, rfl⟩
theorem iX1_init_25 : ab_at mX1_init 25 (.aload_n 0) 1 26 := ⟨by decide +kernel, rfl⟩
theorem iX1_init_26 : ab_at mX1_init 26 (.iconst 0) 1 27 := ⟨by decide +kernel, rfl⟩
theorem iX1_init_27 : ab_at mX1_init 27 (.putfield 22) 3 30 := ⟨by decide +kernel, rfl⟩
theorem iX1_init_30 : ab_at mX1_init 30 (.aload_n 0) 1 31 := ⟨by decide +kernel, rfl⟩
theorem iX1_init_31 : ab_at mX1_init 31 (.iconst 4) 1 32 := ⟨by decide +kernel, rfl⟩
theorem iX1_init_32 : ab_at mX1_init 32 (.newarray .int) 2 34 := ⟨by decide +kernel, rfl⟩
theorem iX1_init_34 : ab_at mX1_init 34 (.putfield 25) 3 37 := ⟨by decide +kernel, rfl⟩
theorem iX1_init_37 : ab_at mX1_init 37 (.aload_n 0) 1 38 := ⟨by decide +kernel, rfl⟩
theorem iX1_init_38 : ab_at mX1_init 38 (.sipush 256) 3 41 := ⟨by decide +kernel, rfl⟩
theorem iX1_init_41 : ab_at mX1_init 41 (.newarray .int) 2 43 := ⟨by decide +kernel, rfl⟩
theorem iX1_init_43 : ab_at mX1_init 43 (.putfield 28) 3 46 := ⟨by decide +kernel, rfl⟩
theorem iX1_init_46 : ab_at mX1_init 46 (.aload_n 0) 1 47 := ⟨by decide +kernel, rfl⟩
theorem iX1_init_47 : ab_at mX1_init 47 (.sipush 256) 3 50 := ⟨by decide +kernel, rfl⟩
theorem iX1_init_50 : ab_at mX1_init 50 (.newarray .int) 2 52 := ⟨by decide +kernel, rfl⟩
theorem iX1_init_52 : ab_at mX1_init 52 (.putfield 31) 3 55 := ⟨by decide +kernel, rfl⟩
theorem iX1_init_55 : ab_at mX1_init 55 (.aload_n 0) 1 56 := ⟨by decide +kernel, rfl⟩
theorem iX1_init_56 : ab_at mX1_init 56 (.sipush 256) 3 59 := ⟨by decide +kernel, rfl⟩
theorem iX1_init_59 : ab_at mX1_init 59 (.newarray .int) 2 61 := ⟨by decide +kernel, rfl⟩
theorem iX1_init_61 : ab_at mX1_init 61 (.putfield 34) 3 64 := ⟨by decide +kernel, rfl⟩
theorem iX1_init_64 : ab_at mX1_init 64 (.aload_n 0) 1 65 := ⟨by decide +kernel, rfl⟩
theorem iX1_init_65 : ab_at mX1_init 65 (.sipush 1024) 3 68 := ⟨by decide +kernel, rfl⟩
theorem iX1_init_68 : ab_at mX1_init 68 (.newarray .int) 2 70 := ⟨by decide +kernel, rfl⟩
theorem iX1_init_70 : ab_at mX1_init 70 (.putfield 37) 3 73 := ⟨by decide +kernel, rfl⟩
theorem iX1_init_73 : ab_at mX1_init 73 (.return_) 1 74 := ⟨by decide +kernel, rfl⟩
theorem iX1_find_0 : ab_at mX1_find 0 (.aload_n 0) 1 1 := ⟨by decide +kernel, rfl⟩
theorem iX1_find_1 : ab_at mX1_find 1 (.iload_n 1) 1 2 := ⟨by decide +kernel, rfl⟩
theorem iX1_find_2 : ab_at mX1_find 2 (.aload_n 2) 1 3 := ⟨by decide +kernel, rfl⟩
theorem iX1_find_3 : ab_at mX1_find 3 (.invokevirtual 40) 3 6 := ⟨by decide +kernel, rfl⟩
theorem iX1_find_6 : ab_bi mX1_find 6 .eq 9 18 := ⟨12, by decide +kernel, rfl, by decide⟩
theorem iX1_find_9 : ab_at mX1_find 9 (.aload_n 0) 1 10 := ⟨by decide +kernel, rfl⟩
theorem iX1_find_10 : ab_at mX1_find 10 (.iload_n 1) 1 11 := ⟨by decide +kernel, rfl⟩
theorem iX1_find_11 : ab_at mX1_find 11 (.aload_n 3) 1 12 := ⟨by decide +kernel, rfl⟩
theorem iX1_find_12 : ab_at mX1_find 12 (.invokevirtual 44) 3 15 := ⟨by decide +kernel, rfl⟩
theorem iX1_find_15 : ab_bi mX1_find 15 .ne 18 20 := ⟨5, by decide +kernel, rfl, by decide⟩
theorem iX1_find_18 : ab_at mX1_find 18 (.iconst 0) 1 19 := ⟨by decide +kernel, rfl⟩
theorem iX1_find_19 : ab_at mX1_find 19 (.ireturn) 1 20 := ⟨by decide +kernel, rfl⟩
theorem iX1_find_20 : ab_at mX1_find 20 (.aload_n 0) 1 21 := ⟨by decide +kernel, rfl⟩
theorem iX1_find_21 : ab_at mX1_find 21 (.aload_n 2) 1 22 := ⟨by decide +kernel, rfl⟩
theorem iX1_find_22 : ab_at mX1_find 22 (.invokevirtual 48) 3 25 := ⟨by decide +kernel, rfl⟩
theorem iX1_find_25 : ab_at mX1_find 25 (.aload_n 0) 1 26 := ⟨by decide +kernel, rfl⟩
theorem iX1_find_26 : ab_at mX1_find 26 (.getfield 22) 3 29 := ⟨by decide +kernel, rfl⟩
theorem iX1_find_29 : ab_at mX1_find 29 (.iconst 1) 1 30 := ⟨by decide +kernel, rfl⟩
theorem iX1_find_30 : ab_at mX1_find 30 (.isub) 1 31 := ⟨by decide +kernel, rfl⟩
theorem iX1_find_31 : ab_at mX1_find 31 (.istore 4) 2 33 := ⟨by decide +kernel, rfl⟩
theorem iX1_find_33 : ab_at mX1_find 33 (.iload 4) 2 35 := ⟨by decide +kernel, rfl⟩
theorem iX1_find_35 : ab_bi mX1_find 35 .lt 38 62 := ⟨27, by decide +kernel, rfl, by decide⟩
theorem iX1_find_38 : ab_at mX1_find 38 (.aload_n 0) 1 39 := ⟨by decide +kernel, rfl⟩
theorem iX1_find_39 : ab_at mX1_find 39 (.iload 4) 2 41 := ⟨by decide +kernel, rfl⟩
theorem iX1_find_41 : ab_at mX1_find 41 (.aload_n 3) 1 42 := ⟨by decide +kernel, rfl⟩
theorem iX1_find_42 : ab_at mX1_find 42 (.getfield 52) 3 45 := ⟨by decide +kernel, rfl⟩
theorem iX1_find_45 : ab_at mX1_find 45 (.aload_n 0) 1 46 := ⟨by decide +kernel, rfl⟩
theorem iX1_find_46 : ab_at mX1_find 46 (.getfield 25) 3 49 := ⟨by decide +kernel, rfl⟩
theorem iX1_find_49 : ab_at mX1_find 49 (.iload 4) 2 51 := ⟨by decide +kernel, rfl⟩
theorem iX1_find_51 : ab_at mX1_find 51 (.iaload) 1 52 := ⟨by decide +kernel, rfl⟩
theorem iX1_find_52 : ab_at mX1_find 52 (.iaload) 1 53 := ⟨by decide +kernel, rfl⟩
theorem iX1_find_53 : ab_at mX1_find 53 (.invokevirtual 57) 3 56 := ⟨by decide +kernel, rfl⟩
theorem iX1_find_56 : ab_at mX1_find 56 (.iinc 4 (-1)) 3 59 := ⟨by decide +kernel, rfl⟩
theorem iX1_find_59 : ab_bg mX1_find 59 33 := ⟨-26, by decide +kernel, by decide⟩
theorem iX1_find_62 : ab_at mX1_find 62 (.aload_n 0) 1 63 := ⟨by decide +kernel, rfl⟩
theorem iX1_find_63 : ab_at mX1_find 63 (.invokevirtual 61) 3 66 := ⟨by decide +kernel, rfl⟩
theorem iX1_find_66 : ab_at mX1_find 66 (.iconst 1) 1 67 := ⟨by decide +kernel, rfl⟩
theorem iX1_find_67 : ab_at mX1_find 67 (.ireturn) 1 68 := ⟨by decide +kernel, rfl⟩
theorem iX1_gatherFields_0 : ab_at mX1_gatherFields 0 (.aload_n 0) 1 1 := ⟨by decide +kernel, rfl⟩
theorem iX1_gatherFields_1 : ab_at mX1_gatherFields 1 (.iconst 0) 1 2 := ⟨by decide +kernel, rfl⟩
theorem iX1_gatherFields_2 : ab_at mX1_gatherFields 2 (.putfield 9) 3 5 := ⟨by decide +kernel, rfl⟩
theorem iX1_gatherFields_5 : ab_at mX1_gatherFields 5 (.iconst 0) 1 6 := ⟨by decide +kernel, rfl⟩
theorem iX1_gatherFields_6 : ab_at mX1_gatherFields 6 (.istore_n 3) 1 7 := ⟨by decide +kernel, rfl⟩
theorem iX1_gatherFields_7 : ab_at mX1_gatherFields 7 (.iload_n 3) 1 8 := ⟨by decide +kernel, rfl⟩
theorem iX1_gatherFields_8 : ab_at mX1_gatherFields 8 (.aload_n 2) 1 9 := ⟨by decide +kernel, rfl⟩
theorem iX1_gatherFields_9 : ab_at mX1_gatherFields 9 (.getfield 64) 3 12 := ⟨by decide +kernel, rfl⟩
theorem iX1_gatherFields_12 : ab_bc mX1_gatherFields 12 .ge 15 62 := ⟨50, by decide +kernel, rfl, by decide⟩
theorem iX1_gatherFields_15 : ab_at mX1_gatherFields 15 (.aload_n 2) 1 16 := ⟨by decide +kernel, rfl⟩
theorem iX1_gatherFields_16 : ab_at mX1_gatherFields 16 (.getfield 69) 3 19 := ⟨by decide +kernel, rfl⟩
theorem iX1_gatherFields_19 : ab_at mX1_gatherFields 19 (.iload_n 3) 1 20 := ⟨by decide +kernel, rfl⟩
theorem iX1_gatherFields_20 : ab_at mX1_gatherFields 20 (.iaload) 1 21 := ⟨by decide +kernel, rfl⟩
theorem iX1_gatherFields_21 : ab_at mX1_gatherFields 21 (.iload_n 1) 1 22 := ⟨by decide +kernel, rfl⟩
theorem iX1_gatherFields_22 : ab_bc mX1_gatherFields 22 .ne 25 56 := ⟨34, by decide +kernel, rfl, by decide⟩
theorem iX1_gatherFields_25 : ab_at mX1_gatherFields 25 (.aload_n 0) 1 26 := ⟨by decide +kernel, rfl⟩
theorem iX1_gatherFields_26 : ab_at mX1_gatherFields 26 (.getfield 9) 3 29 := ⟨by decide +kernel, rfl⟩
theorem iX1_gatherFields_29 : ab_at mX1_gatherFields 29 (.bipush 8) 2 31 := ⟨by decide +kernel, rfl⟩
theorem iX1_gatherFields_31 : ab_bc mX1_gatherFields 31 .ne 34 36 := ⟨5, by decide +kernel, rfl, by decide⟩
theorem iX1_gatherFields_34 : ab_at mX1_gatherFields 34 (.iconst 0) 1 35 := ⟨by decide +kernel, rfl⟩
theorem iX1_gatherFields_35 : ab_at mX1_gatherFields 35 (.ireturn) 1 36 := ⟨by decide +kernel, rfl⟩
theorem iX1_gatherFields_36 : ab_at mX1_gatherFields 36 (.aload_n 0) 1 37 := ⟨by decide +kernel, rfl⟩
theorem iX1_gatherFields_37 : ab_at mX1_gatherFields 37 (.getfield 15) 3 40 := ⟨by decide +kernel, rfl⟩
theorem iX1_gatherFields_40 : ab_at mX1_gatherFields 40 (.aload_n 0) 1 41 := ⟨by decide +kernel, rfl⟩
theorem iX1_gatherFields_41 : ab_at mX1_gatherFields 41 (.getfield 9) 3 44 := ⟨by decide +kernel, rfl⟩
theorem iX1_gatherFields_44 : ab_at mX1_gatherFields 44 (.iload_n 3) 1 45 := ⟨by decide +kernel, rfl⟩
theorem iX1_gatherFields_45 : ab_at mX1_gatherFields 45 (.iastore) 1 46 := ⟨by decide +kernel, rfl⟩
theorem iX1_gatherFields_46 : ab_at mX1_gatherFields 46 (.aload_n 0) 1 47 := ⟨by decide +kernel, rfl⟩
theorem iX1_gatherFields_47 : ab_at mX1_gatherFields 47 (.dup) 1 48 := ⟨by decide +kernel, rfl⟩
theorem iX1_gatherFields_48 : ab_at mX1_gatherFields 48 (.getfield 9) 3 51 := ⟨by decide +kernel, rfl⟩
theorem iX1_gatherFields_51 : ab_at mX1_gatherFields 51 (.iconst 1) 1 52 := ⟨by decide +kernel, rfl⟩
theorem iX1_gatherFields_52 : ab_at mX1_gatherFields 52 (.iadd) 1 53 := ⟨by decide +kernel, rfl⟩
theorem iX1_gatherFields_53 : ab_at mX1_gatherFields 53 (.putfield 9) 3 56 := ⟨by decide +kernel, rfl⟩
theorem iX1_gatherFields_56 : ab_at mX1_gatherFields 56 (.iinc 3 1) 3 59 := ⟨by decide +kernel, rfl⟩
theorem iX1_gatherFields_59 : ab_bg mX1_gatherFields 59 7 := ⟨-52, by decide +kernel, by decide⟩
theorem iX1_gatherFields_62 : ab_at mX1_gatherFields 62 (.iconst 1) 1 63 := ⟨by decide +kernel, rfl⟩
theorem iX1_gatherFields_63 : ab_at mX1_gatherFields 63 (.ireturn) 1 64 := ⟨by decide +kernel, rfl⟩
theorem iX1_gatherLots_0 : ab_at mX1_gatherLots 0 (.aload_n 0) 1 1 := ⟨by decide +kernel, rfl⟩
theorem iX1_gatherLots_1 : ab_at mX1_gatherLots 1 (.iconst 0) 1 2 := ⟨by decide +kernel, rfl⟩
theorem iX1_gatherLots_2 : ab_at mX1_gatherLots 2 (.putfield 22) 3 5 := ⟨by decide +kernel, rfl⟩
theorem iX1_gatherLots_5 : ab_at mX1_gatherLots 5 (.iconst 0) 1 6 := ⟨by decide +kernel, rfl⟩
theorem iX1_gatherLots_6 : ab_at mX1_gatherLots 6 (.istore_n 3) 1 7 := ⟨by decide +kernel, rfl⟩
theorem iX1_gatherLots_7 : ab_at mX1_gatherLots 7 (.iload_n 3) 1 8 := ⟨by decide +kernel, rfl⟩
theorem iX1_gatherLots_8 : ab_at mX1_gatherLots 8 (.aload_n 2) 1 9 := ⟨by decide +kernel, rfl⟩
theorem iX1_gatherLots_9 : ab_at mX1_gatherLots 9 (.getfield 72) 3 12 := ⟨by decide +kernel, rfl⟩
theorem iX1_gatherLots_12 : ab_bc mX1_gatherLots 12 .ge 15 61 := ⟨49, by decide +kernel, rfl, by decide⟩
theorem iX1_gatherLots_15 : ab_at mX1_gatherLots 15 (.aload_n 2) 1 16 := ⟨by decide +kernel, rfl⟩
theorem iX1_gatherLots_16 : ab_at mX1_gatherLots 16 (.getfield 73) 3 19 := ⟨by decide +kernel, rfl⟩
theorem iX1_gatherLots_19 : ab_at mX1_gatherLots 19 (.iload_n 3) 1 20 := ⟨by decide +kernel, rfl⟩
theorem iX1_gatherLots_20 : ab_at mX1_gatherLots 20 (.iaload) 1 21 := ⟨by decide +kernel, rfl⟩
theorem iX1_gatherLots_21 : ab_at mX1_gatherLots 21 (.iload_n 1) 1 22 := ⟨by decide +kernel, rfl⟩
theorem iX1_gatherLots_22 : ab_bc mX1_gatherLots 22 .ne 25 55 := ⟨33, by decide +kernel, rfl, by decide⟩
theorem iX1_gatherLots_25 : ab_at mX1_gatherLots 25 (.aload_n 0) 1 26 := ⟨by decide +kernel, rfl⟩
theorem iX1_gatherLots_26 : ab_at mX1_gatherLots 26 (.getfield 22) 3 29 := ⟨by decide +kernel, rfl⟩
theorem iX1_gatherLots_29 : ab_at mX1_gatherLots 29 (.iconst 4) 1 30 := ⟨by decide +kernel, rfl⟩
theorem iX1_gatherLots_30 : ab_bc mX1_gatherLots 30 .ne 33 35 := ⟨5, by decide +kernel, rfl, by decide⟩
theorem iX1_gatherLots_33 : ab_at mX1_gatherLots 33 (.iconst 0) 1 34 := ⟨by decide +kernel, rfl⟩
theorem iX1_gatherLots_34 : ab_at mX1_gatherLots 34 (.ireturn) 1 35 := ⟨by decide +kernel, rfl⟩
theorem iX1_gatherLots_35 : ab_at mX1_gatherLots 35 (.aload_n 0) 1 36 := ⟨by decide +kernel, rfl⟩
theorem iX1_gatherLots_36 : ab_at mX1_gatherLots 36 (.getfield 25) 3 39 := ⟨by decide +kernel, rfl⟩
theorem iX1_gatherLots_39 : ab_at mX1_gatherLots 39 (.aload_n 0) 1 40 := ⟨by decide +kernel, rfl⟩
theorem iX1_gatherLots_40 : ab_at mX1_gatherLots 40 (.getfield 22) 3 43 := ⟨by decide +kernel, rfl⟩
theorem iX1_gatherLots_43 : ab_at mX1_gatherLots 43 (.iload_n 3) 1 44 := ⟨by decide +kernel, rfl⟩
theorem iX1_gatherLots_44 : ab_at mX1_gatherLots 44 (.iastore) 1 45 := ⟨by decide +kernel, rfl⟩
theorem iX1_gatherLots_45 : ab_at mX1_gatherLots 45 (.aload_n 0) 1 46 := ⟨by decide +kernel, rfl⟩
theorem iX1_gatherLots_46 : ab_at mX1_gatherLots 46 (.dup) 1 47 := ⟨by decide +kernel, rfl⟩
theorem iX1_gatherLots_47 : ab_at mX1_gatherLots 47 (.getfield 22) 3 50 := ⟨by decide +kernel, rfl⟩
theorem iX1_gatherLots_50 : ab_at mX1_gatherLots 50 (.iconst 1) 1 51 := ⟨by decide +kernel, rfl⟩
theorem iX1_gatherLots_51 : ab_at mX1_gatherLots 51 (.iadd) 1 52 := ⟨by decide +kernel, rfl⟩
theorem iX1_gatherLots_52 : ab_at mX1_gatherLots 52 (.putfield 22) 3 55 := ⟨by decide +kernel, rfl⟩
theorem iX1_gatherLots_55 : ab_at mX1_gatherLots 55 (.iinc 3 1) 3 58 := ⟨by decide +kernel, rfl⟩
theorem iX1_gatherLots_58 : ab_bg mX1_gatherLots 58 7 := ⟨-51, by decide +kernel, by decide⟩
theorem iX1_gatherLots_61 : ab_at mX1_gatherLots 61 (.iconst 1) 1 62 := ⟨by decide +kernel, rfl⟩
theorem iX1_gatherLots_62 : ab_at mX1_gatherLots 62 (.ireturn) 1 63 := ⟨by decide +kernel, rfl⟩
theorem iX1_weighSets_0 : ab_at mX1_weighSets 0 (.aload_n 0) 1 1 := ⟨by decide +kernel, rfl⟩
theorem iX1_weighSets_1 : ab_at mX1_weighSets 1 (.getfield 28) 3 4 := ⟨by decide +kernel, rfl⟩
theorem iX1_weighSets_4 : ab_at mX1_weighSets 4 (.iconst 0) 1 5 := ⟨by decide +kernel, rfl⟩
theorem iX1_weighSets_5 : ab_at mX1_weighSets 5 (.iconst 0) 1 6 := ⟨by decide +kernel, rfl⟩
theorem iX1_weighSets_6 : ab_at mX1_weighSets 6 (.iastore) 1 7 := ⟨by decide +kernel, rfl⟩
theorem iX1_weighSets_7 : ab_at mX1_weighSets 7 (.aload_n 0) 1 8 := ⟨by decide +kernel, rfl⟩
theorem iX1_weighSets_8 : ab_at mX1_weighSets 8 (.getfield 31) 3 11 := ⟨by decide +kernel, rfl⟩
theorem iX1_weighSets_11 : ab_at mX1_weighSets 11 (.iconst 0) 1 12 := ⟨by decide +kernel, rfl⟩
theorem iX1_weighSets_12 : ab_at mX1_weighSets 12 (.iconst 0) 1 13 := ⟨by decide +kernel, rfl⟩
theorem iX1_weighSets_13 : ab_at mX1_weighSets 13 (.iastore) 1 14 := ⟨by decide +kernel, rfl⟩
theorem iX1_weighSets_14 : ab_at mX1_weighSets 14 (.aload_n 0) 1 15 := ⟨by decide +kernel, rfl⟩
theorem iX1_weighSets_15 : ab_at mX1_weighSets 15 (.getfield 34) 3 18 := ⟨by decide +kernel, rfl⟩
theorem iX1_weighSets_18 : ab_at mX1_weighSets 18 (.iconst 0) 1 19 := ⟨by decide +kernel, rfl⟩
theorem iX1_weighSets_19 : ab_at mX1_weighSets 19 (.iconst 0) 1 20 := ⟨by decide +kernel, rfl⟩
theorem iX1_weighSets_20 : ab_at mX1_weighSets 20 (.iastore) 1 21 := ⟨by decide +kernel, rfl⟩
theorem iX1_weighSets_21 : ab_at mX1_weighSets 21 (.iconst 1) 1 22 := ⟨by decide +kernel, rfl⟩
theorem iX1_weighSets_22 : ab_at mX1_weighSets 22 (.istore_n 2) 1 23 := ⟨by decide +kernel, rfl⟩
theorem iX1_weighSets_23 : ab_at mX1_weighSets 23 (.aload_n 0) 1 24 := ⟨by decide +kernel, rfl⟩
theorem iX1_weighSets_24 : ab_at mX1_weighSets 24 (.getfield 9) 3 27 := ⟨by decide +kernel, rfl⟩
theorem iX1_weighSets_27 : ab_at mX1_weighSets 27 (.iconst 1) 1 28 := ⟨by decide +kernel, rfl⟩
theorem iX1_weighSets_28 : ab_at mX1_weighSets 28 (.isub) 1 29 := ⟨by decide +kernel, rfl⟩
theorem iX1_weighSets_29 : ab_at mX1_weighSets 29 (.istore_n 3) 1 30 := ⟨by decide +kernel, rfl⟩
theorem iX1_weighSets_30 : ab_at mX1_weighSets 30 (.iload_n 3) 1 31 := ⟨by decide +kernel, rfl⟩
theorem iX1_weighSets_31 : ab_bi mX1_weighSets 31 .lt 34 138 := ⟨107, by decide +kernel, rfl, by decide⟩
theorem iX1_weighSets_34 : ab_at mX1_weighSets 34 (.iconst 1) 1 35 := ⟨by decide +kernel, rfl⟩
theorem iX1_weighSets_35 : ab_at mX1_weighSets 35 (.aload_n 0) 1 36 := ⟨by decide +kernel, rfl⟩
theorem iX1_weighSets_36 : ab_at mX1_weighSets 36 (.getfield 9) 3 39 := ⟨by decide +kernel, rfl⟩
theorem iX1_weighSets_39 : ab_at mX1_weighSets 39 (.iconst 1) 1 40 := ⟨by decide +kernel, rfl⟩
theorem iX1_weighSets_40 : ab_at mX1_weighSets 40 (.isub) 1 41 := ⟨by decide +kernel, rfl⟩
theorem iX1_weighSets_41 : ab_at mX1_weighSets 41 (.iload_n 3) 1 42 := ⟨by decide +kernel, rfl⟩
theorem iX1_weighSets_42 : ab_at mX1_weighSets 42 (.isub) 1 43 := ⟨by decide +kernel, rfl⟩
theorem iX1_weighSets_43 : ab_at mX1_weighSets 43 (.ishl) 1 44 := ⟨by decide +kernel, rfl⟩
theorem iX1_weighSets_44 : ab_at mX1_weighSets 44 (.istore 4) 2 46 := ⟨by decide +kernel, rfl⟩
theorem iX1_weighSets_46 : ab_at mX1_weighSets 46 (.iconst 0) 1 47 := ⟨by decide +kernel, rfl⟩
theorem iX1_weighSets_47 : ab_at mX1_weighSets 47 (.istore 5) 2 49 := ⟨by decide +kernel, rfl⟩
theorem iX1_weighSets_49 : ab_at mX1_weighSets 49 (.iload 5) 2 51 := ⟨by decide +kernel, rfl⟩
theorem iX1_weighSets_51 : ab_at mX1_weighSets 51 (.iload 4) 2 53 := ⟨by decide +kernel, rfl⟩
theorem iX1_weighSets_53 : ab_bc mX1_weighSets 53 .ge 56 128 := ⟨75, by decide +kernel, rfl, by decide⟩
theorem iX1_weighSets_56 : ab_at mX1_weighSets 56 (.iload 5) 2 58 := ⟨by decide +kernel, rfl⟩
theorem iX1_weighSets_58 : ab_at mX1_weighSets 58 (.iload 4) 2 60 := ⟨by decide +kernel, rfl⟩
theorem iX1_weighSets_60 : ab_at mX1_weighSets 60 (.iadd) 1 61 := ⟨by decide +kernel, rfl⟩
theorem iX1_weighSets_61 : ab_at mX1_weighSets 61 (.istore 6) 2 63 := ⟨by decide +kernel, rfl⟩
theorem iX1_weighSets_63 : ab_at mX1_weighSets 63 (.aload_n 0) 1 64 := ⟨by decide +kernel, rfl⟩
theorem iX1_weighSets_64 : ab_at mX1_weighSets 64 (.getfield 28) 3 67 := ⟨by decide +kernel, rfl⟩
theorem iX1_weighSets_67 : ab_at mX1_weighSets 67 (.iload 6) 2 69 := ⟨by decide +kernel, rfl⟩
theorem iX1_weighSets_69 : ab_at mX1_weighSets 69 (.aload_n 0) 1 70 := ⟨by decide +kernel, rfl⟩
theorem iX1_weighSets_70 : ab_at mX1_weighSets 70 (.getfield 28) 3 73 := ⟨by decide +kernel, rfl⟩
theorem iX1_weighSets_73 : ab_at mX1_weighSets 73 (.iload 5) 2 75 := ⟨by decide +kernel, rfl⟩
theorem iX1_weighSets_75 : ab_at mX1_weighSets 75 (.iaload) 1 76 := ⟨by decide +kernel, rfl⟩
theorem iX1_weighSets_76 : ab_at mX1_weighSets 76 (.aload_n 1) 1 77 := ⟨by decide +kernel, rfl⟩
theorem iX1_weighSets_77 : ab_at mX1_weighSets 77 (.getfield 74) 3 80 := ⟨by decide +kernel, rfl⟩
theorem iX1_weighSets_80 : ab_at mX1_weighSets 80 (.aload_n 0) 1 81 := ⟨by decide +kernel, rfl⟩
theorem iX1_weighSets_81 : ab_at mX1_weighSets 81 (.getfield 15) 3 84 := ⟨by decide +kernel, rfl⟩
theorem iX1_weighSets_84 : ab_at mX1_weighSets 84 (.iload_n 3) 1 85 := ⟨by decide +kernel, rfl⟩
theorem iX1_weighSets_85 : ab_at mX1_weighSets 85 (.iaload) 1 86 := ⟨by decide +kernel, rfl⟩
theorem iX1_weighSets_86 : ab_at mX1_weighSets 86 (.iaload) 1 87 := ⟨by decide +kernel, rfl⟩
theorem iX1_weighSets_87 : ab_at mX1_weighSets 87 (.iadd) 1 88 := ⟨by decide +kernel, rfl⟩
theorem iX1_weighSets_88 : ab_at mX1_weighSets 88 (.iastore) 1 89 := ⟨by decide +kernel, rfl⟩
theorem iX1_weighSets_89 : ab_at mX1_weighSets 89 (.aload_n 0) 1 90 := ⟨by decide +kernel, rfl⟩
theorem iX1_weighSets_90 : ab_at mX1_weighSets 90 (.getfield 31) 3 93 := ⟨by decide +kernel, rfl⟩
theorem iX1_weighSets_93 : ab_at mX1_weighSets 93 (.iload 6) 2 95 := ⟨by decide +kernel, rfl⟩
theorem iX1_weighSets_95 : ab_at mX1_weighSets 95 (.aload_n 0) 1 96 := ⟨by decide +kernel, rfl⟩
theorem iX1_weighSets_96 : ab_at mX1_weighSets 96 (.getfield 31) 3 99 := ⟨by decide +kernel, rfl⟩
theorem iX1_weighSets_99 : ab_at mX1_weighSets 99 (.iload 5) 2 101 := ⟨by decide +kernel, rfl⟩
theorem iX1_weighSets_101 : ab_at mX1_weighSets 101 (.iaload) 1 102 := ⟨by decide +kernel, rfl⟩
theorem iX1_weighSets_102 : ab_at mX1_weighSets 102 (.iload_n 2) 1 103 := ⟨by decide +kernel, rfl⟩
theorem iX1_weighSets_103 : ab_at mX1_weighSets 103 (.iadd) 1 104 := ⟨by decide +kernel, rfl⟩
theorem iX1_weighSets_104 : ab_at mX1_weighSets 104 (.iastore) 1 105 := ⟨by decide +kernel, rfl⟩
theorem iX1_weighSets_105 : ab_at mX1_weighSets 105 (.aload_n 0) 1 106 := ⟨by decide +kernel, rfl⟩
theorem iX1_weighSets_106 : ab_at mX1_weighSets 106 (.getfield 34) 3 109 := ⟨by decide +kernel, rfl⟩
theorem iX1_weighSets_109 : ab_at mX1_weighSets 109 (.iload 6) 2 111 := ⟨by decide +kernel, rfl⟩
theorem iX1_weighSets_111 : ab_at mX1_weighSets 111 (.bipush (-4)) 2 113 := ⟨by decide +kernel, rfl⟩
theorem iX1_weighSets_113 : ab_at mX1_weighSets 113 (.aload_n 0) 1 114 := ⟨by decide +kernel, rfl⟩
theorem iX1_weighSets_114 : ab_at mX1_weighSets 114 (.getfield 31) 3 117 := ⟨by decide +kernel, rfl⟩
theorem iX1_weighSets_117 : ab_at mX1_weighSets 117 (.iload 6) 2 119 := ⟨by decide +kernel, rfl⟩
theorem iX1_weighSets_119 : ab_at mX1_weighSets 119 (.iaload) 1 120 := ⟨by decide +kernel, rfl⟩
theorem iX1_weighSets_120 : ab_at mX1_weighSets 120 (.imul) 1 121 := ⟨by decide +kernel, rfl⟩
theorem iX1_weighSets_121 : ab_at mX1_weighSets 121 (.iastore) 1 122 := ⟨by decide +kernel, rfl⟩
theorem iX1_weighSets_122 : ab_at mX1_weighSets 122 (.iinc 5 1) 3 125 := ⟨by decide +kernel, rfl⟩
theorem iX1_weighSets_125 : ab_bg mX1_weighSets 125 49 := ⟨-76, by decide +kernel, by decide⟩
theorem iX1_weighSets_128 : ab_at mX1_weighSets 128 (.iload_n 2) 1 129 := ⟨by decide +kernel, rfl⟩
theorem iX1_weighSets_129 : ab_at mX1_weighSets 129 (.iconst 5) 1 130 := ⟨by decide +kernel, rfl⟩
theorem iX1_weighSets_130 : ab_at mX1_weighSets 130 (.imul) 1 131 := ⟨by decide +kernel, rfl⟩
theorem iX1_weighSets_131 : ab_at mX1_weighSets 131 (.istore_n 2) 1 132 := ⟨by decide +kernel, rfl⟩
theorem iX1_weighSets_132 : ab_at mX1_weighSets 132 (.iinc 3 (-1)) 3 135 := ⟨by decide +kernel, rfl⟩
theorem iX1_weighSets_135 : ab_bg mX1_weighSets 135 30 := ⟨-105, by decide +kernel, by decide⟩
theorem iX1_weighSets_138 : ab_at mX1_weighSets 138 (.return_) 1 139 := ⟨by decide +kernel, rfl⟩
theorem iX1_addLot_0 : ab_at mX1_addLot 0 (.iconst 1) 1 1 := ⟨by decide +kernel, rfl⟩
theorem iX1_addLot_1 : ab_at mX1_addLot 1 (.aload_n 0) 1 2 := ⟨by decide +kernel, rfl⟩
theorem iX1_addLot_2 : ab_at mX1_addLot 2 (.getfield 9) 3 5 := ⟨by decide +kernel, rfl⟩
theorem iX1_addLot_5 : ab_at mX1_addLot 5 (.ishl) 1 6 := ⟨by decide +kernel, rfl⟩
theorem iX1_addLot_6 : ab_at mX1_addLot 6 (.iconst 1) 1 7 := ⟨by decide +kernel, rfl⟩
theorem iX1_addLot_7 : ab_at mX1_addLot 7 (.isub) 1 8 := ⟨by decide +kernel, rfl⟩
theorem iX1_addLot_8 : ab_at mX1_addLot 8 (.istore_n 3) 1 9 := ⟨by decide +kernel, rfl⟩
theorem iX1_addLot_9 : ab_at mX1_addLot 9 (.iload_n 3) 1 10 := ⟨by decide +kernel, rfl⟩
theorem iX1_addLot_10 : ab_bi mX1_addLot 10 .lt 13 129 := ⟨119, by decide +kernel, rfl, by decide⟩
theorem iX1_addLot_13 : ab_at mX1_addLot 13 (.aload_n 0) 1 14 := ⟨by decide +kernel, rfl⟩
theorem iX1_addLot_14 : ab_at mX1_addLot 14 (.getfield 34) 3 17 := ⟨by decide +kernel, rfl⟩
theorem iX1_addLot_17 : ab_at mX1_addLot 17 (.iload_n 3) 1 18 := ⟨by decide +kernel, rfl⟩
theorem iX1_addLot_18 : ab_at mX1_addLot 18 (.iaload) 1 19 := ⟨by decide +kernel, rfl⟩
theorem iX1_addLot_19 : ab_at mX1_addLot 19 (.istore 4) 2 21 := ⟨by decide +kernel, rfl⟩
theorem iX1_addLot_21 : ab_at mX1_addLot 21 (.iconst 0) 1 22 := ⟨by decide +kernel, rfl⟩
theorem iX1_addLot_22 : ab_at mX1_addLot 22 (.istore 5) 2 24 := ⟨by decide +kernel, rfl⟩
theorem iX1_addLot_24 : ab_at mX1_addLot 24 (.iload_n 3) 1 25 := ⟨by decide +kernel, rfl⟩
theorem iX1_addLot_25 : ab_at mX1_addLot 25 (.istore 6) 2 27 := ⟨by decide +kernel, rfl⟩
theorem iX1_addLot_27 : ab_at mX1_addLot 27 (.iload 6) 2 29 := ⟨by decide +kernel, rfl⟩
theorem iX1_addLot_29 : ab_bi mX1_addLot 29 .le 32 101 := ⟨72, by decide +kernel, rfl, by decide⟩
theorem iX1_addLot_32 : ab_at mX1_addLot 32 (.aload_n 0) 1 33 := ⟨by decide +kernel, rfl⟩
theorem iX1_addLot_33 : ab_at mX1_addLot 33 (.getfield 28) 3 36 := ⟨by decide +kernel, rfl⟩
theorem iX1_addLot_36 : ab_at mX1_addLot 36 (.iload 6) 2 38 := ⟨by decide +kernel, rfl⟩
theorem iX1_addLot_38 : ab_at mX1_addLot 38 (.iaload) 1 39 := ⟨by decide +kernel, rfl⟩
theorem iX1_addLot_39 : ab_at mX1_addLot 39 (.iload_n 2) 1 40 := ⟨by decide +kernel, rfl⟩
theorem iX1_addLot_40 : ab_bc mX1_addLot 40 .gt 43 90 := ⟨50, by decide +kernel, rfl, by decide⟩
theorem iX1_addLot_43 : ab_at mX1_addLot 43 (.aload_n 0) 1 44 := ⟨by decide +kernel, rfl⟩
theorem iX1_addLot_44 : ab_at mX1_addLot 44 (.getfield 28) 3 47 := ⟨by decide +kernel, rfl⟩
theorem iX1_addLot_47 : ab_at mX1_addLot 47 (.iload 6) 2 49 := ⟨by decide +kernel, rfl⟩
theorem iX1_addLot_49 : ab_at mX1_addLot 49 (.iaload) 1 50 := ⟨by decide +kernel, rfl⟩
theorem iX1_addLot_50 : ab_at mX1_addLot 50 (.ldc 75) 2 52 := ⟨by decide +kernel, rfl⟩
theorem iX1_addLot_52 : ab_at mX1_addLot 52 (.imul) 1 53 := ⟨by decide +kernel, rfl⟩
theorem iX1_addLot_53 : ab_at mX1_addLot 53 (.iload_n 1) 1 54 := ⟨by decide +kernel, rfl⟩
theorem iX1_addLot_54 : ab_at mX1_addLot 54 (.aload_n 0) 1 55 := ⟨by decide +kernel, rfl⟩
theorem iX1_addLot_55 : ab_at mX1_addLot 55 (.getfield 31) 3 58 := ⟨by decide +kernel, rfl⟩
theorem iX1_addLot_58 : ab_at mX1_addLot 58 (.iload 6) 2 60 := ⟨by decide +kernel, rfl⟩
theorem iX1_addLot_60 : ab_at mX1_addLot 60 (.iaload) 1 61 := ⟨by decide +kernel, rfl⟩
theorem iX1_addLot_61 : ab_at mX1_addLot 61 (.imul) 1 62 := ⟨by decide +kernel, rfl⟩
theorem iX1_addLot_62 : ab_at mX1_addLot 62 (.isub) 1 63 := ⟨by decide +kernel, rfl⟩
theorem iX1_addLot_63 : ab_at mX1_addLot 63 (.aload_n 0) 1 64 := ⟨by decide +kernel, rfl⟩
theorem iX1_addLot_64 : ab_at mX1_addLot 64 (.getfield 34) 3 67 := ⟨by decide +kernel, rfl⟩
theorem iX1_addLot_67 : ab_at mX1_addLot 67 (.iload_n 3) 1 68 := ⟨by decide +kernel, rfl⟩
theorem iX1_addLot_68 : ab_at mX1_addLot 68 (.iload 6) 2 70 := ⟨by decide +kernel, rfl⟩
theorem iX1_addLot_70 : ab_at mX1_addLot 70 (.isub) 1 71 := ⟨by decide +kernel, rfl⟩
theorem iX1_addLot_71 : ab_at mX1_addLot 71 (.iaload) 1 72 := ⟨by decide +kernel, rfl⟩
theorem iX1_addLot_72 : ab_at mX1_addLot 72 (.iadd) 1 73 := ⟨by decide +kernel, rfl⟩
theorem iX1_addLot_73 : ab_at mX1_addLot 73 (.istore 7) 2 75 := ⟨by decide +kernel, rfl⟩
theorem iX1_addLot_75 : ab_at mX1_addLot 75 (.iload 7) 2 77 := ⟨by decide +kernel, rfl⟩
theorem iX1_addLot_77 : ab_at mX1_addLot 77 (.iload 4) 2 79 := ⟨by decide +kernel, rfl⟩
theorem iX1_addLot_79 : ab_bc mX1_addLot 79 .le 82 90 := ⟨11, by decide +kernel, rfl, by decide⟩
theorem iX1_addLot_82 : ab_at mX1_addLot 82 (.iload 7) 2 84 := ⟨by decide +kernel, rfl⟩
theorem iX1_addLot_84 : ab_at mX1_addLot 84 (.istore 4) 2 86 := ⟨by decide +kernel, rfl⟩
theorem iX1_addLot_86 : ab_at mX1_addLot 86 (.iload 6) 2 88 := ⟨by decide +kernel, rfl⟩
theorem iX1_addLot_88 : ab_at mX1_addLot 88 (.istore 5) 2 90 := ⟨by decide +kernel, rfl⟩
theorem iX1_addLot_90 : ab_at mX1_addLot 90 (.iload 6) 2 92 := ⟨by decide +kernel, rfl⟩
theorem iX1_addLot_92 : ab_at mX1_addLot 92 (.iconst 1) 1 93 := ⟨by decide +kernel, rfl⟩
theorem iX1_addLot_93 : ab_at mX1_addLot 93 (.isub) 1 94 := ⟨by decide +kernel, rfl⟩
theorem iX1_addLot_94 : ab_at mX1_addLot 94 (.iload_n 3) 1 95 := ⟨by decide +kernel, rfl⟩
theorem iX1_addLot_95 : ab_at mX1_addLot 95 (.iand) 1 96 := ⟨by decide +kernel, rfl⟩
theorem iX1_addLot_96 : ab_at mX1_addLot 96 (.istore 6) 2 98 := ⟨by decide +kernel, rfl⟩
theorem iX1_addLot_98 : ab_bg mX1_addLot 98 27 := ⟨-71, by decide +kernel, by decide⟩
theorem iX1_addLot_101 : ab_at mX1_addLot 101 (.aload_n 0) 1 102 := ⟨by decide +kernel, rfl⟩
theorem iX1_addLot_102 : ab_at mX1_addLot 102 (.getfield 34) 3 105 := ⟨by decide +kernel, rfl⟩
theorem iX1_addLot_105 : ab_at mX1_addLot 105 (.iload_n 3) 1 106 := ⟨by decide +kernel, rfl⟩
theorem iX1_addLot_106 : ab_at mX1_addLot 106 (.iload 4) 2 108 := ⟨by decide +kernel, rfl⟩
theorem iX1_addLot_108 : ab_at mX1_addLot 108 (.iastore) 1 109 := ⟨by decide +kernel, rfl⟩
theorem iX1_addLot_109 : ab_at mX1_addLot 109 (.aload_n 0) 1 110 := ⟨by decide +kernel, rfl⟩
theorem iX1_addLot_110 : ab_at mX1_addLot 110 (.getfield 37) 3 113 := ⟨by decide +kernel, rfl⟩
theorem iX1_addLot_113 : ab_at mX1_addLot 113 (.iload_n 1) 1 114 := ⟨by decide +kernel, rfl⟩
theorem iX1_addLot_114 : ab_at mX1_addLot 114 (.sipush 256) 3 117 := ⟨by decide +kernel, rfl⟩
theorem iX1_addLot_117 : ab_at mX1_addLot 117 (.imul) 1 118 := ⟨by decide +kernel, rfl⟩
theorem iX1_addLot_118 : ab_at mX1_addLot 118 (.iload_n 3) 1 119 := ⟨by decide +kernel, rfl⟩
theorem iX1_addLot_119 : ab_at mX1_addLot 119 (.iadd) 1 120 := ⟨by decide +kernel, rfl⟩
theorem iX1_addLot_120 : ab_at mX1_addLot 120 (.iload 5) 2 122 := ⟨by decide +kernel, rfl⟩
theorem iX1_addLot_122 : ab_at mX1_addLot 122 (.iastore) 1 123 := ⟨by decide +kernel, rfl⟩
theorem iX1_addLot_123 : ab_at mX1_addLot 123 (.iinc 3 (-1)) 3 126 := ⟨by decide +kernel, rfl⟩
theorem iX1_addLot_126 : ab_bg mX1_addLot 126 9 := ⟨-117, by decide +kernel, by decide⟩
theorem iX1_addLot_129 : ab_at mX1_addLot 129 (.return_) 1 130 := ⟨by decide +kernel, rfl⟩
theorem iX1_readChoices_0 : ab_at mX1_readChoices 0 (.aload_n 0) 1 1 := ⟨by decide +kernel, rfl⟩
theorem iX1_readChoices_1 : ab_at mX1_readChoices 1 (.getfield 19) 3 4 := ⟨by decide +kernel, rfl⟩
theorem iX1_readChoices_4 : ab_at mX1_readChoices 4 (.iconst 4) 1 5 := ⟨by decide +kernel, rfl⟩
theorem iX1_readChoices_5 : ab_at mX1_readChoices 5 (.invokestatic 76) 3 8 := ⟨by decide +kernel, rfl⟩
theorem iX1_readChoices_8 : ab_at mX1_readChoices 8 (.iconst 1) 1 9 := ⟨by decide +kernel, rfl⟩
theorem iX1_readChoices_9 : ab_at mX1_readChoices 9 (.aload_n 0) 1 10 := ⟨by decide +kernel, rfl⟩
theorem iX1_readChoices_10 : ab_at mX1_readChoices 10 (.getfield 9) 3 13 := ⟨by decide +kernel, rfl⟩
theorem iX1_readChoices_13 : ab_at mX1_readChoices 13 (.ishl) 1 14 := ⟨by decide +kernel, rfl⟩
theorem iX1_readChoices_14 : ab_at mX1_readChoices 14 (.iconst 1) 1 15 := ⟨by decide +kernel, rfl⟩
theorem iX1_readChoices_15 : ab_at mX1_readChoices 15 (.isub) 1 16 := ⟨by decide +kernel, rfl⟩
theorem iX1_readChoices_16 : ab_at mX1_readChoices 16 (.istore_n 1) 1 17 := ⟨by decide +kernel, rfl⟩
theorem iX1_readChoices_17 : ab_at mX1_readChoices 17 (.iconst 0) 1 18 := ⟨by decide +kernel, rfl⟩
theorem iX1_readChoices_18 : ab_at mX1_readChoices 18 (.istore_n 2) 1 19 := ⟨by decide +kernel, rfl⟩
theorem iX1_readChoices_19 : ab_at mX1_readChoices 19 (.iload_n 2) 1 20 := ⟨by decide +kernel, rfl⟩
theorem iX1_readChoices_20 : ab_at mX1_readChoices 20 (.aload_n 0) 1 21 := ⟨by decide +kernel, rfl⟩
theorem iX1_readChoices_21 : ab_at mX1_readChoices 21 (.getfield 22) 3 24 := ⟨by decide +kernel, rfl⟩
theorem iX1_readChoices_24 : ab_bc mX1_readChoices 24 .ge 27 93 := ⟨69, by decide +kernel, rfl, by decide⟩
theorem iX1_readChoices_27 : ab_at mX1_readChoices 27 (.aload_n 0) 1 28 := ⟨by decide +kernel, rfl⟩
theorem iX1_readChoices_28 : ab_at mX1_readChoices 28 (.getfield 37) 3 31 := ⟨by decide +kernel, rfl⟩
theorem iX1_readChoices_31 : ab_at mX1_readChoices 31 (.iload_n 2) 1 32 := ⟨by decide +kernel, rfl⟩
theorem iX1_readChoices_32 : ab_at mX1_readChoices 32 (.sipush 256) 3 35 := ⟨by decide +kernel, rfl⟩
theorem iX1_readChoices_35 : ab_at mX1_readChoices 35 (.imul) 1 36 := ⟨by decide +kernel, rfl⟩
theorem iX1_readChoices_36 : ab_at mX1_readChoices 36 (.iload_n 1) 1 37 := ⟨by decide +kernel, rfl⟩
theorem iX1_readChoices_37 : ab_at mX1_readChoices 37 (.iadd) 1 38 := ⟨by decide +kernel, rfl⟩
theorem iX1_readChoices_38 : ab_at mX1_readChoices 38 (.iaload) 1 39 := ⟨by decide +kernel, rfl⟩
theorem iX1_readChoices_39 : ab_at mX1_readChoices 39 (.istore_n 3) 1 40 := ⟨by decide +kernel, rfl⟩
theorem iX1_readChoices_40 : ab_at mX1_readChoices 40 (.iconst 0) 1 41 := ⟨by decide +kernel, rfl⟩
theorem iX1_readChoices_41 : ab_at mX1_readChoices 41 (.istore 4) 2 43 := ⟨by decide +kernel, rfl⟩
theorem iX1_readChoices_43 : ab_at mX1_readChoices 43 (.iload 4) 2 45 := ⟨by decide +kernel, rfl⟩
theorem iX1_readChoices_45 : ab_at mX1_readChoices 45 (.aload_n 0) 1 46 := ⟨by decide +kernel, rfl⟩
theorem iX1_readChoices_46 : ab_at mX1_readChoices 46 (.getfield 9) 3 49 := ⟨by decide +kernel, rfl⟩
theorem iX1_readChoices_49 : ab_bc mX1_readChoices 49 .ge 52 83 := ⟨34, by decide +kernel, rfl, by decide⟩
theorem iX1_readChoices_52 : ab_at mX1_readChoices 52 (.iload_n 3) 1 53 := ⟨by decide +kernel, rfl⟩
theorem iX1_readChoices_53 : ab_at mX1_readChoices 53 (.aload_n 0) 1 54 := ⟨by decide +kernel, rfl⟩
theorem iX1_readChoices_54 : ab_at mX1_readChoices 54 (.getfield 9) 3 57 := ⟨by decide +kernel, rfl⟩
theorem iX1_readChoices_57 : ab_at mX1_readChoices 57 (.iconst 1) 1 58 := ⟨by decide +kernel, rfl⟩
theorem iX1_readChoices_58 : ab_at mX1_readChoices 58 (.isub) 1 59 := ⟨by decide +kernel, rfl⟩
theorem iX1_readChoices_59 : ab_at mX1_readChoices 59 (.iload 4) 2 61 := ⟨by decide +kernel, rfl⟩
theorem iX1_readChoices_61 : ab_at mX1_readChoices 61 (.isub) 1 62 := ⟨by decide +kernel, rfl⟩
theorem iX1_readChoices_62 : ab_at mX1_readChoices 62 (.ishr) 1 63 := ⟨by decide +kernel, rfl⟩
theorem iX1_readChoices_63 : ab_at mX1_readChoices 63 (.iconst 1) 1 64 := ⟨by decide +kernel, rfl⟩
theorem iX1_readChoices_64 : ab_at mX1_readChoices 64 (.iand) 1 65 := ⟨by decide +kernel, rfl⟩
theorem iX1_readChoices_65 : ab_at mX1_readChoices 65 (.iconst 1) 1 66 := ⟨by decide +kernel, rfl⟩
theorem iX1_readChoices_66 : ab_bc mX1_readChoices 66 .ne 69 77 := ⟨11, by decide +kernel, rfl, by decide⟩
theorem iX1_readChoices_69 : ab_at mX1_readChoices 69 (.aload_n 0) 1 70 := ⟨by decide +kernel, rfl⟩
theorem iX1_readChoices_70 : ab_at mX1_readChoices 70 (.getfield 19) 3 73 := ⟨by decide +kernel, rfl⟩
theorem iX1_readChoices_73 : ab_at mX1_readChoices 73 (.iload 4) 2 75 := ⟨by decide +kernel, rfl⟩
theorem iX1_readChoices_75 : ab_at mX1_readChoices 75 (.iload_n 2) 1 76 := ⟨by decide +kernel, rfl⟩
theorem iX1_readChoices_76 : ab_at mX1_readChoices 76 (.iastore) 1 77 := ⟨by decide +kernel, rfl⟩
theorem iX1_readChoices_77 : ab_at mX1_readChoices 77 (.iinc 4 1) 3 80 := ⟨by decide +kernel, rfl⟩
theorem iX1_readChoices_80 : ab_bg mX1_readChoices 80 43 := ⟨-37, by decide +kernel, by decide⟩
theorem iX1_readChoices_83 : ab_at mX1_readChoices 83 (.iload_n 1) 1 84 := ⟨by decide +kernel, rfl⟩
theorem iX1_readChoices_84 : ab_at mX1_readChoices 84 (.iload_n 3) 1 85 := ⟨by decide +kernel, rfl⟩
theorem iX1_readChoices_85 : ab_at mX1_readChoices 85 (.isub) 1 86 := ⟨by decide +kernel, rfl⟩
theorem iX1_readChoices_86 : ab_at mX1_readChoices 86 (.istore_n 1) 1 87 := ⟨by decide +kernel, rfl⟩
theorem iX1_readChoices_87 : ab_at mX1_readChoices 87 (.iinc 2 1) 3 90 := ⟨by decide +kernel, rfl⟩
theorem iX1_readChoices_90 : ab_bg mX1_readChoices 90 19 := ⟨-71, by decide +kernel, by decide⟩
theorem iX1_readChoices_93 : ab_at mX1_readChoices 93 (.return_) 1 94 := ⟨by decide +kernel, rfl⟩
theorem iX1_lotFor_0 : ab_at mX1_lotFor 0 (.iconst 0) 1 1 := ⟨by decide +kernel, rfl⟩
theorem iX1_lotFor_1 : ab_at mX1_lotFor 1 (.istore_n 2) 1 2 := ⟨by decide +kernel, rfl⟩
theorem iX1_lotFor_2 : ab_at mX1_lotFor 2 (.iload_n 2) 1 3 := ⟨by decide +kernel, rfl⟩
theorem iX1_lotFor_3 : ab_at mX1_lotFor 3 (.aload_n 0) 1 4 := ⟨by decide +kernel, rfl⟩
theorem iX1_lotFor_4 : ab_at mX1_lotFor 4 (.getfield 9) 3 7 := ⟨by decide +kernel, rfl⟩
theorem iX1_lotFor_7 : ab_bc mX1_lotFor 7 .ge 10 51 := ⟨44, by decide +kernel, rfl, by decide⟩
theorem iX1_lotFor_10 : ab_at mX1_lotFor 10 (.aload_n 0) 1 11 := ⟨by decide +kernel, rfl⟩
theorem iX1_lotFor_11 : ab_at mX1_lotFor 11 (.getfield 15) 3 14 := ⟨by decide +kernel, rfl⟩
theorem iX1_lotFor_14 : ab_at mX1_lotFor 14 (.iload_n 2) 1 15 := ⟨by decide +kernel, rfl⟩
theorem iX1_lotFor_15 : ab_at mX1_lotFor 15 (.iaload) 1 16 := ⟨by decide +kernel, rfl⟩
theorem iX1_lotFor_16 : ab_at mX1_lotFor 16 (.iload_n 1) 1 17 := ⟨by decide +kernel, rfl⟩
theorem iX1_lotFor_17 : ab_bc mX1_lotFor 17 .ne 20 45 := ⟨28, by decide +kernel, rfl, by decide⟩
theorem iX1_lotFor_20 : ab_at mX1_lotFor 20 (.aload_n 0) 1 21 := ⟨by decide +kernel, rfl⟩
theorem iX1_lotFor_21 : ab_at mX1_lotFor 21 (.getfield 19) 3 24 := ⟨by decide +kernel, rfl⟩
theorem iX1_lotFor_24 : ab_at mX1_lotFor 24 (.iload_n 2) 1 25 := ⟨by decide +kernel, rfl⟩
theorem iX1_lotFor_25 : ab_at mX1_lotFor 25 (.iaload) 1 26 := ⟨by decide +kernel, rfl⟩
theorem iX1_lotFor_26 : ab_at mX1_lotFor 26 (.aload_n 0) 1 27 := ⟨by decide +kernel, rfl⟩
theorem iX1_lotFor_27 : ab_at mX1_lotFor 27 (.getfield 22) 3 30 := ⟨by decide +kernel, rfl⟩
theorem iX1_lotFor_30 : ab_bc mX1_lotFor 30 .ge 33 45 := ⟨15, by decide +kernel, rfl, by decide⟩
theorem iX1_lotFor_33 : ab_at mX1_lotFor 33 (.aload_n 0) 1 34 := ⟨by decide +kernel, rfl⟩
theorem iX1_lotFor_34 : ab_at mX1_lotFor 34 (.getfield 25) 3 37 := ⟨by decide +kernel, rfl⟩
theorem iX1_lotFor_37 : ab_at mX1_lotFor 37 (.aload_n 0) 1 38 := ⟨by decide +kernel, rfl⟩
theorem iX1_lotFor_38 : ab_at mX1_lotFor 38 (.getfield 19) 3 41 := ⟨by decide +kernel, rfl⟩
theorem iX1_lotFor_41 : ab_at mX1_lotFor 41 (.iload_n 2) 1 42 := ⟨by decide +kernel, rfl⟩
theorem iX1_lotFor_42 : ab_at mX1_lotFor 42 (.iaload) 1 43 := ⟨by decide +kernel, rfl⟩
theorem iX1_lotFor_43 : ab_at mX1_lotFor 43 (.iaload) 1 44 := ⟨by decide +kernel, rfl⟩
theorem iX1_lotFor_44 : ab_at mX1_lotFor 44 (.ireturn) 1 45 := ⟨by decide +kernel, rfl⟩
theorem iX1_lotFor_45 : ab_at mX1_lotFor 45 (.iinc 2 1) 3 48 := ⟨by decide +kernel, rfl⟩
theorem iX1_lotFor_48 : ab_bg mX1_lotFor 48 2 := ⟨-46, by decide +kernel, by decide⟩
theorem iX1_lotFor_51 : ab_at mX1_lotFor 51 (.bipush (-4)) 2 53 := ⟨by decide +kernel, rfl⟩
theorem iX1_lotFor_53 : ab_at mX1_lotFor 53 (.ireturn) 1 54 := ⟨by decide +kernel, rfl⟩
theorem iX1_yarnFrom_0 : ab_at mX1_yarnFrom 0 (.iconst 0) 1 1 := ⟨by decide +kernel, rfl⟩
theorem iX1_yarnFrom_1 : ab_at mX1_yarnFrom 1 (.istore_n 3) 1 2 := ⟨by decide +kernel, rfl⟩
theorem iX1_yarnFrom_2 : ab_at mX1_yarnFrom 2 (.iconst 0) 1 3 := ⟨by decide +kernel, rfl⟩
theorem iX1_yarnFrom_3 : ab_at mX1_yarnFrom 3 (.istore 4) 2 5 := ⟨by decide +kernel, rfl⟩
theorem iX1_yarnFrom_5 : ab_at mX1_yarnFrom 5 (.iload 4) 2 7 := ⟨by decide +kernel, rfl⟩
theorem iX1_yarnFrom_7 : ab_at mX1_yarnFrom 7 (.aload_n 0) 1 8 := ⟨by decide +kernel, rfl⟩
theorem iX1_yarnFrom_8 : ab_at mX1_yarnFrom 8 (.getfield 9) 3 11 := ⟨by decide +kernel, rfl⟩
theorem iX1_yarnFrom_11 : ab_bc mX1_yarnFrom 11 .ge 14 65 := ⟨54, by decide +kernel, rfl, by decide⟩
theorem iX1_yarnFrom_14 : ab_at mX1_yarnFrom 14 (.aload_n 0) 1 15 := ⟨by decide +kernel, rfl⟩
theorem iX1_yarnFrom_15 : ab_at mX1_yarnFrom 15 (.getfield 19) 3 18 := ⟨by decide +kernel, rfl⟩
theorem iX1_yarnFrom_18 : ab_at mX1_yarnFrom 18 (.iload 4) 2 20 := ⟨by decide +kernel, rfl⟩
theorem iX1_yarnFrom_20 : ab_at mX1_yarnFrom 20 (.iaload) 1 21 := ⟨by decide +kernel, rfl⟩
theorem iX1_yarnFrom_21 : ab_at mX1_yarnFrom 21 (.aload_n 0) 1 22 := ⟨by decide +kernel, rfl⟩
theorem iX1_yarnFrom_22 : ab_at mX1_yarnFrom 22 (.getfield 22) 3 25 := ⟨by decide +kernel, rfl⟩
theorem iX1_yarnFrom_25 : ab_bc mX1_yarnFrom 25 .ge 28 59 := ⟨34, by decide +kernel, rfl, by decide⟩
theorem iX1_yarnFrom_28 : ab_at mX1_yarnFrom 28 (.aload_n 0) 1 29 := ⟨by decide +kernel, rfl⟩
theorem iX1_yarnFrom_29 : ab_at mX1_yarnFrom 29 (.getfield 25) 3 32 := ⟨by decide +kernel, rfl⟩
theorem iX1_yarnFrom_32 : ab_at mX1_yarnFrom 32 (.aload_n 0) 1 33 := ⟨by decide +kernel, rfl⟩
theorem iX1_yarnFrom_33 : ab_at mX1_yarnFrom 33 (.getfield 19) 3 36 := ⟨by decide +kernel, rfl⟩
theorem iX1_yarnFrom_36 : ab_at mX1_yarnFrom 36 (.iload 4) 2 38 := ⟨by decide +kernel, rfl⟩
theorem iX1_yarnFrom_38 : ab_at mX1_yarnFrom 38 (.iaload) 1 39 := ⟨by decide +kernel, rfl⟩
theorem iX1_yarnFrom_39 : ab_at mX1_yarnFrom 39 (.iaload) 1 40 := ⟨by decide +kernel, rfl⟩
theorem iX1_yarnFrom_40 : ab_at mX1_yarnFrom 40 (.iload_n 1) 1 41 := ⟨by decide +kernel, rfl⟩
theorem iX1_yarnFrom_41 : ab_bc mX1_yarnFrom 41 .ne 44 59 := ⟨18, by decide +kernel, rfl, by decide⟩
theorem iX1_yarnFrom_44 : ab_at mX1_yarnFrom 44 (.iload_n 3) 1 45 := ⟨by decide +kernel, rfl⟩
theorem iX1_yarnFrom_45 : ab_at mX1_yarnFrom 45 (.aload_n 2) 1 46 := ⟨by decide +kernel, rfl⟩
theorem iX1_yarnFrom_46 : ab_at mX1_yarnFrom 46 (.getfield 74) 3 49 := ⟨by decide +kernel, rfl⟩
theorem iX1_yarnFrom_49 : ab_at mX1_yarnFrom 49 (.aload_n 0) 1 50 := ⟨by decide +kernel, rfl⟩
theorem iX1_yarnFrom_50 : ab_at mX1_yarnFrom 50 (.getfield 15) 3 53 := ⟨by decide +kernel, rfl⟩
theorem iX1_yarnFrom_53 : ab_at mX1_yarnFrom 53 (.iload 4) 2 55 := ⟨by decide +kernel, rfl⟩
theorem iX1_yarnFrom_55 : ab_at mX1_yarnFrom 55 (.iaload) 1 56 := ⟨by decide +kernel, rfl⟩
theorem iX1_yarnFrom_56 : ab_at mX1_yarnFrom 56 (.iaload) 1 57 := ⟨by decide +kernel, rfl⟩
theorem iX1_yarnFrom_57 : ab_at mX1_yarnFrom 57 (.iadd) 1 58 := ⟨by decide +kernel, rfl⟩
theorem iX1_yarnFrom_58 : ab_at mX1_yarnFrom 58 (.istore_n 3) 1 59 := ⟨by decide +kernel, rfl⟩
theorem iX1_yarnFrom_59 : ab_at mX1_yarnFrom 59 (.iinc 4 1) 3 62 := ⟨by decide +kernel, rfl⟩
theorem iX1_yarnFrom_62 : ab_bg mX1_yarnFrom 62 5 := ⟨-57, by decide +kernel, by decide⟩
theorem iX1_yarnFrom_65 : ab_at mX1_yarnFrom 65 (.iload_n 3) 1 66 := ⟨by decide +kernel, rfl⟩
theorem iX1_yarnFrom_66 : ab_at mX1_yarnFrom 66 (.ireturn) 1 67 := ⟨by decide +kernel, rfl⟩
theorem iX1_yarnInAll_0 : ab_at mX1_yarnInAll 0 (.iconst 0) 1 1 := ⟨by decide +kernel, rfl⟩
theorem iX1_yarnInAll_1 : ab_at mX1_yarnInAll 1 (.istore_n 2) 1 2 := ⟨by decide +kernel, rfl⟩
theorem iX1_yarnInAll_2 : ab_at mX1_yarnInAll 2 (.iconst 0) 1 3 := ⟨by decide +kernel, rfl⟩
theorem iX1_yarnInAll_3 : ab_at mX1_yarnInAll 3 (.istore_n 3) 1 4 := ⟨by decide +kernel, rfl⟩
theorem iX1_yarnInAll_4 : ab_at mX1_yarnInAll 4 (.iload_n 3) 1 5 := ⟨by decide +kernel, rfl⟩
theorem iX1_yarnInAll_5 : ab_at mX1_yarnInAll 5 (.aload_n 0) 1 6 := ⟨by decide +kernel, rfl⟩
theorem iX1_yarnInAll_6 : ab_at mX1_yarnInAll 6 (.getfield 22) 3 9 := ⟨by decide +kernel, rfl⟩
theorem iX1_yarnInAll_9 : ab_bc mX1_yarnInAll 9 .ge 12 32 := ⟨23, by decide +kernel, rfl, by decide⟩
theorem iX1_yarnInAll_12 : ab_at mX1_yarnInAll 12 (.iload_n 2) 1 13 := ⟨by decide +kernel, rfl⟩
theorem iX1_yarnInAll_13 : ab_at mX1_yarnInAll 13 (.aload_n 0) 1 14 := ⟨by decide +kernel, rfl⟩
theorem iX1_yarnInAll_14 : ab_at mX1_yarnInAll 14 (.aload_n 0) 1 15 := ⟨by decide +kernel, rfl⟩
theorem iX1_yarnInAll_15 : ab_at mX1_yarnInAll 15 (.getfield 25) 3 18 := ⟨by decide +kernel, rfl⟩
theorem iX1_yarnInAll_18 : ab_at mX1_yarnInAll 18 (.iload_n 3) 1 19 := ⟨by decide +kernel, rfl⟩
theorem iX1_yarnInAll_19 : ab_at mX1_yarnInAll 19 (.iaload) 1 20 := ⟨by decide +kernel, rfl⟩
theorem iX1_yarnInAll_20 : ab_at mX1_yarnInAll 20 (.aload_n 1) 1 21 := ⟨by decide +kernel, rfl⟩
theorem iX1_yarnInAll_21 : ab_at mX1_yarnInAll 21 (.invokevirtual 82) 3 24 := ⟨by decide +kernel, rfl⟩
theorem iX1_yarnInAll_24 : ab_at mX1_yarnInAll 24 (.iadd) 1 25 := ⟨by decide +kernel, rfl⟩
theorem iX1_yarnInAll_25 : ab_at mX1_yarnInAll 25 (.istore_n 2) 1 26 := ⟨by decide +kernel, rfl⟩
theorem iX1_yarnInAll_26 : ab_at mX1_yarnInAll 26 (.iinc 3 1) 3 29 := ⟨by decide +kernel, rfl⟩
theorem iX1_yarnInAll_29 : ab_bg mX1_yarnInAll 29 4 := ⟨-25, by decide +kernel, by decide⟩
theorem iX1_yarnInAll_32 : ab_at mX1_yarnInAll 32 (.iload_n 2) 1 33 := ⟨by decide +kernel, rfl⟩
theorem iX1_yarnInAll_33 : ab_at mX1_yarnInAll 33 (.ireturn) 1 34 := ⟨by decide +kernel, rfl⟩
theorem iX1_countServed_0 : ab_at mX1_countServed 0 (.iconst 0) 1 1 := ⟨by decide +kernel, rfl⟩
theorem iX1_countServed_1 : ab_at mX1_countServed 1 (.istore_n 1) 1 2 := ⟨by decide +kernel, rfl⟩
theorem iX1_countServed_2 : ab_at mX1_countServed 2 (.iconst 0) 1 3 := ⟨by decide +kernel, rfl⟩
theorem iX1_countServed_3 : ab_at mX1_countServed 3 (.istore_n 2) 1 4 := ⟨by decide +kernel, rfl⟩
theorem iX1_countServed_4 : ab_at mX1_countServed 4 (.iload_n 2) 1 5 := ⟨by decide +kernel, rfl⟩
theorem iX1_countServed_5 : ab_at mX1_countServed 5 (.aload_n 0) 1 6 := ⟨by decide +kernel, rfl⟩
theorem iX1_countServed_6 : ab_at mX1_countServed 6 (.getfield 9) 3 9 := ⟨by decide +kernel, rfl⟩
theorem iX1_countServed_9 : ab_bc mX1_countServed 9 .ge 12 34 := ⟨25, by decide +kernel, rfl, by decide⟩
theorem iX1_countServed_12 : ab_at mX1_countServed 12 (.aload_n 0) 1 13 := ⟨by decide +kernel, rfl⟩
theorem iX1_countServed_13 : ab_at mX1_countServed 13 (.getfield 19) 3 16 := ⟨by decide +kernel, rfl⟩
theorem iX1_countServed_16 : ab_at mX1_countServed 16 (.iload_n 2) 1 17 := ⟨by decide +kernel, rfl⟩
theorem iX1_countServed_17 : ab_at mX1_countServed 17 (.iaload) 1 18 := ⟨by decide +kernel, rfl⟩
theorem iX1_countServed_18 : ab_at mX1_countServed 18 (.aload_n 0) 1 19 := ⟨by decide +kernel, rfl⟩
theorem iX1_countServed_19 : ab_at mX1_countServed 19 (.getfield 22) 3 22 := ⟨by decide +kernel, rfl⟩
theorem iX1_countServed_22 : ab_bc mX1_countServed 22 .ge 25 28 := ⟨6, by decide +kernel, rfl, by decide⟩
theorem iX1_countServed_25 : ab_at mX1_countServed 25 (.iinc 1 1) 3 28 := ⟨by decide +kernel, rfl⟩
theorem iX1_countServed_28 : ab_at mX1_countServed 28 (.iinc 2 1) 3 31 := ⟨by decide +kernel, rfl⟩
theorem iX1_countServed_31 : ab_bg mX1_countServed 31 4 := ⟨-27, by decide +kernel, by decide⟩
theorem iX1_countServed_34 : ab_at mX1_countServed 34 (.iload_n 1) 1 35 := ⟨by decide +kernel, rfl⟩
theorem iX1_countServed_35 : ab_at mX1_countServed 35 (.ireturn) 1 36 := ⟨by decide +kernel, rfl⟩
theorem iX2_init_0 : ab_at mX2_init 0 (.aload_n 0) 1 1 := ⟨by decide +kernel, rfl⟩
theorem iX2_init_1 : ab_at mX2_init 1 (.invokespecial 3) 3 4 := ⟨by decide +kernel, rfl⟩
theorem iX2_init_4 : ab_at mX2_init 4 (.aload_n 0) 1 5 := ⟨by decide +kernel, rfl⟩
theorem iX2_init_5 : ab_at mX2_init 5 (.iconst 0) 1 6 := ⟨by decide +kernel, rfl⟩
theorem iX2_init_6 : ab_at mX2_init 6 (.putfield 9) 3 9 := ⟨by decide +kernel, rfl⟩
theorem iX2_init_9 : ab_at mX2_init 9 (.aload_n 0) 1 10 := ⟨by decide +kernel, rfl⟩
theorem iX2_init_10 : ab_at mX2_init 10 (.bipush 120) 2 12 := ⟨by decide +kernel, rfl⟩
theorem iX2_init_12 : ab_at mX2_init 12 (.newarray .int) 2 14 := ⟨by decide +kernel, rfl⟩
theorem iX2_init_14 : ab_at mX2_init 14 (.putfield 15) 3 17 := ⟨by decide +kernel, rfl⟩
theorem iX2_init_17 : ab_at mX2_init 17 (.aload_n 0) 1 18 := ⟨by decide +kernel, rfl⟩
theorem iX2_init_18 : ab_at mX2_init 18 (.bipush 120) 2 20 := ⟨by decide +kernel, rfl⟩
theorem iX2_init_20 : ab_at mX2_init 20 (.newarray .int) 2 22 := ⟨by decide +kernel, rfl⟩
theorem iX2_init_22 : ab_at mX2_init 22 (.putfield 19) 3 25 := ⟨by decide +kernel, rfl⟩
theorem iX2_init_25 : ab_at mX2_init 25 (.aload_n 0) 1 26 := ⟨by decide +kernel, rfl⟩
theorem iX2_init_26 : ab_at mX2_init 26 (.bipush 120) 2 28 := ⟨by decide +kernel, rfl⟩
theorem iX2_init_28 : ab_at mX2_init 28 (.newarray .int) 2 30 := ⟨by decide +kernel, rfl⟩
theorem iX2_init_30 : ab_at mX2_init 30 (.putfield 22) 3 33 := ⟨by decide +kernel, rfl⟩
theorem iX2_init_33 : ab_at mX2_init 33 (.aload_n 0) 1 34 := ⟨by decide +kernel, rfl⟩
theorem iX2_init_34 : ab_at mX2_init 34 (.bipush 120) 2 36 := ⟨by decide +kernel, rfl⟩
theorem iX2_init_36 : ab_at mX2_init 36 (.newarray .int) 2 38 := ⟨by decide +kernel, rfl⟩
theorem iX2_init_38 : ab_at mX2_init 38 (.putfield 25) 3 41 := ⟨by decide +kernel, rfl⟩
theorem iX2_init_41 : ab_at mX2_init 41 (.aload_n 0) 1 42 := ⟨by decide +kernel, rfl⟩
theorem iX2_init_42 : ab_at mX2_init 42 (.bipush 120) 2 44 := ⟨by decide +kernel, rfl⟩
theorem iX2_init_44 : ab_at mX2_init 44 (.newarray .int) 2 46 := ⟨by decide +kernel, rfl⟩
theorem iX2_init_46 : ab_at mX2_init 46 (.putfield 28) 3 49 := ⟨by decide +kernel, rfl⟩
theorem iX2_init_49 : ab_at mX2_init 49 (.aload_n 0) 1 50 := ⟨by decide +kernel, rfl⟩
theorem iX2_init_50 : ab_at mX2_init 50 (.bipush 120) 2 52 := ⟨by decide +kernel, rfl⟩
theorem iX2_init_52 : ab_at mX2_init 52 (.newarray .int) 2 54 := ⟨by decide +kernel, rfl⟩
theorem iX2_init_54 : ab_at mX2_init 54 (.putfield 31) 3 57 := ⟨by decide +kernel, rfl⟩
theorem iX2_init_57 : ab_at mX2_init 57 (.aload_n 0) 1 58 := ⟨by decide +kernel, rfl⟩
theorem iX2_init_58 : ab_at mX2_init 58 (.iconst 0) 1 59 := ⟨by decide +kernel, rfl⟩
theorem iX2_init_59 : ab_at mX2_init 59 (.putfield 34) 3 62 := ⟨by decide +kernel, rfl⟩
theorem iX2_init_62 : ab_at mX2_init 62 (.return_) 1 63 := ⟨by decide +kernel, rfl⟩
theorem iX2_find_0 : ab_at mX2_find 0 (.aload_n 0) 1 1 := ⟨by decide +kernel, rfl⟩
theorem iX2_find_1 : ab_at mX2_find 1 (.iconst 0) 1 2 := ⟨by decide +kernel, rfl⟩
theorem iX2_find_2 : ab_at mX2_find 2 (.putfield 9) 3 5 := ⟨by decide +kernel, rfl⟩
theorem iX2_find_5 : ab_at mX2_find 5 (.aload_n 0) 1 6 := ⟨by decide +kernel, rfl⟩
theorem iX2_find_6 : ab_at mX2_find 6 (.getfield 15) 3 9 := ⟨by decide +kernel, rfl⟩
theorem iX2_find_9 : ab_at mX2_find 9 (.iconst (-1)) 1 10 := ⟨by decide +kernel, rfl⟩
theorem iX2_find_10 : ab_at mX2_find 10 (.invokestatic 37) 3 13 := ⟨by decide +kernel, rfl⟩
theorem iX2_find_13 : ab_at mX2_find 13 (.iconst 0) 1 14 := ⟨by decide +kernel, rfl⟩
theorem iX2_find_14 : ab_at mX2_find 14 (.istore_n 2) 1 15 := ⟨by decide +kernel, rfl⟩
theorem iX2_find_15 : ab_at mX2_find 15 (.iload_n 2) 1 16 := ⟨by decide +kernel, rfl⟩
theorem iX2_find_16 : ab_at mX2_find 16 (.aload_n 1) 1 17 := ⟨by decide +kernel, rfl⟩
theorem iX2_find_17 : ab_at mX2_find 17 (.getfield 43) 3 20 := ⟨by decide +kernel, rfl⟩
theorem iX2_find_20 : ab_bc mX2_find 20 .ge 23 95 := ⟨75, by decide +kernel, rfl, by decide⟩
theorem iX2_find_23 : ab_at mX2_find 23 (.iconst 0) 1 24 := ⟨by decide +kernel, rfl⟩
theorem iX2_find_24 : ab_at mX2_find 24 (.istore_n 3) 1 25 := ⟨by decide +kernel, rfl⟩
theorem iX2_find_25 : ab_at mX2_find 25 (.iload_n 3) 1 26 := ⟨by decide +kernel, rfl⟩
theorem iX2_find_26 : ab_at mX2_find 26 (.aload_n 1) 1 27 := ⟨by decide +kernel, rfl⟩
theorem iX2_find_27 : ab_at mX2_find 27 (.getfield 48) 3 30 := ⟨by decide +kernel, rfl⟩
theorem iX2_find_30 : ab_bc mX2_find 30 .ge 33 89 := ⟨59, by decide +kernel, rfl, by decide⟩
theorem iX2_find_33 : ab_at mX2_find 33 (.aload_n 0) 1 34 := ⟨by decide +kernel, rfl⟩
theorem iX2_find_34 : ab_at mX2_find 34 (.getfield 15) 3 37 := ⟨by decide +kernel, rfl⟩
theorem iX2_find_37 : ab_at mX2_find 37 (.iload_n 3) 1 38 := ⟨by decide +kernel, rfl⟩
theorem iX2_find_38 : ab_at mX2_find 38 (.iload_n 2) 1 39 := ⟨by decide +kernel, rfl⟩
theorem iX2_find_39 : ab_at mX2_find 39 (.invokestatic 51) 3 42 := ⟨by decide +kernel, rfl⟩
theorem iX2_find_42 : ab_at mX2_find 42 (.iaload) 1 43 := ⟨by decide +kernel, rfl⟩
theorem iX2_find_43 : ab_bi mX2_find 43 .ge 46 83 := ⟨40, by decide +kernel, rfl, by decide⟩
theorem iX2_find_46 : ab_at mX2_find 46 (.aload_n 0) 1 47 := ⟨by decide +kernel, rfl⟩
theorem iX2_find_47 : ab_at mX2_find 47 (.getfield 28) 3 50 := ⟨by decide +kernel, rfl⟩
theorem iX2_find_50 : ab_at mX2_find 50 (.aload_n 0) 1 51 := ⟨by decide +kernel, rfl⟩
theorem iX2_find_51 : ab_at mX2_find 51 (.getfield 9) 3 54 := ⟨by decide +kernel, rfl⟩
theorem iX2_find_54 : ab_at mX2_find 54 (.iload_n 2) 1 55 := ⟨by decide +kernel, rfl⟩
theorem iX2_find_55 : ab_at mX2_find 55 (.aload_n 1) 1 56 := ⟨by decide +kernel, rfl⟩
theorem iX2_find_56 : ab_at mX2_find 56 (.getfield 48) 3 59 := ⟨by decide +kernel, rfl⟩
theorem iX2_find_59 : ab_at mX2_find 59 (.imul) 1 60 := ⟨by decide +kernel, rfl⟩
theorem iX2_find_60 : ab_at mX2_find 60 (.iload_n 3) 1 61 := ⟨by decide +kernel, rfl⟩
theorem iX2_find_61 : ab_at mX2_find 61 (.iadd) 1 62 := ⟨by decide +kernel, rfl⟩
theorem iX2_find_62 : ab_at mX2_find 62 (.iastore) 1 63 := ⟨by decide +kernel, rfl⟩
theorem iX2_find_63 : ab_at mX2_find 63 (.aload_n 0) 1 64 := ⟨by decide +kernel, rfl⟩
theorem iX2_find_64 : ab_at mX2_find 64 (.aload_n 1) 1 65 := ⟨by decide +kernel, rfl⟩
theorem iX2_find_65 : ab_at mX2_find 65 (.iload_n 3) 1 66 := ⟨by decide +kernel, rfl⟩
theorem iX2_find_66 : ab_at mX2_find 66 (.iload_n 2) 1 67 := ⟨by decide +kernel, rfl⟩
theorem iX2_find_67 : ab_at mX2_find 67 (.invokestatic 51) 3 70 := ⟨by decide +kernel, rfl⟩
theorem iX2_find_70 : ab_at mX2_find 70 (.invokevirtual 55) 3 73 := ⟨by decide +kernel, rfl⟩
theorem iX2_find_73 : ab_at mX2_find 73 (.aload_n 0) 1 74 := ⟨by decide +kernel, rfl⟩
theorem iX2_find_74 : ab_at mX2_find 74 (.dup) 1 75 := ⟨by decide +kernel, rfl⟩
theorem iX2_find_75 : ab_at mX2_find 75 (.getfield 9) 3 78 := ⟨by decide +kernel, rfl⟩
theorem iX2_find_78 : ab_at mX2_find 78 (.iconst 1) 1 79 := ⟨by decide +kernel, rfl⟩
theorem iX2_find_79 : ab_at mX2_find 79 (.iadd) 1 80 := ⟨by decide +kernel, rfl⟩
theorem iX2_find_80 : ab_at mX2_find 80 (.putfield 9) 3 83 := ⟨by decide +kernel, rfl⟩
theorem iX2_find_83 : ab_at mX2_find 83 (.iinc 3 1) 3 86 := ⟨by decide +kernel, rfl⟩
theorem iX2_find_86 : ab_bg mX2_find 86 25 := ⟨-61, by decide +kernel, by decide⟩
theorem iX2_find_89 : ab_at mX2_find 89 (.iinc 2 1) 3 92 := ⟨by decide +kernel, rfl⟩
theorem iX2_find_92 : ab_bg mX2_find 92 15 := ⟨-77, by decide +kernel, by decide⟩
theorem iX2_find_95 : ab_at mX2_find 95 (.return_) 1 96 := ⟨by decide +kernel, rfl⟩
theorem iX2_spread_0 : ab_at mX2_spread 0 (.aload_n 0) 1 1 := ⟨by decide +kernel, rfl⟩
theorem iX2_spread_1 : ab_at mX2_spread 1 (.getfield 19) 3 4 := ⟨by decide +kernel, rfl⟩
theorem iX2_spread_4 : ab_at mX2_spread 4 (.aload_n 0) 1 5 := ⟨by decide +kernel, rfl⟩
theorem iX2_spread_5 : ab_at mX2_spread 5 (.getfield 9) 3 8 := ⟨by decide +kernel, rfl⟩
theorem iX2_spread_8 : ab_at mX2_spread 8 (.aload_n 1) 1 9 := ⟨by decide +kernel, rfl⟩
theorem iX2_spread_9 : ab_at mX2_spread 9 (.iload_n 2) 1 10 := ⟨by decide +kernel, rfl⟩
theorem iX2_spread_10 : ab_at mX2_spread 10 (.invokevirtual 59) 3 13 := ⟨by decide +kernel, rfl⟩
theorem iX2_spread_13 : ab_at mX2_spread 13 (.iastore) 1 14 := ⟨by decide +kernel, rfl⟩
theorem iX2_spread_14 : ab_at mX2_spread 14 (.aload_n 0) 1 15 := ⟨by decide +kernel, rfl⟩
theorem iX2_spread_15 : ab_at mX2_spread 15 (.getfield 25) 3 18 := ⟨by decide +kernel, rfl⟩
theorem iX2_spread_18 : ab_at mX2_spread 18 (.aload_n 0) 1 19 := ⟨by decide +kernel, rfl⟩
theorem iX2_spread_19 : ab_at mX2_spread 19 (.getfield 9) 3 22 := ⟨by decide +kernel, rfl⟩
theorem iX2_spread_22 : ab_at mX2_spread 22 (.iconst 0) 1 23 := ⟨by decide +kernel, rfl⟩
theorem iX2_spread_23 : ab_at mX2_spread 23 (.iastore) 1 24 := ⟨by decide +kernel, rfl⟩
theorem iX2_spread_24 : ab_at mX2_spread 24 (.aload_n 0) 1 25 := ⟨by decide +kernel, rfl⟩
theorem iX2_spread_25 : ab_at mX2_spread 25 (.iconst 0) 1 26 := ⟨by decide +kernel, rfl⟩
theorem iX2_spread_26 : ab_at mX2_spread 26 (.putfield 34) 3 29 := ⟨by decide +kernel, rfl⟩
theorem iX2_spread_29 : ab_at mX2_spread 29 (.aload_n 0) 1 30 := ⟨by decide +kernel, rfl⟩
theorem iX2_spread_30 : ab_at mX2_spread 30 (.iload_n 2) 1 31 := ⟨by decide +kernel, rfl⟩
theorem iX2_spread_31 : ab_at mX2_spread 31 (.invokevirtual 63) 3 34 := ⟨by decide +kernel, rfl⟩
theorem iX2_spread_34 : ab_at mX2_spread 34 (.iconst 0) 1 35 := ⟨by decide +kernel, rfl⟩
theorem iX2_spread_35 : ab_at mX2_spread 35 (.istore_n 3) 1 36 := ⟨by decide +kernel, rfl⟩
theorem iX2_spread_36 : ab_at mX2_spread 36 (.iload_n 3) 1 37 := ⟨by decide +kernel, rfl⟩
theorem iX2_spread_37 : ab_at mX2_spread 37 (.aload_n 0) 1 38 := ⟨by decide +kernel, rfl⟩
theorem iX2_spread_38 : ab_at mX2_spread 38 (.getfield 34) 3 41 := ⟨by decide +kernel, rfl⟩
theorem iX2_spread_41 : ab_bc mX2_spread 41 .ge 44 135 := ⟨94, by decide +kernel, rfl, by decide⟩
theorem iX2_spread_44 : ab_at mX2_spread 44 (.iload_n 3) 1 45 := ⟨by decide +kernel, rfl⟩
theorem iX2_spread_45 : ab_at mX2_spread 45 (.bipush 120) 2 47 := ⟨by decide +kernel, rfl⟩
theorem iX2_spread_47 : ab_bc mX2_spread 47 .ge 50 135 := ⟨88, by decide +kernel, rfl, by decide⟩
theorem iX2_spread_50 : ab_at mX2_spread 50 (.aload_n 0) 1 51 := ⟨by decide +kernel, rfl⟩
theorem iX2_spread_51 : ab_at mX2_spread 51 (.getfield 31) 3 54 := ⟨by decide +kernel, rfl⟩
theorem iX2_spread_54 : ab_at mX2_spread 54 (.iload_n 3) 1 55 := ⟨by decide +kernel, rfl⟩
theorem iX2_spread_55 : ab_at mX2_spread 55 (.iaload) 1 56 := ⟨by decide +kernel, rfl⟩
theorem iX2_spread_56 : ab_at mX2_spread 56 (.bipush 12) 2 58 := ⟨by decide +kernel, rfl⟩
theorem iX2_spread_58 : ab_at mX2_spread 58 (.irem) 1 59 := ⟨by decide +kernel, rfl⟩
theorem iX2_spread_59 : ab_at mX2_spread 59 (.istore 4) 2 61 := ⟨by decide +kernel, rfl⟩
theorem iX2_spread_61 : ab_at mX2_spread 61 (.aload_n 0) 1 62 := ⟨by decide +kernel, rfl⟩
theorem iX2_spread_62 : ab_at mX2_spread 62 (.getfield 31) 3 65 := ⟨by decide +kernel, rfl⟩
theorem iX2_spread_65 : ab_at mX2_spread 65 (.iload_n 3) 1 66 := ⟨by decide +kernel, rfl⟩
theorem iX2_spread_66 : ab_at mX2_spread 66 (.iaload) 1 67 := ⟨by decide +kernel, rfl⟩
theorem iX2_spread_67 : ab_at mX2_spread 67 (.bipush 12) 2 69 := ⟨by decide +kernel, rfl⟩
theorem iX2_spread_69 : ab_at mX2_spread 69 (.idiv) 1 70 := ⟨by decide +kernel, rfl⟩
theorem iX2_spread_70 : ab_at mX2_spread 70 (.istore 5) 2 72 := ⟨by decide +kernel, rfl⟩
theorem iX2_spread_72 : ab_at mX2_spread 72 (.aload_n 0) 1 73 := ⟨by decide +kernel, rfl⟩
theorem iX2_spread_73 : ab_at mX2_spread 73 (.getfield 25) 3 76 := ⟨by decide +kernel, rfl⟩
theorem iX2_spread_76 : ab_at mX2_spread 76 (.aload_n 0) 1 77 := ⟨by decide +kernel, rfl⟩
theorem iX2_spread_77 : ab_at mX2_spread 77 (.getfield 9) 3 80 := ⟨by decide +kernel, rfl⟩
theorem iX2_spread_80 : ab_at mX2_spread 80 (.dup2) 1 81 := ⟨by decide +kernel, rfl⟩
theorem iX2_spread_81 : ab_at mX2_spread 81 (.iaload) 1 82 := ⟨by decide +kernel, rfl⟩
theorem iX2_spread_82 : ab_at mX2_spread 82 (.iconst 2) 1 83 := ⟨by decide +kernel, rfl⟩
theorem iX2_spread_83 : ab_at mX2_spread 83 (.iadd) 1 84 := ⟨by decide +kernel, rfl⟩
theorem iX2_spread_84 : ab_at mX2_spread 84 (.iastore) 1 85 := ⟨by decide +kernel, rfl⟩
theorem iX2_spread_85 : ab_at mX2_spread 85 (.aload_n 0) 1 86 := ⟨by decide +kernel, rfl⟩
theorem iX2_spread_86 : ab_at mX2_spread 86 (.aload_n 1) 1 87 := ⟨by decide +kernel, rfl⟩
theorem iX2_spread_87 : ab_at mX2_spread 87 (.iload 4) 2 89 := ⟨by decide +kernel, rfl⟩
theorem iX2_spread_89 : ab_at mX2_spread 89 (.iconst 1) 1 90 := ⟨by decide +kernel, rfl⟩
theorem iX2_spread_90 : ab_at mX2_spread 90 (.isub) 1 91 := ⟨by decide +kernel, rfl⟩
theorem iX2_spread_91 : ab_at mX2_spread 91 (.iload 5) 2 93 := ⟨by decide +kernel, rfl⟩
theorem iX2_spread_93 : ab_at mX2_spread 93 (.invokevirtual 67) 3 96 := ⟨by decide +kernel, rfl⟩
theorem iX2_spread_96 : ab_at mX2_spread 96 (.aload_n 0) 1 97 := ⟨by decide +kernel, rfl⟩
theorem iX2_spread_97 : ab_at mX2_spread 97 (.aload_n 1) 1 98 := ⟨by decide +kernel, rfl⟩
theorem iX2_spread_98 : ab_at mX2_spread 98 (.iload 4) 2 100 := ⟨by decide +kernel, rfl⟩
theorem iX2_spread_100 : ab_at mX2_spread 100 (.iconst 1) 1 101 := ⟨by decide +kernel, rfl⟩
theorem iX2_spread_101 : ab_at mX2_spread 101 (.iadd) 1 102 := ⟨by decide +kernel, rfl⟩
theorem iX2_spread_102 : ab_at mX2_spread 102 (.iload 5) 2 104 := ⟨by decide +kernel, rfl⟩
theorem iX2_spread_104 : ab_at mX2_spread 104 (.invokevirtual 67) 3 107 := ⟨by decide +kernel, rfl⟩
theorem iX2_spread_107 : ab_at mX2_spread 107 (.aload_n 0) 1 108 := ⟨by decide +kernel, rfl⟩
theorem iX2_spread_108 : ab_at mX2_spread 108 (.aload_n 1) 1 109 := ⟨by decide +kernel, rfl⟩
theorem iX2_spread_109 : ab_at mX2_spread 109 (.iload 4) 2 111 := ⟨by decide +kernel, rfl⟩
theorem iX2_spread_111 : ab_at mX2_spread 111 (.iload 5) 2 113 := ⟨by decide +kernel, rfl⟩
theorem iX2_spread_113 : ab_at mX2_spread 113 (.iconst 1) 1 114 := ⟨by decide +kernel, rfl⟩
theorem iX2_spread_114 : ab_at mX2_spread 114 (.isub) 1 115 := ⟨by decide +kernel, rfl⟩
theorem iX2_spread_115 : ab_at mX2_spread 115 (.invokevirtual 67) 3 118 := ⟨by decide +kernel, rfl⟩
theorem iX2_spread_118 : ab_at mX2_spread 118 (.aload_n 0) 1 119 := ⟨by decide +kernel, rfl⟩
theorem iX2_spread_119 : ab_at mX2_spread 119 (.aload_n 1) 1 120 := ⟨by decide +kernel, rfl⟩
theorem iX2_spread_120 : ab_at mX2_spread 120 (.iload 4) 2 122 := ⟨by decide +kernel, rfl⟩
theorem iX2_spread_122 : ab_at mX2_spread 122 (.iload 5) 2 124 := ⟨by decide +kernel, rfl⟩
theorem iX2_spread_124 : ab_at mX2_spread 124 (.iconst 1) 1 125 := ⟨by decide +kernel, rfl⟩
theorem iX2_spread_125 : ab_at mX2_spread 125 (.iadd) 1 126 := ⟨by decide +kernel, rfl⟩
theorem iX2_spread_126 : ab_at mX2_spread 126 (.invokevirtual 67) 3 129 := ⟨by decide +kernel, rfl⟩
theorem iX2_spread_129 : ab_at mX2_spread 129 (.iinc 3 1) 3 132 := ⟨by decide +kernel, rfl⟩
theorem iX2_spread_132 : ab_bg mX2_spread 132 36 := ⟨-96, by decide +kernel, by decide⟩
theorem iX2_spread_135 : ab_at mX2_spread 135 (.aload_n 0) 1 136 := ⟨by decide +kernel, rfl⟩
theorem iX2_spread_136 : ab_at mX2_spread 136 (.getfield 22) 3 139 := ⟨by decide +kernel, rfl⟩
theorem iX2_spread_139 : ab_at mX2_spread 139 (.aload_n 0) 1 140 := ⟨by decide +kernel, rfl⟩
theorem iX2_spread_140 : ab_at mX2_spread 140 (.getfield 9) 3 143 := ⟨by decide +kernel, rfl⟩
theorem iX2_spread_143 : ab_at mX2_spread 143 (.aload_n 0) 1 144 := ⟨by decide +kernel, rfl⟩
theorem iX2_spread_144 : ab_at mX2_spread 144 (.getfield 34) 3 147 := ⟨by decide +kernel, rfl⟩
theorem iX2_spread_147 : ab_at mX2_spread 147 (.iastore) 1 148 := ⟨by decide +kernel, rfl⟩
theorem iX2_spread_148 : ab_at mX2_spread 148 (.return_) 1 149 := ⟨by decide +kernel, rfl⟩
theorem iX2_look_0 : ab_at mX2_look 0 (.aload_n 1) 1 1 := ⟨by decide +kernel, rfl⟩
theorem iX2_look_1 : ab_at mX2_look 1 (.iload_n 2) 1 2 := ⟨by decide +kernel, rfl⟩
theorem iX2_look_2 : ab_at mX2_look 2 (.iload_n 3) 1 3 := ⟨by decide +kernel, rfl⟩
theorem iX2_look_3 : ab_at mX2_look 3 (.invokevirtual 71) 3 6 := ⟨by decide +kernel, rfl⟩
theorem iX2_look_6 : ab_bi mX2_look 6 .ne 9 10 := ⟨4, by decide +kernel, rfl, by decide⟩
theorem iX2_look_9 : ab_at mX2_look 9 (.return_) 1 10 := ⟨by decide +kernel, rfl⟩
theorem iX2_look_10 : ab_at mX2_look 10 (.iload_n 2) 1 11 := ⟨by decide +kernel, rfl⟩
theorem iX2_look_11 : ab_at mX2_look 11 (.iload_n 3) 1 12 := ⟨by decide +kernel, rfl⟩
theorem iX2_look_12 : ab_at mX2_look 12 (.invokestatic 51) 3 15 := ⟨by decide +kernel, rfl⟩
theorem iX2_look_15 : ab_at mX2_look 15 (.istore 4) 2 17 := ⟨by decide +kernel, rfl⟩
theorem iX2_look_17 : ab_at mX2_look 17 (.aload_n 1) 1 18 := ⟨by decide +kernel, rfl⟩
theorem iX2_look_18 : ab_at mX2_look 18 (.iload 4) 2 20 := ⟨by decide +kernel, rfl⟩
theorem iX2_look_20 : ab_at mX2_look 20 (.invokevirtual 59) 3 23 := ⟨by decide +kernel, rfl⟩
theorem iX2_look_23 : ab_at mX2_look 23 (.aload_n 0) 1 24 := ⟨by decide +kernel, rfl⟩
theorem iX2_look_24 : ab_at mX2_look 24 (.getfield 19) 3 27 := ⟨by decide +kernel, rfl⟩
theorem iX2_look_27 : ab_at mX2_look 27 (.aload_n 0) 1 28 := ⟨by decide +kernel, rfl⟩
theorem iX2_look_28 : ab_at mX2_look 28 (.getfield 9) 3 31 := ⟨by decide +kernel, rfl⟩
theorem iX2_look_31 : ab_at mX2_look 31 (.iaload) 1 32 := ⟨by decide +kernel, rfl⟩
theorem iX2_look_32 : ab_bc mX2_look 32 .eq 35 51 := ⟨19, by decide +kernel, rfl, by decide⟩
theorem iX2_look_35 : ab_at mX2_look 35 (.aload_n 0) 1 36 := ⟨by decide +kernel, rfl⟩
theorem iX2_look_36 : ab_at mX2_look 36 (.getfield 25) 3 39 := ⟨by decide +kernel, rfl⟩
theorem iX2_look_39 : ab_at mX2_look 39 (.aload_n 0) 1 40 := ⟨by decide +kernel, rfl⟩
theorem iX2_look_40 : ab_at mX2_look 40 (.getfield 9) 3 43 := ⟨by decide +kernel, rfl⟩
theorem iX2_look_43 : ab_at mX2_look 43 (.dup2) 1 44 := ⟨by decide +kernel, rfl⟩
theorem iX2_look_44 : ab_at mX2_look 44 (.iaload) 1 45 := ⟨by decide +kernel, rfl⟩
theorem iX2_look_45 : ab_at mX2_look 45 (.iconst 1) 1 46 := ⟨by decide +kernel, rfl⟩
theorem iX2_look_46 : ab_at mX2_look 46 (.iadd) 1 47 := ⟨by decide +kernel, rfl⟩
theorem iX2_look_47 : ab_at mX2_look 47 (.iastore) 1 48 := ⟨by decide +kernel, rfl⟩
theorem iX2_look_48 : ab_bg mX2_look 48 67 := ⟨19, by decide +kernel, by decide⟩
theorem iX2_look_51 : ab_at mX2_look 51 (.aload_n 0) 1 52 := ⟨by decide +kernel, rfl⟩
theorem iX2_look_52 : ab_at mX2_look 52 (.getfield 15) 3 55 := ⟨by decide +kernel, rfl⟩
theorem iX2_look_55 : ab_at mX2_look 55 (.iload 4) 2 57 := ⟨by decide +kernel, rfl⟩
theorem iX2_look_57 : ab_at mX2_look 57 (.iaload) 1 58 := ⟨by decide +kernel, rfl⟩
theorem iX2_look_58 : ab_bi mX2_look 58 .ge 61 67 := ⟨9, by decide +kernel, rfl, by decide⟩
theorem iX2_look_61 : ab_at mX2_look 61 (.aload_n 0) 1 62 := ⟨by decide +kernel, rfl⟩
theorem iX2_look_62 : ab_at mX2_look 62 (.iload 4) 2 64 := ⟨by decide +kernel, rfl⟩
theorem iX2_look_64 : ab_at mX2_look 64 (.invokevirtual 63) 3 67 := ⟨by decide +kernel, rfl⟩
theorem iX2_look_67 : ab_at mX2_look 67 (.return_) 1 68 := ⟨by decide +kernel, rfl⟩
theorem iX2_join_0 : ab_at mX2_join 0 (.aload_n 0) 1 1 := ⟨by decide +kernel, rfl⟩
theorem iX2_join_1 : ab_at mX2_join 1 (.getfield 34) 3 4 := ⟨by decide +kernel, rfl⟩
theorem iX2_join_4 : ab_at mX2_join 4 (.bipush 120) 2 6 := ⟨by decide +kernel, rfl⟩
theorem iX2_join_6 : ab_bc mX2_join 6 .ge 9 39 := ⟨33, by decide +kernel, rfl, by decide⟩
theorem iX2_join_9 : ab_at mX2_join 9 (.aload_n 0) 1 10 := ⟨by decide +kernel, rfl⟩
theorem iX2_join_10 : ab_at mX2_join 10 (.getfield 15) 3 13 := ⟨by decide +kernel, rfl⟩
theorem iX2_join_13 : ab_at mX2_join 13 (.iload_n 1) 1 14 := ⟨by decide +kernel, rfl⟩
theorem iX2_join_14 : ab_at mX2_join 14 (.aload_n 0) 1 15 := ⟨by decide +kernel, rfl⟩
theorem iX2_join_15 : ab_at mX2_join 15 (.getfield 9) 3 18 := ⟨by decide +kernel, rfl⟩
theorem iX2_join_18 : ab_at mX2_join 18 (.iastore) 1 19 := ⟨by decide +kernel, rfl⟩
theorem iX2_join_19 : ab_at mX2_join 19 (.aload_n 0) 1 20 := ⟨by decide +kernel, rfl⟩
theorem iX2_join_20 : ab_at mX2_join 20 (.getfield 31) 3 23 := ⟨by decide +kernel, rfl⟩
theorem iX2_join_23 : ab_at mX2_join 23 (.aload_n 0) 1 24 := ⟨by decide +kernel, rfl⟩
theorem iX2_join_24 : ab_at mX2_join 24 (.getfield 34) 3 27 := ⟨by decide +kernel, rfl⟩
theorem iX2_join_27 : ab_at mX2_join 27 (.iload_n 1) 1 28 := ⟨by decide +kernel, rfl⟩
theorem iX2_join_28 : ab_at mX2_join 28 (.iastore) 1 29 := ⟨by decide +kernel, rfl⟩
theorem iX2_join_29 : ab_at mX2_join 29 (.aload_n 0) 1 30 := ⟨by decide +kernel, rfl⟩
theorem iX2_join_30 : ab_at mX2_join 30 (.dup) 1 31 := ⟨by decide +kernel, rfl⟩
theorem iX2_join_31 : ab_at mX2_join 31 (.getfield 34) 3 34 := ⟨by decide +kernel, rfl⟩
theorem iX2_join_34 : ab_at mX2_join 34 (.iconst 1) 1 35 := ⟨by decide +kernel, rfl⟩
theorem iX2_join_35 : ab_at mX2_join 35 (.iadd) 1 36 := ⟨by decide +kernel, rfl⟩
theorem iX2_join_36 : ab_at mX2_join 36 (.putfield 34) 3 39 := ⟨by decide +kernel, rfl⟩
theorem iX2_join_39 : ab_at mX2_join 39 (.return_) 1 40 := ⟨by decide +kernel, rfl⟩
end
section
theorem iX3_init_0 : ab_at mX3_init 0 (.aload_n 0) 1 1 := ⟨by decide +kernel, rfl⟩
theorem iX3_init_1 : ab_at mX3_init 1 (.invokespecial 3) 3 4 := ⟨by decide +kernel, rfl⟩
theorem iX3_init_4 : ab_at mX3_init 4 (.aload_n 0) 1 5 := ⟨by decide +kernel, rfl⟩
theorem iX3_init_5 : ab_at mX3_init 5 (.iconst 0) 1 6 := ⟨by decide +kernel, rfl⟩
theorem iX3_init_6 : ab_at mX3_init 6 (.putfield 9) 3 9 := ⟨by decide +kernel, rfl⟩
theorem iX3_init_9 : ab_at mX3_init 9 (.aload_n 0) 1 10 := ⟨by decide +kernel, rfl⟩
theorem iX3_init_10 : ab_at mX3_init 10 (.iconst 0) 1 11 := ⟨by decide +kernel, rfl⟩
theorem iX3_init_11 : ab_at mX3_init 11 (.putfield 15) 3 14 := ⟨by decide +kernel, rfl⟩
theorem iX3_init_14 : ab_at mX3_init 14 (.aload_n 0) 1 15 := ⟨by decide +kernel, rfl⟩
theorem iX3_init_15 : ab_at mX3_init 15 (.iconst 4) 1 16 := ⟨by decide +kernel, rfl⟩
theorem iX3_init_16 : ab_at mX3_init 16 (.newarray .int) 2 18 := ⟨by decide +kernel, rfl⟩
theorem iX3_init_18 : ab_at mX3_init 18 (.putfield 18) 3 21 := ⟨by decide +kernel, rfl⟩
theorem iX3_init_21 : ab_at mX3_init 21 (.aload_n 0) 1 22 := ⟨by decide +kernel, rfl⟩
theorem iX3_init_22 : ab_at mX3_init 22 (.iconst 4) 1 23 := ⟨by decide +kernel, rfl⟩
theorem iX3_init_23 : ab_at mX3_init 23 (.newarray .int) 2 25 := ⟨by decide +kernel, rfl⟩
theorem iX3_init_25 : ab_at mX3_init 25 (.putfield 22) 3 28 := ⟨by decide +kernel, rfl⟩
theorem iX3_init_28 : ab_at mX3_init 28 (.aload_n 0) 1 29 := ⟨by decide +kernel, rfl⟩
theorem iX3_init_29 : ab_at mX3_init 29 (.iconst 4) 1 30 := ⟨by decide +kernel, rfl⟩
theorem iX3_init_30 : ab_at mX3_init 30 (.newarray .int) 2 32 := ⟨by decide +kernel, rfl⟩
theorem iX3_init_32 : ab_at mX3_init 32 (.putfield 25) 3 35 := ⟨by decide +kernel, rfl⟩
theorem iX3_init_35 : ab_at mX3_init 35 (.aload_n 0) 1 36 := ⟨by decide +kernel, rfl⟩
theorem iX3_init_36 : ab_at mX3_init 36 (.iconst 4) 1 37 := ⟨by decide +kernel, rfl⟩
theorem iX3_init_37 : ab_at mX3_init 37 (.newarray .int) 2 39 := ⟨by decide +kernel, rfl⟩
theorem iX3_init_39 : ab_at mX3_init 39 (.putfield 28) 3 42 := ⟨by decide +kernel, rfl⟩
theorem iX3_init_42 : ab_at mX3_init 42 (.aload_n 0) 1 43 := ⟨by decide +kernel, rfl⟩
theorem iX3_init_43 : ab_at mX3_init 43 (.iconst 0) 1 44 := ⟨by decide +kernel, rfl⟩
theorem iX3_init_44 : ab_at mX3_init 44 (.putfield 31) 3 47 := ⟨by decide +kernel, rfl⟩
theorem iX3_init_47 : ab_at mX3_init 47 (.aload_n 0) 1 48 := ⟨by decide +kernel, rfl⟩
theorem iX3_init_48 : ab_at mX3_init 48 (.bipush 44) 2 50 := ⟨by decide +kernel, rfl⟩
theorem iX3_init_50 : ab_at mX3_init 50 (.newarray .int) 2 52 := ⟨by decide +kernel, rfl⟩
theorem iX3_init_52 : ab_at mX3_init 52 (.putfield 34) 3 55 := ⟨by decide +kernel, rfl⟩
theorem iX3_init_55 : ab_at mX3_init 55 (.aload_n 0) 1 56 := ⟨by decide +kernel, rfl⟩
theorem iX3_init_56 : ab_at mX3_init 56 (.iconst 4) 1 57 := ⟨by decide +kernel, rfl⟩
theorem iX3_init_57 : ab_at mX3_init 57 (.newarray .int) 2 59 := ⟨by decide +kernel, rfl⟩
theorem iX3_init_59 : ab_at mX3_init 59 (.putfield 37) 3 62 := ⟨by decide +kernel, rfl⟩
theorem iX3_init_62 : ab_at mX3_init 62 (.return_) 1 63 := ⟨by decide +kernel, rfl⟩
theorem iX3_isUp_0 : ab_at mX3_isUp 0 (.aload_n 0) 1 1 := ⟨by decide +kernel, rfl⟩
theorem iX3_isUp_1 : ab_at mX3_isUp 1 (.getfield 9) 3 4 := ⟨by decide +kernel, rfl⟩
theorem iX3_isUp_4 : ab_bi mX3_isUp 4 .le 7 11 := ⟨7, by decide +kernel, rfl, by decide⟩
theorem iX3_isUp_7 : ab_at mX3_isUp 7 (.iconst 1) 1 8 := ⟨by decide +kernel, rfl⟩
theorem iX3_isUp_8 : ab_bg mX3_isUp 8 12 := ⟨4, by decide +kernel, by decide⟩
theorem iX3_isUp_11 : ab_at mX3_isUp 11 (.iconst 0) 1 12 := ⟨by decide +kernel, rfl⟩
theorem iX3_isUp_12 : ab_at mX3_isUp 12 (.ireturn) 1 13 := ⟨by decide +kernel, rfl⟩
theorem iX3_takeDown_0 : ab_at mX3_takeDown 0 (.aload_n 0) 1 1 := ⟨by decide +kernel, rfl⟩
theorem iX3_takeDown_1 : ab_at mX3_takeDown 1 (.iconst 0) 1 2 := ⟨by decide +kernel, rfl⟩
theorem iX3_takeDown_2 : ab_at mX3_takeDown 2 (.putfield 9) 3 5 := ⟨by decide +kernel, rfl⟩
theorem iX3_takeDown_5 : ab_at mX3_takeDown 5 (.aload_n 0) 1 6 := ⟨by decide +kernel, rfl⟩
theorem iX3_takeDown_6 : ab_at mX3_takeDown 6 (.iconst 0) 1 7 := ⟨by decide +kernel, rfl⟩
theorem iX3_takeDown_7 : ab_at mX3_takeDown 7 (.putfield 15) 3 10 := ⟨by decide +kernel, rfl⟩
theorem iX3_takeDown_10 : ab_at mX3_takeDown 10 (.return_) 1 11 := ⟨by decide +kernel, rfl⟩
theorem iX3_setUp_0 : ab_at mX3_setUp 0 (.aload_n 0) 1 1 := ⟨by decide +kernel, rfl⟩
theorem iX3_setUp_1 : ab_at mX3_setUp 1 (.aload_n 1) 1 2 := ⟨by decide +kernel, rfl⟩
theorem iX3_setUp_2 : ab_at mX3_setUp 2 (.getfield 40) 3 5 := ⟨by decide +kernel, rfl⟩
theorem iX3_setUp_5 : ab_at mX3_setUp 5 (.putfield 9) 3 8 := ⟨by decide +kernel, rfl⟩
theorem iX3_setUp_8 : ab_at mX3_setUp 8 (.aload_n 0) 1 9 := ⟨by decide +kernel, rfl⟩
theorem iX3_setUp_9 : ab_at mX3_setUp 9 (.iconst 0) 1 10 := ⟨by decide +kernel, rfl⟩
theorem iX3_setUp_10 : ab_at mX3_setUp 10 (.putfield 15) 3 13 := ⟨by decide +kernel, rfl⟩
theorem iX3_setUp_13 : ab_at mX3_setUp 13 (.aload_n 0) 1 14 := ⟨by decide +kernel, rfl⟩
theorem iX3_setUp_14 : ab_at mX3_setUp 14 (.aload_n 2) 1 15 := ⟨by decide +kernel, rfl⟩
theorem iX3_setUp_15 : ab_at mX3_setUp 15 (.getfield 43) 3 18 := ⟨by decide +kernel, rfl⟩
theorem iX3_setUp_18 : ab_at mX3_setUp 18 (.putfield 31) 3 21 := ⟨by decide +kernel, rfl⟩
theorem iX3_setUp_21 : ab_at mX3_setUp 21 (.iconst 0) 1 22 := ⟨by decide +kernel, rfl⟩
theorem iX3_setUp_22 : ab_at mX3_setUp 22 (.istore_n 3) 1 23 := ⟨by decide +kernel, rfl⟩
theorem iX3_setUp_23 : ab_at mX3_setUp 23 (.iconst 0) 1 24 := ⟨by decide +kernel, rfl⟩
theorem iX3_setUp_24 : ab_at mX3_setUp 24 (.istore 4) 2 26 := ⟨by decide +kernel, rfl⟩
theorem iX3_setUp_26 : ab_at mX3_setUp 26 (.iload 4) 2 28 := ⟨by decide +kernel, rfl⟩
theorem iX3_setUp_28 : ab_at mX3_setUp 28 (.aload_n 0) 1 29 := ⟨by decide +kernel, rfl⟩
theorem iX3_setUp_29 : ab_at mX3_setUp 29 (.getfield 9) 3 32 := ⟨by decide +kernel, rfl⟩
theorem iX3_setUp_32 : ab_bc mX3_setUp 32 .ge 35 102 := ⟨70, by decide +kernel, rfl, by decide⟩
theorem iX3_setUp_35 : ab_at mX3_setUp 35 (.aload_n 0) 1 36 := ⟨by decide +kernel, rfl⟩
theorem iX3_setUp_36 : ab_at mX3_setUp 36 (.getfield 18) 3 39 := ⟨by decide +kernel, rfl⟩
theorem iX3_setUp_39 : ab_at mX3_setUp 39 (.iload 4) 2 41 := ⟨by decide +kernel, rfl⟩
theorem iX3_setUp_41 : ab_at mX3_setUp 41 (.aload_n 1) 1 42 := ⟨by decide +kernel, rfl⟩
theorem iX3_setUp_42 : ab_at mX3_setUp 42 (.getfield 48) 3 45 := ⟨by decide +kernel, rfl⟩
theorem iX3_setUp_45 : ab_at mX3_setUp 45 (.iload 4) 2 47 := ⟨by decide +kernel, rfl⟩
theorem iX3_setUp_47 : ab_at mX3_setUp 47 (.iaload) 1 48 := ⟨by decide +kernel, rfl⟩
theorem iX3_setUp_48 : ab_at mX3_setUp 48 (.iastore) 1 49 := ⟨by decide +kernel, rfl⟩
theorem iX3_setUp_49 : ab_at mX3_setUp 49 (.aload_n 0) 1 50 := ⟨by decide +kernel, rfl⟩
theorem iX3_setUp_50 : ab_at mX3_setUp 50 (.getfield 22) 3 53 := ⟨by decide +kernel, rfl⟩
theorem iX3_setUp_53 : ab_at mX3_setUp 53 (.iload 4) 2 55 := ⟨by decide +kernel, rfl⟩
theorem iX3_setUp_55 : ab_at mX3_setUp 55 (.iload_n 3) 1 56 := ⟨by decide +kernel, rfl⟩
theorem iX3_setUp_56 : ab_at mX3_setUp 56 (.iastore) 1 57 := ⟨by decide +kernel, rfl⟩
theorem iX3_setUp_57 : ab_at mX3_setUp 57 (.aload_n 0) 1 58 := ⟨by decide +kernel, rfl⟩
theorem iX3_setUp_58 : ab_at mX3_setUp 58 (.getfield 25) 3 61 := ⟨by decide +kernel, rfl⟩
theorem iX3_setUp_61 : ab_at mX3_setUp 61 (.iload 4) 2 63 := ⟨by decide +kernel, rfl⟩
theorem iX3_setUp_63 : ab_at mX3_setUp 63 (.aload_n 1) 1 64 := ⟨by decide +kernel, rfl⟩
theorem iX3_setUp_64 : ab_at mX3_setUp 64 (.getfield 49) 3 67 := ⟨by decide +kernel, rfl⟩
theorem iX3_setUp_67 : ab_at mX3_setUp 67 (.iload 4) 2 69 := ⟨by decide +kernel, rfl⟩
theorem iX3_setUp_69 : ab_at mX3_setUp 69 (.iaload) 1 70 := ⟨by decide +kernel, rfl⟩
theorem iX3_setUp_70 : ab_at mX3_setUp 70 (.iastore) 1 71 := ⟨by decide +kernel, rfl⟩
theorem iX3_setUp_71 : ab_at mX3_setUp 71 (.aload_n 0) 1 72 := ⟨by decide +kernel, rfl⟩
theorem iX3_setUp_72 : ab_at mX3_setUp 72 (.getfield 28) 3 75 := ⟨by decide +kernel, rfl⟩
theorem iX3_setUp_75 : ab_at mX3_setUp 75 (.iload 4) 2 77 := ⟨by decide +kernel, rfl⟩
theorem iX3_setUp_77 : ab_at mX3_setUp 77 (.iconst 0) 1 78 := ⟨by decide +kernel, rfl⟩
theorem iX3_setUp_78 : ab_at mX3_setUp 78 (.iastore) 1 79 := ⟨by decide +kernel, rfl⟩
theorem iX3_setUp_79 : ab_at mX3_setUp 79 (.aload_n 0) 1 80 := ⟨by decide +kernel, rfl⟩
theorem iX3_setUp_80 : ab_at mX3_setUp 80 (.aload_n 2) 1 81 := ⟨by decide +kernel, rfl⟩
theorem iX3_setUp_81 : ab_at mX3_setUp 81 (.iload 4) 2 83 := ⟨by decide +kernel, rfl⟩
theorem iX3_setUp_83 : ab_at mX3_setUp 83 (.invokevirtual 50) 3 86 := ⟨by decide +kernel, rfl⟩
theorem iX3_setUp_86 : ab_at mX3_setUp 86 (.iload_n 3) 1 87 := ⟨by decide +kernel, rfl⟩
theorem iX3_setUp_87 : ab_at mX3_setUp 87 (.aload_n 0) 1 88 := ⟨by decide +kernel, rfl⟩
theorem iX3_setUp_88 : ab_at mX3_setUp 88 (.getfield 25) 3 91 := ⟨by decide +kernel, rfl⟩
theorem iX3_setUp_91 : ab_at mX3_setUp 91 (.iload 4) 2 93 := ⟨by decide +kernel, rfl⟩
theorem iX3_setUp_93 : ab_at mX3_setUp 93 (.iaload) 1 94 := ⟨by decide +kernel, rfl⟩
theorem iX3_setUp_94 : ab_at mX3_setUp 94 (.iadd) 1 95 := ⟨by decide +kernel, rfl⟩
theorem iX3_setUp_95 : ab_at mX3_setUp 95 (.istore_n 3) 1 96 := ⟨by decide +kernel, rfl⟩
theorem iX3_setUp_96 : ab_at mX3_setUp 96 (.iinc 4 1) 3 99 := ⟨by decide +kernel, rfl⟩
theorem iX3_setUp_99 : ab_bg mX3_setUp 99 26 := ⟨-73, by decide +kernel, by decide⟩
theorem iX3_setUp_102 : ab_at mX3_setUp 102 (.return_) 1 103 := ⟨by decide +kernel, rfl⟩
theorem iX3_measure_0 : ab_at mX3_measure 0 (.iconst 0) 1 1 := ⟨by decide +kernel, rfl⟩
theorem iX3_measure_1 : ab_at mX3_measure 1 (.istore_n 3) 1 2 := ⟨by decide +kernel, rfl⟩
theorem iX3_measure_2 : ab_at mX3_measure 2 (.aload_n 0) 1 3 := ⟨by decide +kernel, rfl⟩
theorem iX3_measure_3 : ab_at mX3_measure 3 (.getfield 34) 3 6 := ⟨by decide +kernel, rfl⟩
theorem iX3_measure_6 : ab_at mX3_measure 6 (.iload_n 2) 1 7 := ⟨by decide +kernel, rfl⟩
theorem iX3_measure_7 : ab_at mX3_measure 7 (.bipush 11) 2 9 := ⟨by decide +kernel, rfl⟩
theorem iX3_measure_9 : ab_at mX3_measure 9 (.imul) 1 10 := ⟨by decide +kernel, rfl⟩
theorem iX3_measure_10 : ab_at mX3_measure 10 (.iconst 0) 1 11 := ⟨by decide +kernel, rfl⟩
theorem iX3_measure_11 : ab_at mX3_measure 11 (.iastore) 1 12 := ⟨by decide +kernel, rfl⟩
theorem iX3_measure_12 : ab_at mX3_measure 12 (.iconst 0) 1 13 := ⟨by decide +kernel, rfl⟩
theorem iX3_measure_13 : ab_at mX3_measure 13 (.istore 4) 2 15 := ⟨by decide +kernel, rfl⟩
theorem iX3_measure_15 : ab_at mX3_measure 15 (.iload 4) 2 17 := ⟨by decide +kernel, rfl⟩
theorem iX3_measure_17 : ab_at mX3_measure 17 (.aload_n 0) 1 18 := ⟨by decide +kernel, rfl⟩
theorem iX3_measure_18 : ab_at mX3_measure 18 (.getfield 31) 3 21 := ⟨by decide +kernel, rfl⟩
theorem iX3_measure_21 : ab_bc mX3_measure 21 .ge 24 71 := ⟨50, by decide +kernel, rfl, by decide⟩
theorem iX3_measure_24 : ab_at mX3_measure 24 (.iload_n 3) 1 25 := ⟨by decide +kernel, rfl⟩
theorem iX3_measure_25 : ab_at mX3_measure 25 (.aload_n 0) 1 26 := ⟨by decide +kernel, rfl⟩
theorem iX3_measure_26 : ab_at mX3_measure 26 (.aload_n 1) 1 27 := ⟨by decide +kernel, rfl⟩
theorem iX3_measure_27 : ab_at mX3_measure 27 (.iload_n 2) 1 28 := ⟨by decide +kernel, rfl⟩
theorem iX3_measure_28 : ab_at mX3_measure 28 (.iload 4) 2 30 := ⟨by decide +kernel, rfl⟩
theorem iX3_measure_30 : ab_at mX3_measure 30 (.aload_n 0) 1 31 := ⟨by decide +kernel, rfl⟩
theorem iX3_measure_31 : ab_at mX3_measure 31 (.getfield 22) 3 34 := ⟨by decide +kernel, rfl⟩
theorem iX3_measure_34 : ab_at mX3_measure 34 (.iload_n 2) 1 35 := ⟨by decide +kernel, rfl⟩
theorem iX3_measure_35 : ab_at mX3_measure 35 (.iaload) 1 36 := ⟨by decide +kernel, rfl⟩
theorem iX3_measure_36 : ab_at mX3_measure 36 (.aload_n 0) 1 37 := ⟨by decide +kernel, rfl⟩
theorem iX3_measure_37 : ab_at mX3_measure 37 (.getfield 25) 3 40 := ⟨by decide +kernel, rfl⟩
theorem iX3_measure_40 : ab_at mX3_measure 40 (.iload_n 2) 1 41 := ⟨by decide +kernel, rfl⟩
theorem iX3_measure_41 : ab_at mX3_measure 41 (.iaload) 1 42 := ⟨by decide +kernel, rfl⟩
theorem iX3_measure_42 : ab_at mX3_measure 42 (.iadd) 1 43 := ⟨by decide +kernel, rfl⟩
theorem iX3_measure_43 : ab_at mX3_measure 43 (.iconst 1) 1 44 := ⟨by decide +kernel, rfl⟩
theorem iX3_measure_44 : ab_at mX3_measure 44 (.isub) 1 45 := ⟨by decide +kernel, rfl⟩
theorem iX3_measure_45 : ab_at mX3_measure 45 (.invokevirtual 54) 3 48 := ⟨by decide +kernel, rfl⟩
theorem iX3_measure_48 : ab_at mX3_measure 48 (.iadd) 1 49 := ⟨by decide +kernel, rfl⟩
theorem iX3_measure_49 : ab_at mX3_measure 49 (.istore_n 3) 1 50 := ⟨by decide +kernel, rfl⟩
theorem iX3_measure_50 : ab_at mX3_measure 50 (.aload_n 0) 1 51 := ⟨by decide +kernel, rfl⟩
theorem iX3_measure_51 : ab_at mX3_measure 51 (.getfield 34) 3 54 := ⟨by decide +kernel, rfl⟩
theorem iX3_measure_54 : ab_at mX3_measure 54 (.iload_n 2) 1 55 := ⟨by decide +kernel, rfl⟩
theorem iX3_measure_55 : ab_at mX3_measure 55 (.bipush 11) 2 57 := ⟨by decide +kernel, rfl⟩
theorem iX3_measure_57 : ab_at mX3_measure 57 (.imul) 1 58 := ⟨by decide +kernel, rfl⟩
theorem iX3_measure_58 : ab_at mX3_measure 58 (.iload 4) 2 60 := ⟨by decide +kernel, rfl⟩
theorem iX3_measure_60 : ab_at mX3_measure 60 (.iadd) 1 61 := ⟨by decide +kernel, rfl⟩
theorem iX3_measure_61 : ab_at mX3_measure 61 (.iconst 1) 1 62 := ⟨by decide +kernel, rfl⟩
theorem iX3_measure_62 : ab_at mX3_measure 62 (.iadd) 1 63 := ⟨by decide +kernel, rfl⟩
theorem iX3_measure_63 : ab_at mX3_measure 63 (.iload_n 3) 1 64 := ⟨by decide +kernel, rfl⟩
theorem iX3_measure_64 : ab_at mX3_measure 64 (.iastore) 1 65 := ⟨by decide +kernel, rfl⟩
theorem iX3_measure_65 : ab_at mX3_measure 65 (.iinc 4 1) 3 68 := ⟨by decide +kernel, rfl⟩
theorem iX3_measure_68 : ab_bg mX3_measure 68 15 := ⟨-53, by decide +kernel, by decide⟩
theorem iX3_measure_71 : ab_at mX3_measure 71 (.return_) 1 72 := ⟨by decide +kernel, rfl⟩
theorem iX3_workInPick_0 : ab_at mX3_workInPick 0 (.iconst 0) 1 1 := ⟨by decide +kernel, rfl⟩
theorem iX3_workInPick_1 : ab_at mX3_workInPick 1 (.istore 5) 2 3 := ⟨by decide +kernel, rfl⟩
theorem iX3_workInPick_3 : ab_at mX3_workInPick 3 (.aload_n 0) 1 4 := ⟨by decide +kernel, rfl⟩
theorem iX3_workInPick_4 : ab_at mX3_workInPick 4 (.getfield 22) 3 7 := ⟨by decide +kernel, rfl⟩
theorem iX3_workInPick_7 : ab_at mX3_workInPick 7 (.iload_n 2) 1 8 := ⟨by decide +kernel, rfl⟩
theorem iX3_workInPick_8 : ab_at mX3_workInPick 8 (.iaload) 1 9 := ⟨by decide +kernel, rfl⟩
theorem iX3_workInPick_9 : ab_at mX3_workInPick 9 (.istore 6) 2 11 := ⟨by decide +kernel, rfl⟩
theorem iX3_workInPick_11 : ab_at mX3_workInPick 11 (.iload 6) 2 13 := ⟨by decide +kernel, rfl⟩
theorem iX3_workInPick_13 : ab_at mX3_workInPick 13 (.iload 4) 2 15 := ⟨by decide +kernel, rfl⟩
theorem iX3_workInPick_15 : ab_bc mX3_workInPick 15 .gt 18 39 := ⟨24, by decide +kernel, rfl, by decide⟩
theorem iX3_workInPick_18 : ab_at mX3_workInPick 18 (.iload 5) 2 20 := ⟨by decide +kernel, rfl⟩
theorem iX3_workInPick_20 : ab_at mX3_workInPick 20 (.aload_n 1) 1 21 := ⟨by decide +kernel, rfl⟩
theorem iX3_workInPick_21 : ab_at mX3_workInPick 21 (.iload 6) 2 23 := ⟨by decide +kernel, rfl⟩
theorem iX3_workInPick_23 : ab_at mX3_workInPick 23 (.iload_n 3) 1 24 := ⟨by decide +kernel, rfl⟩
theorem iX3_workInPick_24 : ab_at mX3_workInPick 24 (.invokestatic 58) 3 27 := ⟨by decide +kernel, rfl⟩
theorem iX3_workInPick_27 : ab_at mX3_workInPick 27 (.invokevirtual 62) 3 30 := ⟨by decide +kernel, rfl⟩
theorem iX3_workInPick_30 : ab_at mX3_workInPick 30 (.iadd) 1 31 := ⟨by decide +kernel, rfl⟩
theorem iX3_workInPick_31 : ab_at mX3_workInPick 31 (.istore 5) 2 33 := ⟨by decide +kernel, rfl⟩
theorem iX3_workInPick_33 : ab_at mX3_workInPick 33 (.iinc 6 1) 3 36 := ⟨by decide +kernel, rfl⟩
theorem iX3_workInPick_36 : ab_bg mX3_workInPick 36 11 := ⟨-25, by decide +kernel, by decide⟩
theorem iX3_workInPick_39 : ab_at mX3_workInPick 39 (.iload 5) 2 41 := ⟨by decide +kernel, rfl⟩
theorem iX3_workInPick_41 : ab_at mX3_workInPick 41 (.ireturn) 1 42 := ⟨by decide +kernel, rfl⟩
theorem iX3_workOf_0 : ab_at mX3_workOf 0 (.aload_n 0) 1 1 := ⟨by decide +kernel, rfl⟩
theorem iX3_workOf_1 : ab_at mX3_workOf 1 (.getfield 34) 3 4 := ⟨by decide +kernel, rfl⟩
theorem iX3_workOf_4 : ab_at mX3_workOf 4 (.iload_n 1) 1 5 := ⟨by decide +kernel, rfl⟩
theorem iX3_workOf_5 : ab_at mX3_workOf 5 (.bipush 11) 2 7 := ⟨by decide +kernel, rfl⟩
theorem iX3_workOf_7 : ab_at mX3_workOf 7 (.imul) 1 8 := ⟨by decide +kernel, rfl⟩
theorem iX3_workOf_8 : ab_at mX3_workOf 8 (.aload_n 0) 1 9 := ⟨by decide +kernel, rfl⟩
theorem iX3_workOf_9 : ab_at mX3_workOf 9 (.getfield 31) 3 12 := ⟨by decide +kernel, rfl⟩
theorem iX3_workOf_12 : ab_at mX3_workOf 12 (.iadd) 1 13 := ⟨by decide +kernel, rfl⟩
theorem iX3_workOf_13 : ab_at mX3_workOf 13 (.iaload) 1 14 := ⟨by decide +kernel, rfl⟩
theorem iX3_workOf_14 : ab_at mX3_workOf 14 (.ireturn) 1 15 := ⟨by decide +kernel, rfl⟩
theorem iX3_wholePicks_0 : ab_at mX3_wholePicks 0 (.iconst 0) 1 1 := ⟨by decide +kernel, rfl⟩
theorem iX3_wholePicks_1 : ab_at mX3_wholePicks 1 (.istore_n 2) 1 2 := ⟨by decide +kernel, rfl⟩
theorem iX3_wholePicks_2 : ab_at mX3_wholePicks 2 (.iload_n 2) 1 3 := ⟨by decide +kernel, rfl⟩
theorem iX3_wholePicks_3 : ab_at mX3_wholePicks 3 (.aload_n 0) 1 4 := ⟨by decide +kernel, rfl⟩
theorem iX3_wholePicks_4 : ab_at mX3_wholePicks 4 (.getfield 31) 3 7 := ⟨by decide +kernel, rfl⟩
theorem iX3_wholePicks_7 : ab_bc mX3_wholePicks 7 .ge 10 38 := ⟨31, by decide +kernel, rfl, by decide⟩
theorem iX3_wholePicks_10 : ab_at mX3_wholePicks 10 (.aload_n 0) 1 11 := ⟨by decide +kernel, rfl⟩
theorem iX3_wholePicks_11 : ab_at mX3_wholePicks 11 (.getfield 34) 3 14 := ⟨by decide +kernel, rfl⟩
theorem iX3_wholePicks_14 : ab_at mX3_wholePicks 14 (.iload_n 1) 1 15 := ⟨by decide +kernel, rfl⟩
theorem iX3_wholePicks_15 : ab_at mX3_wholePicks 15 (.bipush 11) 2 17 := ⟨by decide +kernel, rfl⟩
theorem iX3_wholePicks_17 : ab_at mX3_wholePicks 17 (.imul) 1 18 := ⟨by decide +kernel, rfl⟩
theorem iX3_wholePicks_18 : ab_at mX3_wholePicks 18 (.iload_n 2) 1 19 := ⟨by decide +kernel, rfl⟩
theorem iX3_wholePicks_19 : ab_at mX3_wholePicks 19 (.iadd) 1 20 := ⟨by decide +kernel, rfl⟩
theorem iX3_wholePicks_20 : ab_at mX3_wholePicks 20 (.iconst 1) 1 21 := ⟨by decide +kernel, rfl⟩
theorem iX3_wholePicks_21 : ab_at mX3_wholePicks 21 (.iadd) 1 22 := ⟨by decide +kernel, rfl⟩
theorem iX3_wholePicks_22 : ab_at mX3_wholePicks 22 (.iaload) 1 23 := ⟨by decide +kernel, rfl⟩
theorem iX3_wholePicks_23 : ab_at mX3_wholePicks 23 (.aload_n 0) 1 24 := ⟨by decide +kernel, rfl⟩
theorem iX3_wholePicks_24 : ab_at mX3_wholePicks 24 (.getfield 28) 3 27 := ⟨by decide +kernel, rfl⟩
theorem iX3_wholePicks_27 : ab_at mX3_wholePicks 27 (.iload_n 1) 1 28 := ⟨by decide +kernel, rfl⟩
theorem iX3_wholePicks_28 : ab_at mX3_wholePicks 28 (.iaload) 1 29 := ⟨by decide +kernel, rfl⟩
theorem iX3_wholePicks_29 : ab_bc mX3_wholePicks 29 .gt 32 38 := ⟨9, by decide +kernel, rfl, by decide⟩
theorem iX3_wholePicks_32 : ab_at mX3_wholePicks 32 (.iinc 2 1) 3 35 := ⟨by decide +kernel, rfl⟩
theorem iX3_wholePicks_35 : ab_bg mX3_wholePicks 35 2 := ⟨-33, by decide +kernel, by decide⟩
theorem iX3_wholePicks_38 : ab_at mX3_wholePicks 38 (.iload_n 2) 1 39 := ⟨by decide +kernel, rfl⟩
theorem iX3_wholePicks_39 : ab_at mX3_wholePicks 39 (.ireturn) 1 40 := ⟨by decide +kernel, rfl⟩
theorem iX3_fewestWholePicks_0 : ab_at mX3_fewestWholePicks 0 (.aload_n 0) 1 1 := ⟨by decide +kernel, rfl⟩
theorem iX3_fewestWholePicks_1 : ab_at mX3_fewestWholePicks 1 (.getfield 31) 3 4 := ⟨by decide +kernel, rfl⟩
theorem iX3_fewestWholePicks_4 : ab_at mX3_fewestWholePicks 4 (.istore_n 1) 1 5 := ⟨by decide +kernel, rfl⟩
theorem iX3_fewestWholePicks_5 : ab_at mX3_fewestWholePicks 5 (.iconst 0) 1 6 := ⟨by decide +kernel, rfl⟩
theorem iX3_fewestWholePicks_6 : ab_at mX3_fewestWholePicks 6 (.istore_n 2) 1 7 := ⟨by decide +kernel, rfl⟩
theorem iX3_fewestWholePicks_7 : ab_at mX3_fewestWholePicks 7 (.iload_n 2) 1 8 := ⟨by decide +kernel, rfl⟩
theorem iX3_fewestWholePicks_8 : ab_at mX3_fewestWholePicks 8 (.aload_n 0) 1 9 := ⟨by decide +kernel, rfl⟩
theorem iX3_fewestWholePicks_9 : ab_at mX3_fewestWholePicks 9 (.getfield 9) 3 12 := ⟨by decide +kernel, rfl⟩
theorem iX3_fewestWholePicks_12 : ab_bc mX3_fewestWholePicks 12 .ge 15 31 := ⟨19, by decide +kernel, rfl, by decide⟩
theorem iX3_fewestWholePicks_15 : ab_at mX3_fewestWholePicks 15 (.iload_n 1) 1 16 := ⟨by decide +kernel, rfl⟩
theorem iX3_fewestWholePicks_16 : ab_at mX3_fewestWholePicks 16 (.aload_n 0) 1 17 := ⟨by decide +kernel, rfl⟩
theorem iX3_fewestWholePicks_17 : ab_at mX3_fewestWholePicks 17 (.iload_n 2) 1 18 := ⟨by decide +kernel, rfl⟩
theorem iX3_fewestWholePicks_18 : ab_at mX3_fewestWholePicks 18 (.invokevirtual 66) 3 21 := ⟨by decide +kernel, rfl⟩
theorem iX3_fewestWholePicks_21 : ab_at mX3_fewestWholePicks 21 (.invokestatic 69) 3 24 := ⟨by decide +kernel, rfl⟩
theorem iX3_fewestWholePicks_24 : ab_at mX3_fewestWholePicks 24 (.istore_n 1) 1 25 := ⟨by decide +kernel, rfl⟩
theorem iX3_fewestWholePicks_25 : ab_at mX3_fewestWholePicks 25 (.iinc 2 1) 3 28 := ⟨by decide +kernel, rfl⟩
theorem iX3_fewestWholePicks_28 : ab_bg mX3_fewestWholePicks 28 7 := ⟨-21, by decide +kernel, by decide⟩
theorem iX3_fewestWholePicks_31 : ab_at mX3_fewestWholePicks 31 (.iload_n 1) 1 32 := ⟨by decide +kernel, rfl⟩
theorem iX3_fewestWholePicks_32 : ab_at mX3_fewestWholePicks 32 (.ireturn) 1 33 := ⟨by decide +kernel, rfl⟩
theorem iX3_weaveDay_0 : ab_at mX3_weaveDay 0 (.aload_n 0) 1 1 := ⟨by decide +kernel, rfl⟩
theorem iX3_weaveDay_1 : ab_at mX3_weaveDay 1 (.invokevirtual 74) 3 4 := ⟨by decide +kernel, rfl⟩
theorem iX3_weaveDay_4 : ab_at mX3_weaveDay 4 (.iconst 0) 1 5 := ⟨by decide +kernel, rfl⟩
theorem iX3_weaveDay_5 : ab_at mX3_weaveDay 5 (.istore_n 3) 1 6 := ⟨by decide +kernel, rfl⟩
theorem iX3_weaveDay_6 : ab_at mX3_weaveDay 6 (.iload_n 3) 1 7 := ⟨by decide +kernel, rfl⟩
theorem iX3_weaveDay_7 : ab_at mX3_weaveDay 7 (.aload_n 0) 1 8 := ⟨by decide +kernel, rfl⟩
theorem iX3_weaveDay_8 : ab_at mX3_weaveDay 8 (.getfield 9) 3 11 := ⟨by decide +kernel, rfl⟩
theorem iX3_weaveDay_11 : ab_bc mX3_weaveDay 11 .ge 14 61 := ⟨50, by decide +kernel, rfl, by decide⟩
theorem iX3_weaveDay_14 : ab_at mX3_weaveDay 14 (.aload_n 0) 1 15 := ⟨by decide +kernel, rfl⟩
theorem iX3_weaveDay_15 : ab_at mX3_weaveDay 15 (.iload_n 3) 1 16 := ⟨by decide +kernel, rfl⟩
theorem iX3_weaveDay_16 : ab_at mX3_weaveDay 16 (.iload_n 2) 1 17 := ⟨by decide +kernel, rfl⟩
theorem iX3_weaveDay_17 : ab_at mX3_weaveDay 17 (.invokevirtual 77) 3 20 := ⟨by decide +kernel, rfl⟩
theorem iX3_weaveDay_20 : ab_bi mX3_weaveDay 20 .ne 23 55 := ⟨35, by decide +kernel, rfl, by decide⟩
theorem iX3_weaveDay_23 : ab_at mX3_weaveDay 23 (.aload_n 0) 1 24 := ⟨by decide +kernel, rfl⟩
theorem iX3_weaveDay_24 : ab_at mX3_weaveDay 24 (.getfield 28) 3 27 := ⟨by decide +kernel, rfl⟩
theorem iX3_weaveDay_27 : ab_at mX3_weaveDay 27 (.iload_n 3) 1 28 := ⟨by decide +kernel, rfl⟩
theorem iX3_weaveDay_28 : ab_at mX3_weaveDay 28 (.aload_n 0) 1 29 := ⟨by decide +kernel, rfl⟩
theorem iX3_weaveDay_29 : ab_at mX3_weaveDay 29 (.getfield 28) 3 32 := ⟨by decide +kernel, rfl⟩
theorem iX3_weaveDay_32 : ab_at mX3_weaveDay 32 (.iload_n 3) 1 33 := ⟨by decide +kernel, rfl⟩
theorem iX3_weaveDay_33 : ab_at mX3_weaveDay 33 (.iaload) 1 34 := ⟨by decide +kernel, rfl⟩
theorem iX3_weaveDay_34 : ab_at mX3_weaveDay 34 (.aload_n 1) 1 35 := ⟨by decide +kernel, rfl⟩
theorem iX3_weaveDay_35 : ab_at mX3_weaveDay 35 (.getfield 81) 3 38 := ⟨by decide +kernel, rfl⟩
theorem iX3_weaveDay_38 : ab_at mX3_weaveDay 38 (.aload_n 0) 1 39 := ⟨by decide +kernel, rfl⟩
theorem iX3_weaveDay_39 : ab_at mX3_weaveDay 39 (.getfield 18) 3 42 := ⟨by decide +kernel, rfl⟩
theorem iX3_weaveDay_42 : ab_at mX3_weaveDay 42 (.iload_n 3) 1 43 := ⟨by decide +kernel, rfl⟩
theorem iX3_weaveDay_43 : ab_at mX3_weaveDay 43 (.iaload) 1 44 := ⟨by decide +kernel, rfl⟩
theorem iX3_weaveDay_44 : ab_at mX3_weaveDay 44 (.iaload) 1 45 := ⟨by decide +kernel, rfl⟩
theorem iX3_weaveDay_45 : ab_at mX3_weaveDay 45 (.iadd) 1 46 := ⟨by decide +kernel, rfl⟩
theorem iX3_weaveDay_46 : ab_at mX3_weaveDay 46 (.aload_n 0) 1 47 := ⟨by decide +kernel, rfl⟩
theorem iX3_weaveDay_47 : ab_at mX3_weaveDay 47 (.iload_n 3) 1 48 := ⟨by decide +kernel, rfl⟩
theorem iX3_weaveDay_48 : ab_at mX3_weaveDay 48 (.invokevirtual 86) 3 51 := ⟨by decide +kernel, rfl⟩
theorem iX3_weaveDay_51 : ab_at mX3_weaveDay 51 (.invokestatic 69) 3 54 := ⟨by decide +kernel, rfl⟩
theorem iX3_weaveDay_54 : ab_at mX3_weaveDay 54 (.iastore) 1 55 := ⟨by decide +kernel, rfl⟩
theorem iX3_weaveDay_55 : ab_at mX3_weaveDay 55 (.iinc 3 1) 3 58 := ⟨by decide +kernel, rfl⟩
theorem iX3_weaveDay_58 : ab_bg mX3_weaveDay 58 6 := ⟨-52, by decide +kernel, by decide⟩
theorem iX3_weaveDay_61 : ab_at mX3_weaveDay 61 (.aload_n 0) 1 62 := ⟨by decide +kernel, rfl⟩
theorem iX3_weaveDay_62 : ab_at mX3_weaveDay 62 (.dup) 1 63 := ⟨by decide +kernel, rfl⟩
theorem iX3_weaveDay_63 : ab_at mX3_weaveDay 63 (.getfield 15) 3 66 := ⟨by decide +kernel, rfl⟩
theorem iX3_weaveDay_66 : ab_at mX3_weaveDay 66 (.iconst 1) 1 67 := ⟨by decide +kernel, rfl⟩
theorem iX3_weaveDay_67 : ab_at mX3_weaveDay 67 (.iadd) 1 68 := ⟨by decide +kernel, rfl⟩
theorem iX3_weaveDay_68 : ab_at mX3_weaveDay 68 (.putfield 15) 3 71 := ⟨by decide +kernel, rfl⟩
theorem iX3_weaveDay_71 : ab_at mX3_weaveDay 71 (.return_) 1 72 := ⟨by decide +kernel, rfl⟩
theorem iX3_wouldGoOn_0 : ab_at mX3_wouldGoOn 0 (.aload_n 0) 1 1 := ⟨by decide +kernel, rfl⟩
theorem iX3_wouldGoOn_1 : ab_at mX3_wouldGoOn 1 (.invokevirtual 74) 3 4 := ⟨by decide +kernel, rfl⟩
theorem iX3_wouldGoOn_4 : ab_at mX3_wouldGoOn 4 (.aload_n 0) 1 5 := ⟨by decide +kernel, rfl⟩
theorem iX3_wouldGoOn_5 : ab_at mX3_wouldGoOn 5 (.getfield 28) 3 8 := ⟨by decide +kernel, rfl⟩
theorem iX3_wouldGoOn_8 : ab_at mX3_wouldGoOn 8 (.iload_n 1) 1 9 := ⟨by decide +kernel, rfl⟩
theorem iX3_wouldGoOn_9 : ab_at mX3_wouldGoOn 9 (.iaload) 1 10 := ⟨by decide +kernel, rfl⟩
theorem iX3_wouldGoOn_10 : ab_at mX3_wouldGoOn 10 (.aload_n 0) 1 11 := ⟨by decide +kernel, rfl⟩
theorem iX3_wouldGoOn_11 : ab_at mX3_wouldGoOn 11 (.iload_n 1) 1 12 := ⟨by decide +kernel, rfl⟩
theorem iX3_wouldGoOn_12 : ab_at mX3_wouldGoOn 12 (.invokevirtual 86) 3 15 := ⟨by decide +kernel, rfl⟩
theorem iX3_wouldGoOn_15 : ab_bc mX3_wouldGoOn 15 .ge 18 31 := ⟨16, by decide +kernel, rfl, by decide⟩
theorem iX3_wouldGoOn_18 : ab_at mX3_wouldGoOn 18 (.aload_n 0) 1 19 := ⟨by decide +kernel, rfl⟩
theorem iX3_wouldGoOn_19 : ab_at mX3_wouldGoOn 19 (.iload_n 1) 1 20 := ⟨by decide +kernel, rfl⟩
theorem iX3_wouldGoOn_20 : ab_at mX3_wouldGoOn 20 (.iload_n 2) 1 21 := ⟨by decide +kernel, rfl⟩
theorem iX3_wouldGoOn_21 : ab_at mX3_wouldGoOn 21 (.invokevirtual 77) 3 24 := ⟨by decide +kernel, rfl⟩
theorem iX3_wouldGoOn_24 : ab_bi mX3_wouldGoOn 24 .ne 27 31 := ⟨7, by decide +kernel, rfl, by decide⟩
theorem iX3_wouldGoOn_27 : ab_at mX3_wouldGoOn 27 (.iconst 1) 1 28 := ⟨by decide +kernel, rfl⟩
theorem iX3_wouldGoOn_28 : ab_bg mX3_wouldGoOn 28 32 := ⟨4, by decide +kernel, by decide⟩
theorem iX3_wouldGoOn_31 : ab_at mX3_wouldGoOn 31 (.iconst 0) 1 32 := ⟨by decide +kernel, rfl⟩
theorem iX3_wouldGoOn_32 : ab_at mX3_wouldGoOn 32 (.ireturn) 1 33 := ⟨by decide +kernel, rfl⟩
theorem iX3_beginDay_0 : ab_at mX3_beginDay 0 (.iconst 0) 1 1 := ⟨by decide +kernel, rfl⟩
theorem iX3_beginDay_1 : ab_at mX3_beginDay 1 (.istore_n 1) 1 2 := ⟨by decide +kernel, rfl⟩
theorem iX3_beginDay_2 : ab_at mX3_beginDay 2 (.iload_n 1) 1 3 := ⟨by decide +kernel, rfl⟩
theorem iX3_beginDay_3 : ab_at mX3_beginDay 3 (.aload_n 0) 1 4 := ⟨by decide +kernel, rfl⟩
theorem iX3_beginDay_4 : ab_at mX3_beginDay 4 (.getfield 9) 3 7 := ⟨by decide +kernel, rfl⟩
theorem iX3_beginDay_7 : ab_bc mX3_beginDay 7 .ge 10 27 := ⟨20, by decide +kernel, rfl, by decide⟩
theorem iX3_beginDay_10 : ab_at mX3_beginDay 10 (.aload_n 0) 1 11 := ⟨by decide +kernel, rfl⟩
theorem iX3_beginDay_11 : ab_at mX3_beginDay 11 (.getfield 37) 3 14 := ⟨by decide +kernel, rfl⟩
theorem iX3_beginDay_14 : ab_at mX3_beginDay 14 (.iload_n 1) 1 15 := ⟨by decide +kernel, rfl⟩
theorem iX3_beginDay_15 : ab_at mX3_beginDay 15 (.aload_n 0) 1 16 := ⟨by decide +kernel, rfl⟩
theorem iX3_beginDay_16 : ab_at mX3_beginDay 16 (.iload_n 1) 1 17 := ⟨by decide +kernel, rfl⟩
theorem iX3_beginDay_17 : ab_at mX3_beginDay 17 (.invokevirtual 66) 3 20 := ⟨by decide +kernel, rfl⟩
theorem iX3_beginDay_20 : ab_at mX3_beginDay 20 (.iastore) 1 21 := ⟨by decide +kernel, rfl⟩
theorem iX3_beginDay_21 : ab_at mX3_beginDay 21 (.iinc 1 1) 3 24 := ⟨by decide +kernel, rfl⟩
theorem iX3_beginDay_24 : ab_bg mX3_beginDay 24 2 := ⟨-22, by decide +kernel, by decide⟩
theorem iX3_beginDay_27 : ab_at mX3_beginDay 27 (.return_) 1 28 := ⟨by decide +kernel, rfl⟩
theorem iX3_isTooFarAhead_0 : ab_at mX3_isTooFarAhead 0 (.aload_n 0) 1 1 := ⟨by decide +kernel, rfl⟩
theorem iX3_isTooFarAhead_1 : ab_at mX3_isTooFarAhead 1 (.getfield 37) 3 4 := ⟨by decide +kernel, rfl⟩
theorem iX3_isTooFarAhead_4 : ab_at mX3_isTooFarAhead 4 (.iload_n 1) 1 5 := ⟨by decide +kernel, rfl⟩
theorem iX3_isTooFarAhead_5 : ab_at mX3_isTooFarAhead 5 (.iaload) 1 6 := ⟨by decide +kernel, rfl⟩
theorem iX3_isTooFarAhead_6 : ab_at mX3_isTooFarAhead 6 (.istore_n 3) 1 7 := ⟨by decide +kernel, rfl⟩
theorem iX3_isTooFarAhead_7 : ab_at mX3_isTooFarAhead 7 (.iload_n 1) 1 8 := ⟨by decide +kernel, rfl⟩
theorem iX3_isTooFarAhead_8 : ab_bi mX3_isTooFarAhead 8 .le 11 25 := ⟨17, by decide +kernel, rfl, by decide⟩
theorem iX3_isTooFarAhead_11 : ab_at mX3_isTooFarAhead 11 (.iload_n 3) 1 12 := ⟨by decide +kernel, rfl⟩
theorem iX3_isTooFarAhead_12 : ab_at mX3_isTooFarAhead 12 (.aload_n 0) 1 13 := ⟨by decide +kernel, rfl⟩
theorem iX3_isTooFarAhead_13 : ab_at mX3_isTooFarAhead 13 (.getfield 37) 3 16 := ⟨by decide +kernel, rfl⟩
theorem iX3_isTooFarAhead_16 : ab_at mX3_isTooFarAhead 16 (.iload_n 1) 1 17 := ⟨by decide +kernel, rfl⟩
theorem iX3_isTooFarAhead_17 : ab_at mX3_isTooFarAhead 17 (.iconst 1) 1 18 := ⟨by decide +kernel, rfl⟩
theorem iX3_isTooFarAhead_18 : ab_at mX3_isTooFarAhead 18 (.isub) 1 19 := ⟨by decide +kernel, rfl⟩
theorem iX3_isTooFarAhead_19 : ab_at mX3_isTooFarAhead 19 (.iaload) 1 20 := ⟨by decide +kernel, rfl⟩
theorem iX3_isTooFarAhead_20 : ab_at mX3_isTooFarAhead 20 (.isub) 1 21 := ⟨by decide +kernel, rfl⟩
theorem iX3_isTooFarAhead_21 : ab_at mX3_isTooFarAhead 21 (.iload_n 2) 1 22 := ⟨by decide +kernel, rfl⟩
theorem iX3_isTooFarAhead_22 : ab_bc mX3_isTooFarAhead 22 .ge 25 49 := ⟨27, by decide +kernel, rfl, by decide⟩
theorem iX3_isTooFarAhead_25 : ab_at mX3_isTooFarAhead 25 (.iload_n 1) 1 26 := ⟨by decide +kernel, rfl⟩
theorem iX3_isTooFarAhead_26 : ab_at mX3_isTooFarAhead 26 (.aload_n 0) 1 27 := ⟨by decide +kernel, rfl⟩
theorem iX3_isTooFarAhead_27 : ab_at mX3_isTooFarAhead 27 (.getfield 9) 3 30 := ⟨by decide +kernel, rfl⟩
theorem iX3_isTooFarAhead_30 : ab_at mX3_isTooFarAhead 30 (.iconst 1) 1 31 := ⟨by decide +kernel, rfl⟩
theorem iX3_isTooFarAhead_31 : ab_at mX3_isTooFarAhead 31 (.isub) 1 32 := ⟨by decide +kernel, rfl⟩
theorem iX3_isTooFarAhead_32 : ab_bc mX3_isTooFarAhead 32 .ge 35 53 := ⟨21, by decide +kernel, rfl, by decide⟩
theorem iX3_isTooFarAhead_35 : ab_at mX3_isTooFarAhead 35 (.iload_n 3) 1 36 := ⟨by decide +kernel, rfl⟩
theorem iX3_isTooFarAhead_36 : ab_at mX3_isTooFarAhead 36 (.aload_n 0) 1 37 := ⟨by decide +kernel, rfl⟩
theorem iX3_isTooFarAhead_37 : ab_at mX3_isTooFarAhead 37 (.getfield 37) 3 40 := ⟨by decide +kernel, rfl⟩
theorem iX3_isTooFarAhead_40 : ab_at mX3_isTooFarAhead 40 (.iload_n 1) 1 41 := ⟨by decide +kernel, rfl⟩
theorem iX3_isTooFarAhead_41 : ab_at mX3_isTooFarAhead 41 (.iconst 1) 1 42 := ⟨by decide +kernel, rfl⟩
theorem iX3_isTooFarAhead_42 : ab_at mX3_isTooFarAhead 42 (.iadd) 1 43 := ⟨by decide +kernel, rfl⟩
theorem iX3_isTooFarAhead_43 : ab_at mX3_isTooFarAhead 43 (.iaload) 1 44 := ⟨by decide +kernel, rfl⟩
theorem iX3_isTooFarAhead_44 : ab_at mX3_isTooFarAhead 44 (.isub) 1 45 := ⟨by decide +kernel, rfl⟩
theorem iX3_isTooFarAhead_45 : ab_at mX3_isTooFarAhead 45 (.iload_n 2) 1 46 := ⟨by decide +kernel, rfl⟩
theorem iX3_isTooFarAhead_46 : ab_bc mX3_isTooFarAhead 46 .lt 49 53 := ⟨7, by decide +kernel, rfl, by decide⟩
theorem iX3_isTooFarAhead_49 : ab_at mX3_isTooFarAhead 49 (.iconst 1) 1 50 := ⟨by decide +kernel, rfl⟩
theorem iX3_isTooFarAhead_50 : ab_bg mX3_isTooFarAhead 50 54 := ⟨4, by decide +kernel, by decide⟩
theorem iX3_isTooFarAhead_53 : ab_at mX3_isTooFarAhead 53 (.iconst 0) 1 54 := ⟨by decide +kernel, rfl⟩
theorem iX3_isTooFarAhead_54 : ab_at mX3_isTooFarAhead 54 (.ireturn) 1 55 := ⟨by decide +kernel, rfl⟩
theorem iX3_isWoven_0 : ab_at mX3_isWoven 0 (.aload_n 0) 1 1 := ⟨by decide +kernel, rfl⟩
theorem iX3_isWoven_1 : ab_at mX3_isWoven 1 (.iload_n 2) 1 2 := ⟨by decide +kernel, rfl⟩
theorem iX3_isWoven_2 : ab_at mX3_isWoven 2 (.invokevirtual 89) 3 5 := ⟨by decide +kernel, rfl⟩
theorem iX3_isWoven_5 : ab_at mX3_isWoven 5 (.istore 4) 2 7 := ⟨by decide +kernel, rfl⟩
theorem iX3_isWoven_7 : ab_at mX3_isWoven 7 (.aload_n 0) 1 8 := ⟨by decide +kernel, rfl⟩
theorem iX3_isWoven_8 : ab_at mX3_isWoven 8 (.getfield 34) 3 11 := ⟨by decide +kernel, rfl⟩
theorem iX3_isWoven_11 : ab_at mX3_isWoven 11 (.iload 4) 2 13 := ⟨by decide +kernel, rfl⟩
theorem iX3_isWoven_13 : ab_at mX3_isWoven 13 (.bipush 11) 2 15 := ⟨by decide +kernel, rfl⟩
theorem iX3_isWoven_15 : ab_at mX3_isWoven 15 (.imul) 1 16 := ⟨by decide +kernel, rfl⟩
theorem iX3_isWoven_16 : ab_at mX3_isWoven 16 (.iload_n 3) 1 17 := ⟨by decide +kernel, rfl⟩
theorem iX3_isWoven_17 : ab_at mX3_isWoven 17 (.iadd) 1 18 := ⟨by decide +kernel, rfl⟩
theorem iX3_isWoven_18 : ab_at mX3_isWoven 18 (.iaload) 1 19 := ⟨by decide +kernel, rfl⟩
theorem iX3_isWoven_19 : ab_at mX3_isWoven 19 (.istore 5) 2 21 := ⟨by decide +kernel, rfl⟩
theorem iX3_isWoven_21 : ab_at mX3_isWoven 21 (.iload 5) 2 23 := ⟨by decide +kernel, rfl⟩
theorem iX3_isWoven_23 : ab_at mX3_isWoven 23 (.aload_n 0) 1 24 := ⟨by decide +kernel, rfl⟩
theorem iX3_isWoven_24 : ab_at mX3_isWoven 24 (.aload_n 1) 1 25 := ⟨by decide +kernel, rfl⟩
theorem iX3_isWoven_25 : ab_at mX3_isWoven 25 (.iload 4) 2 27 := ⟨by decide +kernel, rfl⟩
theorem iX3_isWoven_27 : ab_at mX3_isWoven 27 (.iload_n 3) 1 28 := ⟨by decide +kernel, rfl⟩
theorem iX3_isWoven_28 : ab_at mX3_isWoven 28 (.iload_n 2) 1 29 := ⟨by decide +kernel, rfl⟩
theorem iX3_isWoven_29 : ab_at mX3_isWoven 29 (.invokevirtual 54) 3 32 := ⟨by decide +kernel, rfl⟩
theorem iX3_isWoven_32 : ab_at mX3_isWoven 32 (.iadd) 1 33 := ⟨by decide +kernel, rfl⟩
theorem iX3_isWoven_33 : ab_at mX3_isWoven 33 (.aload_n 0) 1 34 := ⟨by decide +kernel, rfl⟩
theorem iX3_isWoven_34 : ab_at mX3_isWoven 34 (.getfield 28) 3 37 := ⟨by decide +kernel, rfl⟩
theorem iX3_isWoven_37 : ab_at mX3_isWoven 37 (.iload 4) 2 39 := ⟨by decide +kernel, rfl⟩
theorem iX3_isWoven_39 : ab_at mX3_isWoven 39 (.iaload) 1 40 := ⟨by decide +kernel, rfl⟩
theorem iX3_isWoven_40 : ab_bc mX3_isWoven 40 .gt 43 47 := ⟨7, by decide +kernel, rfl, by decide⟩
theorem iX3_isWoven_43 : ab_at mX3_isWoven 43 (.iconst 1) 1 44 := ⟨by decide +kernel, rfl⟩
theorem iX3_isWoven_44 : ab_bg mX3_isWoven 44 48 := ⟨4, by decide +kernel, by decide⟩
theorem iX3_isWoven_47 : ab_at mX3_isWoven 47 (.iconst 0) 1 48 := ⟨by decide +kernel, rfl⟩
theorem iX3_isWoven_48 : ab_at mX3_isWoven 48 (.ireturn) 1 49 := ⟨by decide +kernel, rfl⟩
theorem iX3_stripAt_0 : ab_at mX3_stripAt 0 (.iconst 0) 1 1 := ⟨by decide +kernel, rfl⟩
theorem iX3_stripAt_1 : ab_at mX3_stripAt 1 (.istore_n 2) 1 2 := ⟨by decide +kernel, rfl⟩
theorem iX3_stripAt_2 : ab_at mX3_stripAt 2 (.iload_n 2) 1 3 := ⟨by decide +kernel, rfl⟩
theorem iX3_stripAt_3 : ab_at mX3_stripAt 3 (.aload_n 0) 1 4 := ⟨by decide +kernel, rfl⟩
theorem iX3_stripAt_4 : ab_at mX3_stripAt 4 (.getfield 9) 3 7 := ⟨by decide +kernel, rfl⟩
theorem iX3_stripAt_7 : ab_at mX3_stripAt 7 (.iconst 1) 1 8 := ⟨by decide +kernel, rfl⟩
theorem iX3_stripAt_8 : ab_at mX3_stripAt 8 (.isub) 1 9 := ⟨by decide +kernel, rfl⟩
theorem iX3_stripAt_9 : ab_bc mX3_stripAt 9 .ge 12 30 := ⟨21, by decide +kernel, rfl, by decide⟩
theorem iX3_stripAt_12 : ab_at mX3_stripAt 12 (.iload_n 1) 1 13 := ⟨by decide +kernel, rfl⟩
theorem iX3_stripAt_13 : ab_at mX3_stripAt 13 (.aload_n 0) 1 14 := ⟨by decide +kernel, rfl⟩
theorem iX3_stripAt_14 : ab_at mX3_stripAt 14 (.getfield 22) 3 17 := ⟨by decide +kernel, rfl⟩
theorem iX3_stripAt_17 : ab_at mX3_stripAt 17 (.iload_n 2) 1 18 := ⟨by decide +kernel, rfl⟩
theorem iX3_stripAt_18 : ab_at mX3_stripAt 18 (.iconst 1) 1 19 := ⟨by decide +kernel, rfl⟩
theorem iX3_stripAt_19 : ab_at mX3_stripAt 19 (.iadd) 1 20 := ⟨by decide +kernel, rfl⟩
theorem iX3_stripAt_20 : ab_at mX3_stripAt 20 (.iaload) 1 21 := ⟨by decide +kernel, rfl⟩
theorem iX3_stripAt_21 : ab_bc mX3_stripAt 21 .lt 24 30 := ⟨9, by decide +kernel, rfl, by decide⟩
theorem iX3_stripAt_24 : ab_at mX3_stripAt 24 (.iinc 2 1) 3 27 := ⟨by decide +kernel, rfl⟩
theorem iX3_stripAt_27 : ab_bg mX3_stripAt 27 2 := ⟨-25, by decide +kernel, by decide⟩
theorem iX3_stripAt_30 : ab_at mX3_stripAt 30 (.iload_n 2) 1 31 := ⟨by decide +kernel, rfl⟩
theorem iX3_stripAt_31 : ab_at mX3_stripAt 31 (.ireturn) 1 32 := ⟨by decide +kernel, rfl⟩
theorem iX3_countWoven_0 : ab_at mX3_countWoven 0 (.iconst 0) 1 1 := ⟨by decide +kernel, rfl⟩
theorem iX3_countWoven_1 : ab_at mX3_countWoven 1 (.istore_n 2) 1 2 := ⟨by decide +kernel, rfl⟩
theorem iX3_countWoven_2 : ab_at mX3_countWoven 2 (.iconst 0) 1 3 := ⟨by decide +kernel, rfl⟩
theorem iX3_countWoven_3 : ab_at mX3_countWoven 3 (.istore_n 3) 1 4 := ⟨by decide +kernel, rfl⟩
theorem iX3_countWoven_4 : ab_at mX3_countWoven 4 (.iload_n 3) 1 5 := ⟨by decide +kernel, rfl⟩
theorem iX3_countWoven_5 : ab_at mX3_countWoven 5 (.aload_n 0) 1 6 := ⟨by decide +kernel, rfl⟩
theorem iX3_countWoven_6 : ab_at mX3_countWoven 6 (.getfield 9) 3 9 := ⟨by decide +kernel, rfl⟩
theorem iX3_countWoven_9 : ab_bc mX3_countWoven 9 .ge 12 27 := ⟨18, by decide +kernel, rfl, by decide⟩
theorem iX3_countWoven_12 : ab_at mX3_countWoven 12 (.iload_n 2) 1 13 := ⟨by decide +kernel, rfl⟩
theorem iX3_countWoven_13 : ab_at mX3_countWoven 13 (.aload_n 0) 1 14 := ⟨by decide +kernel, rfl⟩
theorem iX3_countWoven_14 : ab_at mX3_countWoven 14 (.aload_n 1) 1 15 := ⟨by decide +kernel, rfl⟩
theorem iX3_countWoven_15 : ab_at mX3_countWoven 15 (.iload_n 3) 1 16 := ⟨by decide +kernel, rfl⟩
theorem iX3_countWoven_16 : ab_at mX3_countWoven 16 (.invokevirtual 92) 3 19 := ⟨by decide +kernel, rfl⟩
theorem iX3_countWoven_19 : ab_at mX3_countWoven 19 (.iadd) 1 20 := ⟨by decide +kernel, rfl⟩
theorem iX3_countWoven_20 : ab_at mX3_countWoven 20 (.istore_n 2) 1 21 := ⟨by decide +kernel, rfl⟩
theorem iX3_countWoven_21 : ab_at mX3_countWoven 21 (.iinc 3 1) 3 24 := ⟨by decide +kernel, rfl⟩
theorem iX3_countWoven_24 : ab_bg mX3_countWoven 24 4 := ⟨-20, by decide +kernel, by decide⟩
theorem iX3_countWoven_27 : ab_at mX3_countWoven 27 (.iload_n 2) 1 28 := ⟨by decide +kernel, rfl⟩
theorem iX3_countWoven_28 : ab_at mX3_countWoven 28 (.ireturn) 1 29 := ⟨by decide +kernel, rfl⟩
theorem iX3_countWovenOf_0 : ab_at mX3_countWovenOf 0 (.iconst 0) 1 1 := ⟨by decide +kernel, rfl⟩
theorem iX3_countWovenOf_1 : ab_at mX3_countWovenOf 1 (.istore_n 3) 1 2 := ⟨by decide +kernel, rfl⟩
theorem iX3_countWovenOf_2 : ab_at mX3_countWovenOf 2 (.iconst 0) 1 3 := ⟨by decide +kernel, rfl⟩
theorem iX3_countWovenOf_3 : ab_at mX3_countWovenOf 3 (.istore 4) 2 5 := ⟨by decide +kernel, rfl⟩
theorem iX3_countWovenOf_5 : ab_at mX3_countWovenOf 5 (.iconst 0) 1 6 := ⟨by decide +kernel, rfl⟩
theorem iX3_countWovenOf_6 : ab_at mX3_countWovenOf 6 (.istore 5) 2 8 := ⟨by decide +kernel, rfl⟩
theorem iX3_countWovenOf_8 : ab_at mX3_countWovenOf 8 (.iload 5) 2 10 := ⟨by decide +kernel, rfl⟩
theorem iX3_countWovenOf_10 : ab_at mX3_countWovenOf 10 (.aload_n 0) 1 11 := ⟨by decide +kernel, rfl⟩
theorem iX3_countWovenOf_11 : ab_at mX3_countWovenOf 11 (.getfield 31) 3 14 := ⟨by decide +kernel, rfl⟩
theorem iX3_countWovenOf_14 : ab_bc mX3_countWovenOf 14 .ge 17 85 := ⟨71, by decide +kernel, rfl, by decide⟩
theorem iX3_countWovenOf_17 : ab_at mX3_countWovenOf 17 (.aload_n 0) 1 18 := ⟨by decide +kernel, rfl⟩
theorem iX3_countWovenOf_18 : ab_at mX3_countWovenOf 18 (.getfield 22) 3 21 := ⟨by decide +kernel, rfl⟩
theorem iX3_countWovenOf_21 : ab_at mX3_countWovenOf 21 (.iload_n 2) 1 22 := ⟨by decide +kernel, rfl⟩
theorem iX3_countWovenOf_22 : ab_at mX3_countWovenOf 22 (.iaload) 1 23 := ⟨by decide +kernel, rfl⟩
theorem iX3_countWovenOf_23 : ab_at mX3_countWovenOf 23 (.istore 6) 2 25 := ⟨by decide +kernel, rfl⟩
theorem iX3_countWovenOf_25 : ab_at mX3_countWovenOf 25 (.iload 6) 2 27 := ⟨by decide +kernel, rfl⟩
theorem iX3_countWovenOf_27 : ab_at mX3_countWovenOf 27 (.aload_n 0) 1 28 := ⟨by decide +kernel, rfl⟩
theorem iX3_countWovenOf_28 : ab_at mX3_countWovenOf 28 (.getfield 22) 3 31 := ⟨by decide +kernel, rfl⟩
theorem iX3_countWovenOf_31 : ab_at mX3_countWovenOf 31 (.iload_n 2) 1 32 := ⟨by decide +kernel, rfl⟩
theorem iX3_countWovenOf_32 : ab_at mX3_countWovenOf 32 (.iaload) 1 33 := ⟨by decide +kernel, rfl⟩
theorem iX3_countWovenOf_33 : ab_at mX3_countWovenOf 33 (.aload_n 0) 1 34 := ⟨by decide +kernel, rfl⟩
theorem iX3_countWovenOf_34 : ab_at mX3_countWovenOf 34 (.getfield 25) 3 37 := ⟨by decide +kernel, rfl⟩
theorem iX3_countWovenOf_37 : ab_at mX3_countWovenOf 37 (.iload_n 2) 1 38 := ⟨by decide +kernel, rfl⟩
theorem iX3_countWovenOf_38 : ab_at mX3_countWovenOf 38 (.iaload) 1 39 := ⟨by decide +kernel, rfl⟩
theorem iX3_countWovenOf_39 : ab_at mX3_countWovenOf 39 (.iadd) 1 40 := ⟨by decide +kernel, rfl⟩
theorem iX3_countWovenOf_40 : ab_bc mX3_countWovenOf 40 .ge 43 79 := ⟨39, by decide +kernel, rfl, by decide⟩
theorem iX3_countWovenOf_43 : ab_at mX3_countWovenOf 43 (.iload 4) 2 45 := ⟨by decide +kernel, rfl⟩
theorem iX3_countWovenOf_45 : ab_at mX3_countWovenOf 45 (.aload_n 1) 1 46 := ⟨by decide +kernel, rfl⟩
theorem iX3_countWovenOf_46 : ab_at mX3_countWovenOf 46 (.iload 6) 2 48 := ⟨by decide +kernel, rfl⟩
theorem iX3_countWovenOf_48 : ab_at mX3_countWovenOf 48 (.iload 5) 2 50 := ⟨by decide +kernel, rfl⟩
theorem iX3_countWovenOf_50 : ab_at mX3_countWovenOf 50 (.invokestatic 58) 3 53 := ⟨by decide +kernel, rfl⟩
theorem iX3_countWovenOf_53 : ab_at mX3_countWovenOf 53 (.invokevirtual 62) 3 56 := ⟨by decide +kernel, rfl⟩
theorem iX3_countWovenOf_56 : ab_at mX3_countWovenOf 56 (.iadd) 1 57 := ⟨by decide +kernel, rfl⟩
theorem iX3_countWovenOf_57 : ab_at mX3_countWovenOf 57 (.istore 4) 2 59 := ⟨by decide +kernel, rfl⟩
theorem iX3_countWovenOf_59 : ab_at mX3_countWovenOf 59 (.iload 4) 2 61 := ⟨by decide +kernel, rfl⟩
theorem iX3_countWovenOf_61 : ab_at mX3_countWovenOf 61 (.aload_n 0) 1 62 := ⟨by decide +kernel, rfl⟩
theorem iX3_countWovenOf_62 : ab_at mX3_countWovenOf 62 (.getfield 28) 3 65 := ⟨by decide +kernel, rfl⟩
theorem iX3_countWovenOf_65 : ab_at mX3_countWovenOf 65 (.iload_n 2) 1 66 := ⟨by decide +kernel, rfl⟩
theorem iX3_countWovenOf_66 : ab_at mX3_countWovenOf 66 (.iaload) 1 67 := ⟨by decide +kernel, rfl⟩
theorem iX3_countWovenOf_67 : ab_bc mX3_countWovenOf 67 .gt 70 73 := ⟨6, by decide +kernel, rfl, by decide⟩
theorem iX3_countWovenOf_70 : ab_at mX3_countWovenOf 70 (.iinc 3 1) 3 73 := ⟨by decide +kernel, rfl⟩
theorem iX3_countWovenOf_73 : ab_at mX3_countWovenOf 73 (.iinc 6 1) 3 76 := ⟨by decide +kernel, rfl⟩
theorem iX3_countWovenOf_76 : ab_bg mX3_countWovenOf 76 25 := ⟨-51, by decide +kernel, by decide⟩
theorem iX3_countWovenOf_79 : ab_at mX3_countWovenOf 79 (.iinc 5 1) 3 82 := ⟨by decide +kernel, rfl⟩
theorem iX3_countWovenOf_82 : ab_bg mX3_countWovenOf 82 8 := ⟨-74, by decide +kernel, by decide⟩
theorem iX3_countWovenOf_85 : ab_at mX3_countWovenOf 85 (.iload_n 3) 1 86 := ⟨by decide +kernel, rfl⟩
theorem iX3_countWovenOf_86 : ab_at mX3_countWovenOf 86 (.ireturn) 1 87 := ⟨by decide +kernel, rfl⟩
theorem iX3_unweaveFrom_0 : ab_at mX3_unweaveFrom 0 (.aload_n 0) 1 1 := ⟨by decide +kernel, rfl⟩
theorem iX3_unweaveFrom_1 : ab_at mX3_unweaveFrom 1 (.getfield 28) 3 4 := ⟨by decide +kernel, rfl⟩
theorem iX3_unweaveFrom_4 : ab_at mX3_unweaveFrom 4 (.iload_n 1) 1 5 := ⟨by decide +kernel, rfl⟩
theorem iX3_unweaveFrom_5 : ab_at mX3_unweaveFrom 5 (.iaload) 1 6 := ⟨by decide +kernel, rfl⟩
theorem iX3_unweaveFrom_6 : ab_at mX3_unweaveFrom 6 (.istore_n 3) 1 7 := ⟨by decide +kernel, rfl⟩
theorem iX3_unweaveFrom_7 : ab_at mX3_unweaveFrom 7 (.aload_n 0) 1 8 := ⟨by decide +kernel, rfl⟩
theorem iX3_unweaveFrom_8 : ab_at mX3_unweaveFrom 8 (.getfield 28) 3 11 := ⟨by decide +kernel, rfl⟩
theorem iX3_unweaveFrom_11 : ab_at mX3_unweaveFrom 11 (.iload_n 1) 1 12 := ⟨by decide +kernel, rfl⟩
theorem iX3_unweaveFrom_12 : ab_at mX3_unweaveFrom 12 (.iload_n 3) 1 13 := ⟨by decide +kernel, rfl⟩
theorem iX3_unweaveFrom_13 : ab_at mX3_unweaveFrom 13 (.aload_n 0) 1 14 := ⟨by decide +kernel, rfl⟩
theorem iX3_unweaveFrom_14 : ab_at mX3_unweaveFrom 14 (.getfield 34) 3 17 := ⟨by decide +kernel, rfl⟩
theorem iX3_unweaveFrom_17 : ab_at mX3_unweaveFrom 17 (.iload_n 1) 1 18 := ⟨by decide +kernel, rfl⟩
theorem iX3_unweaveFrom_18 : ab_at mX3_unweaveFrom 18 (.bipush 11) 2 20 := ⟨by decide +kernel, rfl⟩
theorem iX3_unweaveFrom_20 : ab_at mX3_unweaveFrom 20 (.imul) 1 21 := ⟨by decide +kernel, rfl⟩
theorem iX3_unweaveFrom_21 : ab_at mX3_unweaveFrom 21 (.iload_n 2) 1 22 := ⟨by decide +kernel, rfl⟩
theorem iX3_unweaveFrom_22 : ab_at mX3_unweaveFrom 22 (.iadd) 1 23 := ⟨by decide +kernel, rfl⟩
theorem iX3_unweaveFrom_23 : ab_at mX3_unweaveFrom 23 (.iaload) 1 24 := ⟨by decide +kernel, rfl⟩
theorem iX3_unweaveFrom_24 : ab_at mX3_unweaveFrom 24 (.invokestatic 69) 3 27 := ⟨by decide +kernel, rfl⟩
theorem iX3_unweaveFrom_27 : ab_at mX3_unweaveFrom 27 (.iastore) 1 28 := ⟨by decide +kernel, rfl⟩
theorem iX3_unweaveFrom_28 : ab_at mX3_unweaveFrom 28 (.iload_n 3) 1 29 := ⟨by decide +kernel, rfl⟩
theorem iX3_unweaveFrom_29 : ab_at mX3_unweaveFrom 29 (.aload_n 0) 1 30 := ⟨by decide +kernel, rfl⟩
theorem iX3_unweaveFrom_30 : ab_at mX3_unweaveFrom 30 (.getfield 28) 3 33 := ⟨by decide +kernel, rfl⟩
theorem iX3_unweaveFrom_33 : ab_at mX3_unweaveFrom 33 (.iload_n 1) 1 34 := ⟨by decide +kernel, rfl⟩
theorem iX3_unweaveFrom_34 : ab_at mX3_unweaveFrom 34 (.iaload) 1 35 := ⟨by decide +kernel, rfl⟩
theorem iX3_unweaveFrom_35 : ab_at mX3_unweaveFrom 35 (.isub) 1 36 := ⟨by decide +kernel, rfl⟩
theorem iX3_unweaveFrom_36 : ab_at mX3_unweaveFrom 36 (.ireturn) 1 37 := ⟨by decide +kernel, rfl⟩
theorem iX3_copyFrom_0 : ab_at mX3_copyFrom 0 (.aload_n 0) 1 1 := ⟨by decide +kernel, rfl⟩
theorem iX3_copyFrom_1 : ab_at mX3_copyFrom 1 (.aload_n 1) 1 2 := ⟨by decide +kernel, rfl⟩
theorem iX3_copyFrom_2 : ab_at mX3_copyFrom 2 (.getfield 9) 3 5 := ⟨by decide +kernel, rfl⟩
theorem iX3_copyFrom_5 : ab_at mX3_copyFrom 5 (.putfield 9) 3 8 := ⟨by decide +kernel, rfl⟩
theorem iX3_copyFrom_8 : ab_at mX3_copyFrom 8 (.aload_n 0) 1 9 := ⟨by decide +kernel, rfl⟩
theorem iX3_copyFrom_9 : ab_at mX3_copyFrom 9 (.aload_n 1) 1 10 := ⟨by decide +kernel, rfl⟩
theorem iX3_copyFrom_10 : ab_at mX3_copyFrom 10 (.getfield 15) 3 13 := ⟨by decide +kernel, rfl⟩
theorem iX3_copyFrom_13 : ab_at mX3_copyFrom 13 (.putfield 15) 3 16 := ⟨by decide +kernel, rfl⟩
theorem iX3_copyFrom_16 : ab_at mX3_copyFrom 16 (.aload_n 0) 1 17 := ⟨by decide +kernel, rfl⟩
theorem iX3_copyFrom_17 : ab_at mX3_copyFrom 17 (.aload_n 1) 1 18 := ⟨by decide +kernel, rfl⟩
theorem iX3_copyFrom_18 : ab_at mX3_copyFrom 18 (.getfield 31) 3 21 := ⟨by decide +kernel, rfl⟩
theorem iX3_copyFrom_21 : ab_at mX3_copyFrom 21 (.putfield 31) 3 24 := ⟨by decide +kernel, rfl⟩
theorem iX3_copyFrom_24 : ab_at mX3_copyFrom 24 (.aload_n 1) 1 25 := ⟨by decide +kernel, rfl⟩
theorem iX3_copyFrom_25 : ab_at mX3_copyFrom 25 (.getfield 18) 3 28 := ⟨by decide +kernel, rfl⟩
theorem iX3_copyFrom_28 : ab_at mX3_copyFrom 28 (.iconst 0) 1 29 := ⟨by decide +kernel, rfl⟩
theorem iX3_copyFrom_29 : ab_at mX3_copyFrom 29 (.aload_n 0) 1 30 := ⟨by decide +kernel, rfl⟩
theorem iX3_copyFrom_30 : ab_at mX3_copyFrom 30 (.getfield 18) 3 33 := ⟨by decide +kernel, rfl⟩
theorem iX3_copyFrom_33 : ab_at mX3_copyFrom 33 (.iconst 0) 1 34 := ⟨by decide +kernel, rfl⟩
theorem iX3_copyFrom_34 : ab_at mX3_copyFrom 34 (.iconst 4) 1 35 := ⟨by decide +kernel, rfl⟩
theorem iX3_copyFrom_35 : ab_at mX3_copyFrom 35 (.invokestatic 96) 3 38 := ⟨by decide +kernel, rfl⟩
theorem iX3_copyFrom_38 : ab_at mX3_copyFrom 38 (.aload_n 1) 1 39 := ⟨by decide +kernel, rfl⟩
theorem iX3_copyFrom_39 : ab_at mX3_copyFrom 39 (.getfield 22) 3 42 := ⟨by decide +kernel, rfl⟩
theorem iX3_copyFrom_42 : ab_at mX3_copyFrom 42 (.iconst 0) 1 43 := ⟨by decide +kernel, rfl⟩
theorem iX3_copyFrom_43 : ab_at mX3_copyFrom 43 (.aload_n 0) 1 44 := ⟨by decide +kernel, rfl⟩
theorem iX3_copyFrom_44 : ab_at mX3_copyFrom 44 (.getfield 22) 3 47 := ⟨by decide +kernel, rfl⟩
theorem iX3_copyFrom_47 : ab_at mX3_copyFrom 47 (.iconst 0) 1 48 := ⟨by decide +kernel, rfl⟩
theorem iX3_copyFrom_48 : ab_at mX3_copyFrom 48 (.iconst 4) 1 49 := ⟨by decide +kernel, rfl⟩
theorem iX3_copyFrom_49 : ab_at mX3_copyFrom 49 (.invokestatic 96) 3 52 := ⟨by decide +kernel, rfl⟩
theorem iX3_copyFrom_52 : ab_at mX3_copyFrom 52 (.aload_n 1) 1 53 := ⟨by decide +kernel, rfl⟩
theorem iX3_copyFrom_53 : ab_at mX3_copyFrom 53 (.getfield 25) 3 56 := ⟨by decide +kernel, rfl⟩
theorem iX3_copyFrom_56 : ab_at mX3_copyFrom 56 (.iconst 0) 1 57 := ⟨by decide +kernel, rfl⟩
theorem iX3_copyFrom_57 : ab_at mX3_copyFrom 57 (.aload_n 0) 1 58 := ⟨by decide +kernel, rfl⟩
theorem iX3_copyFrom_58 : ab_at mX3_copyFrom 58 (.getfield 25) 3 61 := ⟨by decide +kernel, rfl⟩
theorem iX3_copyFrom_61 : ab_at mX3_copyFrom 61 (.iconst 0) 1 62 := ⟨by decide +kernel, rfl⟩
theorem iX3_copyFrom_62 : ab_at mX3_copyFrom 62 (.iconst 4) 1 63 := ⟨by decide +kernel, rfl⟩
theorem iX3_copyFrom_63 : ab_at mX3_copyFrom 63 (.invokestatic 96) 3 66 := ⟨by decide +kernel, rfl⟩
theorem iX3_copyFrom_66 : ab_at mX3_copyFrom 66 (.aload_n 1) 1 67 := ⟨by decide +kernel, rfl⟩
theorem iX3_copyFrom_67 : ab_at mX3_copyFrom 67 (.getfield 28) 3 70 := ⟨by decide +kernel, rfl⟩
theorem iX3_copyFrom_70 : ab_at mX3_copyFrom 70 (.iconst 0) 1 71 := ⟨by decide +kernel, rfl⟩
theorem iX3_copyFrom_71 : ab_at mX3_copyFrom 71 (.aload_n 0) 1 72 := ⟨by decide +kernel, rfl⟩
theorem iX3_copyFrom_72 : ab_at mX3_copyFrom 72 (.getfield 28) 3 75 := ⟨by decide +kernel, rfl⟩
theorem iX3_copyFrom_75 : ab_at mX3_copyFrom 75 (.iconst 0) 1 76 := ⟨by decide +kernel, rfl⟩
theorem iX3_copyFrom_76 : ab_at mX3_copyFrom 76 (.iconst 4) 1 77 := ⟨by decide +kernel, rfl⟩
theorem iX3_copyFrom_77 : ab_at mX3_copyFrom 77 (.invokestatic 96) 3 80 := ⟨by decide +kernel, rfl⟩
theorem iX3_copyFrom_80 : ab_at mX3_copyFrom 80 (.aload_n 1) 1 81 := ⟨by decide +kernel, rfl⟩
theorem iX3_copyFrom_81 : ab_at mX3_copyFrom 81 (.getfield 34) 3 84 := ⟨by decide +kernel, rfl⟩
theorem iX3_copyFrom_84 : ab_at mX3_copyFrom 84 (.iconst 0) 1 85 := ⟨by decide +kernel, rfl⟩
theorem iX3_copyFrom_85 : ab_at mX3_copyFrom 85 (.aload_n 0) 1 86 := ⟨by decide +kernel, rfl⟩
theorem iX3_copyFrom_86 : ab_at mX3_copyFrom 86 (.getfield 34) 3 89 := ⟨by decide +kernel, rfl⟩
theorem iX3_copyFrom_89 : ab_at mX3_copyFrom 89 (.iconst 0) 1 90 := ⟨by decide +kernel, rfl⟩
theorem iX3_copyFrom_90 : ab_at mX3_copyFrom 90 (.bipush 44) 2 92 := ⟨by decide +kernel, rfl⟩
theorem iX3_copyFrom_92 : ab_at mX3_copyFrom 92 (.invokestatic 96) 3 95 := ⟨by decide +kernel, rfl⟩
theorem iX3_copyFrom_95 : ab_at mX3_copyFrom 95 (.return_) 1 96 := ⟨by decide +kernel, rfl⟩
theorem iX5_init_0 : ab_at mX5_init 0 (.aload_n 0) 1 1 := ⟨by decide +kernel, rfl⟩
theorem iX5_init_1 : ab_at mX5_init 1 (.invokespecial 3) 3 4 := ⟨by decide +kernel, rfl⟩
theorem iX5_init_4 : ab_at mX5_init 4 (.aload_n 0) 1 5 := ⟨by decide +kernel, rfl⟩
theorem iX5_init_5 : ab_at mX5_init 5 (.ldc 9) 2 7 := ⟨by decide +kernel, rfl⟩
theorem iX5_init_7 : ab_at mX5_init 7 (.putfield 10) 3 10 := ⟨by decide +kernel, rfl⟩
theorem iX5_init_10 : ab_at mX5_init 10 (.aload_n 0) 1 11 := ⟨by decide +kernel, rfl⟩
theorem iX5_init_11 : ab_at mX5_init 11 (.iconst 0) 1 12 := ⟨by decide +kernel, rfl⟩
theorem iX5_init_12 : ab_at mX5_init 12 (.putfield 16) 3 15 := ⟨by decide +kernel, rfl⟩
theorem iX5_init_15 : ab_at mX5_init 15 (.aload_n 0) 1 16 := ⟨by decide +kernel, rfl⟩
theorem iX5_init_16 : ab_at mX5_init 16 (.iconst 4) 1 17 := ⟨by decide +kernel, rfl⟩
theorem iX5_init_17 : ab_at mX5_init 17 (.newarray .int) 2 19 := ⟨by decide +kernel, rfl⟩
theorem iX5_init_19 : ab_at mX5_init 19 (.putfield 19) 3 22 := ⟨by decide +kernel, rfl⟩
theorem iX5_init_22 : ab_at mX5_init 22 (.aload_n 0) 1 23 := ⟨by decide +kernel, rfl⟩
theorem iX5_init_23 : ab_at mX5_init 23 (.iconst 4) 1 24 := ⟨by decide +kernel, rfl⟩
theorem iX5_init_24 : ab_at mX5_init 24 (.newarray .int) 2 26 := ⟨by decide +kernel, rfl⟩
theorem iX5_init_26 : ab_at mX5_init 26 (.putfield 23) 3 29 := ⟨by decide +kernel, rfl⟩
theorem iX5_init_29 : ab_at mX5_init 29 (.aload_n 0) 1 30 := ⟨by decide +kernel, rfl⟩
theorem iX5_init_30 : ab_at mX5_init 30 (.iconst 0) 1 31 := ⟨by decide +kernel, rfl⟩
theorem iX5_init_31 : ab_at mX5_init 31 (.putfield 26) 3 34 := ⟨by decide +kernel, rfl⟩
theorem iX5_init_34 : ab_at mX5_init 34 (.aload_n 0) 1 35 := ⟨by decide +kernel, rfl⟩
theorem iX5_init_35 : ab_at mX5_init 35 (.bipush 13) 2 37 := ⟨by decide +kernel, rfl⟩
theorem iX5_init_37 : ab_at mX5_init 37 (.newarray .int) 2 39 := ⟨by decide +kernel, rfl⟩
theorem iX5_init_39 : ab_at mX5_init 39 (.putfield 29) 3 42 := ⟨by decide +kernel, rfl⟩
theorem iX5_init_42 : ab_at mX5_init 42 (.aload_n 0) 1 43 := ⟨by decide +kernel, rfl⟩
theorem iX5_init_43 : ab_at mX5_init 43 (.bipush 13) 2 45 := ⟨by decide +kernel, rfl⟩
theorem iX5_init_45 : ab_at mX5_init 45 (.newarray .int) 2 47 := ⟨by decide +kernel, rfl⟩
theorem iX5_init_47 : ab_at mX5_init 47 (.putfield 32) 3 50 := ⟨by decide +kernel, rfl⟩
theorem iX5_init_50 : ab_at mX5_init 50 (.aload_n 0) 1 51 := ⟨by decide +kernel, rfl⟩
theorem iX5_init_51 : ab_at mX5_init 51 (.iconst 4) 1 52 := ⟨by decide +kernel, rfl⟩
theorem iX5_init_52 : ab_at mX5_init 52 (.newarray .int) 2 54 := ⟨by decide +kernel, rfl⟩
theorem iX5_init_54 : ab_at mX5_init 54 (.putfield 35) 3 57 := ⟨by decide +kernel, rfl⟩
theorem iX5_init_57 : ab_at mX5_init 57 (.aload_n 0) 1 58 := ⟨by decide +kernel, rfl⟩
theorem iX5_init_58 : ab_at mX5_init 58 (.iconst 4) 1 59 := ⟨by decide +kernel, rfl⟩
theorem iX5_init_59 : ab_at mX5_init 59 (.newarray .int) 2 61 := ⟨by decide +kernel, rfl⟩
theorem iX5_init_61 : ab_at mX5_init 61 (.putfield 38) 3 64 := ⟨by decide +kernel, rfl⟩
theorem iX5_init_64 : ab_at mX5_init 64 (.return_) 1 65 := ⟨by decide +kernel, rfl⟩
theorem iX5_find_0 : ab_at mX5_find 0 (.aload_n 0) 1 1 := ⟨by decide +kernel, rfl⟩
theorem iX5_find_1 : ab_at mX5_find 1 (.ldc 9) 2 3 := ⟨by decide +kernel, rfl⟩
theorem iX5_find_3 : ab_at mX5_find 3 (.putfield 10) 3 6 := ⟨by decide +kernel, rfl⟩
theorem iX5_find_6 : ab_at mX5_find 6 (.aload_n 0) 1 7 := ⟨by decide +kernel, rfl⟩
theorem iX5_find_7 : ab_at mX5_find 7 (.iconst 0) 1 8 := ⟨by decide +kernel, rfl⟩
theorem iX5_find_8 : ab_at mX5_find 8 (.putfield 16) 3 11 := ⟨by decide +kernel, rfl⟩
theorem iX5_find_11 : ab_at mX5_find 11 (.aload_n 0) 1 12 := ⟨by decide +kernel, rfl⟩
theorem iX5_find_12 : ab_at mX5_find 12 (.aload_n 1) 1 13 := ⟨by decide +kernel, rfl⟩
theorem iX5_find_13 : ab_at mX5_find 13 (.getfield 41) 3 16 := ⟨by decide +kernel, rfl⟩
theorem iX5_find_16 : ab_at mX5_find 16 (.putfield 26) 3 19 := ⟨by decide +kernel, rfl⟩
theorem iX5_find_19 : ab_at mX5_find 19 (.iconst 0) 1 20 := ⟨by decide +kernel, rfl⟩
theorem iX5_find_20 : ab_at mX5_find 20 (.istore_n 3) 1 21 := ⟨by decide +kernel, rfl⟩
theorem iX5_find_21 : ab_at mX5_find 21 (.iload_n 3) 1 22 := ⟨by decide +kernel, rfl⟩
theorem iX5_find_22 : ab_at mX5_find 22 (.aload_n 0) 1 23 := ⟨by decide +kernel, rfl⟩
theorem iX5_find_23 : ab_at mX5_find 23 (.getfield 26) 3 26 := ⟨by decide +kernel, rfl⟩
theorem iX5_find_26 : ab_bc mX5_find 26 .ge 29 75 := ⟨49, by decide +kernel, rfl, by decide⟩
theorem iX5_find_29 : ab_at mX5_find 29 (.aload_n 0) 1 30 := ⟨by decide +kernel, rfl⟩
theorem iX5_find_30 : ab_at mX5_find 30 (.getfield 29) 3 33 := ⟨by decide +kernel, rfl⟩
theorem iX5_find_33 : ab_at mX5_find 33 (.iload_n 3) 1 34 := ⟨by decide +kernel, rfl⟩
theorem iX5_find_34 : ab_at mX5_find 34 (.iconst 1) 1 35 := ⟨by decide +kernel, rfl⟩
theorem iX5_find_35 : ab_at mX5_find 35 (.iadd) 1 36 := ⟨by decide +kernel, rfl⟩
theorem iX5_find_36 : ab_at mX5_find 36 (.aload_n 0) 1 37 := ⟨by decide +kernel, rfl⟩
theorem iX5_find_37 : ab_at mX5_find 37 (.getfield 29) 3 40 := ⟨by decide +kernel, rfl⟩
theorem iX5_find_40 : ab_at mX5_find 40 (.iload_n 3) 1 41 := ⟨by decide +kernel, rfl⟩
theorem iX5_find_41 : ab_at mX5_find 41 (.iaload) 1 42 := ⟨by decide +kernel, rfl⟩
theorem iX5_find_42 : ab_at mX5_find 42 (.aload_n 1) 1 43 := ⟨by decide +kernel, rfl⟩
theorem iX5_find_43 : ab_at mX5_find 43 (.iload_n 3) 1 44 := ⟨by decide +kernel, rfl⟩
theorem iX5_find_44 : ab_at mX5_find 44 (.invokevirtual 44) 3 47 := ⟨by decide +kernel, rfl⟩
theorem iX5_find_47 : ab_at mX5_find 47 (.iadd) 1 48 := ⟨by decide +kernel, rfl⟩
theorem iX5_find_48 : ab_at mX5_find 48 (.iastore) 1 49 := ⟨by decide +kernel, rfl⟩
theorem iX5_find_49 : ab_at mX5_find 49 (.aload_n 0) 1 50 := ⟨by decide +kernel, rfl⟩
theorem iX5_find_50 : ab_at mX5_find 50 (.getfield 32) 3 53 := ⟨by decide +kernel, rfl⟩
theorem iX5_find_53 : ab_at mX5_find 53 (.iload_n 3) 1 54 := ⟨by decide +kernel, rfl⟩
theorem iX5_find_54 : ab_at mX5_find 54 (.iconst 1) 1 55 := ⟨by decide +kernel, rfl⟩
theorem iX5_find_55 : ab_at mX5_find 55 (.iadd) 1 56 := ⟨by decide +kernel, rfl⟩
theorem iX5_find_56 : ab_at mX5_find 56 (.aload_n 0) 1 57 := ⟨by decide +kernel, rfl⟩
theorem iX5_find_57 : ab_at mX5_find 57 (.getfield 32) 3 60 := ⟨by decide +kernel, rfl⟩
theorem iX5_find_60 : ab_at mX5_find 60 (.iload_n 3) 1 61 := ⟨by decide +kernel, rfl⟩
theorem iX5_find_61 : ab_at mX5_find 61 (.iaload) 1 62 := ⟨by decide +kernel, rfl⟩
theorem iX5_find_62 : ab_at mX5_find 62 (.aload_n 1) 1 63 := ⟨by decide +kernel, rfl⟩
theorem iX5_find_63 : ab_at mX5_find 63 (.iload_n 3) 1 64 := ⟨by decide +kernel, rfl⟩
theorem iX5_find_64 : ab_at mX5_find 64 (.invokevirtual 48) 3 67 := ⟨by decide +kernel, rfl⟩
theorem iX5_find_67 : ab_at mX5_find 67 (.iadd) 1 68 := ⟨by decide +kernel, rfl⟩
theorem iX5_find_68 : ab_at mX5_find 68 (.iastore) 1 69 := ⟨by decide +kernel, rfl⟩
theorem iX5_find_69 : ab_at mX5_find 69 (.iinc 3 1) 3 72 := ⟨by decide +kernel, rfl⟩
theorem iX5_find_72 : ab_bg mX5_find 72 21 := ⟨-51, by decide +kernel, by decide⟩
theorem iX5_find_75 : ab_at mX5_find 75 (.aload_n 0) 1 76 := ⟨by decide +kernel, rfl⟩
theorem iX5_find_76 : ab_at mX5_find 76 (.aload_n 2) 1 77 := ⟨by decide +kernel, rfl⟩
theorem iX5_find_77 : ab_at mX5_find 77 (.iconst 0) 1 78 := ⟨by decide +kernel, rfl⟩
theorem iX5_find_78 : ab_at mX5_find 78 (.iconst 0) 1 79 := ⟨by decide +kernel, rfl⟩
theorem iX5_find_79 : ab_at mX5_find 79 (.iconst 0) 1 80 := ⟨by decide +kernel, rfl⟩
theorem iX5_find_80 : ab_at mX5_find 80 (.iconst 0) 1 81 := ⟨by decide +kernel, rfl⟩
theorem iX5_find_81 : ab_at mX5_find 81 (.invokestatic 51) 3 84 := ⟨by decide +kernel, rfl⟩
theorem iX5_find_84 : ab_at mX5_find 84 (.aload_n 0) 1 85 := ⟨by decide +kernel, rfl⟩
theorem iX5_find_85 : ab_at mX5_find 85 (.getfield 16) 3 88 := ⟨by decide +kernel, rfl⟩
theorem iX5_find_88 : ab_bi mX5_find 88 .le 91 95 := ⟨7, by decide +kernel, rfl, by decide⟩
theorem iX5_find_91 : ab_at mX5_find 91 (.iconst 1) 1 92 := ⟨by decide +kernel, rfl⟩
theorem iX5_find_92 : ab_bg mX5_find 92 96 := ⟨4, by decide +kernel, by decide⟩
theorem iX5_find_95 : ab_at mX5_find 95 (.iconst 0) 1 96 := ⟨by decide +kernel, rfl⟩
theorem iX5_find_96 : ab_at mX5_find 96 (.ireturn) 1 97 := ⟨by decide +kernel, rfl⟩
theorem iX5_tryFrom_0 : ab_at mX5_tryFrom 0 (.iload_n 3) 1 1 := ⟨by decide +kernel, rfl⟩
theorem iX5_tryFrom_1 : ab_at mX5_tryFrom 1 (.aload_n 0) 1 2 := ⟨by decide +kernel, rfl⟩
theorem iX5_tryFrom_2 : ab_at mX5_tryFrom 2 (.getfield 26) 3 5 := ⟨by decide +kernel, rfl⟩
theorem iX5_tryFrom_5 : ab_bc mX5_tryFrom 5 .ne 8 16 := ⟨11, by decide +kernel, rfl, by decide⟩
theorem iX5_tryFrom_8 : ab_at mX5_tryFrom 8 (.aload_n 0) 1 9 := ⟨by decide +kernel, rfl⟩
theorem iX5_tryFrom_9 : ab_at mX5_tryFrom 9 (.iload_n 2) 1 10 := ⟨by decide +kernel, rfl⟩
theorem iX5_tryFrom_10 : ab_at mX5_tryFrom 10 (.iload 4) 2 12 := ⟨by decide +kernel, rfl⟩
theorem iX5_tryFrom_12 : ab_at mX5_tryFrom 12 (.invokevirtual 55) 3 15 := ⟨by decide +kernel, rfl⟩
theorem iX5_tryFrom_15 : ab_at mX5_tryFrom 15 (.return_) 1 16 := ⟨by decide +kernel, rfl⟩
theorem iX5_tryFrom_16 : ab_at mX5_tryFrom 16 (.iload_n 2) 1 17 := ⟨by decide +kernel, rfl⟩
theorem iX5_tryFrom_17 : ab_at mX5_tryFrom 17 (.iconst 4) 1 18 := ⟨by decide +kernel, rfl⟩
theorem iX5_tryFrom_18 : ab_bc mX5_tryFrom 18 .lt 21 22 := ⟨4, by decide +kernel, rfl, by decide⟩
theorem iX5_tryFrom_21 : ab_at mX5_tryFrom 21 (.return_) 1 22 := ⟨by decide +kernel, rfl⟩
theorem iX5_tryFrom_22 : ab_at mX5_tryFrom 22 (.iconst 0) 1 23 := ⟨by decide +kernel, rfl⟩
theorem iX5_tryFrom_23 : ab_at mX5_tryFrom 23 (.istore 6) 2 25 := ⟨by decide +kernel, rfl⟩
theorem iX5_tryFrom_25 : ab_at mX5_tryFrom 25 (.iload 6) 2 27 := ⟨by decide +kernel, rfl⟩
theorem iX5_tryFrom_27 : ab_at mX5_tryFrom 27 (.aload_n 1) 1 28 := ⟨by decide +kernel, rfl⟩
theorem iX5_tryFrom_28 : ab_at mX5_tryFrom 28 (.getfield 59) 3 31 := ⟨by decide +kernel, rfl⟩
theorem iX5_tryFrom_31 : ab_bc mX5_tryFrom 31 .ge 34 147 := ⟨116, by decide +kernel, rfl, by decide⟩
theorem iX5_tryFrom_34 : ab_at mX5_tryFrom 34 (.iload 5) 2 36 := ⟨by decide +kernel, rfl⟩
theorem iX5_tryFrom_36 : ab_at mX5_tryFrom 36 (.iload 6) 2 38 := ⟨by decide +kernel, rfl⟩
theorem iX5_tryFrom_38 : ab_at mX5_tryFrom 38 (.ishr) 1 39 := ⟨by decide +kernel, rfl⟩
theorem iX5_tryFrom_39 : ab_at mX5_tryFrom 39 (.iconst 1) 1 40 := ⟨by decide +kernel, rfl⟩
theorem iX5_tryFrom_40 : ab_at mX5_tryFrom 40 (.iand) 1 41 := ⟨by decide +kernel, rfl⟩
theorem iX5_tryFrom_41 : ab_at mX5_tryFrom 41 (.iconst 1) 1 42 := ⟨by decide +kernel, rfl⟩
theorem iX5_tryFrom_42 : ab_bc mX5_tryFrom 42 .ne 45 48 := ⟨6, by decide +kernel, rfl, by decide⟩
theorem iX5_tryFrom_45 : ab_bg mX5_tryFrom 45 141 := ⟨96, by decide +kernel, by decide⟩
theorem iX5_tryFrom_48 : ab_at mX5_tryFrom 48 (.iconst 1) 1 49 := ⟨by decide +kernel, rfl⟩
theorem iX5_tryFrom_49 : ab_at mX5_tryFrom 49 (.istore 7) 2 51 := ⟨by decide +kernel, rfl⟩
theorem iX5_tryFrom_51 : ab_at mX5_tryFrom 51 (.iload 7) 2 53 := ⟨by decide +kernel, rfl⟩
theorem iX5_tryFrom_53 : ab_at mX5_tryFrom 53 (.aload_n 0) 1 54 := ⟨by decide +kernel, rfl⟩
theorem iX5_tryFrom_54 : ab_at mX5_tryFrom 54 (.getfield 26) 3 57 := ⟨by decide +kernel, rfl⟩
theorem iX5_tryFrom_57 : ab_at mX5_tryFrom 57 (.iload_n 3) 1 58 := ⟨by decide +kernel, rfl⟩
theorem iX5_tryFrom_58 : ab_at mX5_tryFrom 58 (.isub) 1 59 := ⟨by decide +kernel, rfl⟩
theorem iX5_tryFrom_59 : ab_bc mX5_tryFrom 59 .gt 62 141 := ⟨82, by decide +kernel, rfl, by decide⟩
theorem iX5_tryFrom_62 : ab_at mX5_tryFrom 62 (.iload 4) 2 64 := ⟨by decide +kernel, rfl⟩
theorem iX5_tryFrom_64 : ab_at mX5_tryFrom 64 (.aload_n 0) 1 65 := ⟨by decide +kernel, rfl⟩
theorem iX5_tryFrom_65 : ab_at mX5_tryFrom 65 (.aload_n 1) 1 66 := ⟨by decide +kernel, rfl⟩
theorem iX5_tryFrom_66 : ab_at mX5_tryFrom 66 (.iload 6) 2 68 := ⟨by decide +kernel, rfl⟩
theorem iX5_tryFrom_68 : ab_at mX5_tryFrom 68 (.iload_n 3) 1 69 := ⟨by decide +kernel, rfl⟩
theorem iX5_tryFrom_69 : ab_at mX5_tryFrom 69 (.iload 7) 2 71 := ⟨by decide +kernel, rfl⟩
theorem iX5_tryFrom_71 : ab_at mX5_tryFrom 71 (.invokevirtual 64) 3 74 := ⟨by decide +kernel, rfl⟩
theorem iX5_tryFrom_74 : ab_at mX5_tryFrom 74 (.invokestatic 68) 3 77 := ⟨by decide +kernel, rfl⟩
theorem iX5_tryFrom_77 : ab_at mX5_tryFrom 77 (.istore 8) 2 79 := ⟨by decide +kernel, rfl⟩
theorem iX5_tryFrom_79 : ab_at mX5_tryFrom 79 (.iload 8) 2 81 := ⟨by decide +kernel, rfl⟩
theorem iX5_tryFrom_81 : ab_at mX5_tryFrom 81 (.aload_n 0) 1 82 := ⟨by decide +kernel, rfl⟩
theorem iX5_tryFrom_82 : ab_at mX5_tryFrom 82 (.getfield 10) 3 85 := ⟨by decide +kernel, rfl⟩
theorem iX5_tryFrom_85 : ab_bc mX5_tryFrom 85 .gt 88 141 := ⟨56, by decide +kernel, rfl, by decide⟩
theorem iX5_tryFrom_88 : ab_at mX5_tryFrom 88 (.iload 8) 2 90 := ⟨by decide +kernel, rfl⟩
theorem iX5_tryFrom_90 : ab_at mX5_tryFrom 90 (.ldc 9) 2 92 := ⟨by decide +kernel, rfl⟩
theorem iX5_tryFrom_92 : ab_bc mX5_tryFrom 92 .ne 95 98 := ⟨6, by decide +kernel, rfl, by decide⟩
theorem iX5_tryFrom_95 : ab_bg mX5_tryFrom 95 141 := ⟨46, by decide +kernel, by decide⟩
theorem iX5_tryFrom_98 : ab_at mX5_tryFrom 98 (.aload_n 0) 1 99 := ⟨by decide +kernel, rfl⟩
theorem iX5_tryFrom_99 : ab_at mX5_tryFrom 99 (.getfield 35) 3 102 := ⟨by decide +kernel, rfl⟩
theorem iX5_tryFrom_102 : ab_at mX5_tryFrom 102 (.iload_n 2) 1 103 := ⟨by decide +kernel, rfl⟩
theorem iX5_tryFrom_103 : ab_at mX5_tryFrom 103 (.iload 6) 2 105 := ⟨by decide +kernel, rfl⟩
theorem iX5_tryFrom_105 : ab_at mX5_tryFrom 105 (.iastore) 1 106 := ⟨by decide +kernel, rfl⟩
theorem iX5_tryFrom_106 : ab_at mX5_tryFrom 106 (.aload_n 0) 1 107 := ⟨by decide +kernel, rfl⟩
theorem iX5_tryFrom_107 : ab_at mX5_tryFrom 107 (.getfield 38) 3 110 := ⟨by decide +kernel, rfl⟩
theorem iX5_tryFrom_110 : ab_at mX5_tryFrom 110 (.iload_n 2) 1 111 := ⟨by decide +kernel, rfl⟩
theorem iX5_tryFrom_111 : ab_at mX5_tryFrom 111 (.iload 7) 2 113 := ⟨by decide +kernel, rfl⟩
theorem iX5_tryFrom_113 : ab_at mX5_tryFrom 113 (.iastore) 1 114 := ⟨by decide +kernel, rfl⟩
theorem iX5_tryFrom_114 : ab_at mX5_tryFrom 114 (.aload_n 0) 1 115 := ⟨by decide +kernel, rfl⟩
theorem iX5_tryFrom_115 : ab_at mX5_tryFrom 115 (.aload_n 1) 1 116 := ⟨by decide +kernel, rfl⟩
theorem iX5_tryFrom_116 : ab_at mX5_tryFrom 116 (.iload_n 2) 1 117 := ⟨by decide +kernel, rfl⟩
theorem iX5_tryFrom_117 : ab_at mX5_tryFrom 117 (.iconst 1) 1 118 := ⟨by decide +kernel, rfl⟩
theorem iX5_tryFrom_118 : ab_at mX5_tryFrom 118 (.iadd) 1 119 := ⟨by decide +kernel, rfl⟩
theorem iX5_tryFrom_119 : ab_at mX5_tryFrom 119 (.iload_n 3) 1 120 := ⟨by decide +kernel, rfl⟩
theorem iX5_tryFrom_120 : ab_at mX5_tryFrom 120 (.iload 7) 2 122 := ⟨by decide +kernel, rfl⟩
theorem iX5_tryFrom_122 : ab_at mX5_tryFrom 122 (.iadd) 1 123 := ⟨by decide +kernel, rfl⟩
theorem iX5_tryFrom_123 : ab_at mX5_tryFrom 123 (.iload 8) 2 125 := ⟨by decide +kernel, rfl⟩
theorem iX5_tryFrom_125 : ab_at mX5_tryFrom 125 (.iload 5) 2 127 := ⟨by decide +kernel, rfl⟩
theorem iX5_tryFrom_127 : ab_at mX5_tryFrom 127 (.iconst 1) 1 128 := ⟨by decide +kernel, rfl⟩
theorem iX5_tryFrom_128 : ab_at mX5_tryFrom 128 (.iload 6) 2 130 := ⟨by decide +kernel, rfl⟩
theorem iX5_tryFrom_130 : ab_at mX5_tryFrom 130 (.ishl) 1 131 := ⟨by decide +kernel, rfl⟩
theorem iX5_tryFrom_131 : ab_at mX5_tryFrom 131 (.ior) 1 132 := ⟨by decide +kernel, rfl⟩
theorem iX5_tryFrom_132 : ab_at mX5_tryFrom 132 (.invokestatic 51) 3 135 := ⟨by decide +kernel, rfl⟩
theorem iX5_tryFrom_135 : ab_at mX5_tryFrom 135 (.iinc 7 1) 3 138 := ⟨by decide +kernel, rfl⟩
theorem iX5_tryFrom_138 : ab_bg mX5_tryFrom 138 51 := ⟨-87, by decide +kernel, by decide⟩
theorem iX5_tryFrom_141 : ab_at mX5_tryFrom 141 (.iinc 6 1) 3 144 := ⟨by decide +kernel, rfl⟩
theorem iX5_tryFrom_144 : ab_bg mX5_tryFrom 144 25 := ⟨-119, by decide +kernel, by decide⟩
theorem iX5_tryFrom_147 : ab_at mX5_tryFrom 147 (.return_) 1 148 := ⟨by decide +kernel, rfl⟩
theorem iX5_daysOfStrip_0 : ab_at mX5_daysOfStrip 0 (.aload_n 0) 1 1 := ⟨by decide +kernel, rfl⟩
theorem iX5_daysOfStrip_1 : ab_at mX5_daysOfStrip 1 (.getfield 32) 3 4 := ⟨by decide +kernel, rfl⟩
theorem iX5_daysOfStrip_4 : ab_at mX5_daysOfStrip 4 (.iload_n 3) 1 5 := ⟨by decide +kernel, rfl⟩
theorem iX5_daysOfStrip_5 : ab_at mX5_daysOfStrip 5 (.iload 4) 2 7 := ⟨by decide +kernel, rfl⟩
theorem iX5_daysOfStrip_7 : ab_at mX5_daysOfStrip 7 (.iadd) 1 8 := ⟨by decide +kernel, rfl⟩
theorem iX5_daysOfStrip_8 : ab_at mX5_daysOfStrip 8 (.iaload) 1 9 := ⟨by decide +kernel, rfl⟩
theorem iX5_daysOfStrip_9 : ab_at mX5_daysOfStrip 9 (.aload_n 0) 1 10 := ⟨by decide +kernel, rfl⟩
theorem iX5_daysOfStrip_10 : ab_at mX5_daysOfStrip 10 (.getfield 32) 3 13 := ⟨by decide +kernel, rfl⟩
theorem iX5_daysOfStrip_13 : ab_at mX5_daysOfStrip 13 (.iload_n 3) 1 14 := ⟨by decide +kernel, rfl⟩
theorem iX5_daysOfStrip_14 : ab_at mX5_daysOfStrip 14 (.iaload) 1 15 := ⟨by decide +kernel, rfl⟩
theorem iX5_daysOfStrip_15 : ab_bc mX5_daysOfStrip 15 .le 18 30 := ⟨15, by decide +kernel, rfl, by decide⟩
theorem iX5_daysOfStrip_18 : ab_at mX5_daysOfStrip 18 (.aload_n 1) 1 19 := ⟨by decide +kernel, rfl⟩
theorem iX5_daysOfStrip_19 : ab_at mX5_daysOfStrip 19 (.getfield 74) 3 22 := ⟨by decide +kernel, rfl⟩
theorem iX5_daysOfStrip_22 : ab_at mX5_daysOfStrip 22 (.iload_n 2) 1 23 := ⟨by decide +kernel, rfl⟩
theorem iX5_daysOfStrip_23 : ab_at mX5_daysOfStrip 23 (.baload) 1 24 := ⟨by decide +kernel, rfl⟩
theorem iX5_daysOfStrip_24 : ab_bi mX5_daysOfStrip 24 .ne 27 30 := ⟨6, by decide +kernel, rfl, by decide⟩
theorem iX5_daysOfStrip_27 : ab_at mX5_daysOfStrip 27 (.ldc 9) 2 29 := ⟨by decide +kernel, rfl⟩
theorem iX5_daysOfStrip_29 : ab_at mX5_daysOfStrip 29 (.ireturn) 1 30 := ⟨by decide +kernel, rfl⟩
theorem iX5_daysOfStrip_30 : ab_at mX5_daysOfStrip 30 (.aload_n 1) 1 31 := ⟨by decide +kernel, rfl⟩
theorem iX5_daysOfStrip_31 : ab_at mX5_daysOfStrip 31 (.iload_n 2) 1 32 := ⟨by decide +kernel, rfl⟩
theorem iX5_daysOfStrip_32 : ab_at mX5_daysOfStrip 32 (.aload_n 0) 1 33 := ⟨by decide +kernel, rfl⟩
theorem iX5_daysOfStrip_33 : ab_at mX5_daysOfStrip 33 (.getfield 29) 3 36 := ⟨by decide +kernel, rfl⟩
theorem iX5_daysOfStrip_36 : ab_at mX5_daysOfStrip 36 (.iload_n 3) 1 37 := ⟨by decide +kernel, rfl⟩
theorem iX5_daysOfStrip_37 : ab_at mX5_daysOfStrip 37 (.iload 4) 2 39 := ⟨by decide +kernel, rfl⟩
theorem iX5_daysOfStrip_39 : ab_at mX5_daysOfStrip 39 (.iadd) 1 40 := ⟨by decide +kernel, rfl⟩
theorem iX5_daysOfStrip_40 : ab_at mX5_daysOfStrip 40 (.iaload) 1 41 := ⟨by decide +kernel, rfl⟩
theorem iX5_daysOfStrip_41 : ab_at mX5_daysOfStrip 41 (.aload_n 0) 1 42 := ⟨by decide +kernel, rfl⟩
theorem iX5_daysOfStrip_42 : ab_at mX5_daysOfStrip 42 (.getfield 29) 3 45 := ⟨by decide +kernel, rfl⟩
theorem iX5_daysOfStrip_45 : ab_at mX5_daysOfStrip 45 (.iload_n 3) 1 46 := ⟨by decide +kernel, rfl⟩
theorem iX5_daysOfStrip_46 : ab_at mX5_daysOfStrip 46 (.iaload) 1 47 := ⟨by decide +kernel, rfl⟩
theorem iX5_daysOfStrip_47 : ab_at mX5_daysOfStrip 47 (.isub) 1 48 := ⟨by decide +kernel, rfl⟩
theorem iX5_daysOfStrip_48 : ab_at mX5_daysOfStrip 48 (.invokevirtual 78) 3 51 := ⟨by decide +kernel, rfl⟩
theorem iX5_daysOfStrip_51 : ab_at mX5_daysOfStrip 51 (.ireturn) 1 52 := ⟨by decide +kernel, rfl⟩
theorem iX5_takeIfBetter_0 : ab_at mX5_takeIfBetter 0 (.iload_n 2) 1 1 := ⟨by decide +kernel, rfl⟩
theorem iX5_takeIfBetter_1 : ab_at mX5_takeIfBetter 1 (.aload_n 0) 1 2 := ⟨by decide +kernel, rfl⟩
theorem iX5_takeIfBetter_2 : ab_at mX5_takeIfBetter 2 (.getfield 10) 3 5 := ⟨by decide +kernel, rfl⟩
theorem iX5_takeIfBetter_5 : ab_bc mX5_takeIfBetter 5 .gt 8 24 := ⟨19, by decide +kernel, rfl, by decide⟩
theorem iX5_takeIfBetter_8 : ab_at mX5_takeIfBetter 8 (.iload_n 2) 1 9 := ⟨by decide +kernel, rfl⟩
theorem iX5_takeIfBetter_9 : ab_at mX5_takeIfBetter 9 (.aload_n 0) 1 10 := ⟨by decide +kernel, rfl⟩
theorem iX5_takeIfBetter_10 : ab_at mX5_takeIfBetter 10 (.getfield 10) 3 13 := ⟨by decide +kernel, rfl⟩
theorem iX5_takeIfBetter_13 : ab_bc mX5_takeIfBetter 13 .ne 16 25 := ⟨12, by decide +kernel, rfl, by decide⟩
theorem iX5_takeIfBetter_16 : ab_at mX5_takeIfBetter 16 (.iload_n 1) 1 17 := ⟨by decide +kernel, rfl⟩
theorem iX5_takeIfBetter_17 : ab_at mX5_takeIfBetter 17 (.aload_n 0) 1 18 := ⟨by decide +kernel, rfl⟩
theorem iX5_takeIfBetter_18 : ab_at mX5_takeIfBetter 18 (.getfield 16) 3 21 := ⟨by decide +kernel, rfl⟩
theorem iX5_takeIfBetter_21 : ab_bc mX5_takeIfBetter 21 .lt 24 25 := ⟨4, by decide +kernel, rfl, by decide⟩
theorem iX5_takeIfBetter_24 : ab_at mX5_takeIfBetter 24 (.return_) 1 25 := ⟨by decide +kernel, rfl⟩
theorem iX5_takeIfBetter_25 : ab_at mX5_takeIfBetter 25 (.aload_n 0) 1 26 := ⟨by decide +kernel, rfl⟩
theorem iX5_takeIfBetter_26 : ab_at mX5_takeIfBetter 26 (.iload_n 2) 1 27 := ⟨by decide +kernel, rfl⟩
theorem iX5_takeIfBetter_27 : ab_at mX5_takeIfBetter 27 (.putfield 10) 3 30 := ⟨by decide +kernel, rfl⟩
theorem iX5_takeIfBetter_30 : ab_at mX5_takeIfBetter 30 (.aload_n 0) 1 31 := ⟨by decide +kernel, rfl⟩
theorem iX5_takeIfBetter_31 : ab_at mX5_takeIfBetter 31 (.iload_n 1) 1 32 := ⟨by decide +kernel, rfl⟩
theorem iX5_takeIfBetter_32 : ab_at mX5_takeIfBetter 32 (.putfield 16) 3 35 := ⟨by decide +kernel, rfl⟩
theorem iX5_takeIfBetter_35 : ab_at mX5_takeIfBetter 35 (.aload_n 0) 1 36 := ⟨by decide +kernel, rfl⟩
theorem iX5_takeIfBetter_36 : ab_at mX5_takeIfBetter 36 (.getfield 35) 3 39 := ⟨by decide +kernel, rfl⟩
theorem iX5_takeIfBetter_39 : ab_at mX5_takeIfBetter 39 (.iconst 0) 1 40 := ⟨by decide +kernel, rfl⟩
theorem iX5_takeIfBetter_40 : ab_at mX5_takeIfBetter 40 (.aload_n 0) 1 41 := ⟨by decide +kernel, rfl⟩
theorem iX5_takeIfBetter_41 : ab_at mX5_takeIfBetter 41 (.getfield 19) 3 44 := ⟨by decide +kernel, rfl⟩
theorem iX5_takeIfBetter_44 : ab_at mX5_takeIfBetter 44 (.iconst 0) 1 45 := ⟨by decide +kernel, rfl⟩
theorem iX5_takeIfBetter_45 : ab_at mX5_takeIfBetter 45 (.iconst 4) 1 46 := ⟨by decide +kernel, rfl⟩
theorem iX5_takeIfBetter_46 : ab_at mX5_takeIfBetter 46 (.invokestatic 81) 3 49 := ⟨by decide +kernel, rfl⟩
theorem iX5_takeIfBetter_49 : ab_at mX5_takeIfBetter 49 (.aload_n 0) 1 50 := ⟨by decide +kernel, rfl⟩
theorem iX5_takeIfBetter_50 : ab_at mX5_takeIfBetter 50 (.getfield 38) 3 53 := ⟨by decide +kernel, rfl⟩
theorem iX5_takeIfBetter_53 : ab_at mX5_takeIfBetter 53 (.iconst 0) 1 54 := ⟨by decide +kernel, rfl⟩
theorem iX5_takeIfBetter_54 : ab_at mX5_takeIfBetter 54 (.aload_n 0) 1 55 := ⟨by decide +kernel, rfl⟩
theorem iX5_takeIfBetter_55 : ab_at mX5_takeIfBetter 55 (.getfield 23) 3 58 := ⟨by decide +kernel, rfl⟩
theorem iX5_takeIfBetter_58 : ab_at mX5_takeIfBetter 58 (.iconst 0) 1 59 := ⟨by decide +kernel, rfl⟩
theorem iX5_takeIfBetter_59 : ab_at mX5_takeIfBetter 59 (.iconst 4) 1 60 := ⟨by decide +kernel, rfl⟩
theorem iX5_takeIfBetter_60 : ab_at mX5_takeIfBetter 60 (.invokestatic 81) 3 63 := ⟨by decide +kernel, rfl⟩
theorem iX5_takeIfBetter_63 : ab_at mX5_takeIfBetter 63 (.return_) 1 64 := ⟨by decide +kernel, rfl⟩
theorem iX5_weaverAt_0 : ab_at mX5_weaverAt 0 (.iconst 0) 1 1 := ⟨by decide +kernel, rfl⟩
theorem iX5_weaverAt_1 : ab_at mX5_weaverAt 1 (.istore_n 2) 1 2 := ⟨by decide +kernel, rfl⟩
theorem iX5_weaverAt_2 : ab_at mX5_weaverAt 2 (.iconst 0) 1 3 := ⟨by decide +kernel, rfl⟩
theorem iX5_weaverAt_3 : ab_at mX5_weaverAt 3 (.istore_n 3) 1 4 := ⟨by decide +kernel, rfl⟩
theorem iX5_weaverAt_4 : ab_at mX5_weaverAt 4 (.iload_n 3) 1 5 := ⟨by decide +kernel, rfl⟩
theorem iX5_weaverAt_5 : ab_at mX5_weaverAt 5 (.aload_n 0) 1 6 := ⟨by decide +kernel, rfl⟩
theorem iX5_weaverAt_6 : ab_at mX5_weaverAt 6 (.getfield 16) 3 9 := ⟨by decide +kernel, rfl⟩
theorem iX5_weaverAt_9 : ab_bc mX5_weaverAt 9 .ge 12 39 := ⟨30, by decide +kernel, rfl, by decide⟩
theorem iX5_weaverAt_12 : ab_at mX5_weaverAt 12 (.iload_n 2) 1 13 := ⟨by decide +kernel, rfl⟩
theorem iX5_weaverAt_13 : ab_at mX5_weaverAt 13 (.aload_n 0) 1 14 := ⟨by decide +kernel, rfl⟩
theorem iX5_weaverAt_14 : ab_at mX5_weaverAt 14 (.getfield 23) 3 17 := ⟨by decide +kernel, rfl⟩
theorem iX5_weaverAt_17 : ab_at mX5_weaverAt 17 (.iload_n 3) 1 18 := ⟨by decide +kernel, rfl⟩
theorem iX5_weaverAt_18 : ab_at mX5_weaverAt 18 (.iaload) 1 19 := ⟨by decide +kernel, rfl⟩
theorem iX5_weaverAt_19 : ab_at mX5_weaverAt 19 (.iadd) 1 20 := ⟨by decide +kernel, rfl⟩
theorem iX5_weaverAt_20 : ab_at mX5_weaverAt 20 (.istore_n 2) 1 21 := ⟨by decide +kernel, rfl⟩
theorem iX5_weaverAt_21 : ab_at mX5_weaverAt 21 (.iload_n 1) 1 22 := ⟨by decide +kernel, rfl⟩
theorem iX5_weaverAt_22 : ab_at mX5_weaverAt 22 (.iload_n 2) 1 23 := ⟨by decide +kernel, rfl⟩
theorem iX5_weaverAt_23 : ab_bc mX5_weaverAt 23 .ge 26 33 := ⟨10, by decide +kernel, rfl, by decide⟩
theorem iX5_weaverAt_26 : ab_at mX5_weaverAt 26 (.aload_n 0) 1 27 := ⟨by decide +kernel, rfl⟩
theorem iX5_weaverAt_27 : ab_at mX5_weaverAt 27 (.getfield 19) 3 30 := ⟨by decide +kernel, rfl⟩
theorem iX5_weaverAt_30 : ab_at mX5_weaverAt 30 (.iload_n 3) 1 31 := ⟨by decide +kernel, rfl⟩
theorem iX5_weaverAt_31 : ab_at mX5_weaverAt 31 (.iaload) 1 32 := ⟨by decide +kernel, rfl⟩
theorem iX5_weaverAt_32 : ab_at mX5_weaverAt 32 (.ireturn) 1 33 := ⟨by decide +kernel, rfl⟩
theorem iX5_weaverAt_33 : ab_at mX5_weaverAt 33 (.iinc 3 1) 3 36 := ⟨by decide +kernel, rfl⟩
theorem iX5_weaverAt_36 : ab_bg mX5_weaverAt 36 4 := ⟨-32, by decide +kernel, by decide⟩
theorem iX5_weaverAt_39 : ab_at mX5_weaverAt 39 (.bipush (-4)) 2 41 := ⟨by decide +kernel, rfl⟩
theorem iX5_weaverAt_41 : ab_at mX5_weaverAt 41 (.ireturn) 1 42 := ⟨by decide +kernel, rfl⟩
end
section
theorem iX8_init_0 : ab_at mX8_init 0 (.aload_n 0) 1 1 := ⟨by decide +kernel, rfl⟩
theorem iX8_init_1 : ab_at mX8_init 1 (.invokespecial 1) 3 4 := ⟨by decide +kernel, rfl⟩
theorem iX8_init_4 : ab_at mX8_init 4 (.aload_n 0) 1 5 := ⟨by decide +kernel, rfl⟩
theorem iX8_init_5 : ab_at mX8_init 5 (.new 7) 3 8 := ⟨by decide +kernel, rfl⟩
theorem iX8_init_8 : ab_at mX8_init 8 (.dup) 1 9 := ⟨by decide +kernel, rfl⟩
theorem iX8_init_9 : ab_at mX8_init 9 (.invokespecial 9) 3 12 := ⟨by decide +kernel, rfl⟩
theorem iX8_init_12 : ab_at mX8_init 12 (.putfield 10) 3 15 := ⟨by decide +kernel, rfl⟩
theorem iX8_init_15 : ab_at mX8_init 15 (.aload_n 0) 1 16 := ⟨by decide +kernel, rfl⟩
theorem iX8_init_16 : ab_at mX8_init 16 (.new 7) 3 19 := ⟨by decide +kernel, rfl⟩
theorem iX8_init_19 : ab_at mX8_init 19 (.dup) 1 20 := ⟨by decide +kernel, rfl⟩
theorem iX8_init_20 : ab_at mX8_init 20 (.invokespecial 9) 3 23 := ⟨by decide +kernel, rfl⟩
theorem iX8_init_23 : ab_at mX8_init 23 (.putfield 16) 3 26 := ⟨by decide +kernel, rfl⟩
theorem iX8_init_26 : ab_at mX8_init 26 (.aload_n 0) 1 27 := ⟨by decide +kernel, rfl⟩
theorem iX8_init_27 : ab_at mX8_init 27 (.iconst 0) 1 28 := ⟨by decide +kernel, rfl⟩
theorem iX8_init_28 : ab_at mX8_init 28 (.putfield 19) 3 31 := ⟨by decide +kernel, rfl⟩
theorem iX8_init_31 : ab_at mX8_init 31 (.aload_n 0) 1 32 := ⟨by decide +kernel, rfl⟩
theorem iX8_init_32 : ab_at mX8_init 32 (.iconst 3) 1 33 := ⟨by decide +kernel, rfl⟩
theorem iX8_init_33 : ab_at mX8_init 33 (.putfield 23) 3 36 := ⟨by decide +kernel, rfl⟩
theorem iX8_init_36 : ab_at mX8_init 36 (.aload_n 0) 1 37 := ⟨by decide +kernel, rfl⟩
theorem iX8_init_37 : ab_at mX8_init 37 (.bipush 10) 2 39 := ⟨by decide +kernel, rfl⟩
theorem iX8_init_39 : ab_at mX8_init 39 (.putfield 27) 3 42 := ⟨by decide +kernel, rfl⟩
theorem iX8_init_42 : ab_at mX8_init 42 (.aload_n 0) 1 43 := ⟨by decide +kernel, rfl⟩
theorem iX8_init_43 : ab_at mX8_init 43 (.new 30) 3 46 := ⟨by decide +kernel, rfl⟩
theorem iX8_init_46 : ab_at mX8_init 46 (.dup) 1 47 := ⟨by decide +kernel, rfl⟩
theorem iX8_init_47 : ab_at mX8_init 47 (.invokespecial 32) 3 50 := ⟨by decide +kernel, rfl⟩
theorem iX8_init_50 : ab_at mX8_init 50 (.putfield 33) 3 53 := ⟨by decide +kernel, rfl⟩
theorem iX8_init_53 : ab_at mX8_init 53 (.aload_n 0) 1 54 := ⟨by decide +kernel, rfl⟩
theorem iX8_init_54 : ab_at mX8_init 54 (.new 37) 3 57 := ⟨by decide +kernel, rfl⟩
theorem iX8_init_57 : ab_at mX8_init 57 (.dup) 1 58 := ⟨by decide +kernel, rfl⟩
theorem iX8_init_58 : ab_at mX8_init 58 (.invokespecial 39) 3 61 := ⟨by decide +kernel, rfl⟩
theorem iX8_init_61 : ab_at mX8_init 61 (.putfield 40) 3 64 := ⟨by decide +kernel, rfl⟩
theorem iX8_init_64 : ab_at mX8_init 64 (.aload_n 0) 1 65 := ⟨by decide +kernel, rfl⟩
theorem iX8_init_65 : ab_at mX8_init 65 (.new 44) 3 68 := ⟨by decide +kernel, rfl⟩
theorem iX8_init_68 : ab_at mX8_init 68 (.dup) 1 69 := ⟨by decide +kernel, rfl⟩
theorem iX8_init_69 : ab_at mX8_init 69 (.invokespecial 46) 3 72 := ⟨by decide +kernel, rfl⟩
theorem iX8_init_72 : ab_at mX8_init 72 (.putfield 47) 3 75 := ⟨by decide +kernel, rfl⟩
theorem iX8_init_75 : ab_at mX8_init 75 (.return_) 1 76 := ⟨by decide +kernel, rfl⟩
theorem iX8_size_0 : ab_at mX8_size 0 (.iload_n 1) 1 1 := ⟨by decide +kernel, rfl⟩
theorem iX8_size_1 : ab_at mX8_size 1 (.iconst 1) 1 2 := ⟨by decide +kernel, rfl⟩
theorem iX8_size_2 : ab_at mX8_size 2 (.bipush 12) 2 4 := ⟨by decide +kernel, rfl⟩
theorem iX8_size_4 : ab_at mX8_size 4 (.invokestatic 51) 3 7 := ⟨by decide +kernel, rfl⟩
theorem iX8_size_7 : ab_bi mX8_size 7 .eq 10 20 := ⟨13, by decide +kernel, rfl, by decide⟩
theorem iX8_size_10 : ab_at mX8_size 10 (.iload_n 2) 1 11 := ⟨by decide +kernel, rfl⟩
theorem iX8_size_11 : ab_at mX8_size 11 (.iconst 1) 1 12 := ⟨by decide +kernel, rfl⟩
theorem iX8_size_12 : ab_at mX8_size 12 (.bipush 10) 2 14 := ⟨by decide +kernel, rfl⟩
theorem iX8_size_14 : ab_at mX8_size 14 (.invokestatic 51) 3 17 := ⟨by decide +kernel, rfl⟩
theorem iX8_size_17 : ab_bi mX8_size 17 .ne 20 22 := ⟨5, by decide +kernel, rfl, by decide⟩
theorem iX8_size_20 : ab_at mX8_size 20 (.iconst (-1)) 1 21 := ⟨by decide +kernel, rfl⟩
theorem iX8_size_21 : ab_at mX8_size 21 (.ireturn) 1 22 := ⟨by decide +kernel, rfl⟩
theorem iX8_size_22 : ab_at mX8_size 22 (.aload_n 0) 1 23 := ⟨by decide +kernel, rfl⟩
theorem iX8_size_23 : ab_at mX8_size 23 (.getfield 10) 3 26 := ⟨by decide +kernel, rfl⟩
theorem iX8_size_26 : ab_at mX8_size 26 (.getfield 55) 3 29 := ⟨by decide +kernel, rfl⟩
theorem iX8_size_29 : ab_at mX8_size 29 (.iload_n 1) 1 30 := ⟨by decide +kernel, rfl⟩
theorem iX8_size_30 : ab_at mX8_size 30 (.iload_n 2) 1 31 := ⟨by decide +kernel, rfl⟩
theorem iX8_size_31 : ab_at mX8_size 31 (.invokevirtual 59) 3 34 := ⟨by decide +kernel, rfl⟩
theorem iX8_size_34 : ab_at mX8_size 34 (.aload_n 0) 1 35 := ⟨by decide +kernel, rfl⟩
theorem iX8_size_35 : ab_at mX8_size 35 (.getfield 10) 3 38 := ⟨by decide +kernel, rfl⟩
theorem iX8_size_38 : ab_at mX8_size 38 (.getfield 65) 3 41 := ⟨by decide +kernel, rfl⟩
theorem iX8_size_41 : ab_at mX8_size 41 (.invokevirtual 69) 3 44 := ⟨by decide +kernel, rfl⟩
theorem iX8_size_44 : ab_at mX8_size 44 (.iload_n 1) 1 45 := ⟨by decide +kernel, rfl⟩
theorem iX8_size_45 : ab_at mX8_size 45 (.iload_n 2) 1 46 := ⟨by decide +kernel, rfl⟩
theorem iX8_size_46 : ab_at mX8_size 46 (.imul) 1 47 := ⟨by decide +kernel, rfl⟩
theorem iX8_size_47 : ab_at mX8_size 47 (.ireturn) 1 48 := ⟨by decide +kernel, rfl⟩
theorem iX8_paint_0 : ab_at mX8_paint 0 (.aload_n 0) 1 1 := ⟨by decide +kernel, rfl⟩
theorem iX8_paint_1 : ab_at mX8_paint 1 (.getfield 10) 3 4 := ⟨by decide +kernel, rfl⟩
theorem iX8_paint_4 : ab_at mX8_paint 4 (.getfield 55) 3 7 := ⟨by decide +kernel, rfl⟩
theorem iX8_paint_7 : ab_at mX8_paint 7 (.astore 6) 2 9 := ⟨by decide +kernel, rfl⟩
theorem iX8_paint_9 : ab_at mX8_paint 9 (.iload_n 1) 1 10 := ⟨by decide +kernel, rfl⟩
theorem iX8_paint_10 : ab_at mX8_paint 10 (.iload_n 3) 1 11 := ⟨by decide +kernel, rfl⟩
theorem iX8_paint_11 : ab_at mX8_paint 11 (.aload 6) 2 13 := ⟨by decide +kernel, rfl⟩
theorem iX8_paint_13 : ab_at mX8_paint 13 (.getfield 74) 3 16 := ⟨by decide +kernel, rfl⟩
theorem iX8_paint_16 : ab_at mX8_paint 16 (.invokestatic 77) 3 19 := ⟨by decide +kernel, rfl⟩
theorem iX8_paint_19 : ab_bi mX8_paint 19 .eq 22 44 := ⟨25, by decide +kernel, rfl, by decide⟩
theorem iX8_paint_22 : ab_at mX8_paint 22 (.iload_n 2) 1 23 := ⟨by decide +kernel, rfl⟩
theorem iX8_paint_23 : ab_at mX8_paint 23 (.iload 4) 2 25 := ⟨by decide +kernel, rfl⟩
theorem iX8_paint_25 : ab_at mX8_paint 25 (.aload 6) 2 27 := ⟨by decide +kernel, rfl⟩
theorem iX8_paint_27 : ab_at mX8_paint 27 (.getfield 80) 3 30 := ⟨by decide +kernel, rfl⟩
theorem iX8_paint_30 : ab_at mX8_paint 30 (.invokestatic 77) 3 33 := ⟨by decide +kernel, rfl⟩
theorem iX8_paint_33 : ab_bi mX8_paint 33 .eq 36 44 := ⟨11, by decide +kernel, rfl, by decide⟩
theorem iX8_paint_36 : ab_at mX8_paint 36 (.iload 5) 2 38 := ⟨by decide +kernel, rfl⟩
theorem iX8_paint_38 : ab_at mX8_paint 38 (.invokestatic 83) 3 41 := ⟨by decide +kernel, rfl⟩
theorem iX8_paint_41 : ab_bi mX8_paint 41 .ne 44 46 := ⟨5, by decide +kernel, rfl, by decide⟩
theorem iX8_paint_44 : ab_at mX8_paint 44 (.iconst (-1)) 1 45 := ⟨by decide +kernel, rfl⟩
theorem iX8_paint_45 : ab_at mX8_paint 45 (.ireturn) 1 46 := ⟨by decide +kernel, rfl⟩
theorem iX8_paint_46 : ab_at mX8_paint 46 (.iload_n 2) 1 47 := ⟨by decide +kernel, rfl⟩
theorem iX8_paint_47 : ab_at mX8_paint 47 (.istore 7) 2 49 := ⟨by decide +kernel, rfl⟩
theorem iX8_paint_49 : ab_at mX8_paint 49 (.iload 7) 2 51 := ⟨by decide +kernel, rfl⟩
theorem iX8_paint_51 : ab_at mX8_paint 51 (.iload_n 2) 1 52 := ⟨by decide +kernel, rfl⟩
theorem iX8_paint_52 : ab_at mX8_paint 52 (.iload 4) 2 54 := ⟨by decide +kernel, rfl⟩
theorem iX8_paint_54 : ab_at mX8_paint 54 (.iadd) 1 55 := ⟨by decide +kernel, rfl⟩
theorem iX8_paint_55 : ab_bc mX8_paint 55 .ge 58 97 := ⟨42, by decide +kernel, rfl, by decide⟩
theorem iX8_paint_58 : ab_at mX8_paint 58 (.iload_n 1) 1 59 := ⟨by decide +kernel, rfl⟩
theorem iX8_paint_59 : ab_at mX8_paint 59 (.istore 8) 2 61 := ⟨by decide +kernel, rfl⟩
theorem iX8_paint_61 : ab_at mX8_paint 61 (.iload 8) 2 63 := ⟨by decide +kernel, rfl⟩
theorem iX8_paint_63 : ab_at mX8_paint 63 (.iload_n 1) 1 64 := ⟨by decide +kernel, rfl⟩
theorem iX8_paint_64 : ab_at mX8_paint 64 (.iload_n 3) 1 65 := ⟨by decide +kernel, rfl⟩
theorem iX8_paint_65 : ab_at mX8_paint 65 (.iadd) 1 66 := ⟨by decide +kernel, rfl⟩
theorem iX8_paint_66 : ab_bc mX8_paint 66 .ge 69 91 := ⟨25, by decide +kernel, rfl, by decide⟩
theorem iX8_paint_69 : ab_at mX8_paint 69 (.aload 6) 2 71 := ⟨by decide +kernel, rfl⟩
theorem iX8_paint_71 : ab_at mX8_paint 71 (.aload 6) 2 73 := ⟨by decide +kernel, rfl⟩
theorem iX8_paint_73 : ab_at mX8_paint 73 (.iload 8) 2 75 := ⟨by decide +kernel, rfl⟩
theorem iX8_paint_75 : ab_at mX8_paint 75 (.iload 7) 2 77 := ⟨by decide +kernel, rfl⟩
theorem iX8_paint_77 : ab_at mX8_paint 77 (.invokevirtual 87) 3 80 := ⟨by decide +kernel, rfl⟩
theorem iX8_paint_80 : ab_at mX8_paint 80 (.iload 5) 2 82 := ⟨by decide +kernel, rfl⟩
theorem iX8_paint_82 : ab_at mX8_paint 82 (.invokevirtual 91) 3 85 := ⟨by decide +kernel, rfl⟩
theorem iX8_paint_85 : ab_at mX8_paint 85 (.iinc 8 1) 3 88 := ⟨by decide +kernel, rfl⟩
theorem iX8_paint_88 : ab_bg mX8_paint 88 61 := ⟨-27, by decide +kernel, by decide⟩
theorem iX8_paint_91 : ab_at mX8_paint 91 (.iinc 7 1) 3 94 := ⟨by decide +kernel, rfl⟩
theorem iX8_paint_94 : ab_bg mX8_paint 94 49 := ⟨-45, by decide +kernel, by decide⟩
theorem iX8_paint_97 : ab_at mX8_paint 97 (.aload_n 0) 1 98 := ⟨by decide +kernel, rfl⟩
theorem iX8_paint_98 : ab_at mX8_paint 98 (.getfield 10) 3 101 := ⟨by decide +kernel, rfl⟩
theorem iX8_paint_101 : ab_at mX8_paint 101 (.getfield 65) 3 104 := ⟨by decide +kernel, rfl⟩
theorem iX8_paint_104 : ab_at mX8_paint 104 (.invokevirtual 69) 3 107 := ⟨by decide +kernel, rfl⟩
theorem iX8_paint_107 : ab_at mX8_paint 107 (.iload_n 3) 1 108 := ⟨by decide +kernel, rfl⟩
theorem iX8_paint_108 : ab_at mX8_paint 108 (.iload 4) 2 110 := ⟨by decide +kernel, rfl⟩
theorem iX8_paint_110 : ab_at mX8_paint 110 (.imul) 1 111 := ⟨by decide +kernel, rfl⟩
theorem iX8_paint_111 : ab_at mX8_paint 111 (.ireturn) 1 112 := ⟨by decide +kernel, rfl⟩
theorem iX8_face_0 : ab_at mX8_face 0 (.aload_n 0) 1 1 := ⟨by decide +kernel, rfl⟩
theorem iX8_face_1 : ab_at mX8_face 1 (.getfield 10) 3 4 := ⟨by decide +kernel, rfl⟩
theorem iX8_face_4 : ab_at mX8_face 4 (.getfield 55) 3 7 := ⟨by decide +kernel, rfl⟩
theorem iX8_face_7 : ab_at mX8_face 7 (.astore 4) 2 9 := ⟨by decide +kernel, rfl⟩
theorem iX8_face_9 : ab_at mX8_face 9 (.aload 4) 2 11 := ⟨by decide +kernel, rfl⟩
theorem iX8_face_11 : ab_at mX8_face 11 (.iload_n 1) 1 12 := ⟨by decide +kernel, rfl⟩
theorem iX8_face_12 : ab_at mX8_face 12 (.iload_n 2) 1 13 := ⟨by decide +kernel, rfl⟩
theorem iX8_face_13 : ab_at mX8_face 13 (.invokevirtual 94) 3 16 := ⟨by decide +kernel, rfl⟩
theorem iX8_face_16 : ab_bi mX8_face 16 .ne 19 21 := ⟨5, by decide +kernel, rfl, by decide⟩
theorem iX8_face_19 : ab_at mX8_face 19 (.iconst (-1)) 1 20 := ⟨by decide +kernel, rfl⟩
theorem iX8_face_20 : ab_at mX8_face 20 (.ireturn) 1 21 := ⟨by decide +kernel, rfl⟩
theorem iX8_face_21 : ab_at mX8_face 21 (.aload 4) 2 23 := ⟨by decide +kernel, rfl⟩
theorem iX8_face_23 : ab_at mX8_face 23 (.iload_n 1) 1 24 := ⟨by decide +kernel, rfl⟩
theorem iX8_face_24 : ab_at mX8_face 24 (.iload_n 2) 1 25 := ⟨by decide +kernel, rfl⟩
theorem iX8_face_25 : ab_at mX8_face 25 (.invokevirtual 87) 3 28 := ⟨by decide +kernel, rfl⟩
theorem iX8_face_28 : ab_at mX8_face 28 (.istore 5) 2 30 := ⟨by decide +kernel, rfl⟩
theorem iX8_face_30 : ab_at mX8_face 30 (.aload 4) 2 32 := ⟨by decide +kernel, rfl⟩
theorem iX8_face_32 : ab_at mX8_face 32 (.iload 5) 2 34 := ⟨by decide +kernel, rfl⟩
theorem iX8_face_34 : ab_at mX8_face 34 (.invokevirtual 98) 3 37 := ⟨by decide +kernel, rfl⟩
theorem iX8_face_37 : ab_at mX8_face 37 (.iload_n 3) 1 38 := ⟨by decide +kernel, rfl⟩
theorem iX8_face_38 : ab_bc mX8_face 38 .ne 41 43 := ⟨5, by decide +kernel, rfl, by decide⟩
theorem iX8_face_41 : ab_at mX8_face 41 (.iconst 0) 1 42 := ⟨by decide +kernel, rfl⟩
theorem iX8_face_42 : ab_at mX8_face 42 (.ireturn) 1 43 := ⟨by decide +kernel, rfl⟩
theorem iX8_face_43 : ab_at mX8_face 43 (.aload 4) 2 45 := ⟨by decide +kernel, rfl⟩
theorem iX8_face_45 : ab_at mX8_face 45 (.iload 5) 2 47 := ⟨by decide +kernel, rfl⟩
theorem iX8_face_47 : ab_at mX8_face 47 (.invokevirtual 101) 3 50 := ⟨by decide +kernel, rfl⟩
theorem iX8_face_50 : ab_at mX8_face 50 (.aload_n 0) 1 51 := ⟨by decide +kernel, rfl⟩
theorem iX8_face_51 : ab_at mX8_face 51 (.getfield 10) 3 54 := ⟨by decide +kernel, rfl⟩
theorem iX8_face_54 : ab_at mX8_face 54 (.getfield 65) 3 57 := ⟨by decide +kernel, rfl⟩
theorem iX8_face_57 : ab_at mX8_face 57 (.invokevirtual 69) 3 60 := ⟨by decide +kernel, rfl⟩
theorem iX8_face_60 : ab_at mX8_face 60 (.iconst 1) 1 61 := ⟨by decide +kernel, rfl⟩
theorem iX8_face_61 : ab_at mX8_face 61 (.ireturn) 1 62 := ⟨by decide +kernel, rfl⟩
theorem iX8_cartoon_0 : ab_at mX8_cartoon 0 (.aload_n 0) 1 1 := ⟨by decide +kernel, rfl⟩
theorem iX8_cartoon_1 : ab_at mX8_cartoon 1 (.getfield 10) 3 4 := ⟨by decide +kernel, rfl⟩
theorem iX8_cartoon_4 : ab_at mX8_cartoon 4 (.getfield 55) 3 7 := ⟨by decide +kernel, rfl⟩
theorem iX8_cartoon_7 : ab_at mX8_cartoon 7 (.astore_n 3) 1 8 := ⟨by decide +kernel, rfl⟩
theorem iX8_cartoon_8 : ab_at mX8_cartoon 8 (.aload_n 3) 1 9 := ⟨by decide +kernel, rfl⟩
theorem iX8_cartoon_9 : ab_at mX8_cartoon 9 (.iload_n 1) 1 10 := ⟨by decide +kernel, rfl⟩
theorem iX8_cartoon_10 : ab_at mX8_cartoon 10 (.iload_n 2) 1 11 := ⟨by decide +kernel, rfl⟩
theorem iX8_cartoon_11 : ab_at mX8_cartoon 11 (.invokevirtual 94) 3 14 := ⟨by decide +kernel, rfl⟩
theorem iX8_cartoon_14 : ab_bi mX8_cartoon 14 .eq 17 31 := ⟨17, by decide +kernel, rfl, by decide⟩
theorem iX8_cartoon_17 : ab_at mX8_cartoon 17 (.aload_n 3) 1 18 := ⟨by decide +kernel, rfl⟩
theorem iX8_cartoon_18 : ab_at mX8_cartoon 18 (.getfield 105) 3 21 := ⟨by decide +kernel, rfl⟩
theorem iX8_cartoon_21 : ab_at mX8_cartoon 21 (.aload_n 3) 1 22 := ⟨by decide +kernel, rfl⟩
theorem iX8_cartoon_22 : ab_at mX8_cartoon 22 (.iload_n 1) 1 23 := ⟨by decide +kernel, rfl⟩
theorem iX8_cartoon_23 : ab_at mX8_cartoon 23 (.iload_n 2) 1 24 := ⟨by decide +kernel, rfl⟩
theorem iX8_cartoon_24 : ab_at mX8_cartoon 24 (.invokevirtual 87) 3 27 := ⟨by decide +kernel, rfl⟩
theorem iX8_cartoon_27 : ab_at mX8_cartoon 27 (.iaload) 1 28 := ⟨by decide +kernel, rfl⟩
theorem iX8_cartoon_28 : ab_bg mX8_cartoon 28 32 := ⟨4, by decide +kernel, by decide⟩
theorem iX8_cartoon_31 : ab_at mX8_cartoon 31 (.iconst (-1)) 1 32 := ⟨by decide +kernel, rfl⟩
theorem iX8_cartoon_32 : ab_at mX8_cartoon 32 (.ireturn) 1 33 := ⟨by decide +kernel, rfl⟩
theorem iX8_loom_0 : ab_at mX8_loom 0 (.aload_n 0) 1 1 := ⟨by decide +kernel, rfl⟩
theorem iX8_loom_1 : ab_at mX8_loom 1 (.getfield 10) 3 4 := ⟨by decide +kernel, rfl⟩
theorem iX8_loom_4 : ab_at mX8_loom 4 (.getfield 55) 3 7 := ⟨by decide +kernel, rfl⟩
theorem iX8_loom_7 : ab_at mX8_loom 7 (.astore_n 3) 1 8 := ⟨by decide +kernel, rfl⟩
theorem iX8_loom_8 : ab_at mX8_loom 8 (.aload_n 3) 1 9 := ⟨by decide +kernel, rfl⟩
theorem iX8_loom_9 : ab_at mX8_loom 9 (.iload_n 1) 1 10 := ⟨by decide +kernel, rfl⟩
theorem iX8_loom_10 : ab_at mX8_loom 10 (.iload_n 2) 1 11 := ⟨by decide +kernel, rfl⟩
theorem iX8_loom_11 : ab_at mX8_loom 11 (.invokevirtual 94) 3 14 := ⟨by decide +kernel, rfl⟩
theorem iX8_loom_14 : ab_bi mX8_loom 14 .eq 17 30 := ⟨16, by decide +kernel, rfl, by decide⟩
theorem iX8_loom_17 : ab_at mX8_loom 17 (.aload_n 3) 1 18 := ⟨by decide +kernel, rfl⟩
theorem iX8_loom_18 : ab_at mX8_loom 18 (.getfield 105) 3 21 := ⟨by decide +kernel, rfl⟩
theorem iX8_loom_21 : ab_at mX8_loom 21 (.iload_n 1) 1 22 := ⟨by decide +kernel, rfl⟩
theorem iX8_loom_22 : ab_at mX8_loom 22 (.iload_n 2) 1 23 := ⟨by decide +kernel, rfl⟩
theorem iX8_loom_23 : ab_at mX8_loom 23 (.invokestatic 109) 3 26 := ⟨by decide +kernel, rfl⟩
theorem iX8_loom_26 : ab_at mX8_loom 26 (.iaload) 1 27 := ⟨by decide +kernel, rfl⟩
theorem iX8_loom_27 : ab_bg mX8_loom 27 31 := ⟨4, by decide +kernel, by decide⟩
theorem iX8_loom_30 : ab_at mX8_loom 30 (.iconst (-1)) 1 31 := ⟨by decide +kernel, rfl⟩
theorem iX8_loom_31 : ab_at mX8_loom 31 (.ireturn) 1 32 := ⟨by decide +kernel, rfl⟩
theorem iX8_rule_0 : ab_at mX8_rule 0 (.iload_n 1) 1 1 := ⟨by decide +kernel, rfl⟩
theorem iX8_rule_1 : ab_bi mX8_rule 1 .ne 4 26 := ⟨25, by decide +kernel, rfl, by decide⟩
theorem iX8_rule_4 : ab_at mX8_rule 4 (.iload_n 2) 1 5 := ⟨by decide +kernel, rfl⟩
theorem iX8_rule_5 : ab_at mX8_rule 5 (.iconst 0) 1 6 := ⟨by decide +kernel, rfl⟩
theorem iX8_rule_6 : ab_at mX8_rule 6 (.bipush 10) 2 8 := ⟨by decide +kernel, rfl⟩
theorem iX8_rule_8 : ab_at mX8_rule 8 (.invokestatic 51) 3 11 := ⟨by decide +kernel, rfl⟩
theorem iX8_rule_11 : ab_bi mX8_rule 11 .eq 14 26 := ⟨15, by decide +kernel, rfl, by decide⟩
theorem iX8_rule_14 : ab_at mX8_rule 14 (.aload_n 0) 1 15 := ⟨by decide +kernel, rfl⟩
theorem iX8_rule_15 : ab_at mX8_rule 15 (.getfield 23) 3 18 := ⟨by decide +kernel, rfl⟩
theorem iX8_rule_18 : ab_at mX8_rule 18 (.istore_n 3) 1 19 := ⟨by decide +kernel, rfl⟩
theorem iX8_rule_19 : ab_at mX8_rule 19 (.aload_n 0) 1 20 := ⟨by decide +kernel, rfl⟩
theorem iX8_rule_20 : ab_at mX8_rule 20 (.iload_n 2) 1 21 := ⟨by decide +kernel, rfl⟩
theorem iX8_rule_21 : ab_at mX8_rule 21 (.putfield 23) 3 24 := ⟨by decide +kernel, rfl⟩
theorem iX8_rule_24 : ab_at mX8_rule 24 (.iload_n 3) 1 25 := ⟨by decide +kernel, rfl⟩
theorem iX8_rule_25 : ab_at mX8_rule 25 (.ireturn) 1 26 := ⟨by decide +kernel, rfl⟩
theorem iX8_rule_26 : ab_at mX8_rule 26 (.iload_n 1) 1 27 := ⟨by decide +kernel, rfl⟩
theorem iX8_rule_27 : ab_at mX8_rule 27 (.iconst 1) 1 28 := ⟨by decide +kernel, rfl⟩
theorem iX8_rule_28 : ab_bc mX8_rule 28 .ne 31 53 := ⟨25, by decide +kernel, rfl, by decide⟩
theorem iX8_rule_31 : ab_at mX8_rule 31 (.iload_n 2) 1 32 := ⟨by decide +kernel, rfl⟩
theorem iX8_rule_32 : ab_at mX8_rule 32 (.iconst 1) 1 33 := ⟨by decide +kernel, rfl⟩
theorem iX8_rule_33 : ab_at mX8_rule 33 (.bipush 10) 2 35 := ⟨by decide +kernel, rfl⟩
theorem iX8_rule_35 : ab_at mX8_rule 35 (.invokestatic 51) 3 38 := ⟨by decide +kernel, rfl⟩
theorem iX8_rule_38 : ab_bi mX8_rule 38 .eq 41 53 := ⟨15, by decide +kernel, rfl, by decide⟩
theorem iX8_rule_41 : ab_at mX8_rule 41 (.aload_n 0) 1 42 := ⟨by decide +kernel, rfl⟩
theorem iX8_rule_42 : ab_at mX8_rule 42 (.getfield 27) 3 45 := ⟨by decide +kernel, rfl⟩
theorem iX8_rule_45 : ab_at mX8_rule 45 (.istore_n 3) 1 46 := ⟨by decide +kernel, rfl⟩
theorem iX8_rule_46 : ab_at mX8_rule 46 (.aload_n 0) 1 47 := ⟨by decide +kernel, rfl⟩
theorem iX8_rule_47 : ab_at mX8_rule 47 (.iload_n 2) 1 48 := ⟨by decide +kernel, rfl⟩
theorem iX8_rule_48 : ab_at mX8_rule 48 (.putfield 27) 3 51 := ⟨by decide +kernel, rfl⟩
theorem iX8_rule_51 : ab_at mX8_rule 51 (.iload_n 3) 1 52 := ⟨by decide +kernel, rfl⟩
theorem iX8_rule_52 : ab_at mX8_rule 52 (.ireturn) 1 53 := ⟨by decide +kernel, rfl⟩
theorem iX8_rule_53 : ab_at mX8_rule 53 (.iconst (-1)) 1 54 := ⟨by decide +kernel, rfl⟩
theorem iX8_rule_54 : ab_at mX8_rule 54 (.ireturn) 1 55 := ⟨by decide +kernel, rfl⟩
theorem iX8_slits_0 : ab_at mX8_slits 0 (.iload_n 1) 1 1 := ⟨by decide +kernel, rfl⟩
theorem iX8_slits_1 : ab_at mX8_slits 1 (.iconst 0) 1 2 := ⟨by decide +kernel, rfl⟩
theorem iX8_slits_2 : ab_at mX8_slits 2 (.iconst 3) 1 3 := ⟨by decide +kernel, rfl⟩
theorem iX8_slits_3 : ab_at mX8_slits 3 (.invokestatic 51) 3 6 := ⟨by decide +kernel, rfl⟩
theorem iX8_slits_6 : ab_bi mX8_slits 6 .ne 9 11 := ⟨5, by decide +kernel, rfl, by decide⟩
theorem iX8_slits_9 : ab_at mX8_slits 9 (.iconst (-1)) 1 10 := ⟨by decide +kernel, rfl⟩
theorem iX8_slits_10 : ab_at mX8_slits 10 (.ireturn) 1 11 := ⟨by decide +kernel, rfl⟩
theorem iX8_slits_11 : ab_at mX8_slits 11 (.aload_n 0) 1 12 := ⟨by decide +kernel, rfl⟩
theorem iX8_slits_12 : ab_at mX8_slits 12 (.getfield 10) 3 15 := ⟨by decide +kernel, rfl⟩
theorem iX8_slits_15 : ab_at mX8_slits 15 (.getfield 55) 3 18 := ⟨by decide +kernel, rfl⟩
theorem iX8_slits_18 : ab_at mX8_slits 18 (.astore_n 2) 1 19 := ⟨by decide +kernel, rfl⟩
theorem iX8_slits_19 : ab_at mX8_slits 19 (.iconst 0) 1 20 := ⟨by decide +kernel, rfl⟩
theorem iX8_slits_20 : ab_at mX8_slits 20 (.istore_n 3) 1 21 := ⟨by decide +kernel, rfl⟩
theorem iX8_slits_21 : ab_at mX8_slits 21 (.iconst 0) 1 22 := ⟨by decide +kernel, rfl⟩
theorem iX8_slits_22 : ab_at mX8_slits 22 (.istore 4) 2 24 := ⟨by decide +kernel, rfl⟩
theorem iX8_slits_24 : ab_at mX8_slits 24 (.iload 4) 2 26 := ⟨by decide +kernel, rfl⟩
theorem iX8_slits_26 : ab_at mX8_slits 26 (.aload_n 2) 1 27 := ⟨by decide +kernel, rfl⟩
theorem iX8_slits_27 : ab_at mX8_slits 27 (.getfield 74) 3 30 := ⟨by decide +kernel, rfl⟩
theorem iX8_slits_30 : ab_at mX8_slits 30 (.iconst 1) 1 31 := ⟨by decide +kernel, rfl⟩
theorem iX8_slits_31 : ab_at mX8_slits 31 (.isub) 1 32 := ⟨by decide +kernel, rfl⟩
theorem iX8_slits_32 : ab_bc mX8_slits 32 .ge 35 74 := ⟨42, by decide +kernel, rfl, by decide⟩
theorem iX8_slits_35 : ab_at mX8_slits 35 (.iconst 0) 1 36 := ⟨by decide +kernel, rfl⟩
theorem iX8_slits_36 : ab_at mX8_slits 36 (.istore 5) 2 38 := ⟨by decide +kernel, rfl⟩
theorem iX8_slits_38 : ab_at mX8_slits 38 (.iload 5) 2 40 := ⟨by decide +kernel, rfl⟩
theorem iX8_slits_40 : ab_at mX8_slits 40 (.aload_n 2) 1 41 := ⟨by decide +kernel, rfl⟩
theorem iX8_slits_41 : ab_at mX8_slits 41 (.getfield 80) 3 44 := ⟨by decide +kernel, rfl⟩
theorem iX8_slits_44 : ab_bc mX8_slits 44 .ge 47 68 := ⟨24, by decide +kernel, rfl, by decide⟩
theorem iX8_slits_47 : ab_at mX8_slits 47 (.aload_n 0) 1 48 := ⟨by decide +kernel, rfl⟩
theorem iX8_slits_48 : ab_at mX8_slits 48 (.iload_n 1) 1 49 := ⟨by decide +kernel, rfl⟩
theorem iX8_slits_49 : ab_at mX8_slits 49 (.iload_n 3) 1 50 := ⟨by decide +kernel, rfl⟩
theorem iX8_slits_50 : ab_at mX8_slits 50 (.aload_n 2) 1 51 := ⟨by decide +kernel, rfl⟩
theorem iX8_slits_51 : ab_at mX8_slits 51 (.iload 4) 2 53 := ⟨by decide +kernel, rfl⟩
theorem iX8_slits_53 : ab_at mX8_slits 53 (.iload 5) 2 55 := ⟨by decide +kernel, rfl⟩
theorem iX8_slits_55 : ab_at mX8_slits 55 (.invokevirtual 112) 3 58 := ⟨by decide +kernel, rfl⟩
theorem iX8_slits_58 : ab_at mX8_slits 58 (.invokevirtual 115) 3 61 := ⟨by decide +kernel, rfl⟩
theorem iX8_slits_61 : ab_at mX8_slits 61 (.istore_n 3) 1 62 := ⟨by decide +kernel, rfl⟩
theorem iX8_slits_62 : ab_at mX8_slits 62 (.iinc 5 1) 3 65 := ⟨by decide +kernel, rfl⟩
theorem iX8_slits_65 : ab_bg mX8_slits 65 38 := ⟨-27, by decide +kernel, by decide⟩
theorem iX8_slits_68 : ab_at mX8_slits 68 (.iinc 4 1) 3 71 := ⟨by decide +kernel, rfl⟩
theorem iX8_slits_71 : ab_bg mX8_slits 71 24 := ⟨-47, by decide +kernel, by decide⟩
theorem iX8_slits_74 : ab_at mX8_slits 74 (.iload_n 3) 1 75 := ⟨by decide +kernel, rfl⟩
theorem iX8_slits_75 : ab_at mX8_slits 75 (.ireturn) 1 76 := ⟨by decide +kernel, rfl⟩
theorem iX8_slit_0 : ab_at mX8_slit 0 (.aload_n 0) 1 1 := ⟨by decide +kernel, rfl⟩
theorem iX8_slit_1 : ab_at mX8_slit 1 (.getfield 10) 3 4 := ⟨by decide +kernel, rfl⟩
theorem iX8_slit_4 : ab_at mX8_slit 4 (.getfield 55) 3 7 := ⟨by decide +kernel, rfl⟩
theorem iX8_slit_7 : ab_at mX8_slit 7 (.astore_n 3) 1 8 := ⟨by decide +kernel, rfl⟩
theorem iX8_slit_8 : ab_at mX8_slit 8 (.aload_n 3) 1 9 := ⟨by decide +kernel, rfl⟩
theorem iX8_slit_9 : ab_at mX8_slit 9 (.iload_n 1) 1 10 := ⟨by decide +kernel, rfl⟩
theorem iX8_slit_10 : ab_at mX8_slit 10 (.iload_n 2) 1 11 := ⟨by decide +kernel, rfl⟩
theorem iX8_slit_11 : ab_at mX8_slit 11 (.invokevirtual 94) 3 14 := ⟨by decide +kernel, rfl⟩
theorem iX8_slit_14 : ab_bi mX8_slit 14 .eq 17 27 := ⟨13, by decide +kernel, rfl, by decide⟩
theorem iX8_slit_17 : ab_at mX8_slit 17 (.iload_n 1) 1 18 := ⟨by decide +kernel, rfl⟩
theorem iX8_slit_18 : ab_at mX8_slit 18 (.aload_n 3) 1 19 := ⟨by decide +kernel, rfl⟩
theorem iX8_slit_19 : ab_at mX8_slit 19 (.getfield 74) 3 22 := ⟨by decide +kernel, rfl⟩
theorem iX8_slit_22 : ab_at mX8_slit 22 (.iconst 1) 1 23 := ⟨by decide +kernel, rfl⟩
theorem iX8_slit_23 : ab_at mX8_slit 23 (.isub) 1 24 := ⟨by decide +kernel, rfl⟩
theorem iX8_slit_24 : ab_bc mX8_slit 24 .ne 27 29 := ⟨5, by decide +kernel, rfl, by decide⟩
theorem iX8_slit_27 : ab_at mX8_slit 27 (.iconst (-1)) 1 28 := ⟨by decide +kernel, rfl⟩
theorem iX8_slit_28 : ab_at mX8_slit 28 (.ireturn) 1 29 := ⟨by decide +kernel, rfl⟩
theorem iX8_slit_29 : ab_at mX8_slit 29 (.aload_n 3) 1 30 := ⟨by decide +kernel, rfl⟩
theorem iX8_slit_30 : ab_at mX8_slit 30 (.iload_n 1) 1 31 := ⟨by decide +kernel, rfl⟩
theorem iX8_slit_31 : ab_at mX8_slit 31 (.iload_n 2) 1 32 := ⟨by decide +kernel, rfl⟩
theorem iX8_slit_32 : ab_at mX8_slit 32 (.invokevirtual 119) 3 35 := ⟨by decide +kernel, rfl⟩
theorem iX8_slit_35 : ab_at mX8_slit 35 (.ireturn) 1 36 := ⟨by decide +kernel, rfl⟩
theorem iX8_field_0 : ab_at mX8_field 0 (.aload_n 0) 1 1 := ⟨by decide +kernel, rfl⟩
theorem iX8_field_1 : ab_at mX8_field 1 (.getfield 10) 3 4 := ⟨by decide +kernel, rfl⟩
theorem iX8_field_4 : ab_at mX8_field 4 (.getfield 55) 3 7 := ⟨by decide +kernel, rfl⟩
theorem iX8_field_7 : ab_at mX8_field 7 (.iload_n 1) 1 8 := ⟨by decide +kernel, rfl⟩
theorem iX8_field_8 : ab_at mX8_field 8 (.iload_n 2) 1 9 := ⟨by decide +kernel, rfl⟩
theorem iX8_field_9 : ab_at mX8_field 9 (.invokevirtual 94) 3 12 := ⟨by decide +kernel, rfl⟩
theorem iX8_field_12 : ab_bi mX8_field 12 .ne 15 17 := ⟨5, by decide +kernel, rfl, by decide⟩
theorem iX8_field_15 : ab_at mX8_field 15 (.iconst (-1)) 1 16 := ⟨by decide +kernel, rfl⟩
theorem iX8_field_16 : ab_at mX8_field 16 (.ireturn) 1 17 := ⟨by decide +kernel, rfl⟩
theorem iX8_field_17 : ab_at mX8_field 17 (.aload_n 0) 1 18 := ⟨by decide +kernel, rfl⟩
theorem iX8_field_18 : ab_at mX8_field 18 (.getfield 33) 3 21 := ⟨by decide +kernel, rfl⟩
theorem iX8_field_21 : ab_at mX8_field 21 (.aload_n 0) 1 22 := ⟨by decide +kernel, rfl⟩
theorem iX8_field_22 : ab_at mX8_field 22 (.getfield 10) 3 25 := ⟨by decide +kernel, rfl⟩
theorem iX8_field_25 : ab_at mX8_field 25 (.getfield 55) 3 28 := ⟨by decide +kernel, rfl⟩
theorem iX8_field_28 : ab_at mX8_field 28 (.invokevirtual 122) 3 31 := ⟨by decide +kernel, rfl⟩
theorem iX8_field_31 : ab_at mX8_field 31 (.aload_n 0) 1 32 := ⟨by decide +kernel, rfl⟩
theorem iX8_field_32 : ab_at mX8_field 32 (.getfield 33) 3 35 := ⟨by decide +kernel, rfl⟩
theorem iX8_field_35 : ab_at mX8_field 35 (.getfield 126) 3 38 := ⟨by decide +kernel, rfl⟩
theorem iX8_field_38 : ab_at mX8_field 38 (.iload_n 1) 1 39 := ⟨by decide +kernel, rfl⟩
theorem iX8_field_39 : ab_at mX8_field 39 (.iload_n 2) 1 40 := ⟨by decide +kernel, rfl⟩
theorem iX8_field_40 : ab_at mX8_field 40 (.invokestatic 109) 3 43 := ⟨by decide +kernel, rfl⟩
theorem iX8_field_43 : ab_at mX8_field 43 (.iaload) 1 44 := ⟨by decide +kernel, rfl⟩
theorem iX8_field_44 : ab_at mX8_field 44 (.ireturn) 1 45 := ⟨by decide +kernel, rfl⟩
theorem iX8_of_0 : ab_at mX8_of 0 (.aload_n 0) 1 1 := ⟨by decide +kernel, rfl⟩
theorem iX8_of_1 : ab_at mX8_of 1 (.getfield 33) 3 4 := ⟨by decide +kernel, rfl⟩
theorem iX8_of_4 : ab_at mX8_of 4 (.aload_n 0) 1 5 := ⟨by decide +kernel, rfl⟩
theorem iX8_of_5 : ab_at mX8_of 5 (.getfield 10) 3 8 := ⟨by decide +kernel, rfl⟩
theorem iX8_of_8 : ab_at mX8_of 8 (.getfield 55) 3 11 := ⟨by decide +kernel, rfl⟩
theorem iX8_of_11 : ab_at mX8_of 11 (.invokevirtual 122) 3 14 := ⟨by decide +kernel, rfl⟩
theorem iX8_of_14 : ab_at mX8_of 14 (.iload_n 1) 1 15 := ⟨by decide +kernel, rfl⟩
theorem iX8_of_15 : ab_at mX8_of 15 (.aload_n 0) 1 16 := ⟨by decide +kernel, rfl⟩
theorem iX8_of_16 : ab_at mX8_of 16 (.getfield 33) 3 19 := ⟨by decide +kernel, rfl⟩
theorem iX8_of_19 : ab_at mX8_of 19 (.getfield 129) 3 22 := ⟨by decide +kernel, rfl⟩
theorem iX8_of_22 : ab_at mX8_of 22 (.invokestatic 132) 3 25 := ⟨by decide +kernel, rfl⟩
theorem iX8_of_25 : ab_bi mX8_of 25 .ne 28 30 := ⟨5, by decide +kernel, rfl, by decide⟩
theorem iX8_of_28 : ab_at mX8_of 28 (.iconst (-1)) 1 29 := ⟨by decide +kernel, rfl⟩
theorem iX8_of_29 : ab_at mX8_of 29 (.ireturn) 1 30 := ⟨by decide +kernel, rfl⟩
theorem iX8_of_30 : ab_at mX8_of 30 (.iload_n 2) 1 31 := ⟨by decide +kernel, rfl⟩
theorem iX8_of_31 : decode mX8_of.2.1 31 = .ok (.tableswitch 69 0 3 #[29, 39, 49, 59], 29) := by decide +kernel
theorem iX8_of_60 : ab_at mX8_of 60 (.aload_n 0) 1 61 := ⟨by decide +kernel, rfl⟩
theorem iX8_of_61 : ab_at mX8_of 61 (.getfield 33) 3 64 := ⟨by decide +kernel, rfl⟩
theorem iX8_of_64 : ab_at mX8_of 64 (.getfield 135) 3 67 := ⟨by decide +kernel, rfl⟩
theorem iX8_of_67 : ab_at mX8_of 67 (.iload_n 1) 1 68 := ⟨by decide +kernel, rfl⟩
theorem iX8_of_68 : ab_at mX8_of 68 (.iaload) 1 69 := ⟨by decide +kernel, rfl⟩
theorem iX8_of_69 : ab_at mX8_of 69 (.ireturn) 1 70 := ⟨by decide +kernel, rfl⟩
theorem iX8_of_70 : ab_at mX8_of 70 (.aload_n 0) 1 71 := ⟨by decide +kernel, rfl⟩
theorem iX8_of_71 : ab_at mX8_of 71 (.getfield 33) 3 74 := ⟨by decide +kernel, rfl⟩
theorem iX8_of_74 : ab_at mX8_of 74 (.getfield 138) 3 77 := ⟨by decide +kernel, rfl⟩
theorem iX8_of_77 : ab_at mX8_of 77 (.iload_n 1) 1 78 := ⟨by decide +kernel, rfl⟩
theorem iX8_of_78 : ab_at mX8_of 78 (.iaload) 1 79 := ⟨by decide +kernel, rfl⟩
theorem iX8_of_79 : ab_at mX8_of 79 (.ireturn) 1 80 := ⟨by decide +kernel, rfl⟩
theorem iX8_of_80 : ab_at mX8_of 80 (.aload_n 0) 1 81 := ⟨by decide +kernel, rfl⟩
theorem iX8_of_81 : ab_at mX8_of 81 (.getfield 33) 3 84 := ⟨by decide +kernel, rfl⟩
theorem iX8_of_84 : ab_at mX8_of 84 (.getfield 141) 3 87 := ⟨by decide +kernel, rfl⟩
theorem iX8_of_87 : ab_at mX8_of 87 (.iload_n 1) 1 88 := ⟨by decide +kernel, rfl⟩
theorem iX8_of_88 : ab_at mX8_of 88 (.iaload) 1 89 := ⟨by decide +kernel, rfl⟩
theorem iX8_of_89 : ab_at mX8_of 89 (.ireturn) 1 90 := ⟨by decide +kernel, rfl⟩
theorem iX8_of_90 : ab_at mX8_of 90 (.aload_n 0) 1 91 := ⟨by decide +kernel, rfl⟩
theorem iX8_of_91 : ab_at mX8_of 91 (.getfield 33) 3 94 := ⟨by decide +kernel, rfl⟩
theorem iX8_of_94 : ab_at mX8_of 94 (.getfield 144) 3 97 := ⟨by decide +kernel, rfl⟩
theorem iX8_of_97 : ab_at mX8_of 97 (.iload_n 1) 1 98 := ⟨by decide +kernel, rfl⟩
theorem iX8_of_98 : ab_at mX8_of 98 (.iaload) 1 99 := ⟨by decide +kernel, rfl⟩
theorem iX8_of_99 : ab_at mX8_of 99 (.ireturn) 1 100 := ⟨by decide +kernel, rfl⟩
theorem iX8_of_100 : ab_at mX8_of 100 (.iconst (-1)) 1 101 := ⟨by decide +kernel, rfl⟩
theorem iX8_of_101 : ab_at mX8_of 101 (.ireturn) 1 102 := ⟨by decide +kernel, rfl⟩
theorem iX8_dye_0 : ab_at mX8_dye 0 (.iload_n 1) 1 1 := ⟨by decide +kernel, rfl⟩
theorem iX8_dye_1 : ab_at mX8_dye 1 (.invokestatic 83) 3 4 := ⟨by decide +kernel, rfl⟩
theorem iX8_dye_4 : ab_bi mX8_dye 4 .eq 7 18 := ⟨14, by decide +kernel, rfl, by decide⟩
theorem iX8_dye_7 : ab_at mX8_dye 7 (.iload_n 2) 1 8 := ⟨by decide +kernel, rfl⟩
theorem iX8_dye_8 : ab_at mX8_dye 8 (.iconst 1) 1 9 := ⟨by decide +kernel, rfl⟩
theorem iX8_dye_9 : ab_at mX8_dye 9 (.sipush 300) 3 12 := ⟨by decide +kernel, rfl⟩
theorem iX8_dye_12 : ab_at mX8_dye 12 (.invokestatic 51) 3 15 := ⟨by decide +kernel, rfl⟩
theorem iX8_dye_15 : ab_bi mX8_dye 15 .ne 18 20 := ⟨5, by decide +kernel, rfl, by decide⟩
theorem iX8_dye_18 : ab_at mX8_dye 18 (.iconst (-1)) 1 19 := ⟨by decide +kernel, rfl⟩
theorem iX8_dye_19 : ab_at mX8_dye 19 (.ireturn) 1 20 := ⟨by decide +kernel, rfl⟩
theorem iX8_dye_20 : ab_at mX8_dye 20 (.aload_n 0) 1 21 := ⟨by decide +kernel, rfl⟩
theorem iX8_dye_21 : ab_at mX8_dye 21 (.getfield 10) 3 24 := ⟨by decide +kernel, rfl⟩
theorem iX8_dye_24 : ab_at mX8_dye 24 (.getfield 147) 3 27 := ⟨by decide +kernel, rfl⟩
theorem iX8_dye_27 : ab_at mX8_dye 27 (.getfield 151) 3 30 := ⟨by decide +kernel, rfl⟩
theorem iX8_dye_30 : ab_at mX8_dye 30 (.bipush 12) 2 32 := ⟨by decide +kernel, rfl⟩
theorem iX8_dye_32 : ab_bc mX8_dye 32 .ne 35 40 := ⟨8, by decide +kernel, rfl, by decide⟩
theorem iX8_dye_35 : ab_at mX8_dye 35 (.bipush (-2)) 2 37 := ⟨by decide +kernel, rfl⟩
theorem iX8_dye_37 : ab_bg mX8_dye 37 52 := ⟨15, by decide +kernel, by decide⟩
theorem iX8_dye_40 : ab_at mX8_dye 40 (.aload_n 0) 1 41 := ⟨by decide +kernel, rfl⟩
theorem iX8_dye_41 : ab_at mX8_dye 41 (.getfield 10) 3 44 := ⟨by decide +kernel, rfl⟩
theorem iX8_dye_44 : ab_at mX8_dye 44 (.getfield 147) 3 47 := ⟨by decide +kernel, rfl⟩
theorem iX8_dye_47 : ab_at mX8_dye 47 (.iload_n 1) 1 48 := ⟨by decide +kernel, rfl⟩
theorem iX8_dye_48 : ab_at mX8_dye 48 (.iload_n 2) 1 49 := ⟨by decide +kernel, rfl⟩
theorem iX8_dye_49 : ab_at mX8_dye 49 (.invokevirtual 154) 3 52 := ⟨by decide +kernel, rfl⟩
theorem iX8_dye_52 : ab_at mX8_dye 52 (.ireturn) 1 53 := ⟨by decide +kernel, rfl⟩
theorem iX8_lot_0 : ab_at mX8_lot 0 (.iload_n 1) 1 1 := ⟨by decide +kernel, rfl⟩
theorem iX8_lot_1 : ab_at mX8_lot 1 (.aload_n 0) 1 2 := ⟨by decide +kernel, rfl⟩
theorem iX8_lot_2 : ab_at mX8_lot 2 (.getfield 10) 3 5 := ⟨by decide +kernel, rfl⟩
theorem iX8_lot_5 : ab_at mX8_lot 5 (.getfield 147) 3 8 := ⟨by decide +kernel, rfl⟩
theorem iX8_lot_8 : ab_at mX8_lot 8 (.getfield 151) 3 11 := ⟨by decide +kernel, rfl⟩
theorem iX8_lot_11 : ab_at mX8_lot 11 (.invokestatic 132) 3 14 := ⟨by decide +kernel, rfl⟩
theorem iX8_lot_14 : ab_bi mX8_lot 14 .ne 17 19 := ⟨5, by decide +kernel, rfl, by decide⟩
theorem iX8_lot_17 : ab_at mX8_lot 17 (.iconst (-1)) 1 18 := ⟨by decide +kernel, rfl⟩
theorem iX8_lot_18 : ab_at mX8_lot 18 (.ireturn) 1 19 := ⟨by decide +kernel, rfl⟩
theorem iX8_lot_19 : ab_at mX8_lot 19 (.iload_n 2) 1 20 := ⟨by decide +kernel, rfl⟩
theorem iX8_lot_20 : decode mX8_lot.2.1 20 = .ok (.tableswitch 91 0 2 #[28, 41, 54], 28) := by decide +kernel
theorem iX8_lot_48 : ab_at mX8_lot 48 (.aload_n 0) 1 49 := ⟨by decide +kernel, rfl⟩
theorem iX8_lot_49 : ab_at mX8_lot 49 (.getfield 10) 3 52 := ⟨by decide +kernel, rfl⟩
theorem iX8_lot_52 : ab_at mX8_lot 52 (.getfield 147) 3 55 := ⟨by decide +kernel, rfl⟩
theorem iX8_lot_55 : ab_at mX8_lot 55 (.getfield 157) 3 58 := ⟨by decide +kernel, rfl⟩
theorem iX8_lot_58 : ab_at mX8_lot 58 (.iload_n 1) 1 59 := ⟨by decide +kernel, rfl⟩
theorem iX8_lot_59 : ab_at mX8_lot 59 (.iaload) 1 60 := ⟨by decide +kernel, rfl⟩
theorem iX8_lot_60 : ab_at mX8_lot 60 (.ireturn) 1 61 := ⟨by decide +kernel, rfl⟩
theorem iX8_lot_61 : ab_at mX8_lot 61 (.aload_n 0) 1 62 := ⟨by decide +kernel, rfl⟩
theorem iX8_lot_62 : ab_at mX8_lot 62 (.getfield 10) 3 65 := ⟨by decide +kernel, rfl⟩
theorem iX8_lot_65 : ab_at mX8_lot 65 (.getfield 147) 3 68 := ⟨by decide +kernel, rfl⟩
theorem iX8_lot_68 : ab_at mX8_lot 68 (.getfield 158) 3 71 := ⟨by decide +kernel, rfl⟩
theorem iX8_lot_71 : ab_at mX8_lot 71 (.iload_n 1) 1 72 := ⟨by decide +kernel, rfl⟩
theorem iX8_lot_72 : ab_at mX8_lot 72 (.iaload) 1 73 := ⟨by decide +kernel, rfl⟩
theorem iX8_lot_73 : ab_at mX8_lot 73 (.ireturn) 1 74 := ⟨by decide +kernel, rfl⟩
theorem iX8_lot_74 : ab_at mX8_lot 74 (.aload_n 0) 1 75 := ⟨by decide +kernel, rfl⟩
theorem iX8_lot_75 : ab_at mX8_lot 75 (.aload_n 0) 1 76 := ⟨by decide +kernel, rfl⟩
theorem iX8_lot_76 : ab_at mX8_lot 76 (.getfield 10) 3 79 := ⟨by decide +kernel, rfl⟩
theorem iX8_lot_79 : ab_at mX8_lot 79 (.getfield 147) 3 82 := ⟨by decide +kernel, rfl⟩
theorem iX8_lot_82 : ab_at mX8_lot 82 (.getfield 157) 3 85 := ⟨by decide +kernel, rfl⟩
theorem iX8_lot_85 : ab_at mX8_lot 85 (.iload_n 1) 1 86 := ⟨by decide +kernel, rfl⟩
theorem iX8_lot_86 : ab_at mX8_lot 86 (.iaload) 1 87 := ⟨by decide +kernel, rfl⟩
theorem iX8_lot_87 : ab_at mX8_lot 87 (.invokevirtual 159) 3 90 := ⟨by decide +kernel, rfl⟩
theorem iX8_lot_90 : ab_bi mX8_lot 90 .eq 93 108 := ⟨18, by decide +kernel, rfl, by decide⟩
theorem iX8_lot_93 : ab_at mX8_lot 93 (.aload_n 0) 1 94 := ⟨by decide +kernel, rfl⟩
theorem iX8_lot_94 : ab_at mX8_lot 94 (.getfield 40) 3 97 := ⟨by decide +kernel, rfl⟩
theorem iX8_lot_97 : ab_at mX8_lot 97 (.iload_n 1) 1 98 := ⟨by decide +kernel, rfl⟩
theorem iX8_lot_98 : ab_at mX8_lot 98 (.aload_n 0) 1 99 := ⟨by decide +kernel, rfl⟩
theorem iX8_lot_99 : ab_at mX8_lot 99 (.getfield 33) 3 102 := ⟨by decide +kernel, rfl⟩
theorem iX8_lot_102 : ab_at mX8_lot 102 (.invokevirtual 162) 3 105 := ⟨by decide +kernel, rfl⟩
theorem iX8_lot_105 : ab_bg mX8_lot 105 110 := ⟨5, by decide +kernel, by decide⟩
theorem iX8_lot_108 : ab_at mX8_lot 108 (.bipush (-5)) 2 110 := ⟨by decide +kernel, rfl⟩
theorem iX8_lot_110 : ab_at mX8_lot 110 (.ireturn) 1 111 := ⟨by decide +kernel, rfl⟩
theorem iX8_lot_111 : ab_at mX8_lot 111 (.iconst (-1)) 1 112 := ⟨by decide +kernel, rfl⟩
theorem iX8_lot_112 : ab_at mX8_lot 112 (.ireturn) 1 113 := ⟨by decide +kernel, rfl⟩
theorem iX8_deal_0 : ab_at mX8_deal 0 (.aload_n 0) 1 1 := ⟨by decide +kernel, rfl⟩
theorem iX8_deal_1 : ab_at mX8_deal 1 (.getfield 33) 3 4 := ⟨by decide +kernel, rfl⟩
theorem iX8_deal_4 : ab_at mX8_deal 4 (.aload_n 0) 1 5 := ⟨by decide +kernel, rfl⟩
theorem iX8_deal_5 : ab_at mX8_deal 5 (.getfield 10) 3 8 := ⟨by decide +kernel, rfl⟩
theorem iX8_deal_8 : ab_at mX8_deal 8 (.getfield 55) 3 11 := ⟨by decide +kernel, rfl⟩
theorem iX8_deal_11 : ab_at mX8_deal 11 (.invokevirtual 122) 3 14 := ⟨by decide +kernel, rfl⟩
theorem iX8_deal_14 : ab_at mX8_deal 14 (.iload_n 1) 1 15 := ⟨by decide +kernel, rfl⟩
theorem iX8_deal_15 : ab_at mX8_deal 15 (.aload_n 0) 1 16 := ⟨by decide +kernel, rfl⟩
theorem iX8_deal_16 : ab_at mX8_deal 16 (.getfield 33) 3 19 := ⟨by decide +kernel, rfl⟩
theorem iX8_deal_19 : ab_at mX8_deal 19 (.getfield 129) 3 22 := ⟨by decide +kernel, rfl⟩
theorem iX8_deal_22 : ab_at mX8_deal 22 (.invokestatic 132) 3 25 := ⟨by decide +kernel, rfl⟩
theorem iX8_deal_25 : ab_bi mX8_deal 25 .ne 28 30 := ⟨5, by decide +kernel, rfl, by decide⟩
theorem iX8_deal_28 : ab_at mX8_deal 28 (.iconst (-1)) 1 29 := ⟨by decide +kernel, rfl⟩
theorem iX8_deal_29 : ab_at mX8_deal 29 (.ireturn) 1 30 := ⟨by decide +kernel, rfl⟩
theorem iX8_deal_30 : ab_at mX8_deal 30 (.aload_n 0) 1 31 := ⟨by decide +kernel, rfl⟩
theorem iX8_deal_31 : ab_at mX8_deal 31 (.aload_n 0) 1 32 := ⟨by decide +kernel, rfl⟩
theorem iX8_deal_32 : ab_at mX8_deal 32 (.getfield 33) 3 35 := ⟨by decide +kernel, rfl⟩
theorem iX8_deal_35 : ab_at mX8_deal 35 (.getfield 135) 3 38 := ⟨by decide +kernel, rfl⟩
theorem iX8_deal_38 : ab_at mX8_deal 38 (.iload_n 1) 1 39 := ⟨by decide +kernel, rfl⟩
theorem iX8_deal_39 : ab_at mX8_deal 39 (.iaload) 1 40 := ⟨by decide +kernel, rfl⟩
theorem iX8_deal_40 : ab_at mX8_deal 40 (.invokevirtual 159) 3 43 := ⟨by decide +kernel, rfl⟩
theorem iX8_deal_43 : ab_bi mX8_deal 43 .eq 46 57 := ⟨14, by decide +kernel, rfl, by decide⟩
theorem iX8_deal_46 : ab_at mX8_deal 46 (.aload_n 0) 1 47 := ⟨by decide +kernel, rfl⟩
theorem iX8_deal_47 : ab_at mX8_deal 47 (.getfield 40) 3 50 := ⟨by decide +kernel, rfl⟩
theorem iX8_deal_50 : ab_at mX8_deal 50 (.iload_n 1) 1 51 := ⟨by decide +kernel, rfl⟩
theorem iX8_deal_51 : ab_at mX8_deal 51 (.invokevirtual 166) 3 54 := ⟨by decide +kernel, rfl⟩
theorem iX8_deal_54 : ab_bg mX8_deal 54 59 := ⟨5, by decide +kernel, by decide⟩
theorem iX8_deal_57 : ab_at mX8_deal 57 (.bipush (-5)) 2 59 := ⟨by decide +kernel, rfl⟩
theorem iX8_deal_59 : ab_at mX8_deal 59 (.ireturn) 1 60 := ⟨by decide +kernel, rfl⟩
theorem iX8_dealt_0 : ab_at mX8_dealt 0 (.iload_n 1) 1 1 := ⟨by decide +kernel, rfl⟩
theorem iX8_dealt_1 : ab_at mX8_dealt 1 (.invokestatic 83) 3 4 := ⟨by decide +kernel, rfl⟩
theorem iX8_dealt_4 : ab_bi mX8_dealt 4 .eq 7 16 := ⟨12, by decide +kernel, rfl, by decide⟩
theorem iX8_dealt_7 : ab_at mX8_dealt 7 (.iload_n 2) 1 8 := ⟨by decide +kernel, rfl⟩
theorem iX8_dealt_8 : ab_at mX8_dealt 8 (.iconst 0) 1 9 := ⟨by decide +kernel, rfl⟩
theorem iX8_dealt_9 : ab_at mX8_dealt 9 (.iconst 2) 1 10 := ⟨by decide +kernel, rfl⟩
theorem iX8_dealt_10 : ab_at mX8_dealt 10 (.invokestatic 51) 3 13 := ⟨by decide +kernel, rfl⟩
theorem iX8_dealt_13 : ab_bi mX8_dealt 13 .ne 16 18 := ⟨5, by decide +kernel, rfl, by decide⟩
theorem iX8_dealt_16 : ab_at mX8_dealt 16 (.iconst (-1)) 1 17 := ⟨by decide +kernel, rfl⟩
theorem iX8_dealt_17 : ab_at mX8_dealt 17 (.ireturn) 1 18 := ⟨by decide +kernel, rfl⟩
theorem iX8_dealt_18 : ab_at mX8_dealt 18 (.aload_n 0) 1 19 := ⟨by decide +kernel, rfl⟩
theorem iX8_dealt_19 : ab_at mX8_dealt 19 (.iload_n 1) 1 20 := ⟨by decide +kernel, rfl⟩
theorem iX8_dealt_20 : ab_at mX8_dealt 20 (.invokevirtual 159) 3 23 := ⟨by decide +kernel, rfl⟩
theorem iX8_dealt_23 : ab_bi mX8_dealt 23 .ne 26 29 := ⟨6, by decide +kernel, rfl, by decide⟩
theorem iX8_dealt_26 : ab_at mX8_dealt 26 (.bipush (-5)) 2 28 := ⟨by decide +kernel, rfl⟩
theorem iX8_dealt_28 : ab_at mX8_dealt 28 (.ireturn) 1 29 := ⟨by decide +kernel, rfl⟩
theorem iX8_dealt_29 : ab_at mX8_dealt 29 (.iload_n 2) 1 30 := ⟨by decide +kernel, rfl⟩
theorem iX8_dealt_30 : ab_bi mX8_dealt 30 .ne 33 45 := ⟨15, by decide +kernel, rfl, by decide⟩
theorem iX8_dealt_33 : ab_at mX8_dealt 33 (.aload_n 0) 1 34 := ⟨by decide +kernel, rfl⟩
theorem iX8_dealt_34 : ab_at mX8_dealt 34 (.getfield 40) 3 37 := ⟨by decide +kernel, rfl⟩
theorem iX8_dealt_37 : ab_at mX8_dealt 37 (.aload_n 0) 1 38 := ⟨by decide +kernel, rfl⟩
theorem iX8_dealt_38 : ab_at mX8_dealt 38 (.getfield 33) 3 41 := ⟨by decide +kernel, rfl⟩
theorem iX8_dealt_41 : ab_at mX8_dealt 41 (.invokevirtual 170) 3 44 := ⟨by decide +kernel, rfl⟩
theorem iX8_dealt_44 : ab_at mX8_dealt 44 (.ireturn) 1 45 := ⟨by decide +kernel, rfl⟩
theorem iX8_dealt_45 : ab_at mX8_dealt 45 (.aload_n 0) 1 46 := ⟨by decide +kernel, rfl⟩
theorem iX8_dealt_46 : ab_at mX8_dealt 46 (.getfield 40) 3 49 := ⟨by decide +kernel, rfl⟩
theorem iX8_dealt_49 : ab_at mX8_dealt 49 (.invokevirtual 174) 3 52 := ⟨by decide +kernel, rfl⟩
theorem iX8_dealt_52 : ab_at mX8_dealt 52 (.istore_n 3) 1 53 := ⟨by decide +kernel, rfl⟩
theorem iX8_dealt_53 : ab_at mX8_dealt 53 (.iload_n 2) 1 54 := ⟨by decide +kernel, rfl⟩
theorem iX8_dealt_54 : ab_at mX8_dealt 54 (.iconst 1) 1 55 := ⟨by decide +kernel, rfl⟩
theorem iX8_dealt_55 : ab_bc mX8_dealt 55 .ne 58 62 := ⟨7, by decide +kernel, rfl, by decide⟩
theorem iX8_dealt_58 : ab_at mX8_dealt 58 (.iload_n 3) 1 59 := ⟨by decide +kernel, rfl⟩
theorem iX8_dealt_59 : ab_bg mX8_dealt 59 71 := ⟨12, by decide +kernel, by decide⟩
theorem iX8_dealt_62 : ab_at mX8_dealt 62 (.aload_n 0) 1 63 := ⟨by decide +kernel, rfl⟩
theorem iX8_dealt_63 : ab_at mX8_dealt 63 (.getfield 40) 3 66 := ⟨by decide +kernel, rfl⟩
theorem iX8_dealt_66 : ab_at mX8_dealt 66 (.getfield 178) 3 69 := ⟨by decide +kernel, rfl⟩
theorem iX8_dealt_69 : ab_at mX8_dealt 69 (.iload_n 3) 1 70 := ⟨by decide +kernel, rfl⟩
theorem iX8_dealt_70 : ab_at mX8_dealt 70 (.isub) 1 71 := ⟨by decide +kernel, rfl⟩
theorem iX8_dealt_71 : ab_at mX8_dealt 71 (.ireturn) 1 72 := ⟨by decide +kernel, rfl⟩
theorem iX8_weaver_0 : ab_at mX8_weaver 0 (.iload_n 1) 1 1 := ⟨by decide +kernel, rfl⟩
theorem iX8_weaver_1 : ab_at mX8_weaver 1 (.iconst 1) 1 2 := ⟨by decide +kernel, rfl⟩
theorem iX8_weaver_2 : ab_at mX8_weaver 2 (.bipush 20) 2 4 := ⟨by decide +kernel, rfl⟩
theorem iX8_weaver_4 : ab_at mX8_weaver 4 (.invokestatic 51) 3 7 := ⟨by decide +kernel, rfl⟩
theorem iX8_weaver_7 : ab_bi mX8_weaver 7 .ne 10 12 := ⟨5, by decide +kernel, rfl, by decide⟩
theorem iX8_weaver_10 : ab_at mX8_weaver 10 (.iconst (-1)) 1 11 := ⟨by decide +kernel, rfl⟩
theorem iX8_weaver_11 : ab_at mX8_weaver 11 (.ireturn) 1 12 := ⟨by decide +kernel, rfl⟩
theorem iX8_weaver_12 : ab_at mX8_weaver 12 (.aload_n 0) 1 13 := ⟨by decide +kernel, rfl⟩
theorem iX8_weaver_13 : ab_at mX8_weaver 13 (.getfield 10) 3 16 := ⟨by decide +kernel, rfl⟩
theorem iX8_weaver_16 : ab_at mX8_weaver 16 (.getfield 181) 3 19 := ⟨by decide +kernel, rfl⟩
theorem iX8_weaver_19 : ab_at mX8_weaver 19 (.getfield 185) 3 22 := ⟨by decide +kernel, rfl⟩
theorem iX8_weaver_22 : ab_at mX8_weaver 22 (.iconst 4) 1 23 := ⟨by decide +kernel, rfl⟩
theorem iX8_weaver_23 : ab_bc mX8_weaver 23 .ne 26 29 := ⟨6, by decide +kernel, rfl, by decide⟩
theorem iX8_weaver_26 : ab_at mX8_weaver 26 (.bipush (-2)) 2 28 := ⟨by decide +kernel, rfl⟩
theorem iX8_weaver_28 : ab_at mX8_weaver 28 (.ireturn) 1 29 := ⟨by decide +kernel, rfl⟩
theorem iX8_weaver_29 : ab_at mX8_weaver 29 (.aload_n 0) 1 30 := ⟨by decide +kernel, rfl⟩
theorem iX8_weaver_30 : ab_at mX8_weaver 30 (.getfield 10) 3 33 := ⟨by decide +kernel, rfl⟩
theorem iX8_weaver_33 : ab_at mX8_weaver 33 (.getfield 65) 3 36 := ⟨by decide +kernel, rfl⟩
theorem iX8_weaver_36 : ab_at mX8_weaver 36 (.invokevirtual 69) 3 39 := ⟨by decide +kernel, rfl⟩
theorem iX8_weaver_39 : ab_at mX8_weaver 39 (.aload_n 0) 1 40 := ⟨by decide +kernel, rfl⟩
theorem iX8_weaver_40 : ab_at mX8_weaver 40 (.getfield 10) 3 43 := ⟨by decide +kernel, rfl⟩
theorem iX8_weaver_43 : ab_at mX8_weaver 43 (.getfield 181) 3 46 := ⟨by decide +kernel, rfl⟩
theorem iX8_weaver_46 : ab_at mX8_weaver 46 (.iload_n 1) 1 47 := ⟨by decide +kernel, rfl⟩
theorem iX8_weaver_47 : ab_at mX8_weaver 47 (.iload_n 2) 1 48 := ⟨by decide +kernel, rfl⟩
theorem iX8_weaver_48 : ab_at mX8_weaver 48 (.invokevirtual 188) 3 51 := ⟨by decide +kernel, rfl⟩
theorem iX8_weaver_51 : ab_at mX8_weaver 51 (.ireturn) 1 52 := ⟨by decide +kernel, rfl⟩
theorem iX8_speed_0 : ab_at mX8_speed 0 (.iload_n 1) 1 1 := ⟨by decide +kernel, rfl⟩
theorem iX8_speed_1 : ab_at mX8_speed 1 (.aload_n 0) 1 2 := ⟨by decide +kernel, rfl⟩
theorem iX8_speed_2 : ab_at mX8_speed 2 (.getfield 10) 3 5 := ⟨by decide +kernel, rfl⟩
theorem iX8_speed_5 : ab_at mX8_speed 5 (.getfield 181) 3 8 := ⟨by decide +kernel, rfl⟩
theorem iX8_speed_8 : ab_at mX8_speed 8 (.getfield 185) 3 11 := ⟨by decide +kernel, rfl⟩
theorem iX8_speed_11 : ab_at mX8_speed 11 (.invokestatic 132) 3 14 := ⟨by decide +kernel, rfl⟩
theorem iX8_speed_14 : ab_bi mX8_speed 14 .eq 17 27 := ⟨13, by decide +kernel, rfl, by decide⟩
theorem iX8_speed_17 : ab_at mX8_speed 17 (.iload_n 2) 1 18 := ⟨by decide +kernel, rfl⟩
theorem iX8_speed_18 : ab_at mX8_speed 18 (.iconst 1) 1 19 := ⟨by decide +kernel, rfl⟩
theorem iX8_speed_19 : ab_at mX8_speed 19 (.bipush 20) 2 21 := ⟨by decide +kernel, rfl⟩
theorem iX8_speed_21 : ab_at mX8_speed 21 (.invokestatic 51) 3 24 := ⟨by decide +kernel, rfl⟩
theorem iX8_speed_24 : ab_bi mX8_speed 24 .ne 27 29 := ⟨5, by decide +kernel, rfl, by decide⟩
theorem iX8_speed_27 : ab_at mX8_speed 27 (.iconst (-1)) 1 28 := ⟨by decide +kernel, rfl⟩
theorem iX8_speed_28 : ab_at mX8_speed 28 (.ireturn) 1 29 := ⟨by decide +kernel, rfl⟩
theorem iX8_speed_29 : ab_at mX8_speed 29 (.aload_n 0) 1 30 := ⟨by decide +kernel, rfl⟩
theorem iX8_speed_30 : ab_at mX8_speed 30 (.getfield 10) 3 33 := ⟨by decide +kernel, rfl⟩
theorem iX8_speed_33 : ab_at mX8_speed 33 (.getfield 181) 3 36 := ⟨by decide +kernel, rfl⟩
theorem iX8_speed_36 : ab_at mX8_speed 36 (.getfield 191) 3 39 := ⟨by decide +kernel, rfl⟩
theorem iX8_speed_39 : ab_at mX8_speed 39 (.iload_n 1) 1 40 := ⟨by decide +kernel, rfl⟩
theorem iX8_speed_40 : ab_at mX8_speed 40 (.iaload) 1 41 := ⟨by decide +kernel, rfl⟩
theorem iX8_speed_41 : ab_at mX8_speed 41 (.istore_n 3) 1 42 := ⟨by decide +kernel, rfl⟩
theorem iX8_speed_42 : ab_at mX8_speed 42 (.aload_n 0) 1 43 := ⟨by decide +kernel, rfl⟩
theorem iX8_speed_43 : ab_at mX8_speed 43 (.getfield 10) 3 46 := ⟨by decide +kernel, rfl⟩
theorem iX8_speed_46 : ab_at mX8_speed 46 (.getfield 181) 3 49 := ⟨by decide +kernel, rfl⟩
theorem iX8_speed_49 : ab_at mX8_speed 49 (.getfield 191) 3 52 := ⟨by decide +kernel, rfl⟩
theorem iX8_speed_52 : ab_at mX8_speed 52 (.iload_n 1) 1 53 := ⟨by decide +kernel, rfl⟩
theorem iX8_speed_53 : ab_at mX8_speed 53 (.iload_n 2) 1 54 := ⟨by decide +kernel, rfl⟩
theorem iX8_speed_54 : ab_at mX8_speed 54 (.iastore) 1 55 := ⟨by decide +kernel, rfl⟩
theorem iX8_speed_55 : ab_at mX8_speed 55 (.aload_n 0) 1 56 := ⟨by decide +kernel, rfl⟩
theorem iX8_speed_56 : ab_at mX8_speed 56 (.getfield 10) 3 59 := ⟨by decide +kernel, rfl⟩
theorem iX8_speed_59 : ab_at mX8_speed 59 (.getfield 65) 3 62 := ⟨by decide +kernel, rfl⟩
theorem iX8_speed_62 : ab_at mX8_speed 62 (.invokevirtual 69) 3 65 := ⟨by decide +kernel, rfl⟩
theorem iX8_speed_65 : ab_at mX8_speed 65 (.iload_n 3) 1 66 := ⟨by decide +kernel, rfl⟩
theorem iX8_speed_66 : ab_at mX8_speed 66 (.ireturn) 1 67 := ⟨by decide +kernel, rfl⟩
theorem iX8_share_0 : ab_at mX8_share 0 (.iload_n 1) 1 1 := ⟨by decide +kernel, rfl⟩
theorem iX8_share_1 : ab_at mX8_share 1 (.iconst 0) 1 2 := ⟨by decide +kernel, rfl⟩
theorem iX8_share_2 : ab_at mX8_share 2 (.iconst 1) 1 3 := ⟨by decide +kernel, rfl⟩
theorem iX8_share_3 : ab_at mX8_share 3 (.invokestatic 51) 3 6 := ⟨by decide +kernel, rfl⟩
theorem iX8_share_6 : ab_bi mX8_share 6 .ne 9 11 := ⟨5, by decide +kernel, rfl, by decide⟩
theorem iX8_share_9 : ab_at mX8_share 9 (.iconst (-1)) 1 10 := ⟨by decide +kernel, rfl⟩
theorem iX8_share_10 : ab_at mX8_share 10 (.ireturn) 1 11 := ⟨by decide +kernel, rfl⟩
theorem iX8_share_11 : ab_at mX8_share 11 (.aload_n 0) 1 12 := ⟨by decide +kernel, rfl⟩
theorem iX8_share_12 : ab_at mX8_share 12 (.getfield 47) 3 15 := ⟨by decide +kernel, rfl⟩
theorem iX8_share_15 : ab_at mX8_share 15 (.aload_n 0) 1 16 := ⟨by decide +kernel, rfl⟩
theorem iX8_share_16 : ab_at mX8_share 16 (.getfield 10) 3 19 := ⟨by decide +kernel, rfl⟩
theorem iX8_share_19 : ab_at mX8_share 19 (.getfield 55) 3 22 := ⟨by decide +kernel, rfl⟩
theorem iX8_share_22 : ab_at mX8_share 22 (.aload_n 0) 1 23 := ⟨by decide +kernel, rfl⟩
theorem iX8_share_23 : ab_at mX8_share 23 (.getfield 10) 3 26 := ⟨by decide +kernel, rfl⟩
theorem iX8_share_26 : ab_at mX8_share 26 (.getfield 181) 3 29 := ⟨by decide +kernel, rfl⟩
theorem iX8_share_29 : ab_at mX8_share 29 (.invokevirtual 194) 3 32 := ⟨by decide +kernel, rfl⟩
theorem iX8_share_32 : ab_bi mX8_share 32 .ne 35 38 := ⟨6, by decide +kernel, rfl, by decide⟩
theorem iX8_share_35 : ab_at mX8_share 35 (.bipush (-4)) 2 37 := ⟨by decide +kernel, rfl⟩
theorem iX8_share_37 : ab_at mX8_share 37 (.ireturn) 1 38 := ⟨by decide +kernel, rfl⟩
theorem iX8_share_38 : ab_at mX8_share 38 (.iload_n 1) 1 39 := ⟨by decide +kernel, rfl⟩
theorem iX8_share_39 : ab_bi mX8_share 39 .ne 42 52 := ⟨13, by decide +kernel, rfl, by decide⟩
theorem iX8_share_42 : ab_at mX8_share 42 (.aload_n 0) 1 43 := ⟨by decide +kernel, rfl⟩
theorem iX8_share_43 : ab_at mX8_share 43 (.getfield 47) 3 46 := ⟨by decide +kernel, rfl⟩
theorem iX8_share_46 : ab_at mX8_share 46 (.getfield 197) 3 49 := ⟨by decide +kernel, rfl⟩
theorem iX8_share_49 : ab_bg mX8_share 49 59 := ⟨10, by decide +kernel, by decide⟩
theorem iX8_share_52 : ab_at mX8_share 52 (.aload_n 0) 1 53 := ⟨by decide +kernel, rfl⟩
theorem iX8_share_53 : ab_at mX8_share 53 (.getfield 47) 3 56 := ⟨by decide +kernel, rfl⟩
theorem iX8_share_56 : ab_at mX8_share 56 (.getfield 200) 3 59 := ⟨by decide +kernel, rfl⟩
theorem iX8_share_59 : ab_at mX8_share 59 (.ireturn) 1 60 := ⟨by decide +kernel, rfl⟩
theorem iX8_who_0 : ab_at mX8_who 0 (.iload_n 1) 1 1 := ⟨by decide +kernel, rfl⟩
theorem iX8_who_1 : ab_at mX8_who 1 (.aload_n 0) 1 2 := ⟨by decide +kernel, rfl⟩
theorem iX8_who_2 : ab_at mX8_who 2 (.getfield 10) 3 5 := ⟨by decide +kernel, rfl⟩
theorem iX8_who_5 : ab_at mX8_who 5 (.getfield 55) 3 8 := ⟨by decide +kernel, rfl⟩
theorem iX8_who_8 : ab_at mX8_who 8 (.getfield 74) 3 11 := ⟨by decide +kernel, rfl⟩
theorem iX8_who_11 : ab_at mX8_who 11 (.invokestatic 132) 3 14 := ⟨by decide +kernel, rfl⟩
theorem iX8_who_14 : ab_bi mX8_who 14 .ne 17 19 := ⟨5, by decide +kernel, rfl, by decide⟩
theorem iX8_who_17 : ab_at mX8_who 17 (.iconst (-1)) 1 18 := ⟨by decide +kernel, rfl⟩
theorem iX8_who_18 : ab_at mX8_who 18 (.ireturn) 1 19 := ⟨by decide +kernel, rfl⟩
theorem iX8_who_19 : ab_at mX8_who 19 (.aload_n 0) 1 20 := ⟨by decide +kernel, rfl⟩
theorem iX8_who_20 : ab_at mX8_who 20 (.getfield 47) 3 23 := ⟨by decide +kernel, rfl⟩
theorem iX8_who_23 : ab_at mX8_who 23 (.aload_n 0) 1 24 := ⟨by decide +kernel, rfl⟩
theorem iX8_who_24 : ab_at mX8_who 24 (.getfield 10) 3 27 := ⟨by decide +kernel, rfl⟩
theorem iX8_who_27 : ab_at mX8_who 27 (.getfield 55) 3 30 := ⟨by decide +kernel, rfl⟩
theorem iX8_who_30 : ab_at mX8_who 30 (.aload_n 0) 1 31 := ⟨by decide +kernel, rfl⟩
theorem iX8_who_31 : ab_at mX8_who 31 (.getfield 10) 3 34 := ⟨by decide +kernel, rfl⟩
theorem iX8_who_34 : ab_at mX8_who 34 (.getfield 181) 3 37 := ⟨by decide +kernel, rfl⟩
theorem iX8_who_37 : ab_at mX8_who 37 (.invokevirtual 194) 3 40 := ⟨by decide +kernel, rfl⟩
theorem iX8_who_40 : ab_bi mX8_who 40 .eq 43 54 := ⟨14, by decide +kernel, rfl, by decide⟩
theorem iX8_who_43 : ab_at mX8_who 43 (.aload_n 0) 1 44 := ⟨by decide +kernel, rfl⟩
theorem iX8_who_44 : ab_at mX8_who 44 (.getfield 47) 3 47 := ⟨by decide +kernel, rfl⟩
theorem iX8_who_47 : ab_at mX8_who 47 (.iload_n 1) 1 48 := ⟨by decide +kernel, rfl⟩
theorem iX8_who_48 : ab_at mX8_who 48 (.invokevirtual 203) 3 51 := ⟨by decide +kernel, rfl⟩
theorem iX8_who_51 : ab_bg mX8_who 51 56 := ⟨5, by decide +kernel, by decide⟩
theorem iX8_who_54 : ab_at mX8_who 54 (.bipush (-4)) 2 56 := ⟨by decide +kernel, rfl⟩
theorem iX8_who_56 : ab_at mX8_who 56 (.ireturn) 1 57 := ⟨by decide +kernel, rfl⟩
theorem iX8_up_0 : ab_at mX8_up 0 (.aload_n 0) 1 1 := ⟨by decide +kernel, rfl⟩
theorem iX8_up_1 : ab_at mX8_up 1 (.getfield 47) 3 4 := ⟨by decide +kernel, rfl⟩
theorem iX8_up_4 : ab_at mX8_up 4 (.aload_n 0) 1 5 := ⟨by decide +kernel, rfl⟩
theorem iX8_up_5 : ab_at mX8_up 5 (.getfield 10) 3 8 := ⟨by decide +kernel, rfl⟩
theorem iX8_up_8 : ab_at mX8_up 8 (.getfield 55) 3 11 := ⟨by decide +kernel, rfl⟩
theorem iX8_up_11 : ab_at mX8_up 11 (.aload_n 0) 1 12 := ⟨by decide +kernel, rfl⟩
theorem iX8_up_12 : ab_at mX8_up 12 (.getfield 10) 3 15 := ⟨by decide +kernel, rfl⟩
theorem iX8_up_15 : ab_at mX8_up 15 (.getfield 181) 3 18 := ⟨by decide +kernel, rfl⟩
theorem iX8_up_18 : ab_at mX8_up 18 (.invokevirtual 194) 3 21 := ⟨by decide +kernel, rfl⟩
theorem iX8_up_21 : ab_bi mX8_up 21 .ne 24 27 := ⟨6, by decide +kernel, rfl, by decide⟩
theorem iX8_up_24 : ab_at mX8_up 24 (.bipush (-4)) 2 26 := ⟨by decide +kernel, rfl⟩
theorem iX8_up_26 : ab_at mX8_up 26 (.ireturn) 1 27 := ⟨by decide +kernel, rfl⟩
theorem iX8_up_27 : ab_at mX8_up 27 (.aload_n 0) 1 28 := ⟨by decide +kernel, rfl⟩
theorem iX8_up_28 : ab_at mX8_up 28 (.getfield 10) 3 31 := ⟨by decide +kernel, rfl⟩
theorem iX8_up_31 : ab_at mX8_up 31 (.getfield 65) 3 34 := ⟨by decide +kernel, rfl⟩
theorem iX8_up_34 : ab_at mX8_up 34 (.aload_n 0) 1 35 := ⟨by decide +kernel, rfl⟩
theorem iX8_up_35 : ab_at mX8_up 35 (.getfield 47) 3 38 := ⟨by decide +kernel, rfl⟩
theorem iX8_up_38 : ab_at mX8_up 38 (.aload_n 0) 1 39 := ⟨by decide +kernel, rfl⟩
theorem iX8_up_39 : ab_at mX8_up 39 (.getfield 10) 3 42 := ⟨by decide +kernel, rfl⟩
theorem iX8_up_42 : ab_at mX8_up 42 (.getfield 55) 3 45 := ⟨by decide +kernel, rfl⟩
theorem iX8_up_45 : ab_at mX8_up 45 (.invokevirtual 206) 3 48 := ⟨by decide +kernel, rfl⟩
theorem iX8_up_48 : ab_at mX8_up 48 (.aload_n 0) 1 49 := ⟨by decide +kernel, rfl⟩
theorem iX8_up_49 : ab_at mX8_up 49 (.getfield 10) 3 52 := ⟨by decide +kernel, rfl⟩
theorem iX8_up_52 : ab_at mX8_up 52 (.getfield 65) 3 55 := ⟨by decide +kernel, rfl⟩
theorem iX8_up_55 : ab_at mX8_up 55 (.getfield 210) 3 58 := ⟨by decide +kernel, rfl⟩
theorem iX8_up_58 : ab_at mX8_up 58 (.ireturn) 1 59 := ⟨by decide +kernel, rfl⟩
theorem iX8_days_0 : ab_at mX8_days 0 (.iload_n 1) 1 1 := ⟨by decide +kernel, rfl⟩
theorem iX8_days_1 : ab_at mX8_days 1 (.iconst 1) 1 2 := ⟨by decide +kernel, rfl⟩
theorem iX8_days_2 : ab_at mX8_days 2 (.bipush 100) 2 4 := ⟨by decide +kernel, rfl⟩
theorem iX8_days_4 : ab_at mX8_days 4 (.invokestatic 51) 3 7 := ⟨by decide +kernel, rfl⟩
theorem iX8_days_7 : ab_bi mX8_days 7 .ne 10 12 := ⟨5, by decide +kernel, rfl, by decide⟩
theorem iX8_days_10 : ab_at mX8_days 10 (.iconst (-1)) 1 11 := ⟨by decide +kernel, rfl⟩
theorem iX8_days_11 : ab_at mX8_days 11 (.ireturn) 1 12 := ⟨by decide +kernel, rfl⟩
theorem iX8_days_12 : ab_at mX8_days 12 (.aload_n 0) 1 13 := ⟨by decide +kernel, rfl⟩
theorem iX8_days_13 : ab_at mX8_days 13 (.getfield 10) 3 16 := ⟨by decide +kernel, rfl⟩
theorem iX8_days_16 : ab_at mX8_days 16 (.getfield 65) 3 19 := ⟨by decide +kernel, rfl⟩
theorem iX8_days_19 : ab_at mX8_days 19 (.invokevirtual 211) 3 22 := ⟨by decide +kernel, rfl⟩
theorem iX8_days_22 : ab_bi mX8_days 22 .ne 25 28 := ⟨6, by decide +kernel, rfl, by decide⟩
theorem iX8_days_25 : ab_at mX8_days 25 (.bipush (-3)) 2 27 := ⟨by decide +kernel, rfl⟩
theorem iX8_days_27 : ab_at mX8_days 27 (.ireturn) 1 28 := ⟨by decide +kernel, rfl⟩
theorem iX8_days_28 : ab_at mX8_days 28 (.iconst 0) 1 29 := ⟨by decide +kernel, rfl⟩
theorem iX8_days_29 : ab_at mX8_days 29 (.istore_n 2) 1 30 := ⟨by decide +kernel, rfl⟩
theorem iX8_days_30 : ab_at mX8_days 30 (.iload_n 2) 1 31 := ⟨by decide +kernel, rfl⟩
theorem iX8_days_31 : ab_at mX8_days 31 (.iload_n 1) 1 32 := ⟨by decide +kernel, rfl⟩
theorem iX8_days_32 : ab_bc mX8_days 32 .ge 35 62 := ⟨30, by decide +kernel, rfl, by decide⟩
theorem iX8_days_35 : ab_at mX8_days 35 (.aload_n 0) 1 36 := ⟨by decide +kernel, rfl⟩
theorem iX8_days_36 : ab_at mX8_days 36 (.getfield 10) 3 39 := ⟨by decide +kernel, rfl⟩
theorem iX8_days_39 : ab_at mX8_days 39 (.getfield 65) 3 42 := ⟨by decide +kernel, rfl⟩
theorem iX8_days_42 : ab_at mX8_days 42 (.aload_n 0) 1 43 := ⟨by decide +kernel, rfl⟩
theorem iX8_days_43 : ab_at mX8_days 43 (.getfield 10) 3 46 := ⟨by decide +kernel, rfl⟩
theorem iX8_days_46 : ab_at mX8_days 46 (.getfield 181) 3 49 := ⟨by decide +kernel, rfl⟩
theorem iX8_days_49 : ab_at mX8_days 49 (.aload_n 0) 1 50 := ⟨by decide +kernel, rfl⟩
theorem iX8_days_50 : ab_at mX8_days 50 (.getfield 27) 3 53 := ⟨by decide +kernel, rfl⟩
theorem iX8_days_53 : ab_at mX8_days 53 (.invokevirtual 215) 3 56 := ⟨by decide +kernel, rfl⟩
theorem iX8_days_56 : ab_at mX8_days 56 (.iinc 2 1) 3 59 := ⟨by decide +kernel, rfl⟩
theorem iX8_days_59 : ab_bg mX8_days 59 30 := ⟨-29, by decide +kernel, by decide⟩
theorem iX8_days_62 : ab_at mX8_days 62 (.aload_n 0) 1 63 := ⟨by decide +kernel, rfl⟩
theorem iX8_days_63 : ab_at mX8_days 63 (.getfield 10) 3 66 := ⟨by decide +kernel, rfl⟩
theorem iX8_days_66 : ab_at mX8_days 66 (.getfield 65) 3 69 := ⟨by decide +kernel, rfl⟩
theorem iX8_days_69 : ab_at mX8_days 69 (.invokevirtual 219) 3 72 := ⟨by decide +kernel, rfl⟩
theorem iX8_days_72 : ab_at mX8_days 72 (.ireturn) 1 73 := ⟨by decide +kernel, rfl⟩
theorem iX8_strip_0 : ab_at mX8_strip 0 (.aload_n 0) 1 1 := ⟨by decide +kernel, rfl⟩
theorem iX8_strip_1 : ab_at mX8_strip 1 (.getfield 10) 3 4 := ⟨by decide +kernel, rfl⟩
theorem iX8_strip_4 : ab_at mX8_strip 4 (.getfield 65) 3 7 := ⟨by decide +kernel, rfl⟩
theorem iX8_strip_7 : ab_at mX8_strip 7 (.astore_n 3) 1 8 := ⟨by decide +kernel, rfl⟩
theorem iX8_strip_8 : ab_at mX8_strip 8 (.aload_n 3) 1 9 := ⟨by decide +kernel, rfl⟩
theorem iX8_strip_9 : ab_at mX8_strip 9 (.invokevirtual 211) 3 12 := ⟨by decide +kernel, rfl⟩
theorem iX8_strip_12 : ab_bi mX8_strip 12 .ne 15 18 := ⟨6, by decide +kernel, rfl, by decide⟩
theorem iX8_strip_15 : ab_at mX8_strip 15 (.bipush (-3)) 2 17 := ⟨by decide +kernel, rfl⟩
theorem iX8_strip_17 : ab_at mX8_strip 17 (.ireturn) 1 18 := ⟨by decide +kernel, rfl⟩
theorem iX8_strip_18 : ab_at mX8_strip 18 (.iload_n 1) 1 19 := ⟨by decide +kernel, rfl⟩
theorem iX8_strip_19 : ab_at mX8_strip 19 (.aload_n 3) 1 20 := ⟨by decide +kernel, rfl⟩
theorem iX8_strip_20 : ab_at mX8_strip 20 (.getfield 210) 3 23 := ⟨by decide +kernel, rfl⟩
theorem iX8_strip_23 : ab_at mX8_strip 23 (.invokestatic 132) 3 26 := ⟨by decide +kernel, rfl⟩
theorem iX8_strip_26 : ab_bi mX8_strip 26 .ne 29 31 := ⟨5, by decide +kernel, rfl, by decide⟩
theorem iX8_strip_29 : ab_at mX8_strip 29 (.iconst (-1)) 1 30 := ⟨by decide +kernel, rfl⟩
theorem iX8_strip_30 : ab_at mX8_strip 30 (.ireturn) 1 31 := ⟨by decide +kernel, rfl⟩
theorem iX8_strip_31 : ab_at mX8_strip 31 (.iload_n 2) 1 32 := ⟨by decide +kernel, rfl⟩
theorem iX8_strip_32 : decode mX8_strip.2.1 32 = .ok (.tableswitch 102 0 6 #[44, 51, 58, 65, 72, 78, 84], 44) := by decide +kernel
theorem iX8_strip_76 : ab_at mX8_strip 76 (.aload_n 3) 1 77 := ⟨by decide +kernel, rfl⟩
theorem iX8_strip_77 : ab_at mX8_strip 77 (.getfield 222) 3 80 := ⟨by decide +kernel, rfl⟩
theorem iX8_strip_80 : ab_at mX8_strip 80 (.iload_n 1) 1 81 := ⟨by decide +kernel, rfl⟩
theorem iX8_strip_81 : ab_at mX8_strip 81 (.iaload) 1 82 := ⟨by decide +kernel, rfl⟩
theorem iX8_strip_82 : ab_at mX8_strip 82 (.ireturn) 1 83 := ⟨by decide +kernel, rfl⟩
theorem iX8_strip_83 : ab_at mX8_strip 83 (.aload_n 3) 1 84 := ⟨by decide +kernel, rfl⟩
theorem iX8_strip_84 : ab_at mX8_strip 84 (.getfield 224) 3 87 := ⟨by decide +kernel, rfl⟩
theorem iX8_strip_87 : ab_at mX8_strip 87 (.iload_n 1) 1 88 := ⟨by decide +kernel, rfl⟩
theorem iX8_strip_88 : ab_at mX8_strip 88 (.iaload) 1 89 := ⟨by decide +kernel, rfl⟩
theorem iX8_strip_89 : ab_at mX8_strip 89 (.ireturn) 1 90 := ⟨by decide +kernel, rfl⟩
theorem iX8_strip_90 : ab_at mX8_strip 90 (.aload_n 3) 1 91 := ⟨by decide +kernel, rfl⟩
theorem iX8_strip_91 : ab_at mX8_strip 91 (.getfield 227) 3 94 := ⟨by decide +kernel, rfl⟩
theorem iX8_strip_94 : ab_at mX8_strip 94 (.iload_n 1) 1 95 := ⟨by decide +kernel, rfl⟩
theorem iX8_strip_95 : ab_at mX8_strip 95 (.iaload) 1 96 := ⟨by decide +kernel, rfl⟩
theorem iX8_strip_96 : ab_at mX8_strip 96 (.ireturn) 1 97 := ⟨by decide +kernel, rfl⟩
theorem iX8_strip_97 : ab_at mX8_strip 97 (.aload_n 3) 1 98 := ⟨by decide +kernel, rfl⟩
theorem iX8_strip_98 : ab_at mX8_strip 98 (.getfield 230) 3 101 := ⟨by decide +kernel, rfl⟩
theorem iX8_strip_101 : ab_at mX8_strip 101 (.iload_n 1) 1 102 := ⟨by decide +kernel, rfl⟩
theorem iX8_strip_102 : ab_at mX8_strip 102 (.iaload) 1 103 := ⟨by decide +kernel, rfl⟩
theorem iX8_strip_103 : ab_at mX8_strip 103 (.ireturn) 1 104 := ⟨by decide +kernel, rfl⟩
theorem iX8_strip_104 : ab_at mX8_strip 104 (.aload_n 3) 1 105 := ⟨by decide +kernel, rfl⟩
theorem iX8_strip_105 : ab_at mX8_strip 105 (.iload_n 1) 1 106 := ⟨by decide +kernel, rfl⟩
theorem iX8_strip_106 : ab_at mX8_strip 106 (.invokevirtual 233) 3 109 := ⟨by decide +kernel, rfl⟩
theorem iX8_strip_109 : ab_at mX8_strip 109 (.ireturn) 1 110 := ⟨by decide +kernel, rfl⟩
theorem iX8_strip_110 : ab_at mX8_strip 110 (.aload_n 3) 1 111 := ⟨by decide +kernel, rfl⟩
theorem iX8_strip_111 : ab_at mX8_strip 111 (.iload_n 1) 1 112 := ⟨by decide +kernel, rfl⟩
theorem iX8_strip_112 : ab_at mX8_strip 112 (.invokevirtual 236) 3 115 := ⟨by decide +kernel, rfl⟩
theorem iX8_strip_115 : ab_at mX8_strip 115 (.ireturn) 1 116 := ⟨by decide +kernel, rfl⟩
theorem iX8_strip_116 : ab_at mX8_strip 116 (.aload_n 3) 1 117 := ⟨by decide +kernel, rfl⟩
theorem iX8_strip_117 : ab_at mX8_strip 117 (.iload_n 1) 1 118 := ⟨by decide +kernel, rfl⟩
theorem iX8_strip_118 : ab_at mX8_strip 118 (.aload_n 0) 1 119 := ⟨by decide +kernel, rfl⟩
theorem iX8_strip_119 : ab_at mX8_strip 119 (.getfield 27) 3 122 := ⟨by decide +kernel, rfl⟩
theorem iX8_strip_122 : ab_at mX8_strip 122 (.invokevirtual 239) 3 125 := ⟨by decide +kernel, rfl⟩
theorem iX8_strip_125 : ab_bi mX8_strip 125 .eq 128 132 := ⟨7, by decide +kernel, rfl, by decide⟩
theorem iX8_strip_128 : ab_at mX8_strip 128 (.iconst 1) 1 129 := ⟨by decide +kernel, rfl⟩
theorem iX8_strip_129 : ab_bg mX8_strip 129 133 := ⟨4, by decide +kernel, by decide⟩
theorem iX8_strip_132 : ab_at mX8_strip 132 (.iconst 0) 1 133 := ⟨by decide +kernel, rfl⟩
theorem iX8_strip_133 : ab_at mX8_strip 133 (.ireturn) 1 134 := ⟨by decide +kernel, rfl⟩
theorem iX8_strip_134 : ab_at mX8_strip 134 (.iconst (-1)) 1 135 := ⟨by decide +kernel, rfl⟩
theorem iX8_strip_135 : ab_at mX8_strip 135 (.ireturn) 1 136 := ⟨by decide +kernel, rfl⟩
theorem iX8_woven_0 : ab_at mX8_woven 0 (.aload_n 0) 1 1 := ⟨by decide +kernel, rfl⟩
theorem iX8_woven_1 : ab_at mX8_woven 1 (.getfield 10) 3 4 := ⟨by decide +kernel, rfl⟩
theorem iX8_woven_4 : ab_at mX8_woven 4 (.getfield 65) 3 7 := ⟨by decide +kernel, rfl⟩
theorem iX8_woven_7 : ab_at mX8_woven 7 (.invokevirtual 211) 3 10 := ⟨by decide +kernel, rfl⟩
theorem iX8_woven_10 : ab_bi mX8_woven 10 .ne 13 16 := ⟨6, by decide +kernel, rfl, by decide⟩
theorem iX8_woven_13 : ab_at mX8_woven 13 (.bipush (-3)) 2 15 := ⟨by decide +kernel, rfl⟩
theorem iX8_woven_15 : ab_at mX8_woven 15 (.ireturn) 1 16 := ⟨by decide +kernel, rfl⟩
theorem iX8_woven_16 : ab_at mX8_woven 16 (.aload_n 0) 1 17 := ⟨by decide +kernel, rfl⟩
theorem iX8_woven_17 : ab_at mX8_woven 17 (.getfield 10) 3 20 := ⟨by decide +kernel, rfl⟩
theorem iX8_woven_20 : ab_at mX8_woven 20 (.getfield 55) 3 23 := ⟨by decide +kernel, rfl⟩
theorem iX8_woven_23 : ab_at mX8_woven 23 (.iload_n 1) 1 24 := ⟨by decide +kernel, rfl⟩
theorem iX8_woven_24 : ab_at mX8_woven 24 (.iload_n 2) 1 25 := ⟨by decide +kernel, rfl⟩
theorem iX8_woven_25 : ab_at mX8_woven 25 (.invokevirtual 94) 3 28 := ⟨by decide +kernel, rfl⟩
theorem iX8_woven_28 : ab_bi mX8_woven 28 .ne 31 33 := ⟨5, by decide +kernel, rfl, by decide⟩
theorem iX8_woven_31 : ab_at mX8_woven 31 (.iconst (-1)) 1 32 := ⟨by decide +kernel, rfl⟩
theorem iX8_woven_32 : ab_at mX8_woven 32 (.ireturn) 1 33 := ⟨by decide +kernel, rfl⟩
theorem iX8_woven_33 : ab_at mX8_woven 33 (.aload_n 0) 1 34 := ⟨by decide +kernel, rfl⟩
theorem iX8_woven_34 : ab_at mX8_woven 34 (.getfield 10) 3 37 := ⟨by decide +kernel, rfl⟩
theorem iX8_woven_37 : ab_at mX8_woven 37 (.getfield 65) 3 40 := ⟨by decide +kernel, rfl⟩
theorem iX8_woven_40 : ab_at mX8_woven 40 (.aload_n 0) 1 41 := ⟨by decide +kernel, rfl⟩
theorem iX8_woven_41 : ab_at mX8_woven 41 (.getfield 10) 3 44 := ⟨by decide +kernel, rfl⟩
theorem iX8_woven_44 : ab_at mX8_woven 44 (.getfield 55) 3 47 := ⟨by decide +kernel, rfl⟩
theorem iX8_woven_47 : ab_at mX8_woven 47 (.iload_n 1) 1 48 := ⟨by decide +kernel, rfl⟩
theorem iX8_woven_48 : ab_at mX8_woven 48 (.iload_n 2) 1 49 := ⟨by decide +kernel, rfl⟩
theorem iX8_woven_49 : ab_at mX8_woven 49 (.invokevirtual 242) 3 52 := ⟨by decide +kernel, rfl⟩
theorem iX8_woven_52 : ab_bi mX8_woven 52 .eq 55 59 := ⟨7, by decide +kernel, rfl, by decide⟩
theorem iX8_woven_55 : ab_at mX8_woven 55 (.iconst 1) 1 56 := ⟨by decide +kernel, rfl⟩
theorem iX8_woven_56 : ab_bg mX8_woven 56 60 := ⟨4, by decide +kernel, by decide⟩
theorem iX8_woven_59 : ab_at mX8_woven 59 (.iconst 0) 1 60 := ⟨by decide +kernel, rfl⟩
theorem iX8_woven_60 : ab_at mX8_woven 60 (.ireturn) 1 61 := ⟨by decide +kernel, rfl⟩
theorem iX8_unweave_0 : ab_at mX8_unweave 0 (.aload_n 0) 1 1 := ⟨by decide +kernel, rfl⟩
theorem iX8_unweave_1 : ab_at mX8_unweave 1 (.getfield 10) 3 4 := ⟨by decide +kernel, rfl⟩
theorem iX8_unweave_4 : ab_at mX8_unweave 4 (.getfield 65) 3 7 := ⟨by decide +kernel, rfl⟩
theorem iX8_unweave_7 : ab_at mX8_unweave 7 (.invokevirtual 211) 3 10 := ⟨by decide +kernel, rfl⟩
theorem iX8_unweave_10 : ab_bi mX8_unweave 10 .ne 13 16 := ⟨6, by decide +kernel, rfl, by decide⟩
theorem iX8_unweave_13 : ab_at mX8_unweave 13 (.bipush (-3)) 2 15 := ⟨by decide +kernel, rfl⟩
theorem iX8_unweave_15 : ab_at mX8_unweave 15 (.ireturn) 1 16 := ⟨by decide +kernel, rfl⟩
theorem iX8_unweave_16 : ab_at mX8_unweave 16 (.iload_n 1) 1 17 := ⟨by decide +kernel, rfl⟩
theorem iX8_unweave_17 : ab_at mX8_unweave 17 (.aload_n 0) 1 18 := ⟨by decide +kernel, rfl⟩
theorem iX8_unweave_18 : ab_at mX8_unweave 18 (.getfield 10) 3 21 := ⟨by decide +kernel, rfl⟩
theorem iX8_unweave_21 : ab_at mX8_unweave 21 (.getfield 65) 3 24 := ⟨by decide +kernel, rfl⟩
theorem iX8_unweave_24 : ab_at mX8_unweave 24 (.getfield 210) 3 27 := ⟨by decide +kernel, rfl⟩
theorem iX8_unweave_27 : ab_at mX8_unweave 27 (.invokestatic 132) 3 30 := ⟨by decide +kernel, rfl⟩
theorem iX8_unweave_30 : ab_bi mX8_unweave 30 .eq 33 50 := ⟨20, by decide +kernel, rfl, by decide⟩
theorem iX8_unweave_33 : ab_at mX8_unweave 33 (.iload_n 2) 1 34 := ⟨by decide +kernel, rfl⟩
theorem iX8_unweave_34 : ab_at mX8_unweave 34 (.aload_n 0) 1 35 := ⟨by decide +kernel, rfl⟩
theorem iX8_unweave_35 : ab_at mX8_unweave 35 (.getfield 10) 3 38 := ⟨by decide +kernel, rfl⟩
theorem iX8_unweave_38 : ab_at mX8_unweave 38 (.getfield 55) 3 41 := ⟨by decide +kernel, rfl⟩
theorem iX8_unweave_41 : ab_at mX8_unweave 41 (.getfield 80) 3 44 := ⟨by decide +kernel, rfl⟩
theorem iX8_unweave_44 : ab_at mX8_unweave 44 (.invokestatic 132) 3 47 := ⟨by decide +kernel, rfl⟩
theorem iX8_unweave_47 : ab_bi mX8_unweave 47 .ne 50 52 := ⟨5, by decide +kernel, rfl, by decide⟩
theorem iX8_unweave_50 : ab_at mX8_unweave 50 (.iconst (-1)) 1 51 := ⟨by decide +kernel, rfl⟩
theorem iX8_unweave_51 : ab_at mX8_unweave 51 (.ireturn) 1 52 := ⟨by decide +kernel, rfl⟩
theorem iX8_unweave_52 : ab_at mX8_unweave 52 (.aload_n 0) 1 53 := ⟨by decide +kernel, rfl⟩
theorem iX8_unweave_53 : ab_at mX8_unweave 53 (.getfield 10) 3 56 := ⟨by decide +kernel, rfl⟩
theorem iX8_unweave_56 : ab_at mX8_unweave 56 (.getfield 65) 3 59 := ⟨by decide +kernel, rfl⟩
theorem iX8_unweave_59 : ab_at mX8_unweave 59 (.iload_n 1) 1 60 := ⟨by decide +kernel, rfl⟩
theorem iX8_unweave_60 : ab_at mX8_unweave 60 (.iload_n 2) 1 61 := ⟨by decide +kernel, rfl⟩
theorem iX8_unweave_61 : ab_at mX8_unweave 61 (.invokevirtual 246) 3 64 := ⟨by decide +kernel, rfl⟩
theorem iX8_unweave_64 : ab_at mX8_unweave 64 (.ireturn) 1 65 := ⟨by decide +kernel, rfl⟩
theorem iX8_many_0 : ab_at mX8_many 0 (.iload_n 1) 1 1 := ⟨by decide +kernel, rfl⟩
theorem iX8_many_1 : decode mX8_many.2.1 1 = .ok (.tableswitch 168 0 8 #[51, 62, 73, 95, 106, 117, 128, 146, 157], 51) := by decide +kernel
theorem iX8_many_52 : ab_at mX8_many 52 (.aload_n 0) 1 53 := ⟨by decide +kernel, rfl⟩
theorem iX8_many_53 : ab_at mX8_many 53 (.getfield 10) 3 56 := ⟨by decide +kernel, rfl⟩
theorem iX8_many_56 : ab_at mX8_many 56 (.getfield 55) 3 59 := ⟨by decide +kernel, rfl⟩
theorem iX8_many_59 : ab_at mX8_many 59 (.getfield 74) 3 62 := ⟨by decide +kernel, rfl⟩
theorem iX8_many_62 : ab_at mX8_many 62 (.ireturn) 1 63 := ⟨by decide +kernel, rfl⟩
theorem iX8_many_63 : ab_at mX8_many 63 (.aload_n 0) 1 64 := ⟨by decide +kernel, rfl⟩
theorem iX8_many_64 : ab_at mX8_many 64 (.getfield 10) 3 67 := ⟨by decide +kernel, rfl⟩
theorem iX8_many_67 : ab_at mX8_many 67 (.getfield 55) 3 70 := ⟨by decide +kernel, rfl⟩
theorem iX8_many_70 : ab_at mX8_many 70 (.getfield 80) 3 73 := ⟨by decide +kernel, rfl⟩
theorem iX8_many_73 : ab_at mX8_many 73 (.ireturn) 1 74 := ⟨by decide +kernel, rfl⟩
theorem iX8_many_74 : ab_at mX8_many 74 (.aload_n 0) 1 75 := ⟨by decide +kernel, rfl⟩
theorem iX8_many_75 : ab_at mX8_many 75 (.getfield 33) 3 78 := ⟨by decide +kernel, rfl⟩
theorem iX8_many_78 : ab_at mX8_many 78 (.aload_n 0) 1 79 := ⟨by decide +kernel, rfl⟩
theorem iX8_many_79 : ab_at mX8_many 79 (.getfield 10) 3 82 := ⟨by decide +kernel, rfl⟩
theorem iX8_many_82 : ab_at mX8_many 82 (.getfield 55) 3 85 := ⟨by decide +kernel, rfl⟩
theorem iX8_many_85 : ab_at mX8_many 85 (.invokevirtual 122) 3 88 := ⟨by decide +kernel, rfl⟩
theorem iX8_many_88 : ab_at mX8_many 88 (.aload_n 0) 1 89 := ⟨by decide +kernel, rfl⟩
theorem iX8_many_89 : ab_at mX8_many 89 (.getfield 33) 3 92 := ⟨by decide +kernel, rfl⟩
theorem iX8_many_92 : ab_at mX8_many 92 (.getfield 129) 3 95 := ⟨by decide +kernel, rfl⟩
theorem iX8_many_95 : ab_at mX8_many 95 (.ireturn) 1 96 := ⟨by decide +kernel, rfl⟩
theorem iX8_many_96 : ab_at mX8_many 96 (.aload_n 0) 1 97 := ⟨by decide +kernel, rfl⟩
theorem iX8_many_97 : ab_at mX8_many 97 (.getfield 10) 3 100 := ⟨by decide +kernel, rfl⟩
theorem iX8_many_100 : ab_at mX8_many 100 (.getfield 147) 3 103 := ⟨by decide +kernel, rfl⟩
theorem iX8_many_103 : ab_at mX8_many 103 (.getfield 151) 3 106 := ⟨by decide +kernel, rfl⟩
theorem iX8_many_106 : ab_at mX8_many 106 (.ireturn) 1 107 := ⟨by decide +kernel, rfl⟩
theorem iX8_many_107 : ab_at mX8_many 107 (.aload_n 0) 1 108 := ⟨by decide +kernel, rfl⟩
theorem iX8_many_108 : ab_at mX8_many 108 (.getfield 10) 3 111 := ⟨by decide +kernel, rfl⟩
theorem iX8_many_111 : ab_at mX8_many 111 (.getfield 181) 3 114 := ⟨by decide +kernel, rfl⟩
theorem iX8_many_114 : ab_at mX8_many 114 (.getfield 185) 3 117 := ⟨by decide +kernel, rfl⟩
theorem iX8_many_117 : ab_at mX8_many 117 (.ireturn) 1 118 := ⟨by decide +kernel, rfl⟩
theorem iX8_many_118 : ab_at mX8_many 118 (.aload_n 0) 1 119 := ⟨by decide +kernel, rfl⟩
theorem iX8_many_119 : ab_at mX8_many 119 (.getfield 10) 3 122 := ⟨by decide +kernel, rfl⟩
theorem iX8_many_122 : ab_at mX8_many 122 (.getfield 65) 3 125 := ⟨by decide +kernel, rfl⟩
theorem iX8_many_125 : ab_at mX8_many 125 (.getfield 210) 3 128 := ⟨by decide +kernel, rfl⟩
theorem iX8_many_128 : ab_at mX8_many 128 (.ireturn) 1 129 := ⟨by decide +kernel, rfl⟩
theorem iX8_many_129 : ab_at mX8_many 129 (.aload_n 0) 1 130 := ⟨by decide +kernel, rfl⟩
theorem iX8_many_130 : ab_at mX8_many 130 (.getfield 10) 3 133 := ⟨by decide +kernel, rfl⟩
theorem iX8_many_133 : ab_at mX8_many 133 (.getfield 65) 3 136 := ⟨by decide +kernel, rfl⟩
theorem iX8_many_136 : ab_at mX8_many 136 (.aload_n 0) 1 137 := ⟨by decide +kernel, rfl⟩
theorem iX8_many_137 : ab_at mX8_many 137 (.getfield 10) 3 140 := ⟨by decide +kernel, rfl⟩
theorem iX8_many_140 : ab_at mX8_many 140 (.getfield 55) 3 143 := ⟨by decide +kernel, rfl⟩
theorem iX8_many_143 : ab_at mX8_many 143 (.invokevirtual 249) 3 146 := ⟨by decide +kernel, rfl⟩
theorem iX8_many_146 : ab_at mX8_many 146 (.ireturn) 1 147 := ⟨by decide +kernel, rfl⟩
theorem iX8_many_147 : ab_at mX8_many 147 (.aload_n 0) 1 148 := ⟨by decide +kernel, rfl⟩
theorem iX8_many_148 : ab_at mX8_many 148 (.getfield 10) 3 151 := ⟨by decide +kernel, rfl⟩
theorem iX8_many_151 : ab_at mX8_many 151 (.getfield 65) 3 154 := ⟨by decide +kernel, rfl⟩
theorem iX8_many_154 : ab_at mX8_many 154 (.getfield 253) 3 157 := ⟨by decide +kernel, rfl⟩
theorem iX8_many_157 : ab_at mX8_many 157 (.ireturn) 1 158 := ⟨by decide +kernel, rfl⟩
theorem iX8_many_158 : ab_at mX8_many 158 (.aload_n 0) 1 159 := ⟨by decide +kernel, rfl⟩
theorem iX8_many_159 : ab_at mX8_many 159 (.getfield 10) 3 162 := ⟨by decide +kernel, rfl⟩
theorem iX8_many_162 : ab_at mX8_many 162 (.getfield 55) 3 165 := ⟨by decide +kernel, rfl⟩
theorem iX8_many_165 : ab_at mX8_many 165 (.invokevirtual 254) 3 168 := ⟨by decide +kernel, rfl⟩
theorem iX8_many_168 : ab_at mX8_many 168 (.ireturn) 1 169 := ⟨by decide +kernel, rfl⟩
theorem iX8_many_169 : ab_at mX8_many 169 (.iconst (-1)) 1 170 := ⟨by decide +kernel, rfl⟩
theorem iX8_many_170 : ab_at mX8_many 170 (.ireturn) 1 171 := ⟨by decide +kernel, rfl⟩
theorem iX8_keep_0 : ab_at mX8_keep 0 (.aload_n 0) 1 1 := ⟨by decide +kernel, rfl⟩
theorem iX8_keep_1 : ab_at mX8_keep 1 (.getfield 16) 3 4 := ⟨by decide +kernel, rfl⟩
theorem iX8_keep_4 : ab_at mX8_keep 4 (.aload_n 0) 1 5 := ⟨by decide +kernel, rfl⟩
theorem iX8_keep_5 : ab_at mX8_keep 5 (.getfield 10) 3 8 := ⟨by decide +kernel, rfl⟩
theorem iX8_keep_8 : ab_at mX8_keep 8 (.invokevirtual 257) 3 11 := ⟨by decide +kernel, rfl⟩
theorem iX8_keep_11 : ab_at mX8_keep 11 (.aload_n 0) 1 12 := ⟨by decide +kernel, rfl⟩
theorem iX8_keep_12 : ab_at mX8_keep 12 (.iconst 1) 1 13 := ⟨by decide +kernel, rfl⟩
theorem iX8_keep_13 : ab_at mX8_keep 13 (.putfield 19) 3 16 := ⟨by decide +kernel, rfl⟩
theorem iX8_keep_16 : ab_at mX8_keep 16 (.iconst 1) 1 17 := ⟨by decide +kernel, rfl⟩
theorem iX8_keep_17 : ab_at mX8_keep 17 (.ireturn) 1 18 := ⟨by decide +kernel, rfl⟩
theorem iX8_back_0 : ab_at mX8_back 0 (.aload_n 0) 1 1 := ⟨by decide +kernel, rfl⟩
theorem iX8_back_1 : ab_at mX8_back 1 (.getfield 19) 3 4 := ⟨by decide +kernel, rfl⟩
theorem iX8_back_4 : ab_bi mX8_back 4 .ne 7 10 := ⟨6, by decide +kernel, rfl, by decide⟩
theorem iX8_back_7 : ab_at mX8_back 7 (.bipush (-4)) 2 9 := ⟨by decide +kernel, rfl⟩
theorem iX8_back_9 : ab_at mX8_back 9 (.ireturn) 1 10 := ⟨by decide +kernel, rfl⟩
theorem iX8_back_10 : ab_at mX8_back 10 (.aload_n 0) 1 11 := ⟨by decide +kernel, rfl⟩
theorem iX8_back_11 : ab_at mX8_back 11 (.getfield 10) 3 14 := ⟨by decide +kernel, rfl⟩
theorem iX8_back_14 : ab_at mX8_back 14 (.aload_n 0) 1 15 := ⟨by decide +kernel, rfl⟩
theorem iX8_back_15 : ab_at mX8_back 15 (.getfield 16) 3 18 := ⟨by decide +kernel, rfl⟩
theorem iX8_back_18 : ab_at mX8_back 18 (.invokevirtual 257) 3 21 := ⟨by decide +kernel, rfl⟩
theorem iX8_back_21 : ab_at mX8_back 21 (.iconst 1) 1 22 := ⟨by decide +kernel, rfl⟩
theorem iX8_back_22 : ab_at mX8_back 22 (.ireturn) 1 23 := ⟨by decide +kernel, rfl⟩
theorem iX8_findDealing_0 : ab_at mX8_findDealing 0 (.aload_n 0) 1 1 := ⟨by decide +kernel, rfl⟩
theorem iX8_findDealing_1 : ab_at mX8_findDealing 1 (.getfield 33) 3 4 := ⟨by decide +kernel, rfl⟩
theorem iX8_findDealing_4 : ab_at mX8_findDealing 4 (.aload_n 0) 1 5 := ⟨by decide +kernel, rfl⟩
theorem iX8_findDealing_5 : ab_at mX8_findDealing 5 (.getfield 10) 3 8 := ⟨by decide +kernel, rfl⟩
theorem iX8_findDealing_8 : ab_at mX8_findDealing 8 (.getfield 55) 3 11 := ⟨by decide +kernel, rfl⟩
theorem iX8_findDealing_11 : ab_at mX8_findDealing 11 (.invokevirtual 122) 3 14 := ⟨by decide +kernel, rfl⟩
theorem iX8_findDealing_14 : ab_at mX8_findDealing 14 (.aload_n 0) 1 15 := ⟨by decide +kernel, rfl⟩
theorem iX8_findDealing_15 : ab_at mX8_findDealing 15 (.getfield 40) 3 18 := ⟨by decide +kernel, rfl⟩
theorem iX8_findDealing_18 : ab_at mX8_findDealing 18 (.iload_n 1) 1 19 := ⟨by decide +kernel, rfl⟩
theorem iX8_findDealing_19 : ab_at mX8_findDealing 19 (.aload_n 0) 1 20 := ⟨by decide +kernel, rfl⟩
theorem iX8_findDealing_20 : ab_at mX8_findDealing 20 (.getfield 33) 3 23 := ⟨by decide +kernel, rfl⟩
theorem iX8_findDealing_23 : ab_at mX8_findDealing 23 (.aload_n 0) 1 24 := ⟨by decide +kernel, rfl⟩
theorem iX8_findDealing_24 : ab_at mX8_findDealing 24 (.getfield 10) 3 27 := ⟨by decide +kernel, rfl⟩
theorem iX8_findDealing_27 : ab_at mX8_findDealing 27 (.getfield 147) 3 30 := ⟨by decide +kernel, rfl⟩
theorem iX8_findDealing_30 : ab_at mX8_findDealing 30 (.invokevirtual 261) 3 33 := ⟨by decide +kernel, rfl⟩
theorem iX8_findDealing_33 : ab_at mX8_findDealing 33 (.ireturn) 1 34 := ⟨by decide +kernel, rfl⟩
theorem iX8_isFromTo_0 : ab_at mX8_isFromTo 0 (.iload_n 0) 1 1 := ⟨by decide +kernel, rfl⟩
theorem iX8_isFromTo_1 : ab_at mX8_isFromTo 1 (.iload_n 1) 1 2 := ⟨by decide +kernel, rfl⟩
theorem iX8_isFromTo_2 : ab_bc mX8_isFromTo 2 .lt 5 14 := ⟨12, by decide +kernel, rfl, by decide⟩
theorem iX8_isFromTo_5 : ab_at mX8_isFromTo 5 (.iload_n 0) 1 6 := ⟨by decide +kernel, rfl⟩
theorem iX8_isFromTo_6 : ab_at mX8_isFromTo 6 (.iload_n 2) 1 7 := ⟨by decide +kernel, rfl⟩
theorem iX8_isFromTo_7 : ab_bc mX8_isFromTo 7 .gt 10 14 := ⟨7, by decide +kernel, rfl, by decide⟩
theorem iX8_isFromTo_10 : ab_at mX8_isFromTo 10 (.iconst 1) 1 11 := ⟨by decide +kernel, rfl⟩
theorem iX8_isFromTo_11 : ab_bg mX8_isFromTo 11 15 := ⟨4, by decide +kernel, by decide⟩
theorem iX8_isFromTo_14 : ab_at mX8_isFromTo 14 (.iconst 0) 1 15 := ⟨by decide +kernel, rfl⟩
theorem iX8_isFromTo_15 : ab_at mX8_isFromTo 15 (.ireturn) 1 16 := ⟨by decide +kernel, rfl⟩
theorem iX8_isBelow_0 : ab_at mX8_isBelow 0 (.iload_n 0) 1 1 := ⟨by decide +kernel, rfl⟩
theorem iX8_isBelow_1 : ab_bi mX8_isBelow 1 .lt 4 13 := ⟨12, by decide +kernel, rfl, by decide⟩
theorem iX8_isBelow_4 : ab_at mX8_isBelow 4 (.iload_n 0) 1 5 := ⟨by decide +kernel, rfl⟩
theorem iX8_isBelow_5 : ab_at mX8_isBelow 5 (.iload_n 1) 1 6 := ⟨by decide +kernel, rfl⟩
theorem iX8_isBelow_6 : ab_bc mX8_isBelow 6 .ge 9 13 := ⟨7, by decide +kernel, rfl, by decide⟩
theorem iX8_isBelow_9 : ab_at mX8_isBelow 9 (.iconst 1) 1 10 := ⟨by decide +kernel, rfl⟩
theorem iX8_isBelow_10 : ab_bg mX8_isBelow 10 14 := ⟨4, by decide +kernel, by decide⟩
theorem iX8_isBelow_13 : ab_at mX8_isBelow 13 (.iconst 0) 1 14 := ⟨by decide +kernel, rfl⟩
theorem iX8_isBelow_14 : ab_at mX8_isBelow 14 (.ireturn) 1 15 := ⟨by decide +kernel, rfl⟩
theorem iX8_isColour_0 : ab_at mX8_isColour 0 (.iload_n 0) 1 1 := ⟨by decide +kernel, rfl⟩
theorem iX8_isColour_1 : ab_at mX8_isColour 1 (.bipush 8) 2 3 := ⟨by decide +kernel, rfl⟩
theorem iX8_isColour_3 : ab_at mX8_isColour 3 (.invokestatic 132) 3 6 := ⟨by decide +kernel, rfl⟩
theorem iX8_isColour_6 : ab_at mX8_isColour 6 (.ireturn) 1 7 := ⟨by decide +kernel, rfl⟩
theorem iX8_isOnBoard_0 : ab_at mX8_isOnBoard 0 (.iload_n 0) 1 1 := ⟨by decide +kernel, rfl⟩
theorem iX8_isOnBoard_1 : ab_bi mX8_isOnBoard 1 .lt 4 20 := ⟨19, by decide +kernel, rfl, by decide⟩
theorem iX8_isOnBoard_4 : ab_at mX8_isOnBoard 4 (.iload_n 1) 1 5 := ⟨by decide +kernel, rfl⟩
theorem iX8_isOnBoard_5 : ab_at mX8_isOnBoard 5 (.iconst 1) 1 6 := ⟨by decide +kernel, rfl⟩
theorem iX8_isOnBoard_6 : ab_bc mX8_isOnBoard 6 .lt 9 20 := ⟨14, by decide +kernel, rfl, by decide⟩
theorem iX8_isOnBoard_9 : ab_at mX8_isOnBoard 9 (.iload_n 1) 1 10 := ⟨by decide +kernel, rfl⟩
theorem iX8_isOnBoard_10 : ab_at mX8_isOnBoard 10 (.iload_n 2) 1 11 := ⟨by decide +kernel, rfl⟩
theorem iX8_isOnBoard_11 : ab_at mX8_isOnBoard 11 (.iload_n 0) 1 12 := ⟨by decide +kernel, rfl⟩
theorem iX8_isOnBoard_12 : ab_at mX8_isOnBoard 12 (.isub) 1 13 := ⟨by decide +kernel, rfl⟩
theorem iX8_isOnBoard_13 : ab_bc mX8_isOnBoard 13 .gt 16 20 := ⟨7, by decide +kernel, rfl, by decide⟩
theorem iX8_isOnBoard_16 : ab_at mX8_isOnBoard 16 (.iconst 1) 1 17 := ⟨by decide +kernel, rfl⟩
theorem iX8_isOnBoard_17 : ab_bg mX8_isOnBoard 17 21 := ⟨4, by decide +kernel, by decide⟩
theorem iX8_isOnBoard_20 : ab_at mX8_isOnBoard 20 (.iconst 0) 1 21 := ⟨by decide +kernel, rfl⟩
theorem iX8_isOnBoard_21 : ab_at mX8_isOnBoard 21 (.ireturn) 1 22 := ⟨by decide +kernel, rfl⟩
theorem iX8_cellOf_0 : ab_at mX8_cellOf 0 (.iload_n 1) 1 1 := ⟨by decide +kernel, rfl⟩
theorem iX8_cellOf_1 : ab_at mX8_cellOf 1 (.bipush 12) 2 3 := ⟨by decide +kernel, rfl⟩
theorem iX8_cellOf_3 : ab_at mX8_cellOf 3 (.imul) 1 4 := ⟨by decide +kernel, rfl⟩
theorem iX8_cellOf_4 : ab_at mX8_cellOf 4 (.iload_n 0) 1 5 := ⟨by decide +kernel, rfl⟩
theorem iX8_cellOf_5 : ab_at mX8_cellOf 5 (.iadd) 1 6 := ⟨by decide +kernel, rfl⟩
theorem iX8_cellOf_6 : ab_at mX8_cellOf 6 (.ireturn) 1 7 := ⟨by decide +kernel, rfl⟩
theorem iX8_addSlit_0 : ab_at mX8_addSlit 0 (.iload_n 1) 1 1 := ⟨by decide +kernel, rfl⟩
theorem iX8_addSlit_1 : ab_at mX8_addSlit 1 (.iconst 3) 1 2 := ⟨by decide +kernel, rfl⟩
theorem iX8_addSlit_2 : ab_bc mX8_addSlit 2 .ne 5 11 := ⟨9, by decide +kernel, rfl, by decide⟩
theorem iX8_addSlit_5 : ab_at mX8_addSlit 5 (.iload_n 2) 1 6 := ⟨by decide +kernel, rfl⟩
theorem iX8_addSlit_6 : ab_at mX8_addSlit 6 (.iload_n 3) 1 7 := ⟨by decide +kernel, rfl⟩
theorem iX8_addSlit_7 : ab_at mX8_addSlit 7 (.invokestatic 264) 3 10 := ⟨by decide +kernel, rfl⟩
theorem iX8_addSlit_10 : ab_at mX8_addSlit 10 (.ireturn) 1 11 := ⟨by decide +kernel, rfl⟩
theorem iX8_addSlit_11 : ab_at mX8_addSlit 11 (.iload_n 3) 1 12 := ⟨by decide +kernel, rfl⟩
theorem iX8_addSlit_12 : ab_at mX8_addSlit 12 (.iload_n 1) 1 13 := ⟨by decide +kernel, rfl⟩
theorem iX8_addSlit_13 : ab_bi mX8_addSlit 13 .ne 16 20 := ⟨7, by decide +kernel, rfl, by decide⟩
theorem iX8_addSlit_16 : ab_at mX8_addSlit 16 (.iconst 0) 1 17 := ⟨by decide +kernel, rfl⟩
theorem iX8_addSlit_17 : ab_bg mX8_addSlit 17 24 := ⟨7, by decide +kernel, by decide⟩
theorem iX8_addSlit_20 : ab_at mX8_addSlit 20 (.aload_n 0) 1 21 := ⟨by decide +kernel, rfl⟩
theorem iX8_addSlit_21 : ab_at mX8_addSlit 21 (.getfield 23) 3 24 := ⟨by decide +kernel, rfl⟩
theorem iX8_addSlit_24 : ab_bc mX8_addSlit 24 .le 27 31 := ⟨7, by decide +kernel, rfl, by decide⟩
theorem iX8_addSlit_27 : ab_at mX8_addSlit 27 (.iconst 1) 1 28 := ⟨by decide +kernel, rfl⟩
theorem iX8_addSlit_28 : ab_bg mX8_addSlit 28 32 := ⟨4, by decide +kernel, by decide⟩
theorem iX8_addSlit_31 : ab_at mX8_addSlit 31 (.iconst 0) 1 32 := ⟨by decide +kernel, rfl⟩
theorem iX8_addSlit_32 : ab_at mX8_addSlit 32 (.istore 4) 2 34 := ⟨by decide +kernel, rfl⟩
theorem iX8_addSlit_34 : ab_at mX8_addSlit 34 (.iload 4) 2 36 := ⟨by decide +kernel, rfl⟩
theorem iX8_addSlit_36 : ab_bi mX8_addSlit 36 .eq 39 54 := ⟨18, by decide +kernel, rfl, by decide⟩
theorem iX8_addSlit_39 : ab_at mX8_addSlit 39 (.iload_n 2) 1 40 := ⟨by decide +kernel, rfl⟩
theorem iX8_addSlit_40 : ab_at mX8_addSlit 40 (.iload_n 1) 1 41 := ⟨by decide +kernel, rfl⟩
theorem iX8_addSlit_41 : ab_at mX8_addSlit 41 (.iconst 2) 1 42 := ⟨by decide +kernel, rfl⟩
theorem iX8_addSlit_42 : ab_bc mX8_addSlit 42 .ne 45 49 := ⟨7, by decide +kernel, rfl, by decide⟩
theorem iX8_addSlit_45 : ab_at mX8_addSlit 45 (.iload_n 3) 1 46 := ⟨by decide +kernel, rfl⟩
theorem iX8_addSlit_46 : ab_bg mX8_addSlit 46 50 := ⟨4, by decide +kernel, by decide⟩
theorem iX8_addSlit_49 : ab_at mX8_addSlit 49 (.iconst 1) 1 50 := ⟨by decide +kernel, rfl⟩
theorem iX8_addSlit_50 : ab_at mX8_addSlit 50 (.iadd) 1 51 := ⟨by decide +kernel, rfl⟩
theorem iX8_addSlit_51 : ab_bg mX8_addSlit 51 55 := ⟨4, by decide +kernel, by decide⟩
theorem iX8_addSlit_54 : ab_at mX8_addSlit 54 (.iload_n 2) 1 55 := ⟨by decide +kernel, rfl⟩
theorem iX8_addSlit_55 : ab_at mX8_addSlit 55 (.ireturn) 1 56 := ⟨by decide +kernel, rfl⟩
end
section
theorem iX9_init_0 : ab_at mX9_init 0 (.aload_n 0) 1 1 := ⟨by decide +kernel, rfl⟩
theorem iX9_init_1 : ab_at mX9_init 1 (.invokespecial 1) 3 4 := ⟨by decide +kernel, rfl⟩
theorem iX9_init_4 : ab_at mX9_init 4 (.aload_n 0) 1 5 := ⟨by decide +kernel, rfl⟩
theorem iX9_init_5 : ab_at mX9_init 5 (.iconst 1) 1 6 := ⟨by decide +kernel, rfl⟩
theorem iX9_init_6 : ab_at mX9_init 6 (.putfield 7) 3 9 := ⟨by decide +kernel, rfl⟩
theorem iX9_init_9 : ab_at mX9_init 9 (.aload_n 0) 1 10 := ⟨by decide +kernel, rfl⟩
theorem iX9_init_10 : ab_at mX9_init 10 (.iconst 1) 1 11 := ⟨by decide +kernel, rfl⟩
theorem iX9_init_11 : ab_at mX9_init 11 (.putfield 13) 3 14 := ⟨by decide +kernel, rfl⟩
theorem iX9_init_14 : ab_at mX9_init 14 (.aload_n 0) 1 15 := ⟨by decide +kernel, rfl⟩
theorem iX9_init_15 : ab_at mX9_init 15 (.bipush 120) 2 17 := ⟨by decide +kernel, rfl⟩
theorem iX9_init_17 : ab_at mX9_init 17 (.newarray .int) 2 19 := ⟨by decide +kernel, rfl⟩
theorem iX9_init_19 : ab_at mX9_init 19 (.putfield 16) 3 22 := ⟨by decide +kernel, rfl⟩
theorem iX9_init_22 : ab_at mX9_init 22 (.aload_n 0) 1 23 := ⟨by decide +kernel, rfl⟩
theorem iX9_init_23 : ab_at mX9_init 23 (.bipush 120) 2 25 := ⟨by decide +kernel, rfl⟩
theorem iX9_init_25 : ab_at mX9_init 25 (.newarray .boolean) 2 27 := ⟨by decide +kernel, rfl⟩
theorem iX9_init_27 : ab_at mX9_init 27 (.putfield 20) 3 30 := ⟨by decide +kernel, rfl⟩
theorem iX9_init_30 : ab_at mX9_init 30 (.aload_n 0) 1 31 := ⟨by decide +kernel, rfl⟩
theorem iX9_init_31 : ab_at mX9_init 31 (.bipush 12) 2 33 := ⟨by decide +kernel, rfl⟩
theorem iX9_init_33 : ab_at mX9_init 33 (.newarray .int) 2 35 := ⟨by decide +kernel, rfl⟩
theorem iX9_init_35 : ab_at mX9_init 35 (.putfield 24) 3 38 := ⟨by decide +kernel, rfl⟩
theorem iX9_init_38 : ab_at mX9_init 38 (.aload_n 0) 1 39 := ⟨by decide +kernel, rfl⟩
theorem iX9_init_39 : ab_at mX9_init 39 (.bipush 12) 2 41 := ⟨by decide +kernel, rfl⟩
theorem iX9_init_41 : ab_at mX9_init 41 (.newarray .int) 2 43 := ⟨by decide +kernel, rfl⟩
theorem iX9_init_43 : ab_at mX9_init 43 (.putfield 27) 3 46 := ⟨by decide +kernel, rfl⟩
theorem iX9_init_46 : ab_at mX9_init 46 (.aload_n 0) 1 47 := ⟨by decide +kernel, rfl⟩
theorem iX9_init_47 : ab_at mX9_init 47 (.iconst 4) 1 48 := ⟨by decide +kernel, rfl⟩
theorem iX9_init_48 : ab_at mX9_init 48 (.newarray .int) 2 50 := ⟨by decide +kernel, rfl⟩
theorem iX9_init_50 : ab_at mX9_init 50 (.putfield 30) 3 53 := ⟨by decide +kernel, rfl⟩
theorem iX9_init_53 : ab_at mX9_init 53 (.aload_n 0) 1 54 := ⟨by decide +kernel, rfl⟩
theorem iX9_init_54 : ab_at mX9_init 54 (.iconst 4) 1 55 := ⟨by decide +kernel, rfl⟩
theorem iX9_init_55 : ab_at mX9_init 55 (.newarray .boolean) 2 57 := ⟨by decide +kernel, rfl⟩
theorem iX9_init_57 : ab_at mX9_init 57 (.putfield 33) 3 60 := ⟨by decide +kernel, rfl⟩
theorem iX9_init_60 : ab_at mX9_init 60 (.aload_n 0) 1 61 := ⟨by decide +kernel, rfl⟩
theorem iX9_init_61 : ab_at mX9_init 61 (.iconst 3) 1 62 := ⟨by decide +kernel, rfl⟩
theorem iX9_init_62 : ab_at mX9_init 62 (.putfield 36) 3 65 := ⟨by decide +kernel, rfl⟩
theorem iX9_init_65 : ab_at mX9_init 65 (.aload_n 0) 1 66 := ⟨by decide +kernel, rfl⟩
theorem iX9_init_66 : ab_at mX9_init 66 (.bipush 10) 2 68 := ⟨by decide +kernel, rfl⟩
theorem iX9_init_68 : ab_at mX9_init 68 (.putfield 39) 3 71 := ⟨by decide +kernel, rfl⟩
theorem iX9_init_71 : ab_at mX9_init 71 (.aload_n 0) 1 72 := ⟨by decide +kernel, rfl⟩
theorem iX9_init_72 : ab_at mX9_init 72 (.iconst 4) 1 73 := ⟨by decide +kernel, rfl⟩
theorem iX9_init_73 : ab_at mX9_init 73 (.newarray .int) 2 75 := ⟨by decide +kernel, rfl⟩
theorem iX9_init_75 : ab_at mX9_init 75 (.putfield 42) 3 78 := ⟨by decide +kernel, rfl⟩
theorem iX9_init_78 : ab_at mX9_init 78 (.aload_n 0) 1 79 := ⟨by decide +kernel, rfl⟩
theorem iX9_init_79 : ab_at mX9_init 79 (.iconst 4) 1 80 := ⟨by decide +kernel, rfl⟩
theorem iX9_init_80 : ab_at mX9_init 80 (.newarray .int) 2 82 := ⟨by decide +kernel, rfl⟩
theorem iX9_init_82 : ab_at mX9_init 82 (.putfield 45) 3 85 := ⟨by decide +kernel, rfl⟩
theorem iX9_init_85 : ab_at mX9_init 85 (.aload_n 0) 1 86 := ⟨by decide +kernel, rfl⟩
theorem iX9_init_86 : ab_at mX9_init 86 (.iconst 4) 1 87 := ⟨by decide +kernel, rfl⟩
theorem iX9_init_87 : ab_at mX9_init 87 (.newarray .int) 2 89 := ⟨by decide +kernel, rfl⟩
theorem iX9_init_89 : ab_at mX9_init 89 (.putfield 48) 3 92 := ⟨by decide +kernel, rfl⟩
theorem iX9_init_92 : ab_at mX9_init 92 (.aload_n 0) 1 93 := ⟨by decide +kernel, rfl⟩
theorem iX9_init_93 : ab_at mX9_init 93 (.iconst 4) 1 94 := ⟨by decide +kernel, rfl⟩
theorem iX9_init_94 : ab_at mX9_init 94 (.newarray .int) 2 96 := ⟨by decide +kernel, rfl⟩
theorem iX9_init_96 : ab_at mX9_init 96 (.putfield 51) 3 99 := ⟨by decide +kernel, rfl⟩
theorem iX9_init_99 : ab_at mX9_init 99 (.aload_n 0) 1 100 := ⟨by decide +kernel, rfl⟩
theorem iX9_init_100 : ab_at mX9_init 100 (.bipush 6) 2 102 := ⟨by decide +kernel, rfl⟩
theorem iX9_init_102 : ab_at mX9_init 102 (.newarray .int) 2 104 := ⟨by decide +kernel, rfl⟩
theorem iX9_init_104 : ab_at mX9_init 104 (.putfield 54) 3 107 := ⟨by decide +kernel, rfl⟩
theorem iX9_init_107 : ab_at mX9_init 107 (.aload_n 0) 1 108 := ⟨by decide +kernel, rfl⟩
theorem iX9_init_108 : ab_at mX9_init 108 (.bipush 120) 2 110 := ⟨by decide +kernel, rfl⟩
theorem iX9_init_110 : ab_at mX9_init 110 (.newarray .int) 2 112 := ⟨by decide +kernel, rfl⟩
theorem iX9_init_112 : ab_at mX9_init 112 (.putfield 57) 3 115 := ⟨by decide +kernel, rfl⟩
theorem iX9_init_115 : ab_at mX9_init 115 (.aload_n 0) 1 116 := ⟨by decide +kernel, rfl⟩
theorem iX9_init_116 : ab_at mX9_init 116 (.bipush 24) 2 118 := ⟨by decide +kernel, rfl⟩
theorem iX9_init_118 : ab_at mX9_init 118 (.newarray .int) 2 120 := ⟨by decide +kernel, rfl⟩
theorem iX9_init_120 : ab_at mX9_init 120 (.putfield 60) 3 123 := ⟨by decide +kernel, rfl⟩
theorem iX9_init_123 : ab_at mX9_init 123 (.aload_n 0) 1 124 := ⟨by decide +kernel, rfl⟩
theorem iX9_init_124 : ab_at mX9_init 124 (.bipush 8) 2 126 := ⟨by decide +kernel, rfl⟩
theorem iX9_init_126 : ab_at mX9_init 126 (.newarray .int) 2 128 := ⟨by decide +kernel, rfl⟩
theorem iX9_init_128 : ab_at mX9_init 128 (.putfield 63) 3 131 := ⟨by decide +kernel, rfl⟩
theorem iX9_init_131 : ab_at mX9_init 131 (.aload_n 0) 1 132 := ⟨by decide +kernel, rfl⟩
theorem iX9_init_132 : ab_at mX9_init 132 (.bipush 16) 2 134 := ⟨by decide +kernel, rfl⟩
theorem iX9_init_134 : ab_at mX9_init 134 (.newarray .int) 2 136 := ⟨by decide +kernel, rfl⟩
theorem iX9_init_136 : ab_at mX9_init 136 (.putfield 66) 3 139 := ⟨by decide +kernel, rfl⟩
theorem iX9_init_139 : ab_at mX9_init 139 (.aload_n 0) 1 140 := ⟨by decide +kernel, rfl⟩
theorem iX9_init_140 : ab_at mX9_init 140 (.bipush 120) 2 142 := ⟨by decide +kernel, rfl⟩
theorem iX9_init_142 : ab_at mX9_init 142 (.newarray .int) 2 144 := ⟨by decide +kernel, rfl⟩
theorem iX9_init_144 : ab_at mX9_init 144 (.putfield 69) 3 147 := ⟨by decide +kernel, rfl⟩
theorem iX9_init_147 : ab_at mX9_init 147 (.aload_n 0) 1 148 := ⟨by decide +kernel, rfl⟩
theorem iX9_init_148 : ab_at mX9_init 148 (.bipush 120) 2 150 := ⟨by decide +kernel, rfl⟩
theorem iX9_init_150 : ab_at mX9_init 150 (.newarray .int) 2 152 := ⟨by decide +kernel, rfl⟩
theorem iX9_init_152 : ab_at mX9_init 152 (.putfield 72) 3 155 := ⟨by decide +kernel, rfl⟩
theorem iX9_init_155 : ab_at mX9_init 155 (.aload_n 0) 1 156 := ⟨by decide +kernel, rfl⟩
theorem iX9_init_156 : ab_at mX9_init 156 (.bipush 120) 2 158 := ⟨by decide +kernel, rfl⟩
theorem iX9_init_158 : ab_at mX9_init 158 (.newarray .int) 2 160 := ⟨by decide +kernel, rfl⟩
theorem iX9_init_160 : ab_at mX9_init 160 (.putfield 75) 3 163 := ⟨by decide +kernel, rfl⟩
theorem iX9_init_163 : ab_at mX9_init 163 (.aload_n 0) 1 164 := ⟨by decide +kernel, rfl⟩
theorem iX9_init_164 : ab_at mX9_init 164 (.bipush 120) 2 166 := ⟨by decide +kernel, rfl⟩
theorem iX9_init_166 : ab_at mX9_init 166 (.newarray .int) 2 168 := ⟨by decide +kernel, rfl⟩
theorem iX9_init_168 : ab_at mX9_init 168 (.putfield 78) 3 171 := ⟨by decide +kernel, rfl⟩
theorem iX9_init_171 : ab_at mX9_init 171 (.aload_n 0) 1 172 := ⟨by decide +kernel, rfl⟩
theorem iX9_init_172 : ab_at mX9_init 172 (.bipush 8) 2 174 := ⟨by decide +kernel, rfl⟩
theorem iX9_init_174 : ab_at mX9_init 174 (.newarray .int) 2 176 := ⟨by decide +kernel, rfl⟩
theorem iX9_init_176 : ab_at mX9_init 176 (.putfield 81) 3 179 := ⟨by decide +kernel, rfl⟩
theorem iX9_init_179 : ab_at mX9_init 179 (.aload_n 0) 1 180 := ⟨by decide +kernel, rfl⟩
theorem iX9_init_180 : ab_at mX9_init 180 (.iconst 4) 1 181 := ⟨by decide +kernel, rfl⟩
theorem iX9_init_181 : ab_at mX9_init 181 (.newarray .int) 2 183 := ⟨by decide +kernel, rfl⟩
theorem iX9_init_183 : ab_at mX9_init 183 (.putfield 84) 3 186 := ⟨by decide +kernel, rfl⟩
theorem iX9_init_186 : ab_at mX9_init 186 (.aload_n 0) 1 187 := ⟨by decide +kernel, rfl⟩
theorem iX9_init_187 : ab_at mX9_init 187 (.iconst 4) 1 188 := ⟨by decide +kernel, rfl⟩
theorem iX9_init_188 : ab_at mX9_init 188 (.newarray .int) 2 190 := ⟨by decide +kernel, rfl⟩
theorem iX9_init_190 : ab_at mX9_init 190 (.putfield 87) 3 193 := ⟨by decide +kernel, rfl⟩
theorem iX9_init_193 : ab_at mX9_init 193 (.aload_n 0) 1 194 := ⟨by decide +kernel, rfl⟩
theorem iX9_init_194 : ab_at mX9_init 194 (.bipush 8) 2 196 := ⟨by decide +kernel, rfl⟩
theorem iX9_init_196 : ab_at mX9_init 196 (.newarray .int) 2 198 := ⟨by decide +kernel, rfl⟩
theorem iX9_init_198 : ab_at mX9_init 198 (.putfield 90) 3 201 := ⟨by decide +kernel, rfl⟩
theorem iX9_init_201 : ab_at mX9_init 201 (.aload_n 0) 1 202 := ⟨by decide +kernel, rfl⟩
theorem iX9_init_202 : ab_at mX9_init 202 (.bipush 8) 2 204 := ⟨by decide +kernel, rfl⟩
theorem iX9_init_204 : ab_at mX9_init 204 (.newarray .int) 2 206 := ⟨by decide +kernel, rfl⟩
theorem iX9_init_206 : ab_at mX9_init 206 (.putfield 93) 3 209 := ⟨by decide +kernel, rfl⟩
theorem iX9_init_209 : ab_at mX9_init 209 (.aload_n 0) 1 210 := ⟨by decide +kernel, rfl⟩
theorem iX9_init_210 : ab_at mX9_init 210 (.iconst 5) 1 211 := ⟨by decide +kernel, rfl⟩
theorem iX9_init_211 : ab_at mX9_init 211 (.newarray .int) 2 213 := ⟨by decide +kernel, rfl⟩
theorem iX9_init_213 : ab_at mX9_init 213 (.putfield 96) 3 216 := ⟨by decide +kernel, rfl⟩
theorem iX9_init_216 : ab_at mX9_init 216 (.aload_n 0) 1 217 := ⟨by decide +kernel, rfl⟩
theorem iX9_init_217 : ab_at mX9_init 217 (.iconst 5) 1 218 := ⟨by decide +kernel, rfl⟩
theorem iX9_init_218 : ab_at mX9_init 218 (.newarray .int) 2 220 := ⟨by decide +kernel, rfl⟩
theorem iX9_init_220 : ab_at mX9_init 220 (.putfield 99) 3 223 := ⟨by decide +kernel, rfl⟩
theorem iX9_init_223 : ab_at mX9_init 223 (.aload_n 0) 1 224 := ⟨by decide +kernel, rfl⟩
theorem iX9_init_224 : ab_at mX9_init 224 (.iconst 5) 1 225 := ⟨by decide +kernel, rfl⟩
theorem iX9_init_225 : ab_at mX9_init 225 (.newarray .int) 2 227 := ⟨by decide +kernel, rfl⟩
theorem iX9_init_227 : ab_at mX9_init 227 (.putfield 102) 3 230 := ⟨by decide +kernel, rfl⟩
theorem iX9_init_230 : ab_at mX9_init 230 (.aload_n 0) 1 231 := ⟨by decide +kernel, rfl⟩
theorem iX9_init_231 : ab_at mX9_init 231 (.iconst 4) 1 232 := ⟨by decide +kernel, rfl⟩
theorem iX9_init_232 : ab_at mX9_init 232 (.newarray .int) 2 234 := ⟨by decide +kernel, rfl⟩
theorem iX9_init_234 : ab_at mX9_init 234 (.putfield 105) 3 237 := ⟨by decide +kernel, rfl⟩
theorem iX9_init_237 : ab_at mX9_init 237 (.aload_n 0) 1 238 := ⟨by decide +kernel, rfl⟩
theorem iX9_init_238 : ab_at mX9_init 238 (.iconst 4) 1 239 := ⟨by decide +kernel, rfl⟩
theorem iX9_init_239 : ab_at mX9_init 239 (.newarray .int) 2 241 := ⟨by decide +kernel, rfl⟩
theorem iX9_init_241 : ab_at mX9_init 241 (.putfield 108) 3 244 := ⟨by decide +kernel, rfl⟩
theorem iX9_init_244 : ab_at mX9_init 244 (.return_) 1 245 := ⟨by decide +kernel, rfl⟩
theorem iX9_in_0 : ab_at mX9_in 0 (.iload_n 0) 1 1 := ⟨by decide +kernel, rfl⟩
theorem iX9_in_1 : ab_at mX9_in 1 (.iload_n 1) 1 2 := ⟨by decide +kernel, rfl⟩
theorem iX9_in_2 : ab_bc mX9_in 2 .lt 5 14 := ⟨12, by decide +kernel, rfl, by decide⟩
theorem iX9_in_5 : ab_at mX9_in 5 (.iload_n 0) 1 6 := ⟨by decide +kernel, rfl⟩
theorem iX9_in_6 : ab_at mX9_in 6 (.iload_n 2) 1 7 := ⟨by decide +kernel, rfl⟩
theorem iX9_in_7 : ab_bc mX9_in 7 .gt 10 14 := ⟨7, by decide +kernel, rfl, by decide⟩
theorem iX9_in_10 : ab_at mX9_in 10 (.iconst 1) 1 11 := ⟨by decide +kernel, rfl⟩
theorem iX9_in_11 : ab_bg mX9_in 11 15 := ⟨4, by decide +kernel, by decide⟩
theorem iX9_in_14 : ab_at mX9_in 14 (.iconst 0) 1 15 := ⟨by decide +kernel, rfl⟩
theorem iX9_in_15 : ab_at mX9_in 15 (.ireturn) 1 16 := ⟨by decide +kernel, rfl⟩
theorem iX9_isSquare_0 : ab_at mX9_isSquare 0 (.iload_n 1) 1 1 := ⟨by decide +kernel, rfl⟩
theorem iX9_isSquare_1 : ab_at mX9_isSquare 1 (.iconst 0) 1 2 := ⟨by decide +kernel, rfl⟩
theorem iX9_isSquare_2 : ab_at mX9_isSquare 2 (.aload_n 0) 1 3 := ⟨by decide +kernel, rfl⟩
theorem iX9_isSquare_3 : ab_at mX9_isSquare 3 (.getfield 7) 3 6 := ⟨by decide +kernel, rfl⟩
theorem iX9_isSquare_6 : ab_at mX9_isSquare 6 (.iconst 1) 1 7 := ⟨by decide +kernel, rfl⟩
theorem iX9_isSquare_7 : ab_at mX9_isSquare 7 (.isub) 1 8 := ⟨by decide +kernel, rfl⟩
theorem iX9_isSquare_8 : ab_at mX9_isSquare 8 (.invokestatic 111) 3 11 := ⟨by decide +kernel, rfl⟩
theorem iX9_isSquare_11 : ab_bi mX9_isSquare 11 .eq 14 32 := ⟨21, by decide +kernel, rfl, by decide⟩
theorem iX9_isSquare_14 : ab_at mX9_isSquare 14 (.iload_n 2) 1 15 := ⟨by decide +kernel, rfl⟩
theorem iX9_isSquare_15 : ab_at mX9_isSquare 15 (.iconst 0) 1 16 := ⟨by decide +kernel, rfl⟩
theorem iX9_isSquare_16 : ab_at mX9_isSquare 16 (.aload_n 0) 1 17 := ⟨by decide +kernel, rfl⟩
theorem iX9_isSquare_17 : ab_at mX9_isSquare 17 (.getfield 13) 3 20 := ⟨by decide +kernel, rfl⟩
theorem iX9_isSquare_20 : ab_at mX9_isSquare 20 (.iconst 1) 1 21 := ⟨by decide +kernel, rfl⟩
theorem iX9_isSquare_21 : ab_at mX9_isSquare 21 (.isub) 1 22 := ⟨by decide +kernel, rfl⟩
theorem iX9_isSquare_22 : ab_at mX9_isSquare 22 (.invokestatic 111) 3 25 := ⟨by decide +kernel, rfl⟩
theorem iX9_isSquare_25 : ab_bi mX9_isSquare 25 .eq 28 32 := ⟨7, by decide +kernel, rfl, by decide⟩
theorem iX9_isSquare_28 : ab_at mX9_isSquare 28 (.iconst 1) 1 29 := ⟨by decide +kernel, rfl⟩
theorem iX9_isSquare_29 : ab_bg mX9_isSquare 29 33 := ⟨4, by decide +kernel, by decide⟩
theorem iX9_isSquare_32 : ab_at mX9_isSquare 32 (.iconst 0) 1 33 := ⟨by decide +kernel, rfl⟩
theorem iX9_isSquare_33 : ab_at mX9_isSquare 33 (.ireturn) 1 34 := ⟨by decide +kernel, rfl⟩
theorem iX9_spot_0 : ab_at mX9_spot 0 (.bipush 12) 2 2 := ⟨by decide +kernel, rfl⟩
theorem iX9_spot_2 : ab_at mX9_spot 2 (.iload_n 2) 1 3 := ⟨by decide +kernel, rfl⟩
theorem iX9_spot_3 : ab_at mX9_spot 3 (.imul) 1 4 := ⟨by decide +kernel, rfl⟩
theorem iX9_spot_4 : ab_at mX9_spot 4 (.aload_n 0) 1 5 := ⟨by decide +kernel, rfl⟩
theorem iX9_spot_5 : ab_at mX9_spot 5 (.getfield 7) 3 8 := ⟨by decide +kernel, rfl⟩
theorem iX9_spot_8 : ab_at mX9_spot 8 (.iadd) 1 9 := ⟨by decide +kernel, rfl⟩
theorem iX9_spot_9 : ab_at mX9_spot 9 (.iconst 1) 1 10 := ⟨by decide +kernel, rfl⟩
theorem iX9_spot_10 : ab_at mX9_spot 10 (.isub) 1 11 := ⟨by decide +kernel, rfl⟩
theorem iX9_spot_11 : ab_at mX9_spot 11 (.iload_n 1) 1 12 := ⟨by decide +kernel, rfl⟩
theorem iX9_spot_12 : ab_at mX9_spot 12 (.isub) 1 13 := ⟨by decide +kernel, rfl⟩
theorem iX9_spot_13 : ab_at mX9_spot 13 (.ireturn) 1 14 := ⟨by decide +kernel, rfl⟩
theorem iX9_size_0 : ab_at mX9_size 0 (.iload_n 1) 1 1 := ⟨by decide +kernel, rfl⟩
theorem iX9_size_1 : ab_at mX9_size 1 (.iconst 1) 1 2 := ⟨by decide +kernel, rfl⟩
theorem iX9_size_2 : ab_at mX9_size 2 (.bipush 12) 2 4 := ⟨by decide +kernel, rfl⟩
theorem iX9_size_4 : ab_at mX9_size 4 (.invokestatic 111) 3 7 := ⟨by decide +kernel, rfl⟩
theorem iX9_size_7 : ab_bi mX9_size 7 .eq 10 20 := ⟨13, by decide +kernel, rfl, by decide⟩
theorem iX9_size_10 : ab_at mX9_size 10 (.iload_n 2) 1 11 := ⟨by decide +kernel, rfl⟩
theorem iX9_size_11 : ab_at mX9_size 11 (.iconst 1) 1 12 := ⟨by decide +kernel, rfl⟩
theorem iX9_size_12 : ab_at mX9_size 12 (.bipush 10) 2 14 := ⟨by decide +kernel, rfl⟩
theorem iX9_size_14 : ab_at mX9_size 14 (.invokestatic 111) 3 17 := ⟨by decide +kernel, rfl⟩
theorem iX9_size_17 : ab_bi mX9_size 17 .ne 20 22 := ⟨5, by decide +kernel, rfl, by decide⟩
theorem iX9_size_20 : ab_at mX9_size 20 (.iconst (-1)) 1 21 := ⟨by decide +kernel, rfl⟩
theorem iX9_size_21 : ab_at mX9_size 21 (.ireturn) 1 22 := ⟨by decide +kernel, rfl⟩
theorem iX9_size_22 : ab_at mX9_size 22 (.aload_n 0) 1 23 := ⟨by decide +kernel, rfl⟩
theorem iX9_size_23 : ab_at mX9_size 23 (.iload_n 1) 1 24 := ⟨by decide +kernel, rfl⟩
theorem iX9_size_24 : ab_at mX9_size 24 (.putfield 7) 3 27 := ⟨by decide +kernel, rfl⟩
theorem iX9_size_27 : ab_at mX9_size 27 (.aload_n 0) 1 28 := ⟨by decide +kernel, rfl⟩
theorem iX9_size_28 : ab_at mX9_size 28 (.iload_n 2) 1 29 := ⟨by decide +kernel, rfl⟩
theorem iX9_size_29 : ab_at mX9_size 29 (.putfield 13) 3 32 := ⟨by decide +kernel, rfl⟩
theorem iX9_size_32 : ab_at mX9_size 32 (.iconst 0) 1 33 := ⟨by decide +kernel, rfl⟩
theorem iX9_size_33 : ab_at mX9_size 33 (.istore_n 3) 1 34 := ⟨by decide +kernel, rfl⟩
theorem iX9_size_34 : ab_at mX9_size 34 (.iload_n 3) 1 35 := ⟨by decide +kernel, rfl⟩
theorem iX9_size_35 : ab_at mX9_size 35 (.bipush 120) 2 37 := ⟨by decide +kernel, rfl⟩
theorem iX9_size_37 : ab_bc mX9_size 37 .ge 40 60 := ⟨23, by decide +kernel, rfl, by decide⟩
theorem iX9_size_40 : ab_at mX9_size 40 (.aload_n 0) 1 41 := ⟨by decide +kernel, rfl⟩
theorem iX9_size_41 : ab_at mX9_size 41 (.getfield 16) 3 44 := ⟨by decide +kernel, rfl⟩
theorem iX9_size_44 : ab_at mX9_size 44 (.iload_n 3) 1 45 := ⟨by decide +kernel, rfl⟩
theorem iX9_size_45 : ab_at mX9_size 45 (.iconst 0) 1 46 := ⟨by decide +kernel, rfl⟩
theorem iX9_size_46 : ab_at mX9_size 46 (.iastore) 1 47 := ⟨by decide +kernel, rfl⟩
theorem iX9_size_47 : ab_at mX9_size 47 (.aload_n 0) 1 48 := ⟨by decide +kernel, rfl⟩
theorem iX9_size_48 : ab_at mX9_size 48 (.getfield 20) 3 51 := ⟨by decide +kernel, rfl⟩
theorem iX9_size_51 : ab_at mX9_size 51 (.iload_n 3) 1 52 := ⟨by decide +kernel, rfl⟩
theorem iX9_size_52 : ab_at mX9_size 52 (.iconst 0) 1 53 := ⟨by decide +kernel, rfl⟩
theorem iX9_size_53 : ab_at mX9_size 53 (.bastore) 1 54 := ⟨by decide +kernel, rfl⟩
theorem iX9_size_54 : ab_at mX9_size 54 (.iinc 3 1) 3 57 := ⟨by decide +kernel, rfl⟩
theorem iX9_size_57 : ab_bg mX9_size 57 34 := ⟨-23, by decide +kernel, by decide⟩
theorem iX9_size_60 : ab_at mX9_size 60 (.aload_n 0) 1 61 := ⟨by decide +kernel, rfl⟩
theorem iX9_size_61 : ab_at mX9_size 61 (.iconst 0) 1 62 := ⟨by decide +kernel, rfl⟩
theorem iX9_size_62 : ab_at mX9_size 62 (.putfield 115) 3 65 := ⟨by decide +kernel, rfl⟩
theorem iX9_size_65 : ab_at mX9_size 65 (.iload_n 1) 1 66 := ⟨by decide +kernel, rfl⟩
theorem iX9_size_66 : ab_at mX9_size 66 (.iload_n 2) 1 67 := ⟨by decide +kernel, rfl⟩
theorem iX9_size_67 : ab_at mX9_size 67 (.imul) 1 68 := ⟨by decide +kernel, rfl⟩
theorem iX9_size_68 : ab_at mX9_size 68 (.ireturn) 1 69 := ⟨by decide +kernel, rfl⟩
theorem iX9_paint_0 : ab_at mX9_paint 0 (.aload_n 0) 1 1 := ⟨by decide +kernel, rfl⟩
theorem iX9_paint_1 : ab_at mX9_paint 1 (.iload_n 1) 1 2 := ⟨by decide +kernel, rfl⟩
theorem iX9_paint_2 : ab_at mX9_paint 2 (.iload_n 2) 1 3 := ⟨by decide +kernel, rfl⟩
theorem iX9_paint_3 : ab_at mX9_paint 3 (.invokevirtual 118) 3 6 := ⟨by decide +kernel, rfl⟩
theorem iX9_paint_6 : ab_bi mX9_paint 6 .eq 9 49 := ⟨43, by decide +kernel, rfl, by decide⟩
theorem iX9_paint_9 : ab_at mX9_paint 9 (.iload_n 3) 1 10 := ⟨by decide +kernel, rfl⟩
theorem iX9_paint_10 : ab_at mX9_paint 10 (.iconst 1) 1 11 := ⟨by decide +kernel, rfl⟩
theorem iX9_paint_11 : ab_at mX9_paint 11 (.aload_n 0) 1 12 := ⟨by decide +kernel, rfl⟩
theorem iX9_paint_12 : ab_at mX9_paint 12 (.getfield 7) 3 15 := ⟨by decide +kernel, rfl⟩
theorem iX9_paint_15 : ab_at mX9_paint 15 (.iload_n 1) 1 16 := ⟨by decide +kernel, rfl⟩
theorem iX9_paint_16 : ab_at mX9_paint 16 (.isub) 1 17 := ⟨by decide +kernel, rfl⟩
theorem iX9_paint_17 : ab_at mX9_paint 17 (.invokestatic 111) 3 20 := ⟨by decide +kernel, rfl⟩
theorem iX9_paint_20 : ab_bi mX9_paint 20 .eq 23 49 := ⟨29, by decide +kernel, rfl, by decide⟩
theorem iX9_paint_23 : ab_at mX9_paint 23 (.iload 4) 2 25 := ⟨by decide +kernel, rfl⟩
theorem iX9_paint_25 : ab_at mX9_paint 25 (.iconst 1) 1 26 := ⟨by decide +kernel, rfl⟩
theorem iX9_paint_26 : ab_at mX9_paint 26 (.aload_n 0) 1 27 := ⟨by decide +kernel, rfl⟩
theorem iX9_paint_27 : ab_at mX9_paint 27 (.getfield 13) 3 30 := ⟨by decide +kernel, rfl⟩
theorem iX9_paint_30 : ab_at mX9_paint 30 (.iload_n 2) 1 31 := ⟨by decide +kernel, rfl⟩
theorem iX9_paint_31 : ab_at mX9_paint 31 (.isub) 1 32 := ⟨by decide +kernel, rfl⟩
theorem iX9_paint_32 : ab_at mX9_paint 32 (.invokestatic 111) 3 35 := ⟨by decide +kernel, rfl⟩
theorem iX9_paint_35 : ab_bi mX9_paint 35 .eq 38 49 := ⟨14, by decide +kernel, rfl, by decide⟩
theorem iX9_paint_38 : ab_at mX9_paint 38 (.iload 5) 2 40 := ⟨by decide +kernel, rfl⟩
theorem iX9_paint_40 : ab_at mX9_paint 40 (.iconst 0) 1 41 := ⟨by decide +kernel, rfl⟩
theorem iX9_paint_41 : ab_at mX9_paint 41 (.bipush 7) 2 43 := ⟨by decide +kernel, rfl⟩
theorem iX9_paint_43 : ab_at mX9_paint 43 (.invokestatic 111) 3 46 := ⟨by decide +kernel, rfl⟩
theorem iX9_paint_46 : ab_bi mX9_paint 46 .ne 49 51 := ⟨5, by decide +kernel, rfl, by decide⟩
theorem iX9_paint_49 : ab_at mX9_paint 49 (.iconst (-1)) 1 50 := ⟨by decide +kernel, rfl⟩
theorem iX9_paint_50 : ab_at mX9_paint 50 (.ireturn) 1 51 := ⟨by decide +kernel, rfl⟩
theorem iX9_paint_51 : ab_at mX9_paint 51 (.iload_n 1) 1 52 := ⟨by decide +kernel, rfl⟩
theorem iX9_paint_52 : ab_at mX9_paint 52 (.istore 6) 2 54 := ⟨by decide +kernel, rfl⟩
theorem iX9_paint_54 : ab_at mX9_paint 54 (.iload 6) 2 56 := ⟨by decide +kernel, rfl⟩
theorem iX9_paint_56 : ab_at mX9_paint 56 (.iload_n 1) 1 57 := ⟨by decide +kernel, rfl⟩
theorem iX9_paint_57 : ab_at mX9_paint 57 (.iload_n 3) 1 58 := ⟨by decide +kernel, rfl⟩
theorem iX9_paint_58 : ab_at mX9_paint 58 (.iadd) 1 59 := ⟨by decide +kernel, rfl⟩
theorem iX9_paint_59 : ab_bc mX9_paint 59 .ge 62 101 := ⟨42, by decide +kernel, rfl, by decide⟩
theorem iX9_paint_62 : ab_at mX9_paint 62 (.iload_n 2) 1 63 := ⟨by decide +kernel, rfl⟩
theorem iX9_paint_63 : ab_at mX9_paint 63 (.istore 7) 2 65 := ⟨by decide +kernel, rfl⟩
theorem iX9_paint_65 : ab_at mX9_paint 65 (.iload 7) 2 67 := ⟨by decide +kernel, rfl⟩
theorem iX9_paint_67 : ab_at mX9_paint 67 (.iload_n 2) 1 68 := ⟨by decide +kernel, rfl⟩
theorem iX9_paint_68 : ab_at mX9_paint 68 (.iload 4) 2 70 := ⟨by decide +kernel, rfl⟩
theorem iX9_paint_70 : ab_at mX9_paint 70 (.iadd) 1 71 := ⟨by decide +kernel, rfl⟩
theorem iX9_paint_71 : ab_bc mX9_paint 71 .ge 74 95 := ⟨24, by decide +kernel, rfl, by decide⟩
theorem iX9_paint_74 : ab_at mX9_paint 74 (.aload_n 0) 1 75 := ⟨by decide +kernel, rfl⟩
theorem iX9_paint_75 : ab_at mX9_paint 75 (.getfield 16) 3 78 := ⟨by decide +kernel, rfl⟩
theorem iX9_paint_78 : ab_at mX9_paint 78 (.aload_n 0) 1 79 := ⟨by decide +kernel, rfl⟩
theorem iX9_paint_79 : ab_at mX9_paint 79 (.iload 6) 2 81 := ⟨by decide +kernel, rfl⟩
theorem iX9_paint_81 : ab_at mX9_paint 81 (.iload 7) 2 83 := ⟨by decide +kernel, rfl⟩
theorem iX9_paint_83 : ab_at mX9_paint 83 (.invokevirtual 122) 3 86 := ⟨by decide +kernel, rfl⟩
theorem iX9_paint_86 : ab_at mX9_paint 86 (.iload 5) 2 88 := ⟨by decide +kernel, rfl⟩
theorem iX9_paint_88 : ab_at mX9_paint 88 (.iastore) 1 89 := ⟨by decide +kernel, rfl⟩
theorem iX9_paint_89 : ab_at mX9_paint 89 (.iinc 7 1) 3 92 := ⟨by decide +kernel, rfl⟩
theorem iX9_paint_92 : ab_bg mX9_paint 92 65 := ⟨-27, by decide +kernel, by decide⟩
theorem iX9_paint_95 : ab_at mX9_paint 95 (.iinc 6 1) 3 98 := ⟨by decide +kernel, rfl⟩
theorem iX9_paint_98 : ab_bg mX9_paint 98 54 := ⟨-44, by decide +kernel, by decide⟩
theorem iX9_paint_101 : ab_at mX9_paint 101 (.aload_n 0) 1 102 := ⟨by decide +kernel, rfl⟩
theorem iX9_paint_102 : ab_at mX9_paint 102 (.iconst 0) 1 103 := ⟨by decide +kernel, rfl⟩
theorem iX9_paint_103 : ab_at mX9_paint 103 (.putfield 115) 3 106 := ⟨by decide +kernel, rfl⟩
theorem iX9_paint_106 : ab_at mX9_paint 106 (.iload_n 3) 1 107 := ⟨by decide +kernel, rfl⟩
theorem iX9_paint_107 : ab_at mX9_paint 107 (.iload 4) 2 109 := ⟨by decide +kernel, rfl⟩
theorem iX9_paint_109 : ab_at mX9_paint 109 (.imul) 1 110 := ⟨by decide +kernel, rfl⟩
theorem iX9_paint_110 : ab_at mX9_paint 110 (.ireturn) 1 111 := ⟨by decide +kernel, rfl⟩
theorem iX9_face_0 : ab_at mX9_face 0 (.aload_n 0) 1 1 := ⟨by decide +kernel, rfl⟩
theorem iX9_face_1 : ab_at mX9_face 1 (.iload_n 1) 1 2 := ⟨by decide +kernel, rfl⟩
theorem iX9_face_2 : ab_at mX9_face 2 (.iload_n 2) 1 3 := ⟨by decide +kernel, rfl⟩
theorem iX9_face_3 : ab_at mX9_face 3 (.invokevirtual 118) 3 6 := ⟨by decide +kernel, rfl⟩
theorem iX9_face_6 : ab_bi mX9_face 6 .ne 9 11 := ⟨5, by decide +kernel, rfl, by decide⟩
theorem iX9_face_9 : ab_at mX9_face 9 (.iconst (-1)) 1 10 := ⟨by decide +kernel, rfl⟩
theorem iX9_face_10 : ab_at mX9_face 10 (.ireturn) 1 11 := ⟨by decide +kernel, rfl⟩
theorem iX9_face_11 : ab_at mX9_face 11 (.aload_n 0) 1 12 := ⟨by decide +kernel, rfl⟩
theorem iX9_face_12 : ab_at mX9_face 12 (.getfield 20) 3 15 := ⟨by decide +kernel, rfl⟩
theorem iX9_face_15 : ab_at mX9_face 15 (.aload_n 0) 1 16 := ⟨by decide +kernel, rfl⟩
theorem iX9_face_16 : ab_at mX9_face 16 (.iload_n 1) 1 17 := ⟨by decide +kernel, rfl⟩
theorem iX9_face_17 : ab_at mX9_face 17 (.iload_n 2) 1 18 := ⟨by decide +kernel, rfl⟩
theorem iX9_face_18 : ab_at mX9_face 18 (.invokevirtual 122) 3 21 := ⟨by decide +kernel, rfl⟩
theorem iX9_face_21 : ab_at mX9_face 21 (.baload) 1 22 := ⟨by decide +kernel, rfl⟩
theorem iX9_face_22 : ab_at mX9_face 22 (.iload_n 3) 1 23 := ⟨by decide +kernel, rfl⟩
theorem iX9_face_23 : ab_bc mX9_face 23 .ne 26 28 := ⟨5, by decide +kernel, rfl, by decide⟩
theorem iX9_face_26 : ab_at mX9_face 26 (.iconst 0) 1 27 := ⟨by decide +kernel, rfl⟩
theorem iX9_face_27 : ab_at mX9_face 27 (.ireturn) 1 28 := ⟨by decide +kernel, rfl⟩
theorem iX9_face_28 : ab_at mX9_face 28 (.aload_n 0) 1 29 := ⟨by decide +kernel, rfl⟩
theorem iX9_face_29 : ab_at mX9_face 29 (.getfield 20) 3 32 := ⟨by decide +kernel, rfl⟩
theorem iX9_face_32 : ab_at mX9_face 32 (.aload_n 0) 1 33 := ⟨by decide +kernel, rfl⟩
theorem iX9_face_33 : ab_at mX9_face 33 (.iload_n 1) 1 34 := ⟨by decide +kernel, rfl⟩
theorem iX9_face_34 : ab_at mX9_face 34 (.iload_n 2) 1 35 := ⟨by decide +kernel, rfl⟩
theorem iX9_face_35 : ab_at mX9_face 35 (.invokevirtual 122) 3 38 := ⟨by decide +kernel, rfl⟩
theorem iX9_face_38 : ab_at mX9_face 38 (.iload_n 3) 1 39 := ⟨by decide +kernel, rfl⟩
theorem iX9_face_39 : ab_at mX9_face 39 (.bastore) 1 40 := ⟨by decide +kernel, rfl⟩
theorem iX9_face_40 : ab_at mX9_face 40 (.aload_n 0) 1 41 := ⟨by decide +kernel, rfl⟩
theorem iX9_face_41 : ab_at mX9_face 41 (.iconst 0) 1 42 := ⟨by decide +kernel, rfl⟩
theorem iX9_face_42 : ab_at mX9_face 42 (.putfield 115) 3 45 := ⟨by decide +kernel, rfl⟩
theorem iX9_face_45 : ab_at mX9_face 45 (.iconst 1) 1 46 := ⟨by decide +kernel, rfl⟩
theorem iX9_face_46 : ab_at mX9_face 46 (.ireturn) 1 47 := ⟨by decide +kernel, rfl⟩
theorem iX9_toldAt_0 : ab_at mX9_toldAt 0 (.aload_n 0) 1 1 := ⟨by decide +kernel, rfl⟩
theorem iX9_toldAt_1 : ab_at mX9_toldAt 1 (.getfield 16) 3 4 := ⟨by decide +kernel, rfl⟩
theorem iX9_toldAt_4 : ab_at mX9_toldAt 4 (.iload_n 1) 1 5 := ⟨by decide +kernel, rfl⟩
theorem iX9_toldAt_5 : ab_at mX9_toldAt 5 (.iaload) 1 6 := ⟨by decide +kernel, rfl⟩
theorem iX9_toldAt_6 : ab_at mX9_toldAt 6 (.aload_n 0) 1 7 := ⟨by decide +kernel, rfl⟩
theorem iX9_toldAt_7 : ab_at mX9_toldAt 7 (.getfield 20) 3 10 := ⟨by decide +kernel, rfl⟩
theorem iX9_toldAt_10 : ab_at mX9_toldAt 10 (.iload_n 1) 1 11 := ⟨by decide +kernel, rfl⟩
theorem iX9_toldAt_11 : ab_at mX9_toldAt 11 (.baload) 1 12 := ⟨by decide +kernel, rfl⟩
theorem iX9_toldAt_12 : ab_bi mX9_toldAt 12 .eq 15 20 := ⟨8, by decide +kernel, rfl, by decide⟩
theorem iX9_toldAt_15 : ab_at mX9_toldAt 15 (.bipush 8) 2 17 := ⟨by decide +kernel, rfl⟩
theorem iX9_toldAt_17 : ab_bg mX9_toldAt 17 21 := ⟨4, by decide +kernel, by decide⟩
theorem iX9_toldAt_20 : ab_at mX9_toldAt 20 (.iconst 0) 1 21 := ⟨by decide +kernel, rfl⟩
theorem iX9_toldAt_21 : ab_at mX9_toldAt 21 (.iadd) 1 22 := ⟨by decide +kernel, rfl⟩
theorem iX9_toldAt_22 : ab_at mX9_toldAt 22 (.ireturn) 1 23 := ⟨by decide +kernel, rfl⟩
theorem iX9_cartoon_0 : ab_at mX9_cartoon 0 (.aload_n 0) 1 1 := ⟨by decide +kernel, rfl⟩
theorem iX9_cartoon_1 : ab_at mX9_cartoon 1 (.iload_n 1) 1 2 := ⟨by decide +kernel, rfl⟩
theorem iX9_cartoon_2 : ab_at mX9_cartoon 2 (.iload_n 2) 1 3 := ⟨by decide +kernel, rfl⟩
theorem iX9_cartoon_3 : ab_at mX9_cartoon 3 (.invokevirtual 118) 3 6 := ⟨by decide +kernel, rfl⟩
theorem iX9_cartoon_6 : ab_bi mX9_cartoon 6 .eq 9 22 := ⟨16, by decide +kernel, rfl, by decide⟩
theorem iX9_cartoon_9 : ab_at mX9_cartoon 9 (.aload_n 0) 1 10 := ⟨by decide +kernel, rfl⟩
theorem iX9_cartoon_10 : ab_at mX9_cartoon 10 (.aload_n 0) 1 11 := ⟨by decide +kernel, rfl⟩
theorem iX9_cartoon_11 : ab_at mX9_cartoon 11 (.iload_n 1) 1 12 := ⟨by decide +kernel, rfl⟩
theorem iX9_cartoon_12 : ab_at mX9_cartoon 12 (.iload_n 2) 1 13 := ⟨by decide +kernel, rfl⟩
theorem iX9_cartoon_13 : ab_at mX9_cartoon 13 (.invokevirtual 122) 3 16 := ⟨by decide +kernel, rfl⟩
theorem iX9_cartoon_16 : ab_at mX9_cartoon 16 (.invokevirtual 126) 3 19 := ⟨by decide +kernel, rfl⟩
theorem iX9_cartoon_19 : ab_bg mX9_cartoon 19 23 := ⟨4, by decide +kernel, by decide⟩
theorem iX9_cartoon_22 : ab_at mX9_cartoon 22 (.iconst (-1)) 1 23 := ⟨by decide +kernel, rfl⟩
theorem iX9_cartoon_23 : ab_at mX9_cartoon 23 (.ireturn) 1 24 := ⟨by decide +kernel, rfl⟩
theorem iX9_loom_0 : ab_at mX9_loom 0 (.aload_n 0) 1 1 := ⟨by decide +kernel, rfl⟩
theorem iX9_loom_1 : ab_at mX9_loom 1 (.iload_n 1) 1 2 := ⟨by decide +kernel, rfl⟩
theorem iX9_loom_2 : ab_at mX9_loom 2 (.iload_n 2) 1 3 := ⟨by decide +kernel, rfl⟩
theorem iX9_loom_3 : ab_at mX9_loom 3 (.invokevirtual 118) 3 6 := ⟨by decide +kernel, rfl⟩
theorem iX9_loom_6 : ab_bi mX9_loom 6 .eq 9 22 := ⟨16, by decide +kernel, rfl, by decide⟩
theorem iX9_loom_9 : ab_at mX9_loom 9 (.aload_n 0) 1 10 := ⟨by decide +kernel, rfl⟩
theorem iX9_loom_10 : ab_at mX9_loom 10 (.bipush 12) 2 12 := ⟨by decide +kernel, rfl⟩
theorem iX9_loom_12 : ab_at mX9_loom 12 (.iload_n 2) 1 13 := ⟨by decide +kernel, rfl⟩
theorem iX9_loom_13 : ab_at mX9_loom 13 (.imul) 1 14 := ⟨by decide +kernel, rfl⟩
theorem iX9_loom_14 : ab_at mX9_loom 14 (.iload_n 1) 1 15 := ⟨by decide +kernel, rfl⟩
theorem iX9_loom_15 : ab_at mX9_loom 15 (.iadd) 1 16 := ⟨by decide +kernel, rfl⟩
theorem iX9_loom_16 : ab_at mX9_loom 16 (.invokevirtual 126) 3 19 := ⟨by decide +kernel, rfl⟩
theorem iX9_loom_19 : ab_bg mX9_loom 19 23 := ⟨4, by decide +kernel, by decide⟩
theorem iX9_loom_22 : ab_at mX9_loom 22 (.iconst (-1)) 1 23 := ⟨by decide +kernel, rfl⟩
theorem iX9_loom_23 : ab_at mX9_loom 23 (.ireturn) 1 24 := ⟨by decide +kernel, rfl⟩
theorem iX9_rule_0 : ab_at mX9_rule 0 (.iload_n 1) 1 1 := ⟨by decide +kernel, rfl⟩
theorem iX9_rule_1 : ab_at mX9_rule 1 (.iconst 0) 1 2 := ⟨by decide +kernel, rfl⟩
theorem iX9_rule_2 : ab_at mX9_rule 2 (.iconst 1) 1 3 := ⟨by decide +kernel, rfl⟩
theorem iX9_rule_3 : ab_at mX9_rule 3 (.invokestatic 111) 3 6 := ⟨by decide +kernel, rfl⟩
theorem iX9_rule_6 : ab_bi mX9_rule 6 .eq 9 19 := ⟨13, by decide +kernel, rfl, by decide⟩
theorem iX9_rule_9 : ab_at mX9_rule 9 (.iload_n 2) 1 10 := ⟨by decide +kernel, rfl⟩
theorem iX9_rule_10 : ab_at mX9_rule 10 (.iload_n 1) 1 11 := ⟨by decide +kernel, rfl⟩
theorem iX9_rule_11 : ab_at mX9_rule 11 (.bipush 10) 2 13 := ⟨by decide +kernel, rfl⟩
theorem iX9_rule_13 : ab_at mX9_rule 13 (.invokestatic 111) 3 16 := ⟨by decide +kernel, rfl⟩
theorem iX9_rule_16 : ab_bi mX9_rule 16 .ne 19 21 := ⟨5, by decide +kernel, rfl, by decide⟩
theorem iX9_rule_19 : ab_at mX9_rule 19 (.iconst (-1)) 1 20 := ⟨by decide +kernel, rfl⟩
theorem iX9_rule_20 : ab_at mX9_rule 20 (.ireturn) 1 21 := ⟨by decide +kernel, rfl⟩
theorem iX9_rule_21 : ab_at mX9_rule 21 (.iload_n 1) 1 22 := ⟨by decide +kernel, rfl⟩
theorem iX9_rule_22 : ab_bi mX9_rule 22 .ne 25 32 := ⟨10, by decide +kernel, rfl, by decide⟩
theorem iX9_rule_25 : ab_at mX9_rule 25 (.aload_n 0) 1 26 := ⟨by decide +kernel, rfl⟩
theorem iX9_rule_26 : ab_at mX9_rule 26 (.getfield 36) 3 29 := ⟨by decide +kernel, rfl⟩
theorem iX9_rule_29 : ab_bg mX9_rule 29 36 := ⟨7, by decide +kernel, by decide⟩
theorem iX9_rule_32 : ab_at mX9_rule 32 (.aload_n 0) 1 33 := ⟨by decide +kernel, rfl⟩
theorem iX9_rule_33 : ab_at mX9_rule 33 (.getfield 39) 3 36 := ⟨by decide +kernel, rfl⟩
theorem iX9_rule_36 : ab_at mX9_rule 36 (.istore_n 3) 1 37 := ⟨by decide +kernel, rfl⟩
theorem iX9_rule_37 : ab_at mX9_rule 37 (.aload_n 0) 1 38 := ⟨by decide +kernel, rfl⟩
theorem iX9_rule_38 : ab_at mX9_rule 38 (.iload_n 1) 1 39 := ⟨by decide +kernel, rfl⟩
theorem iX9_rule_39 : ab_bi mX9_rule 39 .ne 42 46 := ⟨7, by decide +kernel, rfl, by decide⟩
theorem iX9_rule_42 : ab_at mX9_rule 42 (.iload_n 2) 1 43 := ⟨by decide +kernel, rfl⟩
theorem iX9_rule_43 : ab_bg mX9_rule 43 50 := ⟨7, by decide +kernel, by decide⟩
theorem iX9_rule_46 : ab_at mX9_rule 46 (.aload_n 0) 1 47 := ⟨by decide +kernel, rfl⟩
theorem iX9_rule_47 : ab_at mX9_rule 47 (.getfield 36) 3 50 := ⟨by decide +kernel, rfl⟩
theorem iX9_rule_50 : ab_at mX9_rule 50 (.putfield 36) 3 53 := ⟨by decide +kernel, rfl⟩
theorem iX9_rule_53 : ab_at mX9_rule 53 (.aload_n 0) 1 54 := ⟨by decide +kernel, rfl⟩
theorem iX9_rule_54 : ab_at mX9_rule 54 (.iload_n 1) 1 55 := ⟨by decide +kernel, rfl⟩
theorem iX9_rule_55 : ab_at mX9_rule 55 (.iconst 1) 1 56 := ⟨by decide +kernel, rfl⟩
theorem iX9_rule_56 : ab_bc mX9_rule 56 .ne 59 63 := ⟨7, by decide +kernel, rfl, by decide⟩
theorem iX9_rule_59 : ab_at mX9_rule 59 (.iload_n 2) 1 60 := ⟨by decide +kernel, rfl⟩
theorem iX9_rule_60 : ab_bg mX9_rule 60 67 := ⟨7, by decide +kernel, by decide⟩
theorem iX9_rule_63 : ab_at mX9_rule 63 (.aload_n 0) 1 64 := ⟨by decide +kernel, rfl⟩
theorem iX9_rule_64 : ab_at mX9_rule 64 (.getfield 39) 3 67 := ⟨by decide +kernel, rfl⟩
theorem iX9_rule_67 : ab_at mX9_rule 67 (.putfield 39) 3 70 := ⟨by decide +kernel, rfl⟩
theorem iX9_rule_70 : ab_at mX9_rule 70 (.iload_n 3) 1 71 := ⟨by decide +kernel, rfl⟩
theorem iX9_rule_71 : ab_at mX9_rule 71 (.ireturn) 1 72 := ⟨by decide +kernel, rfl⟩
theorem iX9_isUnlike_0 : ab_at mX9_isUnlike 0 (.aload_n 0) 1 1 := ⟨by decide +kernel, rfl⟩
theorem iX9_isUnlike_1 : ab_at mX9_isUnlike 1 (.getfield 16) 3 4 := ⟨by decide +kernel, rfl⟩
theorem iX9_isUnlike_4 : ab_at mX9_isUnlike 4 (.bipush 12) 2 6 := ⟨by decide +kernel, rfl⟩
theorem iX9_isUnlike_6 : ab_at mX9_isUnlike 6 (.iload_n 2) 1 7 := ⟨by decide +kernel, rfl⟩
theorem iX9_isUnlike_7 : ab_at mX9_isUnlike 7 (.imul) 1 8 := ⟨by decide +kernel, rfl⟩
theorem iX9_isUnlike_8 : ab_at mX9_isUnlike 8 (.iload_n 1) 1 9 := ⟨by decide +kernel, rfl⟩
theorem iX9_isUnlike_9 : ab_at mX9_isUnlike 9 (.iadd) 1 10 := ⟨by decide +kernel, rfl⟩
theorem iX9_isUnlike_10 : ab_at mX9_isUnlike 10 (.iaload) 1 11 := ⟨by decide +kernel, rfl⟩
theorem iX9_isUnlike_11 : ab_at mX9_isUnlike 11 (.aload_n 0) 1 12 := ⟨by decide +kernel, rfl⟩
theorem iX9_isUnlike_12 : ab_at mX9_isUnlike 12 (.getfield 16) 3 15 := ⟨by decide +kernel, rfl⟩
theorem iX9_isUnlike_15 : ab_at mX9_isUnlike 15 (.bipush 12) 2 17 := ⟨by decide +kernel, rfl⟩
theorem iX9_isUnlike_17 : ab_at mX9_isUnlike 17 (.iload_n 2) 1 18 := ⟨by decide +kernel, rfl⟩
theorem iX9_isUnlike_18 : ab_at mX9_isUnlike 18 (.imul) 1 19 := ⟨by decide +kernel, rfl⟩
theorem iX9_isUnlike_19 : ab_at mX9_isUnlike 19 (.iload_n 1) 1 20 := ⟨by decide +kernel, rfl⟩
theorem iX9_isUnlike_20 : ab_at mX9_isUnlike 20 (.iadd) 1 21 := ⟨by decide +kernel, rfl⟩
theorem iX9_isUnlike_21 : ab_at mX9_isUnlike 21 (.iconst 1) 1 22 := ⟨by decide +kernel, rfl⟩
theorem iX9_isUnlike_22 : ab_at mX9_isUnlike 22 (.iadd) 1 23 := ⟨by decide +kernel, rfl⟩
theorem iX9_isUnlike_23 : ab_at mX9_isUnlike 23 (.iaload) 1 24 := ⟨by decide +kernel, rfl⟩
theorem iX9_isUnlike_24 : ab_bc mX9_isUnlike 24 .eq 27 31 := ⟨7, by decide +kernel, rfl, by decide⟩
theorem iX9_isUnlike_27 : ab_at mX9_isUnlike 27 (.iconst 1) 1 28 := ⟨by decide +kernel, rfl⟩
theorem iX9_isUnlike_28 : ab_bg mX9_isUnlike 28 32 := ⟨4, by decide +kernel, by decide⟩
theorem iX9_isUnlike_31 : ab_at mX9_isUnlike 31 (.iconst 0) 1 32 := ⟨by decide +kernel, rfl⟩
theorem iX9_isUnlike_32 : ab_at mX9_isUnlike 32 (.ireturn) 1 33 := ⟨by decide +kernel, rfl⟩
theorem iX9_slitFrom_0 : ab_at mX9_slitFrom 0 (.iload_n 2) 1 1 := ⟨by decide +kernel, rfl⟩
theorem iX9_slitFrom_1 : ab_bi mX9_slitFrom 1 .le 4 17 := ⟨16, by decide +kernel, rfl, by decide⟩
theorem iX9_slitFrom_4 : ab_at mX9_slitFrom 4 (.aload_n 0) 1 5 := ⟨by decide +kernel, rfl⟩
theorem iX9_slitFrom_5 : ab_at mX9_slitFrom 5 (.iload_n 1) 1 6 := ⟨by decide +kernel, rfl⟩
theorem iX9_slitFrom_6 : ab_at mX9_slitFrom 6 (.iload_n 2) 1 7 := ⟨by decide +kernel, rfl⟩
theorem iX9_slitFrom_7 : ab_at mX9_slitFrom 7 (.iconst 1) 1 8 := ⟨by decide +kernel, rfl⟩
theorem iX9_slitFrom_8 : ab_at mX9_slitFrom 8 (.isub) 1 9 := ⟨by decide +kernel, rfl⟩
theorem iX9_slitFrom_9 : ab_at mX9_slitFrom 9 (.invokevirtual 130) 3 12 := ⟨by decide +kernel, rfl⟩
theorem iX9_slitFrom_12 : ab_bi mX9_slitFrom 12 .eq 15 17 := ⟨5, by decide +kernel, rfl, by decide⟩
theorem iX9_slitFrom_15 : ab_at mX9_slitFrom 15 (.iconst 0) 1 16 := ⟨by decide +kernel, rfl⟩
theorem iX9_slitFrom_16 : ab_at mX9_slitFrom 16 (.ireturn) 1 17 := ⟨by decide +kernel, rfl⟩
theorem iX9_slitFrom_17 : ab_at mX9_slitFrom 17 (.iconst 0) 1 18 := ⟨by decide +kernel, rfl⟩
theorem iX9_slitFrom_18 : ab_at mX9_slitFrom 18 (.istore_n 3) 1 19 := ⟨by decide +kernel, rfl⟩
theorem iX9_slitFrom_19 : ab_at mX9_slitFrom 19 (.iload_n 2) 1 20 := ⟨by decide +kernel, rfl⟩
theorem iX9_slitFrom_20 : ab_at mX9_slitFrom 20 (.iload_n 3) 1 21 := ⟨by decide +kernel, rfl⟩
theorem iX9_slitFrom_21 : ab_at mX9_slitFrom 21 (.iadd) 1 22 := ⟨by decide +kernel, rfl⟩
theorem iX9_slitFrom_22 : ab_at mX9_slitFrom 22 (.aload_n 0) 1 23 := ⟨by decide +kernel, rfl⟩
theorem iX9_slitFrom_23 : ab_at mX9_slitFrom 23 (.getfield 13) 3 26 := ⟨by decide +kernel, rfl⟩
theorem iX9_slitFrom_26 : ab_bc mX9_slitFrom 26 .ge 29 46 := ⟨20, by decide +kernel, rfl, by decide⟩
theorem iX9_slitFrom_29 : ab_at mX9_slitFrom 29 (.aload_n 0) 1 30 := ⟨by decide +kernel, rfl⟩
theorem iX9_slitFrom_30 : ab_at mX9_slitFrom 30 (.iload_n 1) 1 31 := ⟨by decide +kernel, rfl⟩
theorem iX9_slitFrom_31 : ab_at mX9_slitFrom 31 (.iload_n 2) 1 32 := ⟨by decide +kernel, rfl⟩
theorem iX9_slitFrom_32 : ab_at mX9_slitFrom 32 (.iload_n 3) 1 33 := ⟨by decide +kernel, rfl⟩
theorem iX9_slitFrom_33 : ab_at mX9_slitFrom 33 (.iadd) 1 34 := ⟨by decide +kernel, rfl⟩
theorem iX9_slitFrom_34 : ab_at mX9_slitFrom 34 (.invokevirtual 130) 3 37 := ⟨by decide +kernel, rfl⟩
theorem iX9_slitFrom_37 : ab_bi mX9_slitFrom 37 .eq 40 46 := ⟨9, by decide +kernel, rfl, by decide⟩
theorem iX9_slitFrom_40 : ab_at mX9_slitFrom 40 (.iinc 3 1) 3 43 := ⟨by decide +kernel, rfl⟩
theorem iX9_slitFrom_43 : ab_bg mX9_slitFrom 43 19 := ⟨-24, by decide +kernel, by decide⟩
theorem iX9_slitFrom_46 : ab_at mX9_slitFrom 46 (.iload_n 3) 1 47 := ⟨by decide +kernel, rfl⟩
theorem iX9_slitFrom_47 : ab_at mX9_slitFrom 47 (.ireturn) 1 48 := ⟨by decide +kernel, rfl⟩
theorem iX9_slits_0 : ab_at mX9_slits 0 (.iload_n 1) 1 1 := ⟨by decide +kernel, rfl⟩
theorem iX9_slits_1 : ab_at mX9_slits 1 (.iconst 0) 1 2 := ⟨by decide +kernel, rfl⟩
theorem iX9_slits_2 : ab_at mX9_slits 2 (.iconst 3) 1 3 := ⟨by decide +kernel, rfl⟩
theorem iX9_slits_3 : ab_at mX9_slits 3 (.invokestatic 111) 3 6 := ⟨by decide +kernel, rfl⟩
theorem iX9_slits_6 : ab_bi mX9_slits 6 .ne 9 11 := ⟨5, by decide +kernel, rfl, by decide⟩
theorem iX9_slits_9 : ab_at mX9_slits 9 (.iconst (-1)) 1 10 := ⟨by decide +kernel, rfl⟩
theorem iX9_slits_10 : ab_at mX9_slits 10 (.ireturn) 1 11 := ⟨by decide +kernel, rfl⟩
theorem iX9_slits_11 : ab_at mX9_slits 11 (.iconst 0) 1 12 := ⟨by decide +kernel, rfl⟩
theorem iX9_slits_12 : ab_at mX9_slits 12 (.istore_n 2) 1 13 := ⟨by decide +kernel, rfl⟩
theorem iX9_slits_13 : ab_at mX9_slits 13 (.iconst 0) 1 14 := ⟨by decide +kernel, rfl⟩
theorem iX9_slits_14 : ab_at mX9_slits 14 (.istore_n 3) 1 15 := ⟨by decide +kernel, rfl⟩
theorem iX9_slits_15 : ab_at mX9_slits 15 (.iconst 0) 1 16 := ⟨by decide +kernel, rfl⟩
theorem iX9_slits_16 : ab_at mX9_slits 16 (.istore 4) 2 18 := ⟨by decide +kernel, rfl⟩
theorem iX9_slits_18 : ab_at mX9_slits 18 (.iconst 0) 1 19 := ⟨by decide +kernel, rfl⟩
theorem iX9_slits_19 : ab_at mX9_slits 19 (.istore 5) 2 21 := ⟨by decide +kernel, rfl⟩
theorem iX9_slits_21 : ab_at mX9_slits 21 (.iconst 0) 1 22 := ⟨by decide +kernel, rfl⟩
theorem iX9_slits_22 : ab_at mX9_slits 22 (.istore 6) 2 24 := ⟨by decide +kernel, rfl⟩
theorem iX9_slits_24 : ab_at mX9_slits 24 (.iload 6) 2 26 := ⟨by decide +kernel, rfl⟩
theorem iX9_slits_26 : ab_at mX9_slits 26 (.iconst 1) 1 27 := ⟨by decide +kernel, rfl⟩
theorem iX9_slits_27 : ab_at mX9_slits 27 (.iadd) 1 28 := ⟨by decide +kernel, rfl⟩
theorem iX9_slits_28 : ab_at mX9_slits 28 (.aload_n 0) 1 29 := ⟨by decide +kernel, rfl⟩
theorem iX9_slits_29 : ab_at mX9_slits 29 (.getfield 7) 3 32 := ⟨by decide +kernel, rfl⟩
theorem iX9_slits_32 : ab_bc mX9_slits 32 .ge 35 135 := ⟨103, by decide +kernel, rfl, by decide⟩
theorem iX9_slits_35 : ab_at mX9_slits 35 (.iconst 0) 1 36 := ⟨by decide +kernel, rfl⟩
theorem iX9_slits_36 : ab_at mX9_slits 36 (.istore 7) 2 38 := ⟨by decide +kernel, rfl⟩
theorem iX9_slits_38 : ab_at mX9_slits 38 (.iload 7) 2 40 := ⟨by decide +kernel, rfl⟩
theorem iX9_slits_40 : ab_at mX9_slits 40 (.aload_n 0) 1 41 := ⟨by decide +kernel, rfl⟩
theorem iX9_slits_41 : ab_at mX9_slits 41 (.getfield 13) 3 44 := ⟨by decide +kernel, rfl⟩
theorem iX9_slits_44 : ab_bc mX9_slits 44 .ge 47 129 := ⟨85, by decide +kernel, rfl, by decide⟩
theorem iX9_slits_47 : ab_at mX9_slits 47 (.aload_n 0) 1 48 := ⟨by decide +kernel, rfl⟩
theorem iX9_slits_48 : ab_at mX9_slits 48 (.iload 6) 2 50 := ⟨by decide +kernel, rfl⟩
theorem iX9_slits_50 : ab_at mX9_slits 50 (.iload 7) 2 52 := ⟨by decide +kernel, rfl⟩
theorem iX9_slits_52 : ab_at mX9_slits 52 (.invokevirtual 133) 3 55 := ⟨by decide +kernel, rfl⟩
theorem iX9_slits_55 : ab_at mX9_slits 55 (.istore 8) 2 57 := ⟨by decide +kernel, rfl⟩
theorem iX9_slits_57 : ab_at mX9_slits 57 (.iload_n 2) 1 58 := ⟨by decide +kernel, rfl⟩
theorem iX9_slits_58 : ab_at mX9_slits 58 (.iload 8) 2 60 := ⟨by decide +kernel, rfl⟩
theorem iX9_slits_60 : ab_bi mX9_slits 60 .le 63 67 := ⟨7, by decide +kernel, rfl, by decide⟩
theorem iX9_slits_63 : ab_at mX9_slits 63 (.iconst 1) 1 64 := ⟨by decide +kernel, rfl⟩
theorem iX9_slits_64 : ab_bg mX9_slits 64 68 := ⟨4, by decide +kernel, by decide⟩
theorem iX9_slits_67 : ab_at mX9_slits 67 (.iconst 0) 1 68 := ⟨by decide +kernel, rfl⟩
theorem iX9_slits_68 : ab_at mX9_slits 68 (.iadd) 1 69 := ⟨by decide +kernel, rfl⟩
theorem iX9_slits_69 : ab_at mX9_slits 69 (.istore_n 2) 1 70 := ⟨by decide +kernel, rfl⟩
theorem iX9_slits_70 : ab_at mX9_slits 70 (.iload_n 3) 1 71 := ⟨by decide +kernel, rfl⟩
theorem iX9_slits_71 : ab_at mX9_slits 71 (.iload 8) 2 73 := ⟨by decide +kernel, rfl⟩
theorem iX9_slits_73 : ab_at mX9_slits 73 (.aload_n 0) 1 74 := ⟨by decide +kernel, rfl⟩
theorem iX9_slits_74 : ab_at mX9_slits 74 (.getfield 36) 3 77 := ⟨by decide +kernel, rfl⟩
theorem iX9_slits_77 : ab_bc mX9_slits 77 .le 80 84 := ⟨7, by decide +kernel, rfl, by decide⟩
theorem iX9_slits_80 : ab_at mX9_slits 80 (.iconst 1) 1 81 := ⟨by decide +kernel, rfl⟩
theorem iX9_slits_81 : ab_bg mX9_slits 81 85 := ⟨4, by decide +kernel, by decide⟩
theorem iX9_slits_84 : ab_at mX9_slits 84 (.iconst 0) 1 85 := ⟨by decide +kernel, rfl⟩
theorem iX9_slits_85 : ab_at mX9_slits 85 (.iadd) 1 86 := ⟨by decide +kernel, rfl⟩
theorem iX9_slits_86 : ab_at mX9_slits 86 (.istore_n 3) 1 87 := ⟨by decide +kernel, rfl⟩
theorem iX9_slits_87 : ab_at mX9_slits 87 (.iload 4) 2 89 := ⟨by decide +kernel, rfl⟩
theorem iX9_slits_89 : ab_at mX9_slits 89 (.iload 8) 2 91 := ⟨by decide +kernel, rfl⟩
theorem iX9_slits_91 : ab_at mX9_slits 91 (.aload_n 0) 1 92 := ⟨by decide +kernel, rfl⟩
theorem iX9_slits_92 : ab_at mX9_slits 92 (.getfield 36) 3 95 := ⟨by decide +kernel, rfl⟩
theorem iX9_slits_95 : ab_bc mX9_slits 95 .le 98 103 := ⟨8, by decide +kernel, rfl, by decide⟩
theorem iX9_slits_98 : ab_at mX9_slits 98 (.iload 8) 2 100 := ⟨by decide +kernel, rfl⟩
theorem iX9_slits_100 : ab_bg mX9_slits 100 104 := ⟨4, by decide +kernel, by decide⟩
theorem iX9_slits_103 : ab_at mX9_slits 103 (.iconst 0) 1 104 := ⟨by decide +kernel, rfl⟩
theorem iX9_slits_104 : ab_at mX9_slits 104 (.iadd) 1 105 := ⟨by decide +kernel, rfl⟩
theorem iX9_slits_105 : ab_at mX9_slits 105 (.istore 4) 2 107 := ⟨by decide +kernel, rfl⟩
theorem iX9_slits_107 : ab_at mX9_slits 107 (.iload 8) 2 109 := ⟨by decide +kernel, rfl⟩
theorem iX9_slits_109 : ab_at mX9_slits 109 (.iload 5) 2 111 := ⟨by decide +kernel, rfl⟩
theorem iX9_slits_111 : ab_bc mX9_slits 111 .le 114 119 := ⟨8, by decide +kernel, rfl, by decide⟩
theorem iX9_slits_114 : ab_at mX9_slits 114 (.iload 8) 2 116 := ⟨by decide +kernel, rfl⟩
theorem iX9_slits_116 : ab_bg mX9_slits 116 121 := ⟨5, by decide +kernel, by decide⟩
theorem iX9_slits_119 : ab_at mX9_slits 119 (.iload 5) 2 121 := ⟨by decide +kernel, rfl⟩
theorem iX9_slits_121 : ab_at mX9_slits 121 (.istore 5) 2 123 := ⟨by decide +kernel, rfl⟩
theorem iX9_slits_123 : ab_at mX9_slits 123 (.iinc 7 1) 3 126 := ⟨by decide +kernel, rfl⟩
theorem iX9_slits_126 : ab_bg mX9_slits 126 38 := ⟨-88, by decide +kernel, by decide⟩
theorem iX9_slits_129 : ab_at mX9_slits 129 (.iinc 6 1) 3 132 := ⟨by decide +kernel, rfl⟩
theorem iX9_slits_132 : ab_bg mX9_slits 132 24 := ⟨-108, by decide +kernel, by decide⟩
theorem iX9_slits_135 : ab_at mX9_slits 135 (.iload_n 1) 1 136 := ⟨by decide +kernel, rfl⟩
theorem iX9_slits_136 : ab_bi mX9_slits 136 .ne 139 143 := ⟨7, by decide +kernel, rfl, by decide⟩
theorem iX9_slits_139 : ab_at mX9_slits 139 (.iload_n 2) 1 140 := ⟨by decide +kernel, rfl⟩
theorem iX9_slits_140 : ab_bg mX9_slits 140 164 := ⟨24, by decide +kernel, by decide⟩
theorem iX9_slits_143 : ab_at mX9_slits 143 (.iload_n 1) 1 144 := ⟨by decide +kernel, rfl⟩
theorem iX9_slits_144 : ab_at mX9_slits 144 (.iconst 1) 1 145 := ⟨by decide +kernel, rfl⟩
theorem iX9_slits_145 : ab_bc mX9_slits 145 .ne 148 152 := ⟨7, by decide +kernel, rfl, by decide⟩
theorem iX9_slits_148 : ab_at mX9_slits 148 (.iload_n 3) 1 149 := ⟨by decide +kernel, rfl⟩
theorem iX9_slits_149 : ab_bg mX9_slits 149 164 := ⟨15, by decide +kernel, by decide⟩
theorem iX9_slits_152 : ab_at mX9_slits 152 (.iload_n 1) 1 153 := ⟨by decide +kernel, rfl⟩
theorem iX9_slits_153 : ab_at mX9_slits 153 (.iconst 2) 1 154 := ⟨by decide +kernel, rfl⟩
theorem iX9_slits_154 : ab_bc mX9_slits 154 .ne 157 162 := ⟨8, by decide +kernel, rfl, by decide⟩
theorem iX9_slits_157 : ab_at mX9_slits 157 (.iload 4) 2 159 := ⟨by decide +kernel, rfl⟩
theorem iX9_slits_159 : ab_bg mX9_slits 159 164 := ⟨5, by decide +kernel, by decide⟩
theorem iX9_slits_162 : ab_at mX9_slits 162 (.iload 5) 2 164 := ⟨by decide +kernel, rfl⟩
theorem iX9_slits_164 : ab_at mX9_slits 164 (.ireturn) 1 165 := ⟨by decide +kernel, rfl⟩
theorem iX9_slit_0 : ab_at mX9_slit 0 (.aload_n 0) 1 1 := ⟨by decide +kernel, rfl⟩
theorem iX9_slit_1 : ab_at mX9_slit 1 (.iload_n 1) 1 2 := ⟨by decide +kernel, rfl⟩
theorem iX9_slit_2 : ab_at mX9_slit 2 (.iload_n 2) 1 3 := ⟨by decide +kernel, rfl⟩
theorem iX9_slit_3 : ab_at mX9_slit 3 (.invokevirtual 118) 3 6 := ⟨by decide +kernel, rfl⟩
theorem iX9_slit_6 : ab_bi mX9_slit 6 .eq 9 19 := ⟨13, by decide +kernel, rfl, by decide⟩
theorem iX9_slit_9 : ab_at mX9_slit 9 (.iload_n 1) 1 10 := ⟨by decide +kernel, rfl⟩
theorem iX9_slit_10 : ab_at mX9_slit 10 (.iconst 1) 1 11 := ⟨by decide +kernel, rfl⟩
theorem iX9_slit_11 : ab_at mX9_slit 11 (.iadd) 1 12 := ⟨by decide +kernel, rfl⟩
theorem iX9_slit_12 : ab_at mX9_slit 12 (.aload_n 0) 1 13 := ⟨by decide +kernel, rfl⟩
theorem iX9_slit_13 : ab_at mX9_slit 13 (.getfield 7) 3 16 := ⟨by decide +kernel, rfl⟩
theorem iX9_slit_16 : ab_bc mX9_slit 16 .ne 19 21 := ⟨5, by decide +kernel, rfl, by decide⟩
theorem iX9_slit_19 : ab_at mX9_slit 19 (.iconst (-1)) 1 20 := ⟨by decide +kernel, rfl⟩
theorem iX9_slit_20 : ab_at mX9_slit 20 (.ireturn) 1 21 := ⟨by decide +kernel, rfl⟩
theorem iX9_slit_21 : ab_at mX9_slit 21 (.aload_n 0) 1 22 := ⟨by decide +kernel, rfl⟩
theorem iX9_slit_22 : ab_at mX9_slit 22 (.iload_n 1) 1 23 := ⟨by decide +kernel, rfl⟩
theorem iX9_slit_23 : ab_at mX9_slit 23 (.iload_n 2) 1 24 := ⟨by decide +kernel, rfl⟩
theorem iX9_slit_24 : ab_at mX9_slit 24 (.invokevirtual 130) 3 27 := ⟨by decide +kernel, rfl⟩
theorem iX9_slit_27 : ab_bi mX9_slit 27 .ne 30 32 := ⟨5, by decide +kernel, rfl, by decide⟩
theorem iX9_slit_30 : ab_at mX9_slit 30 (.iconst 0) 1 31 := ⟨by decide +kernel, rfl⟩
theorem iX9_slit_31 : ab_at mX9_slit 31 (.ireturn) 1 32 := ⟨by decide +kernel, rfl⟩
theorem iX9_slit_32 : ab_at mX9_slit 32 (.iload_n 2) 1 33 := ⟨by decide +kernel, rfl⟩
theorem iX9_slit_33 : ab_at mX9_slit 33 (.istore_n 3) 1 34 := ⟨by decide +kernel, rfl⟩
theorem iX9_slit_34 : ab_at mX9_slit 34 (.iload_n 3) 1 35 := ⟨by decide +kernel, rfl⟩
theorem iX9_slit_35 : ab_bi mX9_slit 35 .le 38 55 := ⟨20, by decide +kernel, rfl, by decide⟩
theorem iX9_slit_38 : ab_at mX9_slit 38 (.aload_n 0) 1 39 := ⟨by decide +kernel, rfl⟩
theorem iX9_slit_39 : ab_at mX9_slit 39 (.iload_n 1) 1 40 := ⟨by decide +kernel, rfl⟩
theorem iX9_slit_40 : ab_at mX9_slit 40 (.iload_n 3) 1 41 := ⟨by decide +kernel, rfl⟩
theorem iX9_slit_41 : ab_at mX9_slit 41 (.iconst 1) 1 42 := ⟨by decide +kernel, rfl⟩
theorem iX9_slit_42 : ab_at mX9_slit 42 (.isub) 1 43 := ⟨by decide +kernel, rfl⟩
theorem iX9_slit_43 : ab_at mX9_slit 43 (.invokevirtual 130) 3 46 := ⟨by decide +kernel, rfl⟩
theorem iX9_slit_46 : ab_bi mX9_slit 46 .eq 49 55 := ⟨9, by decide +kernel, rfl, by decide⟩
theorem iX9_slit_49 : ab_at mX9_slit 49 (.iinc 3 (-1)) 3 52 := ⟨by decide +kernel, rfl⟩
theorem iX9_slit_52 : ab_bg mX9_slit 52 34 := ⟨-18, by decide +kernel, by decide⟩
theorem iX9_slit_55 : ab_at mX9_slit 55 (.aload_n 0) 1 56 := ⟨by decide +kernel, rfl⟩
theorem iX9_slit_56 : ab_at mX9_slit 56 (.iload_n 1) 1 57 := ⟨by decide +kernel, rfl⟩
theorem iX9_slit_57 : ab_at mX9_slit 57 (.iload_n 3) 1 58 := ⟨by decide +kernel, rfl⟩
theorem iX9_slit_58 : ab_at mX9_slit 58 (.invokevirtual 133) 3 61 := ⟨by decide +kernel, rfl⟩
theorem iX9_slit_61 : ab_at mX9_slit 61 (.ireturn) 1 62 := ⟨by decide +kernel, rfl⟩
theorem iX9_findFields_0 : ab_at mX9_findFields 0 (.iconst 0) 1 1 := ⟨by decide +kernel, rfl⟩
theorem iX9_findFields_1 : ab_at mX9_findFields 1 (.istore_n 1) 1 2 := ⟨by decide +kernel, rfl⟩
theorem iX9_findFields_2 : ab_at mX9_findFields 2 (.iload_n 1) 1 3 := ⟨by decide +kernel, rfl⟩
theorem iX9_findFields_3 : ab_at mX9_findFields 3 (.aload_n 0) 1 4 := ⟨by decide +kernel, rfl⟩
theorem iX9_findFields_4 : ab_at mX9_findFields 4 (.getfield 13) 3 7 := ⟨by decide +kernel, rfl⟩
theorem iX9_findFields_7 : ab_bc mX9_findFields 7 .ge 10 49 := ⟨42, by decide +kernel, rfl, by decide⟩
theorem iX9_findFields_10 : ab_at mX9_findFields 10 (.iconst 0) 1 11 := ⟨by decide +kernel, rfl⟩
theorem iX9_findFields_11 : ab_at mX9_findFields 11 (.istore_n 2) 1 12 := ⟨by decide +kernel, rfl⟩
theorem iX9_findFields_12 : ab_at mX9_findFields 12 (.iload_n 2) 1 13 := ⟨by decide +kernel, rfl⟩
theorem iX9_findFields_13 : ab_at mX9_findFields 13 (.aload_n 0) 1 14 := ⟨by decide +kernel, rfl⟩
theorem iX9_findFields_14 : ab_at mX9_findFields 14 (.getfield 7) 3 17 := ⟨by decide +kernel, rfl⟩
theorem iX9_findFields_17 : ab_bc mX9_findFields 17 .ge 20 43 := ⟨26, by decide +kernel, rfl, by decide⟩
theorem iX9_findFields_20 : ab_at mX9_findFields 20 (.aload_n 0) 1 21 := ⟨by decide +kernel, rfl⟩
theorem iX9_findFields_21 : ab_at mX9_findFields 21 (.getfield 69) 3 24 := ⟨by decide +kernel, rfl⟩
theorem iX9_findFields_24 : ab_at mX9_findFields 24 (.bipush 12) 2 26 := ⟨by decide +kernel, rfl⟩
theorem iX9_findFields_26 : ab_at mX9_findFields 26 (.iload_n 1) 1 27 := ⟨by decide +kernel, rfl⟩
theorem iX9_findFields_27 : ab_at mX9_findFields 27 (.imul) 1 28 := ⟨by decide +kernel, rfl⟩
theorem iX9_findFields_28 : ab_at mX9_findFields 28 (.iload_n 2) 1 29 := ⟨by decide +kernel, rfl⟩
theorem iX9_findFields_29 : ab_at mX9_findFields 29 (.iadd) 1 30 := ⟨by decide +kernel, rfl⟩
theorem iX9_findFields_30 : ab_at mX9_findFields 30 (.bipush 12) 2 32 := ⟨by decide +kernel, rfl⟩
theorem iX9_findFields_32 : ab_at mX9_findFields 32 (.iload_n 1) 1 33 := ⟨by decide +kernel, rfl⟩
theorem iX9_findFields_33 : ab_at mX9_findFields 33 (.imul) 1 34 := ⟨by decide +kernel, rfl⟩
theorem iX9_findFields_34 : ab_at mX9_findFields 34 (.iload_n 2) 1 35 := ⟨by decide +kernel, rfl⟩
theorem iX9_findFields_35 : ab_at mX9_findFields 35 (.iadd) 1 36 := ⟨by decide +kernel, rfl⟩
theorem iX9_findFields_36 : ab_at mX9_findFields 36 (.iastore) 1 37 := ⟨by decide +kernel, rfl⟩
theorem iX9_findFields_37 : ab_at mX9_findFields 37 (.iinc 2 1) 3 40 := ⟨by decide +kernel, rfl⟩
theorem iX9_findFields_40 : ab_bg mX9_findFields 40 12 := ⟨-28, by decide +kernel, by decide⟩
theorem iX9_findFields_43 : ab_at mX9_findFields 43 (.iinc 1 1) 3 46 := ⟨by decide +kernel, rfl⟩
theorem iX9_findFields_46 : ab_bg mX9_findFields 46 2 := ⟨-44, by decide +kernel, by decide⟩
theorem iX9_findFields_49 : ab_at mX9_findFields 49 (.iconst 1) 1 50 := ⟨by decide +kernel, rfl⟩
theorem iX9_findFields_50 : ab_at mX9_findFields 50 (.istore_n 1) 1 51 := ⟨by decide +kernel, rfl⟩
theorem iX9_findFields_51 : ab_at mX9_findFields 51 (.iload_n 1) 1 52 := ⟨by decide +kernel, rfl⟩
theorem iX9_findFields_52 : ab_bi mX9_findFields 52 .eq 55 246 := ⟨194, by decide +kernel, rfl, by decide⟩
theorem iX9_findFields_55 : ab_at mX9_findFields 55 (.iconst 0) 1 56 := ⟨by decide +kernel, rfl⟩
theorem iX9_findFields_56 : ab_at mX9_findFields 56 (.istore_n 1) 1 57 := ⟨by decide +kernel, rfl⟩
theorem iX9_findFields_57 : ab_at mX9_findFields 57 (.iconst 0) 1 58 := ⟨by decide +kernel, rfl⟩
theorem iX9_findFields_58 : ab_at mX9_findFields 58 (.istore_n 2) 1 59 := ⟨by decide +kernel, rfl⟩
theorem iX9_findFields_59 : ab_at mX9_findFields 59 (.iload_n 2) 1 60 := ⟨by decide +kernel, rfl⟩
theorem iX9_findFields_60 : ab_at mX9_findFields 60 (.aload_n 0) 1 61 := ⟨by decide +kernel, rfl⟩
theorem iX9_findFields_61 : ab_at mX9_findFields 61 (.getfield 13) 3 64 := ⟨by decide +kernel, rfl⟩
theorem iX9_findFields_64 : ab_bc mX9_findFields 64 .ge 67 243 := ⟨179, by decide +kernel, rfl, by decide⟩
theorem iX9_findFields_67 : ab_at mX9_findFields 67 (.iconst 0) 1 68 := ⟨by decide +kernel, rfl⟩
theorem iX9_findFields_68 : ab_at mX9_findFields 68 (.istore_n 3) 1 69 := ⟨by decide +kernel, rfl⟩
theorem iX9_findFields_69 : ab_at mX9_findFields 69 (.iload_n 3) 1 70 := ⟨by decide +kernel, rfl⟩
theorem iX9_findFields_70 : ab_at mX9_findFields 70 (.aload_n 0) 1 71 := ⟨by decide +kernel, rfl⟩
theorem iX9_findFields_71 : ab_at mX9_findFields 71 (.getfield 7) 3 74 := ⟨by decide +kernel, rfl⟩
theorem iX9_findFields_74 : ab_bc mX9_findFields 74 .ge 77 237 := ⟨163, by decide +kernel, rfl, by decide⟩
theorem iX9_findFields_77 : ab_at mX9_findFields 77 (.bipush 12) 2 79 := ⟨by decide +kernel, rfl⟩
theorem iX9_findFields_79 : ab_at mX9_findFields 79 (.iload_n 2) 1 80 := ⟨by decide +kernel, rfl⟩
theorem iX9_findFields_80 : ab_at mX9_findFields 80 (.imul) 1 81 := ⟨by decide +kernel, rfl⟩
theorem iX9_findFields_81 : ab_at mX9_findFields 81 (.iload_n 3) 1 82 := ⟨by decide +kernel, rfl⟩
theorem iX9_findFields_82 : ab_at mX9_findFields 82 (.iadd) 1 83 := ⟨by decide +kernel, rfl⟩
theorem iX9_findFields_83 : ab_at mX9_findFields 83 (.istore 4) 2 85 := ⟨by decide +kernel, rfl⟩
theorem iX9_findFields_85 : ab_at mX9_findFields 85 (.aload_n 0) 1 86 := ⟨by decide +kernel, rfl⟩
theorem iX9_findFields_86 : ab_at mX9_findFields 86 (.getfield 69) 3 89 := ⟨by decide +kernel, rfl⟩
theorem iX9_findFields_89 : ab_at mX9_findFields 89 (.iload 4) 2 91 := ⟨by decide +kernel, rfl⟩
theorem iX9_findFields_91 : ab_at mX9_findFields 91 (.iaload) 1 92 := ⟨by decide +kernel, rfl⟩
theorem iX9_findFields_92 : ab_at mX9_findFields 92 (.istore 5) 2 94 := ⟨by decide +kernel, rfl⟩
theorem iX9_findFields_94 : ab_at mX9_findFields 94 (.iload_n 3) 1 95 := ⟨by decide +kernel, rfl⟩
theorem iX9_findFields_95 : ab_bi mX9_findFields 95 .le 98 113 := ⟨18, by decide +kernel, rfl, by decide⟩
theorem iX9_findFields_98 : ab_at mX9_findFields 98 (.aload_n 0) 1 99 := ⟨by decide +kernel, rfl⟩
theorem iX9_findFields_99 : ab_at mX9_findFields 99 (.iload 5) 2 101 := ⟨by decide +kernel, rfl⟩
theorem iX9_findFields_101 : ab_at mX9_findFields 101 (.iload 4) 2 103 := ⟨by decide +kernel, rfl⟩
theorem iX9_findFields_103 : ab_at mX9_findFields 103 (.iload 4) 2 105 := ⟨by decide +kernel, rfl⟩
theorem iX9_findFields_105 : ab_at mX9_findFields 105 (.iconst 1) 1 106 := ⟨by decide +kernel, rfl⟩
theorem iX9_findFields_106 : ab_at mX9_findFields 106 (.isub) 1 107 := ⟨by decide +kernel, rfl⟩
theorem iX9_findFields_107 : ab_at mX9_findFields 107 (.invokevirtual 136) 3 110 := ⟨by decide +kernel, rfl⟩
theorem iX9_findFields_110 : ab_bg mX9_findFields 110 115 := ⟨5, by decide +kernel, by decide⟩
theorem iX9_findFields_113 : ab_at mX9_findFields 113 (.iload 5) 2 115 := ⟨by decide +kernel, rfl⟩
theorem iX9_findFields_115 : ab_at mX9_findFields 115 (.istore 5) 2 117 := ⟨by decide +kernel, rfl⟩
theorem iX9_findFields_117 : ab_at mX9_findFields 117 (.iload_n 3) 1 118 := ⟨by decide +kernel, rfl⟩
theorem iX9_findFields_118 : ab_at mX9_findFields 118 (.iconst 1) 1 119 := ⟨by decide +kernel, rfl⟩
theorem iX9_findFields_119 : ab_at mX9_findFields 119 (.iadd) 1 120 := ⟨by decide +kernel, rfl⟩
theorem iX9_findFields_120 : ab_at mX9_findFields 120 (.aload_n 0) 1 121 := ⟨by decide +kernel, rfl⟩
theorem iX9_findFields_121 : ab_at mX9_findFields 121 (.getfield 7) 3 124 := ⟨by decide +kernel, rfl⟩
theorem iX9_findFields_124 : ab_bc mX9_findFields 124 .ge 127 142 := ⟨18, by decide +kernel, rfl, by decide⟩
theorem iX9_findFields_127 : ab_at mX9_findFields 127 (.aload_n 0) 1 128 := ⟨by decide +kernel, rfl⟩
theorem iX9_findFields_128 : ab_at mX9_findFields 128 (.iload 5) 2 130 := ⟨by decide +kernel, rfl⟩
theorem iX9_findFields_130 : ab_at mX9_findFields 130 (.iload 4) 2 132 := ⟨by decide +kernel, rfl⟩
theorem iX9_findFields_132 : ab_at mX9_findFields 132 (.iload 4) 2 134 := ⟨by decide +kernel, rfl⟩
theorem iX9_findFields_134 : ab_at mX9_findFields 134 (.iconst 1) 1 135 := ⟨by decide +kernel, rfl⟩
theorem iX9_findFields_135 : ab_at mX9_findFields 135 (.iadd) 1 136 := ⟨by decide +kernel, rfl⟩
theorem iX9_findFields_136 : ab_at mX9_findFields 136 (.invokevirtual 136) 3 139 := ⟨by decide +kernel, rfl⟩
theorem iX9_findFields_139 : ab_bg mX9_findFields 139 144 := ⟨5, by decide +kernel, by decide⟩
theorem iX9_findFields_142 : ab_at mX9_findFields 142 (.iload 5) 2 144 := ⟨by decide +kernel, rfl⟩
theorem iX9_findFields_144 : ab_at mX9_findFields 144 (.istore 5) 2 146 := ⟨by decide +kernel, rfl⟩
theorem iX9_findFields_146 : ab_at mX9_findFields 146 (.iload_n 2) 1 147 := ⟨by decide +kernel, rfl⟩
theorem iX9_findFields_147 : ab_bi mX9_findFields 147 .le 150 166 := ⟨19, by decide +kernel, rfl, by decide⟩
theorem iX9_findFields_150 : ab_at mX9_findFields 150 (.aload_n 0) 1 151 := ⟨by decide +kernel, rfl⟩
theorem iX9_findFields_151 : ab_at mX9_findFields 151 (.iload 5) 2 153 := ⟨by decide +kernel, rfl⟩
theorem iX9_findFields_153 : ab_at mX9_findFields 153 (.iload 4) 2 155 := ⟨by decide +kernel, rfl⟩
theorem iX9_findFields_155 : ab_at mX9_findFields 155 (.iload 4) 2 157 := ⟨by decide +kernel, rfl⟩
theorem iX9_findFields_157 : ab_at mX9_findFields 157 (.bipush 12) 2 159 := ⟨by decide +kernel, rfl⟩
theorem iX9_findFields_159 : ab_at mX9_findFields 159 (.isub) 1 160 := ⟨by decide +kernel, rfl⟩
theorem iX9_findFields_160 : ab_at mX9_findFields 160 (.invokevirtual 136) 3 163 := ⟨by decide +kernel, rfl⟩
theorem iX9_findFields_163 : ab_bg mX9_findFields 163 168 := ⟨5, by decide +kernel, by decide⟩
theorem iX9_findFields_166 : ab_at mX9_findFields 166 (.iload 5) 2 168 := ⟨by decide +kernel, rfl⟩
theorem iX9_findFields_168 : ab_at mX9_findFields 168 (.istore 5) 2 170 := ⟨by decide +kernel, rfl⟩
theorem iX9_findFields_170 : ab_at mX9_findFields 170 (.iload_n 2) 1 171 := ⟨by decide +kernel, rfl⟩
theorem iX9_findFields_171 : ab_at mX9_findFields 171 (.iconst 1) 1 172 := ⟨by decide +kernel, rfl⟩
theorem iX9_findFields_172 : ab_at mX9_findFields 172 (.iadd) 1 173 := ⟨by decide +kernel, rfl⟩
theorem iX9_findFields_173 : ab_at mX9_findFields 173 (.aload_n 0) 1 174 := ⟨by decide +kernel, rfl⟩
theorem iX9_findFields_174 : ab_at mX9_findFields 174 (.getfield 13) 3 177 := ⟨by decide +kernel, rfl⟩
theorem iX9_findFields_177 : ab_bc mX9_findFields 177 .ge 180 196 := ⟨19, by decide +kernel, rfl, by decide⟩
theorem iX9_findFields_180 : ab_at mX9_findFields 180 (.aload_n 0) 1 181 := ⟨by decide +kernel, rfl⟩
theorem iX9_findFields_181 : ab_at mX9_findFields 181 (.iload 5) 2 183 := ⟨by decide +kernel, rfl⟩
theorem iX9_findFields_183 : ab_at mX9_findFields 183 (.iload 4) 2 185 := ⟨by decide +kernel, rfl⟩
theorem iX9_findFields_185 : ab_at mX9_findFields 185 (.iload 4) 2 187 := ⟨by decide +kernel, rfl⟩
theorem iX9_findFields_187 : ab_at mX9_findFields 187 (.bipush 12) 2 189 := ⟨by decide +kernel, rfl⟩
theorem iX9_findFields_189 : ab_at mX9_findFields 189 (.iadd) 1 190 := ⟨by decide +kernel, rfl⟩
theorem iX9_findFields_190 : ab_at mX9_findFields 190 (.invokevirtual 136) 3 193 := ⟨by decide +kernel, rfl⟩
theorem iX9_findFields_193 : ab_bg mX9_findFields 193 198 := ⟨5, by decide +kernel, by decide⟩
theorem iX9_findFields_196 : ab_at mX9_findFields 196 (.iload 5) 2 198 := ⟨by decide +kernel, rfl⟩
theorem iX9_findFields_198 : ab_at mX9_findFields 198 (.istore 5) 2 200 := ⟨by decide +kernel, rfl⟩
theorem iX9_findFields_200 : ab_at mX9_findFields 200 (.iload_n 1) 1 201 := ⟨by decide +kernel, rfl⟩
theorem iX9_findFields_201 : ab_bi mX9_findFields 201 .ne 204 216 := ⟨15, by decide +kernel, rfl, by decide⟩
theorem iX9_findFields_204 : ab_at mX9_findFields 204 (.iload 5) 2 206 := ⟨by decide +kernel, rfl⟩
theorem iX9_findFields_206 : ab_at mX9_findFields 206 (.aload_n 0) 1 207 := ⟨by decide +kernel, rfl⟩
theorem iX9_findFields_207 : ab_at mX9_findFields 207 (.getfield 69) 3 210 := ⟨by decide +kernel, rfl⟩
theorem iX9_findFields_210 : ab_at mX9_findFields 210 (.iload 4) 2 212 := ⟨by decide +kernel, rfl⟩
theorem iX9_findFields_212 : ab_at mX9_findFields 212 (.iaload) 1 213 := ⟨by decide +kernel, rfl⟩
theorem iX9_findFields_213 : ab_bc mX9_findFields 213 .eq 216 220 := ⟨7, by decide +kernel, rfl, by decide⟩
theorem iX9_findFields_216 : ab_at mX9_findFields 216 (.iconst 1) 1 217 := ⟨by decide +kernel, rfl⟩
theorem iX9_findFields_217 : ab_bg mX9_findFields 217 221 := ⟨4, by decide +kernel, by decide⟩
theorem iX9_findFields_220 : ab_at mX9_findFields 220 (.iconst 0) 1 221 := ⟨by decide +kernel, rfl⟩
theorem iX9_findFields_221 : ab_at mX9_findFields 221 (.istore_n 1) 1 222 := ⟨by decide +kernel, rfl⟩
theorem iX9_findFields_222 : ab_at mX9_findFields 222 (.aload_n 0) 1 223 := ⟨by decide +kernel, rfl⟩
theorem iX9_findFields_223 : ab_at mX9_findFields 223 (.getfield 69) 3 226 := ⟨by decide +kernel, rfl⟩
theorem iX9_findFields_226 : ab_at mX9_findFields 226 (.iload 4) 2 228 := ⟨by decide +kernel, rfl⟩
theorem iX9_findFields_228 : ab_at mX9_findFields 228 (.iload 5) 2 230 := ⟨by decide +kernel, rfl⟩
theorem iX9_findFields_230 : ab_at mX9_findFields 230 (.iastore) 1 231 := ⟨by decide +kernel, rfl⟩
theorem iX9_findFields_231 : ab_at mX9_findFields 231 (.iinc 3 1) 3 234 := ⟨by decide +kernel, rfl⟩
theorem iX9_findFields_234 : ab_bg mX9_findFields 234 69 := ⟨-165, by decide +kernel, by decide⟩
theorem iX9_findFields_237 : ab_at mX9_findFields 237 (.iinc 2 1) 3 240 := ⟨by decide +kernel, rfl⟩
theorem iX9_findFields_240 : ab_bg mX9_findFields 240 59 := ⟨-181, by decide +kernel, by decide⟩
theorem iX9_findFields_243 : ab_bg mX9_findFields 243 51 := ⟨-192, by decide +kernel, by decide⟩
theorem iX9_findFields_246 : ab_at mX9_findFields 246 (.aload_n 0) 1 247 := ⟨by decide +kernel, rfl⟩
theorem iX9_findFields_247 : ab_at mX9_findFields 247 (.invokevirtual 140) 3 250 := ⟨by decide +kernel, rfl⟩
theorem iX9_findFields_250 : ab_at mX9_findFields 250 (.return_) 1 251 := ⟨by decide +kernel, rfl⟩
theorem iX9_lesser_0 : ab_at mX9_lesser 0 (.aload_n 0) 1 1 := ⟨by decide +kernel, rfl⟩
theorem iX9_lesser_1 : ab_at mX9_lesser 1 (.getfield 16) 3 4 := ⟨by decide +kernel, rfl⟩
theorem iX9_lesser_4 : ab_at mX9_lesser 4 (.iload_n 2) 1 5 := ⟨by decide +kernel, rfl⟩
theorem iX9_lesser_5 : ab_at mX9_lesser 5 (.iaload) 1 6 := ⟨by decide +kernel, rfl⟩
theorem iX9_lesser_6 : ab_at mX9_lesser 6 (.aload_n 0) 1 7 := ⟨by decide +kernel, rfl⟩
theorem iX9_lesser_7 : ab_at mX9_lesser 7 (.getfield 16) 3 10 := ⟨by decide +kernel, rfl⟩
theorem iX9_lesser_10 : ab_at mX9_lesser 10 (.iload_n 3) 1 11 := ⟨by decide +kernel, rfl⟩
theorem iX9_lesser_11 : ab_at mX9_lesser 11 (.iaload) 1 12 := ⟨by decide +kernel, rfl⟩
theorem iX9_lesser_12 : ab_bc mX9_lesser 12 .ne 15 34 := ⟨22, by decide +kernel, rfl, by decide⟩
theorem iX9_lesser_15 : ab_at mX9_lesser 15 (.aload_n 0) 1 16 := ⟨by decide +kernel, rfl⟩
theorem iX9_lesser_16 : ab_at mX9_lesser 16 (.getfield 69) 3 19 := ⟨by decide +kernel, rfl⟩
theorem iX9_lesser_19 : ab_at mX9_lesser 19 (.iload_n 3) 1 20 := ⟨by decide +kernel, rfl⟩
theorem iX9_lesser_20 : ab_at mX9_lesser 20 (.iaload) 1 21 := ⟨by decide +kernel, rfl⟩
theorem iX9_lesser_21 : ab_at mX9_lesser 21 (.iload_n 1) 1 22 := ⟨by decide +kernel, rfl⟩
theorem iX9_lesser_22 : ab_bc mX9_lesser 22 .ge 25 34 := ⟨12, by decide +kernel, rfl, by decide⟩
theorem iX9_lesser_25 : ab_at mX9_lesser 25 (.aload_n 0) 1 26 := ⟨by decide +kernel, rfl⟩
theorem iX9_lesser_26 : ab_at mX9_lesser 26 (.getfield 69) 3 29 := ⟨by decide +kernel, rfl⟩
theorem iX9_lesser_29 : ab_at mX9_lesser 29 (.iload_n 3) 1 30 := ⟨by decide +kernel, rfl⟩
theorem iX9_lesser_30 : ab_at mX9_lesser 30 (.iaload) 1 31 := ⟨by decide +kernel, rfl⟩
theorem iX9_lesser_31 : ab_bg mX9_lesser 31 35 := ⟨4, by decide +kernel, by decide⟩
theorem iX9_lesser_34 : ab_at mX9_lesser 34 (.iload_n 1) 1 35 := ⟨by decide +kernel, rfl⟩
theorem iX9_lesser_35 : ab_at mX9_lesser 35 (.ireturn) 1 36 := ⟨by decide +kernel, rfl⟩
theorem iX9_number_0 : ab_at mX9_number 0 (.aload_n 0) 1 1 := ⟨by decide +kernel, rfl⟩
theorem iX9_number_1 : ab_at mX9_number 1 (.iconst 0) 1 2 := ⟨by decide +kernel, rfl⟩
theorem iX9_number_2 : ab_at mX9_number 2 (.putfield 143) 3 5 := ⟨by decide +kernel, rfl⟩
theorem iX9_number_5 : ab_at mX9_number 5 (.iconst 0) 1 6 := ⟨by decide +kernel, rfl⟩
theorem iX9_number_6 : ab_at mX9_number 6 (.istore_n 1) 1 7 := ⟨by decide +kernel, rfl⟩
theorem iX9_number_7 : ab_at mX9_number 7 (.iload_n 1) 1 8 := ⟨by decide +kernel, rfl⟩
theorem iX9_number_8 : ab_at mX9_number 8 (.aload_n 0) 1 9 := ⟨by decide +kernel, rfl⟩
theorem iX9_number_9 : ab_at mX9_number 9 (.getfield 13) 3 12 := ⟨by decide +kernel, rfl⟩
theorem iX9_number_12 : ab_bc mX9_number 12 .ge 15 94 := ⟨82, by decide +kernel, rfl, by decide⟩
theorem iX9_number_15 : ab_at mX9_number 15 (.iconst 0) 1 16 := ⟨by decide +kernel, rfl⟩
theorem iX9_number_16 : ab_at mX9_number 16 (.istore_n 2) 1 17 := ⟨by decide +kernel, rfl⟩
theorem iX9_number_17 : ab_at mX9_number 17 (.iload_n 2) 1 18 := ⟨by decide +kernel, rfl⟩
theorem iX9_number_18 : ab_at mX9_number 18 (.aload_n 0) 1 19 := ⟨by decide +kernel, rfl⟩
theorem iX9_number_19 : ab_at mX9_number 19 (.getfield 7) 3 22 := ⟨by decide +kernel, rfl⟩
theorem iX9_number_22 : ab_bc mX9_number 22 .ge 25 88 := ⟨66, by decide +kernel, rfl, by decide⟩
theorem iX9_number_25 : ab_at mX9_number 25 (.bipush 12) 2 27 := ⟨by decide +kernel, rfl⟩
theorem iX9_number_27 : ab_at mX9_number 27 (.iload_n 1) 1 28 := ⟨by decide +kernel, rfl⟩
theorem iX9_number_28 : ab_at mX9_number 28 (.imul) 1 29 := ⟨by decide +kernel, rfl⟩
theorem iX9_number_29 : ab_at mX9_number 29 (.iload_n 2) 1 30 := ⟨by decide +kernel, rfl⟩
theorem iX9_number_30 : ab_at mX9_number 30 (.iadd) 1 31 := ⟨by decide +kernel, rfl⟩
theorem iX9_number_31 : ab_at mX9_number 31 (.istore_n 3) 1 32 := ⟨by decide +kernel, rfl⟩
theorem iX9_number_32 : ab_at mX9_number 32 (.aload_n 0) 1 33 := ⟨by decide +kernel, rfl⟩
theorem iX9_number_33 : ab_at mX9_number 33 (.getfield 69) 3 36 := ⟨by decide +kernel, rfl⟩
theorem iX9_number_36 : ab_at mX9_number 36 (.iload_n 3) 1 37 := ⟨by decide +kernel, rfl⟩
theorem iX9_number_37 : ab_at mX9_number 37 (.iaload) 1 38 := ⟨by decide +kernel, rfl⟩
theorem iX9_number_38 : ab_at mX9_number 38 (.iload_n 3) 1 39 := ⟨by decide +kernel, rfl⟩
theorem iX9_number_39 : ab_bc mX9_number 39 .ne 42 82 := ⟨43, by decide +kernel, rfl, by decide⟩
theorem iX9_number_42 : ab_at mX9_number 42 (.aload_n 0) 1 43 := ⟨by decide +kernel, rfl⟩
theorem iX9_number_43 : ab_at mX9_number 43 (.getfield 72) 3 46 := ⟨by decide +kernel, rfl⟩
theorem iX9_number_46 : ab_at mX9_number 46 (.aload_n 0) 1 47 := ⟨by decide +kernel, rfl⟩
theorem iX9_number_47 : ab_at mX9_number 47 (.getfield 143) 3 50 := ⟨by decide +kernel, rfl⟩
theorem iX9_number_50 : ab_at mX9_number 50 (.iload_n 3) 1 51 := ⟨by decide +kernel, rfl⟩
theorem iX9_number_51 : ab_at mX9_number 51 (.iastore) 1 52 := ⟨by decide +kernel, rfl⟩
theorem iX9_number_52 : ab_at mX9_number 52 (.aload_n 0) 1 53 := ⟨by decide +kernel, rfl⟩
theorem iX9_number_53 : ab_at mX9_number 53 (.getfield 75) 3 56 := ⟨by decide +kernel, rfl⟩
theorem iX9_number_56 : ab_at mX9_number 56 (.aload_n 0) 1 57 := ⟨by decide +kernel, rfl⟩
theorem iX9_number_57 : ab_at mX9_number 57 (.getfield 143) 3 60 := ⟨by decide +kernel, rfl⟩
theorem iX9_number_60 : ab_at mX9_number 60 (.iconst 0) 1 61 := ⟨by decide +kernel, rfl⟩
theorem iX9_number_61 : ab_at mX9_number 61 (.iastore) 1 62 := ⟨by decide +kernel, rfl⟩
theorem iX9_number_62 : ab_at mX9_number 62 (.aload_n 0) 1 63 := ⟨by decide +kernel, rfl⟩
theorem iX9_number_63 : ab_at mX9_number 63 (.getfield 78) 3 66 := ⟨by decide +kernel, rfl⟩
theorem iX9_number_66 : ab_at mX9_number 66 (.aload_n 0) 1 67 := ⟨by decide +kernel, rfl⟩
theorem iX9_number_67 : ab_at mX9_number 67 (.getfield 143) 3 70 := ⟨by decide +kernel, rfl⟩
theorem iX9_number_70 : ab_at mX9_number 70 (.iconst 0) 1 71 := ⟨by decide +kernel, rfl⟩
theorem iX9_number_71 : ab_at mX9_number 71 (.iastore) 1 72 := ⟨by decide +kernel, rfl⟩
theorem iX9_number_72 : ab_at mX9_number 72 (.aload_n 0) 1 73 := ⟨by decide +kernel, rfl⟩
theorem iX9_number_73 : ab_at mX9_number 73 (.dup) 1 74 := ⟨by decide +kernel, rfl⟩
theorem iX9_number_74 : ab_at mX9_number 74 (.getfield 143) 3 77 := ⟨by decide +kernel, rfl⟩
theorem iX9_number_77 : ab_at mX9_number 77 (.iconst 1) 1 78 := ⟨by decide +kernel, rfl⟩
theorem iX9_number_78 : ab_at mX9_number 78 (.iadd) 1 79 := ⟨by decide +kernel, rfl⟩
theorem iX9_number_79 : ab_at mX9_number 79 (.putfield 143) 3 82 := ⟨by decide +kernel, rfl⟩
theorem iX9_number_82 : ab_at mX9_number 82 (.iinc 2 1) 3 85 := ⟨by decide +kernel, rfl⟩
theorem iX9_number_85 : ab_bg mX9_number 85 17 := ⟨-68, by decide +kernel, by decide⟩
theorem iX9_number_88 : ab_at mX9_number 88 (.iinc 1 1) 3 91 := ⟨by decide +kernel, rfl⟩
theorem iX9_number_91 : ab_bg mX9_number 91 7 := ⟨-84, by decide +kernel, by decide⟩
theorem iX9_number_94 : ab_at mX9_number 94 (.iconst 0) 1 95 := ⟨by decide +kernel, rfl⟩
theorem iX9_number_95 : ab_at mX9_number 95 (.istore_n 1) 1 96 := ⟨by decide +kernel, rfl⟩
theorem iX9_number_96 : ab_at mX9_number 96 (.iload_n 1) 1 97 := ⟨by decide +kernel, rfl⟩
theorem iX9_number_97 : ab_at mX9_number 97 (.aload_n 0) 1 98 := ⟨by decide +kernel, rfl⟩
theorem iX9_number_98 : ab_at mX9_number 98 (.getfield 13) 3 101 := ⟨by decide +kernel, rfl⟩
theorem iX9_number_101 : ab_bc mX9_number 101 .ge 104 187 := ⟨86, by decide +kernel, rfl, by decide⟩
theorem iX9_number_104 : ab_at mX9_number 104 (.iconst 0) 1 105 := ⟨by decide +kernel, rfl⟩
theorem iX9_number_105 : ab_at mX9_number 105 (.istore_n 2) 1 106 := ⟨by decide +kernel, rfl⟩
theorem iX9_number_106 : ab_at mX9_number 106 (.iload_n 2) 1 107 := ⟨by decide +kernel, rfl⟩
theorem iX9_number_107 : ab_at mX9_number 107 (.aload_n 0) 1 108 := ⟨by decide +kernel, rfl⟩
theorem iX9_number_108 : ab_at mX9_number 108 (.getfield 7) 3 111 := ⟨by decide +kernel, rfl⟩
theorem iX9_number_111 : ab_bc mX9_number 111 .ge 114 181 := ⟨70, by decide +kernel, rfl, by decide⟩
theorem iX9_number_114 : ab_at mX9_number 114 (.bipush 12) 2 116 := ⟨by decide +kernel, rfl⟩
theorem iX9_number_116 : ab_at mX9_number 116 (.iload_n 1) 1 117 := ⟨by decide +kernel, rfl⟩
theorem iX9_number_117 : ab_at mX9_number 117 (.imul) 1 118 := ⟨by decide +kernel, rfl⟩
theorem iX9_number_118 : ab_at mX9_number 118 (.iload_n 2) 1 119 := ⟨by decide +kernel, rfl⟩
theorem iX9_number_119 : ab_at mX9_number 119 (.iadd) 1 120 := ⟨by decide +kernel, rfl⟩
theorem iX9_number_120 : ab_at mX9_number 120 (.istore_n 3) 1 121 := ⟨by decide +kernel, rfl⟩
theorem iX9_number_121 : ab_at mX9_number 121 (.iconst 0) 1 122 := ⟨by decide +kernel, rfl⟩
theorem iX9_number_122 : ab_at mX9_number 122 (.istore 4) 2 124 := ⟨by decide +kernel, rfl⟩
theorem iX9_number_124 : ab_at mX9_number 124 (.aload_n 0) 1 125 := ⟨by decide +kernel, rfl⟩
theorem iX9_number_125 : ab_at mX9_number 125 (.getfield 72) 3 128 := ⟨by decide +kernel, rfl⟩
theorem iX9_number_128 : ab_at mX9_number 128 (.iload 4) 2 130 := ⟨by decide +kernel, rfl⟩
theorem iX9_number_130 : ab_at mX9_number 130 (.iaload) 1 131 := ⟨by decide +kernel, rfl⟩
theorem iX9_number_131 : ab_at mX9_number 131 (.aload_n 0) 1 132 := ⟨by decide +kernel, rfl⟩
theorem iX9_number_132 : ab_at mX9_number 132 (.getfield 69) 3 135 := ⟨by decide +kernel, rfl⟩
theorem iX9_number_135 : ab_at mX9_number 135 (.iload_n 3) 1 136 := ⟨by decide +kernel, rfl⟩
theorem iX9_number_136 : ab_at mX9_number 136 (.iaload) 1 137 := ⟨by decide +kernel, rfl⟩
theorem iX9_number_137 : ab_bc mX9_number 137 .eq 140 146 := ⟨9, by decide +kernel, rfl, by decide⟩
theorem iX9_number_140 : ab_at mX9_number 140 (.iinc 4 1) 3 143 := ⟨by decide +kernel, rfl⟩
theorem iX9_number_143 : ab_bg mX9_number 143 124 := ⟨-19, by decide +kernel, by decide⟩
theorem iX9_number_146 : ab_at mX9_number 146 (.aload_n 0) 1 147 := ⟨by decide +kernel, rfl⟩
theorem iX9_number_147 : ab_at mX9_number 147 (.getfield 75) 3 150 := ⟨by decide +kernel, rfl⟩
theorem iX9_number_150 : ab_at mX9_number 150 (.iload 4) 2 152 := ⟨by decide +kernel, rfl⟩
theorem iX9_number_152 : ab_at mX9_number 152 (.dup2) 1 153 := ⟨by decide +kernel, rfl⟩
theorem iX9_number_153 : ab_at mX9_number 153 (.iaload) 1 154 := ⟨by decide +kernel, rfl⟩
theorem iX9_number_154 : ab_at mX9_number 154 (.iconst 1) 1 155 := ⟨by decide +kernel, rfl⟩
theorem iX9_number_155 : ab_at mX9_number 155 (.iadd) 1 156 := ⟨by decide +kernel, rfl⟩
theorem iX9_number_156 : ab_at mX9_number 156 (.iastore) 1 157 := ⟨by decide +kernel, rfl⟩
theorem iX9_number_157 : ab_at mX9_number 157 (.aload_n 0) 1 158 := ⟨by decide +kernel, rfl⟩
theorem iX9_number_158 : ab_at mX9_number 158 (.getfield 78) 3 161 := ⟨by decide +kernel, rfl⟩
theorem iX9_number_161 : ab_at mX9_number 161 (.iload 4) 2 163 := ⟨by decide +kernel, rfl⟩
theorem iX9_number_163 : ab_at mX9_number 163 (.dup2) 1 164 := ⟨by decide +kernel, rfl⟩
theorem iX9_number_164 : ab_at mX9_number 164 (.iaload) 1 165 := ⟨by decide +kernel, rfl⟩
theorem iX9_number_165 : ab_at mX9_number 165 (.iconst 2) 1 166 := ⟨by decide +kernel, rfl⟩
theorem iX9_number_166 : ab_at mX9_number 166 (.aload_n 0) 1 167 := ⟨by decide +kernel, rfl⟩
theorem iX9_number_167 : ab_at mX9_number 167 (.iload_n 2) 1 168 := ⟨by decide +kernel, rfl⟩
theorem iX9_number_168 : ab_at mX9_number 168 (.iload_n 1) 1 169 := ⟨by decide +kernel, rfl⟩
theorem iX9_number_169 : ab_at mX9_number 169 (.invokevirtual 146) 3 172 := ⟨by decide +kernel, rfl⟩
theorem iX9_number_172 : ab_at mX9_number 172 (.iadd) 1 173 := ⟨by decide +kernel, rfl⟩
theorem iX9_number_173 : ab_at mX9_number 173 (.iadd) 1 174 := ⟨by decide +kernel, rfl⟩
theorem iX9_number_174 : ab_at mX9_number 174 (.iastore) 1 175 := ⟨by decide +kernel, rfl⟩
theorem iX9_number_175 : ab_at mX9_number 175 (.iinc 2 1) 3 178 := ⟨by decide +kernel, rfl⟩
theorem iX9_number_178 : ab_bg mX9_number 178 106 := ⟨-72, by decide +kernel, by decide⟩
theorem iX9_number_181 : ab_at mX9_number 181 (.iinc 1 1) 3 184 := ⟨by decide +kernel, rfl⟩
theorem iX9_number_184 : ab_bg mX9_number 184 96 := ⟨-88, by decide +kernel, by decide⟩
theorem iX9_number_187 : ab_at mX9_number 187 (.return_) 1 188 := ⟨by decide +kernel, rfl⟩
theorem iX9_sides_0 : ab_at mX9_sides 0 (.bipush 12) 2 2 := ⟨by decide +kernel, rfl⟩
theorem iX9_sides_2 : ab_at mX9_sides 2 (.iload_n 2) 1 3 := ⟨by decide +kernel, rfl⟩
theorem iX9_sides_3 : ab_at mX9_sides 3 (.imul) 1 4 := ⟨by decide +kernel, rfl⟩
theorem iX9_sides_4 : ab_at mX9_sides 4 (.iload_n 1) 1 5 := ⟨by decide +kernel, rfl⟩
theorem iX9_sides_5 : ab_at mX9_sides 5 (.iadd) 1 6 := ⟨by decide +kernel, rfl⟩
theorem iX9_sides_6 : ab_at mX9_sides 6 (.istore_n 3) 1 7 := ⟨by decide +kernel, rfl⟩
theorem iX9_sides_7 : ab_at mX9_sides 7 (.iload_n 1) 1 8 := ⟨by decide +kernel, rfl⟩
theorem iX9_sides_8 : ab_bi mX9_sides 8 .le 11 32 := ⟨24, by decide +kernel, rfl, by decide⟩
theorem iX9_sides_11 : ab_at mX9_sides 11 (.aload_n 0) 1 12 := ⟨by decide +kernel, rfl⟩
theorem iX9_sides_12 : ab_at mX9_sides 12 (.getfield 16) 3 15 := ⟨by decide +kernel, rfl⟩
theorem iX9_sides_15 : ab_at mX9_sides 15 (.iload_n 3) 1 16 := ⟨by decide +kernel, rfl⟩
theorem iX9_sides_16 : ab_at mX9_sides 16 (.iconst 1) 1 17 := ⟨by decide +kernel, rfl⟩
theorem iX9_sides_17 : ab_at mX9_sides 17 (.isub) 1 18 := ⟨by decide +kernel, rfl⟩
theorem iX9_sides_18 : ab_at mX9_sides 18 (.iaload) 1 19 := ⟨by decide +kernel, rfl⟩
theorem iX9_sides_19 : ab_at mX9_sides 19 (.aload_n 0) 1 20 := ⟨by decide +kernel, rfl⟩
theorem iX9_sides_20 : ab_at mX9_sides 20 (.getfield 16) 3 23 := ⟨by decide +kernel, rfl⟩
theorem iX9_sides_23 : ab_at mX9_sides 23 (.iload_n 3) 1 24 := ⟨by decide +kernel, rfl⟩
theorem iX9_sides_24 : ab_at mX9_sides 24 (.iaload) 1 25 := ⟨by decide +kernel, rfl⟩
theorem iX9_sides_25 : ab_bc mX9_sides 25 .eq 28 32 := ⟨7, by decide +kernel, rfl, by decide⟩
theorem iX9_sides_28 : ab_at mX9_sides 28 (.iconst 1) 1 29 := ⟨by decide +kernel, rfl⟩
theorem iX9_sides_29 : ab_bg mX9_sides 29 33 := ⟨4, by decide +kernel, by decide⟩
theorem iX9_sides_32 : ab_at mX9_sides 32 (.iconst 0) 1 33 := ⟨by decide +kernel, rfl⟩
theorem iX9_sides_33 : ab_at mX9_sides 33 (.istore 4) 2 35 := ⟨by decide +kernel, rfl⟩
theorem iX9_sides_35 : ab_at mX9_sides 35 (.iload 4) 2 37 := ⟨by decide +kernel, rfl⟩
theorem iX9_sides_37 : ab_at mX9_sides 37 (.iload_n 1) 1 38 := ⟨by decide +kernel, rfl⟩
theorem iX9_sides_38 : ab_at mX9_sides 38 (.iconst 1) 1 39 := ⟨by decide +kernel, rfl⟩
theorem iX9_sides_39 : ab_at mX9_sides 39 (.iadd) 1 40 := ⟨by decide +kernel, rfl⟩
theorem iX9_sides_40 : ab_at mX9_sides 40 (.aload_n 0) 1 41 := ⟨by decide +kernel, rfl⟩
theorem iX9_sides_41 : ab_at mX9_sides 41 (.getfield 7) 3 44 := ⟨by decide +kernel, rfl⟩
theorem iX9_sides_44 : ab_bc mX9_sides 44 .ge 47 68 := ⟨24, by decide +kernel, rfl, by decide⟩
theorem iX9_sides_47 : ab_at mX9_sides 47 (.aload_n 0) 1 48 := ⟨by decide +kernel, rfl⟩
theorem iX9_sides_48 : ab_at mX9_sides 48 (.getfield 16) 3 51 := ⟨by decide +kernel, rfl⟩
theorem iX9_sides_51 : ab_at mX9_sides 51 (.iload_n 3) 1 52 := ⟨by decide +kernel, rfl⟩
theorem iX9_sides_52 : ab_at mX9_sides 52 (.iconst 1) 1 53 := ⟨by decide +kernel, rfl⟩
theorem iX9_sides_53 : ab_at mX9_sides 53 (.iadd) 1 54 := ⟨by decide +kernel, rfl⟩
theorem iX9_sides_54 : ab_at mX9_sides 54 (.iaload) 1 55 := ⟨by decide +kernel, rfl⟩
theorem iX9_sides_55 : ab_at mX9_sides 55 (.aload_n 0) 1 56 := ⟨by decide +kernel, rfl⟩
theorem iX9_sides_56 : ab_at mX9_sides 56 (.getfield 16) 3 59 := ⟨by decide +kernel, rfl⟩
theorem iX9_sides_59 : ab_at mX9_sides 59 (.iload_n 3) 1 60 := ⟨by decide +kernel, rfl⟩
theorem iX9_sides_60 : ab_at mX9_sides 60 (.iaload) 1 61 := ⟨by decide +kernel, rfl⟩
theorem iX9_sides_61 : ab_bc mX9_sides 61 .eq 64 68 := ⟨7, by decide +kernel, rfl, by decide⟩
theorem iX9_sides_64 : ab_at mX9_sides 64 (.iconst 1) 1 65 := ⟨by decide +kernel, rfl⟩
theorem iX9_sides_65 : ab_bg mX9_sides 65 69 := ⟨4, by decide +kernel, by decide⟩
theorem iX9_sides_68 : ab_at mX9_sides 68 (.iconst 0) 1 69 := ⟨by decide +kernel, rfl⟩
theorem iX9_sides_69 : ab_at mX9_sides 69 (.iadd) 1 70 := ⟨by decide +kernel, rfl⟩
theorem iX9_sides_70 : ab_at mX9_sides 70 (.istore 4) 2 72 := ⟨by decide +kernel, rfl⟩
theorem iX9_sides_72 : ab_at mX9_sides 72 (.iload 4) 2 74 := ⟨by decide +kernel, rfl⟩
theorem iX9_sides_74 : ab_at mX9_sides 74 (.iload_n 2) 1 75 := ⟨by decide +kernel, rfl⟩
theorem iX9_sides_75 : ab_bi mX9_sides 75 .le 78 100 := ⟨25, by decide +kernel, rfl, by decide⟩
theorem iX9_sides_78 : ab_at mX9_sides 78 (.aload_n 0) 1 79 := ⟨by decide +kernel, rfl⟩
theorem iX9_sides_79 : ab_at mX9_sides 79 (.getfield 16) 3 82 := ⟨by decide +kernel, rfl⟩
theorem iX9_sides_82 : ab_at mX9_sides 82 (.iload_n 3) 1 83 := ⟨by decide +kernel, rfl⟩
theorem iX9_sides_83 : ab_at mX9_sides 83 (.bipush 12) 2 85 := ⟨by decide +kernel, rfl⟩
theorem iX9_sides_85 : ab_at mX9_sides 85 (.isub) 1 86 := ⟨by decide +kernel, rfl⟩
theorem iX9_sides_86 : ab_at mX9_sides 86 (.iaload) 1 87 := ⟨by decide +kernel, rfl⟩
theorem iX9_sides_87 : ab_at mX9_sides 87 (.aload_n 0) 1 88 := ⟨by decide +kernel, rfl⟩
theorem iX9_sides_88 : ab_at mX9_sides 88 (.getfield 16) 3 91 := ⟨by decide +kernel, rfl⟩
theorem iX9_sides_91 : ab_at mX9_sides 91 (.iload_n 3) 1 92 := ⟨by decide +kernel, rfl⟩
theorem iX9_sides_92 : ab_at mX9_sides 92 (.iaload) 1 93 := ⟨by decide +kernel, rfl⟩
theorem iX9_sides_93 : ab_bc mX9_sides 93 .eq 96 100 := ⟨7, by decide +kernel, rfl, by decide⟩
theorem iX9_sides_96 : ab_at mX9_sides 96 (.iconst 1) 1 97 := ⟨by decide +kernel, rfl⟩
theorem iX9_sides_97 : ab_bg mX9_sides 97 101 := ⟨4, by decide +kernel, by decide⟩
theorem iX9_sides_100 : ab_at mX9_sides 100 (.iconst 0) 1 101 := ⟨by decide +kernel, rfl⟩
theorem iX9_sides_101 : ab_at mX9_sides 101 (.iadd) 1 102 := ⟨by decide +kernel, rfl⟩
theorem iX9_sides_102 : ab_at mX9_sides 102 (.istore 4) 2 104 := ⟨by decide +kernel, rfl⟩
theorem iX9_sides_104 : ab_at mX9_sides 104 (.iload 4) 2 106 := ⟨by decide +kernel, rfl⟩
theorem iX9_sides_106 : ab_at mX9_sides 106 (.iload_n 2) 1 107 := ⟨by decide +kernel, rfl⟩
theorem iX9_sides_107 : ab_at mX9_sides 107 (.iconst 1) 1 108 := ⟨by decide +kernel, rfl⟩
theorem iX9_sides_108 : ab_at mX9_sides 108 (.iadd) 1 109 := ⟨by decide +kernel, rfl⟩
theorem iX9_sides_109 : ab_at mX9_sides 109 (.aload_n 0) 1 110 := ⟨by decide +kernel, rfl⟩
theorem iX9_sides_110 : ab_at mX9_sides 110 (.getfield 13) 3 113 := ⟨by decide +kernel, rfl⟩
theorem iX9_sides_113 : ab_bc mX9_sides 113 .ge 116 138 := ⟨25, by decide +kernel, rfl, by decide⟩
theorem iX9_sides_116 : ab_at mX9_sides 116 (.aload_n 0) 1 117 := ⟨by decide +kernel, rfl⟩
theorem iX9_sides_117 : ab_at mX9_sides 117 (.getfield 16) 3 120 := ⟨by decide +kernel, rfl⟩
theorem iX9_sides_120 : ab_at mX9_sides 120 (.iload_n 3) 1 121 := ⟨by decide +kernel, rfl⟩
theorem iX9_sides_121 : ab_at mX9_sides 121 (.bipush 12) 2 123 := ⟨by decide +kernel, rfl⟩
theorem iX9_sides_123 : ab_at mX9_sides 123 (.iadd) 1 124 := ⟨by decide +kernel, rfl⟩
theorem iX9_sides_124 : ab_at mX9_sides 124 (.iaload) 1 125 := ⟨by decide +kernel, rfl⟩
theorem iX9_sides_125 : ab_at mX9_sides 125 (.aload_n 0) 1 126 := ⟨by decide +kernel, rfl⟩
theorem iX9_sides_126 : ab_at mX9_sides 126 (.getfield 16) 3 129 := ⟨by decide +kernel, rfl⟩
theorem iX9_sides_129 : ab_at mX9_sides 129 (.iload_n 3) 1 130 := ⟨by decide +kernel, rfl⟩
theorem iX9_sides_130 : ab_at mX9_sides 130 (.iaload) 1 131 := ⟨by decide +kernel, rfl⟩
theorem iX9_sides_131 : ab_bc mX9_sides 131 .eq 134 138 := ⟨7, by decide +kernel, rfl, by decide⟩
theorem iX9_sides_134 : ab_at mX9_sides 134 (.iconst 1) 1 135 := ⟨by decide +kernel, rfl⟩
theorem iX9_sides_135 : ab_bg mX9_sides 135 139 := ⟨4, by decide +kernel, by decide⟩
theorem iX9_sides_138 : ab_at mX9_sides 138 (.iconst 0) 1 139 := ⟨by decide +kernel, rfl⟩
theorem iX9_sides_139 : ab_at mX9_sides 139 (.iadd) 1 140 := ⟨by decide +kernel, rfl⟩
theorem iX9_sides_140 : ab_at mX9_sides 140 (.ireturn) 1 141 := ⟨by decide +kernel, rfl⟩
theorem iX9_field_0 : ab_at mX9_field 0 (.aload_n 0) 1 1 := ⟨by decide +kernel, rfl⟩
theorem iX9_field_1 : ab_at mX9_field 1 (.iload_n 1) 1 2 := ⟨by decide +kernel, rfl⟩
theorem iX9_field_2 : ab_at mX9_field 2 (.iload_n 2) 1 3 := ⟨by decide +kernel, rfl⟩
theorem iX9_field_3 : ab_at mX9_field 3 (.invokevirtual 118) 3 6 := ⟨by decide +kernel, rfl⟩
theorem iX9_field_6 : ab_bi mX9_field 6 .ne 9 11 := ⟨5, by decide +kernel, rfl, by decide⟩
theorem iX9_field_9 : ab_at mX9_field 9 (.iconst (-1)) 1 10 := ⟨by decide +kernel, rfl⟩
theorem iX9_field_10 : ab_at mX9_field 10 (.ireturn) 1 11 := ⟨by decide +kernel, rfl⟩
theorem iX9_field_11 : ab_at mX9_field 11 (.aload_n 0) 1 12 := ⟨by decide +kernel, rfl⟩
theorem iX9_field_12 : ab_at mX9_field 12 (.invokevirtual 149) 3 15 := ⟨by decide +kernel, rfl⟩
theorem iX9_field_15 : ab_at mX9_field 15 (.iconst 0) 1 16 := ⟨by decide +kernel, rfl⟩
theorem iX9_field_16 : ab_at mX9_field 16 (.istore_n 3) 1 17 := ⟨by decide +kernel, rfl⟩
theorem iX9_field_17 : ab_at mX9_field 17 (.aload_n 0) 1 18 := ⟨by decide +kernel, rfl⟩
theorem iX9_field_18 : ab_at mX9_field 18 (.getfield 72) 3 21 := ⟨by decide +kernel, rfl⟩
theorem iX9_field_21 : ab_at mX9_field 21 (.iload_n 3) 1 22 := ⟨by decide +kernel, rfl⟩
theorem iX9_field_22 : ab_at mX9_field 22 (.iaload) 1 23 := ⟨by decide +kernel, rfl⟩
theorem iX9_field_23 : ab_at mX9_field 23 (.aload_n 0) 1 24 := ⟨by decide +kernel, rfl⟩
theorem iX9_field_24 : ab_at mX9_field 24 (.getfield 69) 3 27 := ⟨by decide +kernel, rfl⟩
theorem iX9_field_27 : ab_at mX9_field 27 (.bipush 12) 2 29 := ⟨by decide +kernel, rfl⟩
theorem iX9_field_29 : ab_at mX9_field 29 (.iload_n 2) 1 30 := ⟨by decide +kernel, rfl⟩
theorem iX9_field_30 : ab_at mX9_field 30 (.imul) 1 31 := ⟨by decide +kernel, rfl⟩
theorem iX9_field_31 : ab_at mX9_field 31 (.iload_n 1) 1 32 := ⟨by decide +kernel, rfl⟩
theorem iX9_field_32 : ab_at mX9_field 32 (.iadd) 1 33 := ⟨by decide +kernel, rfl⟩
theorem iX9_field_33 : ab_at mX9_field 33 (.iaload) 1 34 := ⟨by decide +kernel, rfl⟩
theorem iX9_field_34 : ab_bc mX9_field 34 .eq 37 43 := ⟨9, by decide +kernel, rfl, by decide⟩
theorem iX9_field_37 : ab_at mX9_field 37 (.iinc 3 1) 3 40 := ⟨by decide +kernel, rfl⟩
theorem iX9_field_40 : ab_bg mX9_field 40 17 := ⟨-23, by decide +kernel, by decide⟩
theorem iX9_field_43 : ab_at mX9_field 43 (.iload_n 3) 1 44 := ⟨by decide +kernel, rfl⟩
theorem iX9_field_44 : ab_at mX9_field 44 (.ireturn) 1 45 := ⟨by decide +kernel, rfl⟩
theorem iX9_of_0 : ab_at mX9_of 0 (.aload_n 0) 1 1 := ⟨by decide +kernel, rfl⟩
theorem iX9_of_1 : ab_at mX9_of 1 (.invokevirtual 149) 3 4 := ⟨by decide +kernel, rfl⟩
theorem iX9_of_4 : ab_at mX9_of 4 (.iload_n 1) 1 5 := ⟨by decide +kernel, rfl⟩
theorem iX9_of_5 : ab_at mX9_of 5 (.iconst 0) 1 6 := ⟨by decide +kernel, rfl⟩
theorem iX9_of_6 : ab_at mX9_of 6 (.aload_n 0) 1 7 := ⟨by decide +kernel, rfl⟩
theorem iX9_of_7 : ab_at mX9_of 7 (.getfield 143) 3 10 := ⟨by decide +kernel, rfl⟩
theorem iX9_of_10 : ab_at mX9_of 10 (.iconst 1) 1 11 := ⟨by decide +kernel, rfl⟩
theorem iX9_of_11 : ab_at mX9_of 11 (.isub) 1 12 := ⟨by decide +kernel, rfl⟩
theorem iX9_of_12 : ab_at mX9_of 12 (.invokestatic 111) 3 15 := ⟨by decide +kernel, rfl⟩
theorem iX9_of_15 : ab_bi mX9_of 15 .eq 18 27 := ⟨12, by decide +kernel, rfl, by decide⟩
theorem iX9_of_18 : ab_at mX9_of 18 (.iload_n 2) 1 19 := ⟨by decide +kernel, rfl⟩
theorem iX9_of_19 : ab_at mX9_of 19 (.iconst 0) 1 20 := ⟨by decide +kernel, rfl⟩
theorem iX9_of_20 : ab_at mX9_of 20 (.iconst 3) 1 21 := ⟨by decide +kernel, rfl⟩
theorem iX9_of_21 : ab_at mX9_of 21 (.invokestatic 111) 3 24 := ⟨by decide +kernel, rfl⟩
theorem iX9_of_24 : ab_bi mX9_of 24 .ne 27 29 := ⟨5, by decide +kernel, rfl, by decide⟩
theorem iX9_of_27 : ab_at mX9_of 27 (.iconst (-1)) 1 28 := ⟨by decide +kernel, rfl⟩
theorem iX9_of_28 : ab_at mX9_of 28 (.ireturn) 1 29 := ⟨by decide +kernel, rfl⟩
theorem iX9_of_29 : ab_at mX9_of 29 (.iload_n 2) 1 30 := ⟨by decide +kernel, rfl⟩
theorem iX9_of_30 : decode mX9_of.2.1 30 = .ok (.tableswitch 52 0 2 #[26, 38, 45], 26) := by decide +kernel
theorem iX9_of_56 : ab_at mX9_of 56 (.aload_n 0) 1 57 := ⟨by decide +kernel, rfl⟩
theorem iX9_of_57 : ab_at mX9_of 57 (.getfield 16) 3 60 := ⟨by decide +kernel, rfl⟩
theorem iX9_of_60 : ab_at mX9_of 60 (.aload_n 0) 1 61 := ⟨by decide +kernel, rfl⟩
theorem iX9_of_61 : ab_at mX9_of 61 (.getfield 72) 3 64 := ⟨by decide +kernel, rfl⟩
theorem iX9_of_64 : ab_at mX9_of 64 (.iload_n 1) 1 65 := ⟨by decide +kernel, rfl⟩
theorem iX9_of_65 : ab_at mX9_of 65 (.iaload) 1 66 := ⟨by decide +kernel, rfl⟩
theorem iX9_of_66 : ab_at mX9_of 66 (.iaload) 1 67 := ⟨by decide +kernel, rfl⟩
theorem iX9_of_67 : ab_at mX9_of 67 (.ireturn) 1 68 := ⟨by decide +kernel, rfl⟩
theorem iX9_of_68 : ab_at mX9_of 68 (.aload_n 0) 1 69 := ⟨by decide +kernel, rfl⟩
theorem iX9_of_69 : ab_at mX9_of 69 (.getfield 75) 3 72 := ⟨by decide +kernel, rfl⟩
theorem iX9_of_72 : ab_at mX9_of 72 (.iload_n 1) 1 73 := ⟨by decide +kernel, rfl⟩
theorem iX9_of_73 : ab_at mX9_of 73 (.iaload) 1 74 := ⟨by decide +kernel, rfl⟩
theorem iX9_of_74 : ab_at mX9_of 74 (.ireturn) 1 75 := ⟨by decide +kernel, rfl⟩
theorem iX9_of_75 : ab_at mX9_of 75 (.aload_n 0) 1 76 := ⟨by decide +kernel, rfl⟩
theorem iX9_of_76 : ab_at mX9_of 76 (.getfield 78) 3 79 := ⟨by decide +kernel, rfl⟩
theorem iX9_of_79 : ab_at mX9_of 79 (.iload_n 1) 1 80 := ⟨by decide +kernel, rfl⟩
theorem iX9_of_80 : ab_at mX9_of 80 (.iaload) 1 81 := ⟨by decide +kernel, rfl⟩
theorem iX9_of_81 : ab_at mX9_of 81 (.ireturn) 1 82 := ⟨by decide +kernel, rfl⟩
theorem iX9_of_82 : ab_at mX9_of 82 (.aload_n 0) 1 83 := ⟨by decide +kernel, rfl⟩
theorem iX9_of_83 : ab_at mX9_of 83 (.getfield 72) 3 86 := ⟨by decide +kernel, rfl⟩
theorem iX9_of_86 : ab_at mX9_of 86 (.iload_n 1) 1 87 := ⟨by decide +kernel, rfl⟩
theorem iX9_of_87 : ab_at mX9_of 87 (.iaload) 1 88 := ⟨by decide +kernel, rfl⟩
theorem iX9_of_88 : ab_at mX9_of 88 (.bipush 12) 2 90 := ⟨by decide +kernel, rfl⟩
theorem iX9_of_90 : ab_at mX9_of 90 (.idiv) 1 91 := ⟨by decide +kernel, rfl⟩
theorem iX9_of_91 : ab_at mX9_of 91 (.aload_n 0) 1 92 := ⟨by decide +kernel, rfl⟩
theorem iX9_of_92 : ab_at mX9_of 92 (.getfield 7) 3 95 := ⟨by decide +kernel, rfl⟩
theorem iX9_of_95 : ab_at mX9_of 95 (.imul) 1 96 := ⟨by decide +kernel, rfl⟩
theorem iX9_of_96 : ab_at mX9_of 96 (.aload_n 0) 1 97 := ⟨by decide +kernel, rfl⟩
theorem iX9_of_97 : ab_at mX9_of 97 (.getfield 72) 3 100 := ⟨by decide +kernel, rfl⟩
theorem iX9_of_100 : ab_at mX9_of 100 (.iload_n 1) 1 101 := ⟨by decide +kernel, rfl⟩
theorem iX9_of_101 : ab_at mX9_of 101 (.iaload) 1 102 := ⟨by decide +kernel, rfl⟩
theorem iX9_of_102 : ab_at mX9_of 102 (.bipush 12) 2 104 := ⟨by decide +kernel, rfl⟩
theorem iX9_of_104 : ab_at mX9_of 104 (.irem) 1 105 := ⟨by decide +kernel, rfl⟩
theorem iX9_of_105 : ab_at mX9_of 105 (.iadd) 1 106 := ⟨by decide +kernel, rfl⟩
theorem iX9_of_106 : ab_at mX9_of 106 (.ireturn) 1 107 := ⟨by decide +kernel, rfl⟩
theorem iX9_dye_0 : ab_at mX9_dye 0 (.iload_n 1) 1 1 := ⟨by decide +kernel, rfl⟩
theorem iX9_dye_1 : ab_at mX9_dye 1 (.iconst 0) 1 2 := ⟨by decide +kernel, rfl⟩
theorem iX9_dye_2 : ab_at mX9_dye 2 (.bipush 7) 2 4 := ⟨by decide +kernel, rfl⟩
theorem iX9_dye_4 : ab_at mX9_dye 4 (.invokestatic 111) 3 7 := ⟨by decide +kernel, rfl⟩
theorem iX9_dye_7 : ab_bi mX9_dye 7 .eq 10 21 := ⟨14, by decide +kernel, rfl, by decide⟩
theorem iX9_dye_10 : ab_at mX9_dye 10 (.iload_n 2) 1 11 := ⟨by decide +kernel, rfl⟩
theorem iX9_dye_11 : ab_at mX9_dye 11 (.iconst 1) 1 12 := ⟨by decide +kernel, rfl⟩
theorem iX9_dye_12 : ab_at mX9_dye 12 (.sipush 300) 3 15 := ⟨by decide +kernel, rfl⟩
theorem iX9_dye_15 : ab_at mX9_dye 15 (.invokestatic 111) 3 18 := ⟨by decide +kernel, rfl⟩
theorem iX9_dye_18 : ab_bi mX9_dye 18 .ne 21 23 := ⟨5, by decide +kernel, rfl, by decide⟩
theorem iX9_dye_21 : ab_at mX9_dye 21 (.iconst (-1)) 1 22 := ⟨by decide +kernel, rfl⟩
theorem iX9_dye_22 : ab_at mX9_dye 22 (.ireturn) 1 23 := ⟨by decide +kernel, rfl⟩
theorem iX9_dye_23 : ab_at mX9_dye 23 (.aload_n 0) 1 24 := ⟨by decide +kernel, rfl⟩
theorem iX9_dye_24 : ab_at mX9_dye 24 (.getfield 152) 3 27 := ⟨by decide +kernel, rfl⟩
theorem iX9_dye_27 : ab_at mX9_dye 27 (.bipush 12) 2 29 := ⟨by decide +kernel, rfl⟩
theorem iX9_dye_29 : ab_bc mX9_dye 29 .ne 32 35 := ⟨6, by decide +kernel, rfl, by decide⟩
theorem iX9_dye_32 : ab_at mX9_dye 32 (.bipush (-2)) 2 34 := ⟨by decide +kernel, rfl⟩
theorem iX9_dye_34 : ab_at mX9_dye 34 (.ireturn) 1 35 := ⟨by decide +kernel, rfl⟩
theorem iX9_dye_35 : ab_at mX9_dye 35 (.aload_n 0) 1 36 := ⟨by decide +kernel, rfl⟩
theorem iX9_dye_36 : ab_at mX9_dye 36 (.getfield 24) 3 39 := ⟨by decide +kernel, rfl⟩
theorem iX9_dye_39 : ab_at mX9_dye 39 (.aload_n 0) 1 40 := ⟨by decide +kernel, rfl⟩
theorem iX9_dye_40 : ab_at mX9_dye 40 (.getfield 152) 3 43 := ⟨by decide +kernel, rfl⟩
theorem iX9_dye_43 : ab_at mX9_dye 43 (.iload_n 1) 1 44 := ⟨by decide +kernel, rfl⟩
theorem iX9_dye_44 : ab_at mX9_dye 44 (.iastore) 1 45 := ⟨by decide +kernel, rfl⟩
theorem iX9_dye_45 : ab_at mX9_dye 45 (.aload_n 0) 1 46 := ⟨by decide +kernel, rfl⟩
theorem iX9_dye_46 : ab_at mX9_dye 46 (.getfield 27) 3 49 := ⟨by decide +kernel, rfl⟩
theorem iX9_dye_49 : ab_at mX9_dye 49 (.aload_n 0) 1 50 := ⟨by decide +kernel, rfl⟩
theorem iX9_dye_50 : ab_at mX9_dye 50 (.getfield 152) 3 53 := ⟨by decide +kernel, rfl⟩
theorem iX9_dye_53 : ab_at mX9_dye 53 (.iload_n 2) 1 54 := ⟨by decide +kernel, rfl⟩
theorem iX9_dye_54 : ab_at mX9_dye 54 (.iastore) 1 55 := ⟨by decide +kernel, rfl⟩
theorem iX9_dye_55 : ab_at mX9_dye 55 (.aload_n 0) 1 56 := ⟨by decide +kernel, rfl⟩
theorem iX9_dye_56 : ab_at mX9_dye 56 (.dup) 1 57 := ⟨by decide +kernel, rfl⟩
theorem iX9_dye_57 : ab_at mX9_dye 57 (.getfield 152) 3 60 := ⟨by decide +kernel, rfl⟩
theorem iX9_dye_60 : ab_at mX9_dye 60 (.iconst 1) 1 61 := ⟨by decide +kernel, rfl⟩
theorem iX9_dye_61 : ab_at mX9_dye 61 (.iadd) 1 62 := ⟨by decide +kernel, rfl⟩
theorem iX9_dye_62 : ab_at mX9_dye 62 (.putfield 152) 3 65 := ⟨by decide +kernel, rfl⟩
theorem iX9_dye_65 : ab_at mX9_dye 65 (.aload_n 0) 1 66 := ⟨by decide +kernel, rfl⟩
theorem iX9_dye_66 : ab_at mX9_dye 66 (.getfield 152) 3 69 := ⟨by decide +kernel, rfl⟩
theorem iX9_dye_69 : ab_at mX9_dye 69 (.iconst 1) 1 70 := ⟨by decide +kernel, rfl⟩
theorem iX9_dye_70 : ab_at mX9_dye 70 (.isub) 1 71 := ⟨by decide +kernel, rfl⟩
theorem iX9_dye_71 : ab_at mX9_dye 71 (.ireturn) 1 72 := ⟨by decide +kernel, rfl⟩
theorem iX9_gather_0 : ab_at mX9_gather 0 (.aload_n 0) 1 1 := ⟨by decide +kernel, rfl⟩
theorem iX9_gather_1 : ab_at mX9_gather 1 (.invokevirtual 149) 3 4 := ⟨by decide +kernel, rfl⟩
theorem iX9_gather_4 : ab_at mX9_gather 4 (.iconst 0) 1 5 := ⟨by decide +kernel, rfl⟩
theorem iX9_gather_5 : ab_at mX9_gather 5 (.istore_n 2) 1 6 := ⟨by decide +kernel, rfl⟩
theorem iX9_gather_6 : ab_at mX9_gather 6 (.iconst 0) 1 7 := ⟨by decide +kernel, rfl⟩
theorem iX9_gather_7 : ab_at mX9_gather 7 (.istore_n 3) 1 8 := ⟨by decide +kernel, rfl⟩
theorem iX9_gather_8 : ab_at mX9_gather 8 (.iconst 0) 1 9 := ⟨by decide +kernel, rfl⟩
theorem iX9_gather_9 : ab_at mX9_gather 9 (.istore 4) 2 11 := ⟨by decide +kernel, rfl⟩
theorem iX9_gather_11 : ab_at mX9_gather 11 (.iload 4) 2 13 := ⟨by decide +kernel, rfl⟩
theorem iX9_gather_13 : ab_at mX9_gather 13 (.aload_n 0) 1 14 := ⟨by decide +kernel, rfl⟩
theorem iX9_gather_14 : ab_at mX9_gather 14 (.getfield 143) 3 17 := ⟨by decide +kernel, rfl⟩
theorem iX9_gather_17 : ab_bc mX9_gather 17 .ge 20 64 := ⟨47, by decide +kernel, rfl, by decide⟩
theorem iX9_gather_20 : ab_at mX9_gather 20 (.aload_n 0) 1 21 := ⟨by decide +kernel, rfl⟩
theorem iX9_gather_21 : ab_at mX9_gather 21 (.getfield 16) 3 24 := ⟨by decide +kernel, rfl⟩
theorem iX9_gather_24 : ab_at mX9_gather 24 (.aload_n 0) 1 25 := ⟨by decide +kernel, rfl⟩
theorem iX9_gather_25 : ab_at mX9_gather 25 (.getfield 72) 3 28 := ⟨by decide +kernel, rfl⟩
theorem iX9_gather_28 : ab_at mX9_gather 28 (.iload 4) 2 30 := ⟨by decide +kernel, rfl⟩
theorem iX9_gather_30 : ab_at mX9_gather 30 (.iaload) 1 31 := ⟨by decide +kernel, rfl⟩
theorem iX9_gather_31 : ab_at mX9_gather 31 (.iaload) 1 32 := ⟨by decide +kernel, rfl⟩
theorem iX9_gather_32 : ab_at mX9_gather 32 (.iload_n 1) 1 33 := ⟨by decide +kernel, rfl⟩
theorem iX9_gather_33 : ab_bc mX9_gather 33 .ne 36 58 := ⟨25, by decide +kernel, rfl, by decide⟩
theorem iX9_gather_36 : ab_at mX9_gather 36 (.aload_n 0) 1 37 := ⟨by decide +kernel, rfl⟩
theorem iX9_gather_37 : ab_at mX9_gather 37 (.getfield 81) 3 40 := ⟨by decide +kernel, rfl⟩
theorem iX9_gather_40 : ab_at mX9_gather 40 (.iload_n 2) 1 41 := ⟨by decide +kernel, rfl⟩
theorem iX9_gather_41 : ab_at mX9_gather 41 (.bipush 8) 2 43 := ⟨by decide +kernel, rfl⟩
theorem iX9_gather_43 : ab_bc mX9_gather 43 .ge 46 50 := ⟨7, by decide +kernel, rfl, by decide⟩
theorem iX9_gather_46 : ab_at mX9_gather 46 (.iload_n 2) 1 47 := ⟨by decide +kernel, rfl⟩
theorem iX9_gather_47 : ab_bg mX9_gather 47 52 := ⟨5, by decide +kernel, by decide⟩
theorem iX9_gather_50 : ab_at mX9_gather 50 (.bipush 7) 2 52 := ⟨by decide +kernel, rfl⟩
theorem iX9_gather_52 : ab_at mX9_gather 52 (.iload 4) 2 54 := ⟨by decide +kernel, rfl⟩
theorem iX9_gather_54 : ab_at mX9_gather 54 (.iastore) 1 55 := ⟨by decide +kernel, rfl⟩
theorem iX9_gather_55 : ab_at mX9_gather 55 (.iinc 2 1) 3 58 := ⟨by decide +kernel, rfl⟩
theorem iX9_gather_58 : ab_at mX9_gather 58 (.iinc 4 1) 3 61 := ⟨by decide +kernel, rfl⟩
theorem iX9_gather_61 : ab_bg mX9_gather 61 11 := ⟨-50, by decide +kernel, by decide⟩
theorem iX9_gather_64 : ab_at mX9_gather 64 (.iconst 0) 1 65 := ⟨by decide +kernel, rfl⟩
theorem iX9_gather_65 : ab_at mX9_gather 65 (.istore 4) 2 67 := ⟨by decide +kernel, rfl⟩
theorem iX9_gather_67 : ab_at mX9_gather 67 (.iload 4) 2 69 := ⟨by decide +kernel, rfl⟩
theorem iX9_gather_69 : ab_at mX9_gather 69 (.aload_n 0) 1 70 := ⟨by decide +kernel, rfl⟩
theorem iX9_gather_70 : ab_at mX9_gather 70 (.getfield 152) 3 73 := ⟨by decide +kernel, rfl⟩
theorem iX9_gather_73 : ab_bc mX9_gather 73 .ge 76 113 := ⟨40, by decide +kernel, rfl, by decide⟩
theorem iX9_gather_76 : ab_at mX9_gather 76 (.aload_n 0) 1 77 := ⟨by decide +kernel, rfl⟩
theorem iX9_gather_77 : ab_at mX9_gather 77 (.getfield 24) 3 80 := ⟨by decide +kernel, rfl⟩
theorem iX9_gather_80 : ab_at mX9_gather 80 (.iload 4) 2 82 := ⟨by decide +kernel, rfl⟩
theorem iX9_gather_82 : ab_at mX9_gather 82 (.iaload) 1 83 := ⟨by decide +kernel, rfl⟩
theorem iX9_gather_83 : ab_at mX9_gather 83 (.iload_n 1) 1 84 := ⟨by decide +kernel, rfl⟩
theorem iX9_gather_84 : ab_bc mX9_gather 84 .ne 87 107 := ⟨23, by decide +kernel, rfl, by decide⟩
theorem iX9_gather_87 : ab_at mX9_gather 87 (.aload_n 0) 1 88 := ⟨by decide +kernel, rfl⟩
theorem iX9_gather_88 : ab_at mX9_gather 88 (.getfield 84) 3 91 := ⟨by decide +kernel, rfl⟩
theorem iX9_gather_91 : ab_at mX9_gather 91 (.iload_n 3) 1 92 := ⟨by decide +kernel, rfl⟩
theorem iX9_gather_92 : ab_at mX9_gather 92 (.iconst 4) 1 93 := ⟨by decide +kernel, rfl⟩
theorem iX9_gather_93 : ab_bc mX9_gather 93 .ge 96 100 := ⟨7, by decide +kernel, rfl, by decide⟩
theorem iX9_gather_96 : ab_at mX9_gather 96 (.iload_n 3) 1 97 := ⟨by decide +kernel, rfl⟩
theorem iX9_gather_97 : ab_bg mX9_gather 97 101 := ⟨4, by decide +kernel, by decide⟩
theorem iX9_gather_100 : ab_at mX9_gather 100 (.iconst 3) 1 101 := ⟨by decide +kernel, rfl⟩
theorem iX9_gather_101 : ab_at mX9_gather 101 (.iload 4) 2 103 := ⟨by decide +kernel, rfl⟩
theorem iX9_gather_103 : ab_at mX9_gather 103 (.iastore) 1 104 := ⟨by decide +kernel, rfl⟩
theorem iX9_gather_104 : ab_at mX9_gather 104 (.iinc 3 1) 3 107 := ⟨by decide +kernel, rfl⟩
theorem iX9_gather_107 : ab_at mX9_gather 107 (.iinc 4 1) 3 110 := ⟨by decide +kernel, rfl⟩
theorem iX9_gather_110 : ab_bg mX9_gather 110 67 := ⟨-43, by decide +kernel, by decide⟩
theorem iX9_gather_113 : ab_at mX9_gather 113 (.aload_n 0) 1 114 := ⟨by decide +kernel, rfl⟩
theorem iX9_gather_114 : ab_at mX9_gather 114 (.iload_n 2) 1 115 := ⟨by decide +kernel, rfl⟩
theorem iX9_gather_115 : ab_at mX9_gather 115 (.putfield 155) 3 118 := ⟨by decide +kernel, rfl⟩
theorem iX9_gather_118 : ab_at mX9_gather 118 (.aload_n 0) 1 119 := ⟨by decide +kernel, rfl⟩
theorem iX9_gather_119 : ab_at mX9_gather 119 (.iload_n 3) 1 120 := ⟨by decide +kernel, rfl⟩
theorem iX9_gather_120 : ab_at mX9_gather 120 (.putfield 158) 3 123 := ⟨by decide +kernel, rfl⟩
theorem iX9_gather_123 : ab_at mX9_gather 123 (.iload_n 2) 1 124 := ⟨by decide +kernel, rfl⟩
theorem iX9_gather_124 : ab_at mX9_gather 124 (.bipush 8) 2 126 := ⟨by decide +kernel, rfl⟩
theorem iX9_gather_126 : ab_bc mX9_gather 126 .gt 129 138 := ⟨12, by decide +kernel, rfl, by decide⟩
theorem iX9_gather_129 : ab_at mX9_gather 129 (.iload_n 3) 1 130 := ⟨by decide +kernel, rfl⟩
theorem iX9_gather_130 : ab_at mX9_gather 130 (.iconst 4) 1 131 := ⟨by decide +kernel, rfl⟩
theorem iX9_gather_131 : ab_bc mX9_gather 131 .gt 134 138 := ⟨7, by decide +kernel, rfl, by decide⟩
theorem iX9_gather_134 : ab_at mX9_gather 134 (.iconst 1) 1 135 := ⟨by decide +kernel, rfl⟩
theorem iX9_gather_135 : ab_bg mX9_gather 135 139 := ⟨4, by decide +kernel, by decide⟩
theorem iX9_gather_138 : ab_at mX9_gather 138 (.iconst 0) 1 139 := ⟨by decide +kernel, rfl⟩
theorem iX9_gather_139 : ab_at mX9_gather 139 (.ireturn) 1 140 := ⟨by decide +kernel, rfl⟩
theorem iX9_yarnFrom_0 : ab_at mX9_yarnFrom 0 (.iconst 0) 1 1 := ⟨by decide +kernel, rfl⟩
theorem iX9_yarnFrom_1 : ab_at mX9_yarnFrom 1 (.istore_n 2) 1 2 := ⟨by decide +kernel, rfl⟩
theorem iX9_yarnFrom_2 : ab_at mX9_yarnFrom 2 (.iload_n 1) 1 3 := ⟨by decide +kernel, rfl⟩
theorem iX9_yarnFrom_3 : ab_at mX9_yarnFrom 3 (.istore_n 3) 1 4 := ⟨by decide +kernel, rfl⟩
theorem iX9_yarnFrom_4 : ab_at mX9_yarnFrom 4 (.iload_n 3) 1 5 := ⟨by decide +kernel, rfl⟩
theorem iX9_yarnFrom_5 : ab_at mX9_yarnFrom 5 (.aload_n 0) 1 6 := ⟨by decide +kernel, rfl⟩
theorem iX9_yarnFrom_6 : ab_at mX9_yarnFrom 6 (.getfield 155) 3 9 := ⟨by decide +kernel, rfl⟩
theorem iX9_yarnFrom_9 : ab_bc mX9_yarnFrom 9 .ge 12 32 := ⟨23, by decide +kernel, rfl, by decide⟩
theorem iX9_yarnFrom_12 : ab_at mX9_yarnFrom 12 (.iload_n 2) 1 13 := ⟨by decide +kernel, rfl⟩
theorem iX9_yarnFrom_13 : ab_at mX9_yarnFrom 13 (.aload_n 0) 1 14 := ⟨by decide +kernel, rfl⟩
theorem iX9_yarnFrom_14 : ab_at mX9_yarnFrom 14 (.getfield 78) 3 17 := ⟨by decide +kernel, rfl⟩
theorem iX9_yarnFrom_17 : ab_at mX9_yarnFrom 17 (.aload_n 0) 1 18 := ⟨by decide +kernel, rfl⟩
theorem iX9_yarnFrom_18 : ab_at mX9_yarnFrom 18 (.getfield 81) 3 21 := ⟨by decide +kernel, rfl⟩
theorem iX9_yarnFrom_21 : ab_at mX9_yarnFrom 21 (.iload_n 3) 1 22 := ⟨by decide +kernel, rfl⟩
theorem iX9_yarnFrom_22 : ab_at mX9_yarnFrom 22 (.iaload) 1 23 := ⟨by decide +kernel, rfl⟩
theorem iX9_yarnFrom_23 : ab_at mX9_yarnFrom 23 (.iaload) 1 24 := ⟨by decide +kernel, rfl⟩
theorem iX9_yarnFrom_24 : ab_at mX9_yarnFrom 24 (.iadd) 1 25 := ⟨by decide +kernel, rfl⟩
theorem iX9_yarnFrom_25 : ab_at mX9_yarnFrom 25 (.istore_n 2) 1 26 := ⟨by decide +kernel, rfl⟩
theorem iX9_yarnFrom_26 : ab_at mX9_yarnFrom 26 (.iinc 3 1) 3 29 := ⟨by decide +kernel, rfl⟩
theorem iX9_yarnFrom_29 : ab_bg mX9_yarnFrom 29 4 := ⟨-25, by decide +kernel, by decide⟩
theorem iX9_yarnFrom_32 : ab_at mX9_yarnFrom 32 (.iload_n 2) 1 33 := ⟨by decide +kernel, rfl⟩
theorem iX9_yarnFrom_33 : ab_at mX9_yarnFrom 33 (.ireturn) 1 34 := ⟨by decide +kernel, rfl⟩
theorem iX9_findDealing_0 : ab_at mX9_findDealing 0 (.aload_n 0) 1 1 := ⟨by decide +kernel, rfl⟩
theorem iX9_findDealing_1 : ab_at mX9_findDealing 1 (.iload_n 1) 1 2 := ⟨by decide +kernel, rfl⟩
theorem iX9_findDealing_2 : ab_at mX9_findDealing 2 (.invokevirtual 161) 3 5 := ⟨by decide +kernel, rfl⟩
theorem iX9_findDealing_5 : ab_bi mX9_findDealing 5 .ne 8 10 := ⟨5, by decide +kernel, rfl, by decide⟩
theorem iX9_findDealing_8 : ab_at mX9_findDealing 8 (.iconst 0) 1 9 := ⟨by decide +kernel, rfl⟩
theorem iX9_findDealing_9 : ab_at mX9_findDealing 9 (.ireturn) 1 10 := ⟨by decide +kernel, rfl⟩
theorem iX9_findDealing_10 : ab_at mX9_findDealing 10 (.iconst 0) 1 11 := ⟨by decide +kernel, rfl⟩
theorem iX9_findDealing_11 : ab_at mX9_findDealing 11 (.istore_n 2) 1 12 := ⟨by decide +kernel, rfl⟩
theorem iX9_findDealing_12 : ab_at mX9_findDealing 12 (.iload_n 2) 1 13 := ⟨by decide +kernel, rfl⟩
theorem iX9_findDealing_13 : ab_at mX9_findDealing 13 (.aload_n 0) 1 14 := ⟨by decide +kernel, rfl⟩
theorem iX9_findDealing_14 : ab_at mX9_findDealing 14 (.getfield 158) 3 17 := ⟨by decide +kernel, rfl⟩
theorem iX9_findDealing_17 : ab_bc mX9_findDealing 17 .ge 20 43 := ⟨26, by decide +kernel, rfl, by decide⟩
theorem iX9_findDealing_20 : ab_at mX9_findDealing 20 (.aload_n 0) 1 21 := ⟨by decide +kernel, rfl⟩
theorem iX9_findDealing_21 : ab_at mX9_findDealing 21 (.getfield 87) 3 24 := ⟨by decide +kernel, rfl⟩
theorem iX9_findDealing_24 : ab_at mX9_findDealing 24 (.iload_n 2) 1 25 := ⟨by decide +kernel, rfl⟩
theorem iX9_findDealing_25 : ab_at mX9_findDealing 25 (.aload_n 0) 1 26 := ⟨by decide +kernel, rfl⟩
theorem iX9_findDealing_26 : ab_at mX9_findDealing 26 (.getfield 27) 3 29 := ⟨by decide +kernel, rfl⟩
theorem iX9_findDealing_29 : ab_at mX9_findDealing 29 (.aload_n 0) 1 30 := ⟨by decide +kernel, rfl⟩
theorem iX9_findDealing_30 : ab_at mX9_findDealing 30 (.getfield 84) 3 33 := ⟨by decide +kernel, rfl⟩
theorem iX9_findDealing_33 : ab_at mX9_findDealing 33 (.iload_n 2) 1 34 := ⟨by decide +kernel, rfl⟩
theorem iX9_findDealing_34 : ab_at mX9_findDealing 34 (.iaload) 1 35 := ⟨by decide +kernel, rfl⟩
theorem iX9_findDealing_35 : ab_at mX9_findDealing 35 (.iaload) 1 36 := ⟨by decide +kernel, rfl⟩
theorem iX9_findDealing_36 : ab_at mX9_findDealing 36 (.iastore) 1 37 := ⟨by decide +kernel, rfl⟩
theorem iX9_findDealing_37 : ab_at mX9_findDealing 37 (.iinc 2 1) 3 40 := ⟨by decide +kernel, rfl⟩
theorem iX9_findDealing_40 : ab_bg mX9_findDealing 40 12 := ⟨-28, by decide +kernel, by decide⟩
theorem iX9_findDealing_43 : ab_at mX9_findDealing 43 (.aload_n 0) 1 44 := ⟨by decide +kernel, rfl⟩
theorem iX9_findDealing_44 : ab_at mX9_findDealing 44 (.iconst (-1)) 1 45 := ⟨by decide +kernel, rfl⟩
theorem iX9_findDealing_45 : ab_at mX9_findDealing 45 (.putfield 165) 3 48 := ⟨by decide +kernel, rfl⟩
theorem iX9_findDealing_48 : ab_at mX9_findDealing 48 (.iconst 0) 1 49 := ⟨by decide +kernel, rfl⟩
theorem iX9_findDealing_49 : ab_at mX9_findDealing 49 (.istore_n 2) 1 50 := ⟨by decide +kernel, rfl⟩
theorem iX9_findDealing_50 : ab_at mX9_findDealing 50 (.iconst 0) 1 51 := ⟨by decide +kernel, rfl⟩
theorem iX9_findDealing_51 : ab_at mX9_findDealing 51 (.istore_n 3) 1 52 := ⟨by decide +kernel, rfl⟩
theorem iX9_findDealing_52 : ab_at mX9_findDealing 52 (.aload_n 0) 1 53 := ⟨by decide +kernel, rfl⟩
theorem iX9_findDealing_53 : ab_at mX9_findDealing 53 (.getfield 90) 3 56 := ⟨by decide +kernel, rfl⟩
theorem iX9_findDealing_56 : ab_at mX9_findDealing 56 (.iconst 0) 1 57 := ⟨by decide +kernel, rfl⟩
theorem iX9_findDealing_57 : ab_at mX9_findDealing 57 (.iconst (-1)) 1 58 := ⟨by decide +kernel, rfl⟩
theorem iX9_findDealing_58 : ab_at mX9_findDealing 58 (.iastore) 1 59 := ⟨by decide +kernel, rfl⟩
theorem iX9_findDealing_59 : ab_at mX9_findDealing 59 (.iconst 1) 1 60 := ⟨by decide +kernel, rfl⟩
theorem iX9_findDealing_60 : ab_at mX9_findDealing 60 (.istore 4) 2 62 := ⟨by decide +kernel, rfl⟩
theorem iX9_findDealing_62 : ab_at mX9_findDealing 62 (.iload 4) 2 64 := ⟨by decide +kernel, rfl⟩
theorem iX9_findDealing_64 : ab_bi mX9_findDealing 64 .eq 67 315 := ⟨251, by decide +kernel, rfl, by decide⟩
theorem iX9_findDealing_67 : ab_at mX9_findDealing 67 (.iload_n 2) 1 68 := ⟨by decide +kernel, rfl⟩
theorem iX9_findDealing_68 : ab_at mX9_findDealing 68 (.aload_n 0) 1 69 := ⟨by decide +kernel, rfl⟩
theorem iX9_findDealing_69 : ab_at mX9_findDealing 69 (.getfield 155) 3 72 := ⟨by decide +kernel, rfl⟩
theorem iX9_findDealing_72 : ab_bc mX9_findDealing 72 .ne 75 135 := ⟨63, by decide +kernel, rfl, by decide⟩
theorem iX9_findDealing_75 : ab_at mX9_findDealing 75 (.iload_n 3) 1 76 := ⟨by decide +kernel, rfl⟩
theorem iX9_findDealing_76 : ab_at mX9_findDealing 76 (.aload_n 0) 1 77 := ⟨by decide +kernel, rfl⟩
theorem iX9_findDealing_77 : ab_at mX9_findDealing 77 (.getfield 165) 3 80 := ⟨by decide +kernel, rfl⟩
theorem iX9_findDealing_80 : ab_bc mX9_findDealing 80 .le 83 118 := ⟨38, by decide +kernel, rfl, by decide⟩
theorem iX9_findDealing_83 : ab_at mX9_findDealing 83 (.aload_n 0) 1 84 := ⟨by decide +kernel, rfl⟩
theorem iX9_findDealing_84 : ab_at mX9_findDealing 84 (.iload_n 3) 1 85 := ⟨by decide +kernel, rfl⟩
theorem iX9_findDealing_85 : ab_at mX9_findDealing 85 (.putfield 165) 3 88 := ⟨by decide +kernel, rfl⟩
theorem iX9_findDealing_88 : ab_at mX9_findDealing 88 (.iconst 0) 1 89 := ⟨by decide +kernel, rfl⟩
theorem iX9_findDealing_89 : ab_at mX9_findDealing 89 (.istore 5) 2 91 := ⟨by decide +kernel, rfl⟩
theorem iX9_findDealing_91 : ab_at mX9_findDealing 91 (.iload 5) 2 93 := ⟨by decide +kernel, rfl⟩
theorem iX9_findDealing_93 : ab_at mX9_findDealing 93 (.bipush 8) 2 95 := ⟨by decide +kernel, rfl⟩
theorem iX9_findDealing_95 : ab_bc mX9_findDealing 95 .ge 98 118 := ⟨23, by decide +kernel, rfl, by decide⟩
theorem iX9_findDealing_98 : ab_at mX9_findDealing 98 (.aload_n 0) 1 99 := ⟨by decide +kernel, rfl⟩
theorem iX9_findDealing_99 : ab_at mX9_findDealing 99 (.getfield 93) 3 102 := ⟨by decide +kernel, rfl⟩
theorem iX9_findDealing_102 : ab_at mX9_findDealing 102 (.iload 5) 2 104 := ⟨by decide +kernel, rfl⟩
theorem iX9_findDealing_104 : ab_at mX9_findDealing 104 (.aload_n 0) 1 105 := ⟨by decide +kernel, rfl⟩
theorem iX9_findDealing_105 : ab_at mX9_findDealing 105 (.getfield 90) 3 108 := ⟨by decide +kernel, rfl⟩
theorem iX9_findDealing_108 : ab_at mX9_findDealing 108 (.iload 5) 2 110 := ⟨by decide +kernel, rfl⟩
theorem iX9_findDealing_110 : ab_at mX9_findDealing 110 (.iaload) 1 111 := ⟨by decide +kernel, rfl⟩
theorem iX9_findDealing_111 : ab_at mX9_findDealing 111 (.iastore) 1 112 := ⟨by decide +kernel, rfl⟩
theorem iX9_findDealing_112 : ab_at mX9_findDealing 112 (.iinc 5 1) 3 115 := ⟨by decide +kernel, rfl⟩
theorem iX9_findDealing_115 : ab_bg mX9_findDealing 115 91 := ⟨-24, by decide +kernel, by decide⟩
theorem iX9_findDealing_118 : ab_at mX9_findDealing 118 (.iinc 2 (-1)) 3 121 := ⟨by decide +kernel, rfl⟩
theorem iX9_findDealing_121 : ab_at mX9_findDealing 121 (.iload_n 2) 1 122 := ⟨by decide +kernel, rfl⟩
theorem iX9_findDealing_122 : ab_bi mX9_findDealing 122 .lt 125 129 := ⟨7, by decide +kernel, rfl, by decide⟩
theorem iX9_findDealing_125 : ab_at mX9_findDealing 125 (.iconst 1) 1 126 := ⟨by decide +kernel, rfl⟩
theorem iX9_findDealing_126 : ab_bg mX9_findDealing 126 130 := ⟨4, by decide +kernel, by decide⟩
theorem iX9_findDealing_129 : ab_at mX9_findDealing 129 (.iconst 0) 1 130 := ⟨by decide +kernel, rfl⟩
theorem iX9_findDealing_130 : ab_at mX9_findDealing 130 (.istore 4) 2 132 := ⟨by decide +kernel, rfl⟩
theorem iX9_findDealing_132 : ab_bg mX9_findDealing 132 62 := ⟨-70, by decide +kernel, by decide⟩
theorem iX9_findDealing_135 : ab_at mX9_findDealing 135 (.aload_n 0) 1 136 := ⟨by decide +kernel, rfl⟩
theorem iX9_findDealing_136 : ab_at mX9_findDealing 136 (.getfield 78) 3 139 := ⟨by decide +kernel, rfl⟩
theorem iX9_findDealing_139 : ab_at mX9_findDealing 139 (.aload_n 0) 1 140 := ⟨by decide +kernel, rfl⟩
theorem iX9_findDealing_140 : ab_at mX9_findDealing 140 (.getfield 81) 3 143 := ⟨by decide +kernel, rfl⟩
theorem iX9_findDealing_143 : ab_at mX9_findDealing 143 (.iload_n 2) 1 144 := ⟨by decide +kernel, rfl⟩
theorem iX9_findDealing_144 : ab_at mX9_findDealing 144 (.iaload) 1 145 := ⟨by decide +kernel, rfl⟩
theorem iX9_findDealing_145 : ab_at mX9_findDealing 145 (.iaload) 1 146 := ⟨by decide +kernel, rfl⟩
theorem iX9_findDealing_146 : ab_at mX9_findDealing 146 (.istore 5) 2 148 := ⟨by decide +kernel, rfl⟩
theorem iX9_findDealing_148 : ab_at mX9_findDealing 148 (.aload_n 0) 1 149 := ⟨by decide +kernel, rfl⟩
theorem iX9_findDealing_149 : ab_at mX9_findDealing 149 (.getfield 90) 3 152 := ⟨by decide +kernel, rfl⟩
theorem iX9_findDealing_152 : ab_at mX9_findDealing 152 (.iload_n 2) 1 153 := ⟨by decide +kernel, rfl⟩
theorem iX9_findDealing_153 : ab_at mX9_findDealing 153 (.iaload) 1 154 := ⟨by decide +kernel, rfl⟩
theorem iX9_findDealing_154 : ab_at mX9_findDealing 154 (.istore 6) 2 156 := ⟨by decide +kernel, rfl⟩
theorem iX9_findDealing_156 : ab_at mX9_findDealing 156 (.iload 6) 2 158 := ⟨by decide +kernel, rfl⟩
theorem iX9_findDealing_158 : ab_bi mX9_findDealing 158 .lt 161 187 := ⟨29, by decide +kernel, rfl, by decide⟩
theorem iX9_findDealing_161 : ab_at mX9_findDealing 161 (.iload 6) 2 163 := ⟨by decide +kernel, rfl⟩
theorem iX9_findDealing_163 : ab_at mX9_findDealing 163 (.aload_n 0) 1 164 := ⟨by decide +kernel, rfl⟩
theorem iX9_findDealing_164 : ab_at mX9_findDealing 164 (.getfield 158) 3 167 := ⟨by decide +kernel, rfl⟩
theorem iX9_findDealing_167 : ab_bc mX9_findDealing 167 .ge 170 187 := ⟨20, by decide +kernel, rfl, by decide⟩
theorem iX9_findDealing_170 : ab_at mX9_findDealing 170 (.aload_n 0) 1 171 := ⟨by decide +kernel, rfl⟩
theorem iX9_findDealing_171 : ab_at mX9_findDealing 171 (.getfield 87) 3 174 := ⟨by decide +kernel, rfl⟩
theorem iX9_findDealing_174 : ab_at mX9_findDealing 174 (.iload 6) 2 176 := ⟨by decide +kernel, rfl⟩
theorem iX9_findDealing_176 : ab_at mX9_findDealing 176 (.dup2) 1 177 := ⟨by decide +kernel, rfl⟩
theorem iX9_findDealing_177 : ab_at mX9_findDealing 177 (.iaload) 1 178 := ⟨by decide +kernel, rfl⟩
theorem iX9_findDealing_178 : ab_at mX9_findDealing 178 (.iload 5) 2 180 := ⟨by decide +kernel, rfl⟩
theorem iX9_findDealing_180 : ab_at mX9_findDealing 180 (.iadd) 1 181 := ⟨by decide +kernel, rfl⟩
theorem iX9_findDealing_181 : ab_at mX9_findDealing 181 (.iastore) 1 182 := ⟨by decide +kernel, rfl⟩
theorem iX9_findDealing_182 : ab_at mX9_findDealing 182 (.iload_n 3) 1 183 := ⟨by decide +kernel, rfl⟩
theorem iX9_findDealing_183 : ab_at mX9_findDealing 183 (.iload 5) 2 185 := ⟨by decide +kernel, rfl⟩
theorem iX9_findDealing_185 : ab_at mX9_findDealing 185 (.isub) 1 186 := ⟨by decide +kernel, rfl⟩
theorem iX9_findDealing_186 : ab_at mX9_findDealing 186 (.istore_n 3) 1 187 := ⟨by decide +kernel, rfl⟩
theorem iX9_findDealing_187 : ab_at mX9_findDealing 187 (.iload 6) 2 189 := ⟨by decide +kernel, rfl⟩
theorem iX9_findDealing_189 : ab_at mX9_findDealing 189 (.iconst 1) 1 190 := ⟨by decide +kernel, rfl⟩
theorem iX9_findDealing_190 : ab_at mX9_findDealing 190 (.iadd) 1 191 := ⟨by decide +kernel, rfl⟩
theorem iX9_findDealing_191 : ab_at mX9_findDealing 191 (.istore 7) 2 193 := ⟨by decide +kernel, rfl⟩
theorem iX9_findDealing_193 : ab_at mX9_findDealing 193 (.iload 7) 2 195 := ⟨by decide +kernel, rfl⟩
theorem iX9_findDealing_195 : ab_at mX9_findDealing 195 (.aload_n 0) 1 196 := ⟨by decide +kernel, rfl⟩
theorem iX9_findDealing_196 : ab_at mX9_findDealing 196 (.getfield 158) 3 199 := ⟨by decide +kernel, rfl⟩
theorem iX9_findDealing_199 : ab_bc mX9_findDealing 199 .ge 202 220 := ⟨21, by decide +kernel, rfl, by decide⟩
theorem iX9_findDealing_202 : ab_at mX9_findDealing 202 (.aload_n 0) 1 203 := ⟨by decide +kernel, rfl⟩
theorem iX9_findDealing_203 : ab_at mX9_findDealing 203 (.getfield 87) 3 206 := ⟨by decide +kernel, rfl⟩
theorem iX9_findDealing_206 : ab_at mX9_findDealing 206 (.iload 7) 2 208 := ⟨by decide +kernel, rfl⟩
theorem iX9_findDealing_208 : ab_at mX9_findDealing 208 (.iaload) 1 209 := ⟨by decide +kernel, rfl⟩
theorem iX9_findDealing_209 : ab_at mX9_findDealing 209 (.iload 5) 2 211 := ⟨by decide +kernel, rfl⟩
theorem iX9_findDealing_211 : ab_bc mX9_findDealing 211 .ge 214 220 := ⟨9, by decide +kernel, rfl, by decide⟩
theorem iX9_findDealing_214 : ab_at mX9_findDealing 214 (.iinc 7 1) 3 217 := ⟨by decide +kernel, rfl⟩
theorem iX9_findDealing_217 : ab_bg mX9_findDealing 217 193 := ⟨-24, by decide +kernel, by decide⟩
theorem iX9_findDealing_220 : ab_at mX9_findDealing 220 (.iload 7) 2 222 := ⟨by decide +kernel, rfl⟩
theorem iX9_findDealing_222 : ab_at mX9_findDealing 222 (.aload_n 0) 1 223 := ⟨by decide +kernel, rfl⟩
theorem iX9_findDealing_223 : ab_at mX9_findDealing 223 (.getfield 158) 3 226 := ⟨by decide +kernel, rfl⟩
theorem iX9_findDealing_226 : ab_bc mX9_findDealing 226 .gt 229 243 := ⟨17, by decide +kernel, rfl, by decide⟩
theorem iX9_findDealing_229 : ab_at mX9_findDealing 229 (.iload_n 3) 1 230 := ⟨by decide +kernel, rfl⟩
theorem iX9_findDealing_230 : ab_at mX9_findDealing 230 (.aload_n 0) 1 231 := ⟨by decide +kernel, rfl⟩
theorem iX9_findDealing_231 : ab_at mX9_findDealing 231 (.iload_n 2) 1 232 := ⟨by decide +kernel, rfl⟩
theorem iX9_findDealing_232 : ab_at mX9_findDealing 232 (.invokevirtual 168) 3 235 := ⟨by decide +kernel, rfl⟩
theorem iX9_findDealing_235 : ab_at mX9_findDealing 235 (.iadd) 1 236 := ⟨by decide +kernel, rfl⟩
theorem iX9_findDealing_236 : ab_at mX9_findDealing 236 (.aload_n 0) 1 237 := ⟨by decide +kernel, rfl⟩
theorem iX9_findDealing_237 : ab_at mX9_findDealing 237 (.getfield 165) 3 240 := ⟨by decide +kernel, rfl⟩
theorem iX9_findDealing_240 : ab_bc mX9_findDealing 240 .gt 243 260 := ⟨20, by decide +kernel, rfl, by decide⟩
theorem iX9_findDealing_243 : ab_at mX9_findDealing 243 (.iinc 2 (-1)) 3 246 := ⟨by decide +kernel, rfl⟩
theorem iX9_findDealing_246 : ab_at mX9_findDealing 246 (.iload_n 2) 1 247 := ⟨by decide +kernel, rfl⟩
theorem iX9_findDealing_247 : ab_bi mX9_findDealing 247 .lt 250 254 := ⟨7, by decide +kernel, rfl, by decide⟩
theorem iX9_findDealing_250 : ab_at mX9_findDealing 250 (.iconst 1) 1 251 := ⟨by decide +kernel, rfl⟩
theorem iX9_findDealing_251 : ab_bg mX9_findDealing 251 255 := ⟨4, by decide +kernel, by decide⟩
theorem iX9_findDealing_254 : ab_at mX9_findDealing 254 (.iconst 0) 1 255 := ⟨by decide +kernel, rfl⟩
theorem iX9_findDealing_255 : ab_at mX9_findDealing 255 (.istore 4) 2 257 := ⟨by decide +kernel, rfl⟩
theorem iX9_findDealing_257 : ab_bg mX9_findDealing 257 62 := ⟨-195, by decide +kernel, by decide⟩
theorem iX9_findDealing_260 : ab_at mX9_findDealing 260 (.aload_n 0) 1 261 := ⟨by decide +kernel, rfl⟩
theorem iX9_findDealing_261 : ab_at mX9_findDealing 261 (.getfield 90) 3 264 := ⟨by decide +kernel, rfl⟩
theorem iX9_findDealing_264 : ab_at mX9_findDealing 264 (.iload_n 2) 1 265 := ⟨by decide +kernel, rfl⟩
theorem iX9_findDealing_265 : ab_at mX9_findDealing 265 (.iload 7) 2 267 := ⟨by decide +kernel, rfl⟩
theorem iX9_findDealing_267 : ab_at mX9_findDealing 267 (.iastore) 1 268 := ⟨by decide +kernel, rfl⟩
theorem iX9_findDealing_268 : ab_at mX9_findDealing 268 (.iload 7) 2 270 := ⟨by decide +kernel, rfl⟩
theorem iX9_findDealing_270 : ab_at mX9_findDealing 270 (.aload_n 0) 1 271 := ⟨by decide +kernel, rfl⟩
theorem iX9_findDealing_271 : ab_at mX9_findDealing 271 (.getfield 158) 3 274 := ⟨by decide +kernel, rfl⟩
theorem iX9_findDealing_274 : ab_bc mX9_findDealing 274 .ge 277 294 := ⟨20, by decide +kernel, rfl, by decide⟩
theorem iX9_findDealing_277 : ab_at mX9_findDealing 277 (.aload_n 0) 1 278 := ⟨by decide +kernel, rfl⟩
theorem iX9_findDealing_278 : ab_at mX9_findDealing 278 (.getfield 87) 3 281 := ⟨by decide +kernel, rfl⟩
theorem iX9_findDealing_281 : ab_at mX9_findDealing 281 (.iload 7) 2 283 := ⟨by decide +kernel, rfl⟩
theorem iX9_findDealing_283 : ab_at mX9_findDealing 283 (.dup2) 1 284 := ⟨by decide +kernel, rfl⟩
theorem iX9_findDealing_284 : ab_at mX9_findDealing 284 (.iaload) 1 285 := ⟨by decide +kernel, rfl⟩
theorem iX9_findDealing_285 : ab_at mX9_findDealing 285 (.iload 5) 2 287 := ⟨by decide +kernel, rfl⟩
theorem iX9_findDealing_287 : ab_at mX9_findDealing 287 (.isub) 1 288 := ⟨by decide +kernel, rfl⟩
theorem iX9_findDealing_288 : ab_at mX9_findDealing 288 (.iastore) 1 289 := ⟨by decide +kernel, rfl⟩
theorem iX9_findDealing_289 : ab_at mX9_findDealing 289 (.iload_n 3) 1 290 := ⟨by decide +kernel, rfl⟩
theorem iX9_findDealing_290 : ab_at mX9_findDealing 290 (.iload 5) 2 292 := ⟨by decide +kernel, rfl⟩
theorem iX9_findDealing_292 : ab_at mX9_findDealing 292 (.iadd) 1 293 := ⟨by decide +kernel, rfl⟩
theorem iX9_findDealing_293 : ab_at mX9_findDealing 293 (.istore_n 3) 1 294 := ⟨by decide +kernel, rfl⟩
theorem iX9_findDealing_294 : ab_at mX9_findDealing 294 (.iinc 2 1) 3 297 := ⟨by decide +kernel, rfl⟩
theorem iX9_findDealing_297 : ab_at mX9_findDealing 297 (.iload_n 2) 1 298 := ⟨by decide +kernel, rfl⟩
theorem iX9_findDealing_298 : ab_at mX9_findDealing 298 (.aload_n 0) 1 299 := ⟨by decide +kernel, rfl⟩
theorem iX9_findDealing_299 : ab_at mX9_findDealing 299 (.getfield 155) 3 302 := ⟨by decide +kernel, rfl⟩
theorem iX9_findDealing_302 : ab_bc mX9_findDealing 302 .ge 305 312 := ⟨10, by decide +kernel, rfl, by decide⟩
theorem iX9_findDealing_305 : ab_at mX9_findDealing 305 (.aload_n 0) 1 306 := ⟨by decide +kernel, rfl⟩
theorem iX9_findDealing_306 : ab_at mX9_findDealing 306 (.getfield 90) 3 309 := ⟨by decide +kernel, rfl⟩
theorem iX9_findDealing_309 : ab_at mX9_findDealing 309 (.iload_n 2) 1 310 := ⟨by decide +kernel, rfl⟩
theorem iX9_findDealing_310 : ab_at mX9_findDealing 310 (.iconst (-1)) 1 311 := ⟨by decide +kernel, rfl⟩
theorem iX9_findDealing_311 : ab_at mX9_findDealing 311 (.iastore) 1 312 := ⟨by decide +kernel, rfl⟩
theorem iX9_findDealing_312 : ab_bg mX9_findDealing 312 62 := ⟨-250, by decide +kernel, by decide⟩
theorem iX9_findDealing_315 : ab_at mX9_findDealing 315 (.iconst 1) 1 316 := ⟨by decide +kernel, rfl⟩
theorem iX9_findDealing_316 : ab_at mX9_findDealing 316 (.ireturn) 1 317 := ⟨by decide +kernel, rfl⟩
theorem iX9_lot_0 : ab_at mX9_lot 0 (.iload_n 1) 1 1 := ⟨by decide +kernel, rfl⟩
theorem iX9_lot_1 : ab_at mX9_lot 1 (.iconst 0) 1 2 := ⟨by decide +kernel, rfl⟩
theorem iX9_lot_2 : ab_at mX9_lot 2 (.aload_n 0) 1 3 := ⟨by decide +kernel, rfl⟩
theorem iX9_lot_3 : ab_at mX9_lot 3 (.getfield 152) 3 6 := ⟨by decide +kernel, rfl⟩
theorem iX9_lot_6 : ab_at mX9_lot 6 (.iconst 1) 1 7 := ⟨by decide +kernel, rfl⟩
theorem iX9_lot_7 : ab_at mX9_lot 7 (.isub) 1 8 := ⟨by decide +kernel, rfl⟩
theorem iX9_lot_8 : ab_at mX9_lot 8 (.invokestatic 111) 3 11 := ⟨by decide +kernel, rfl⟩
theorem iX9_lot_11 : ab_bi mX9_lot 11 .eq 14 23 := ⟨12, by decide +kernel, rfl, by decide⟩
theorem iX9_lot_14 : ab_at mX9_lot 14 (.iload_n 2) 1 15 := ⟨by decide +kernel, rfl⟩
theorem iX9_lot_15 : ab_at mX9_lot 15 (.iconst 0) 1 16 := ⟨by decide +kernel, rfl⟩
theorem iX9_lot_16 : ab_at mX9_lot 16 (.iconst 2) 1 17 := ⟨by decide +kernel, rfl⟩
theorem iX9_lot_17 : ab_at mX9_lot 17 (.invokestatic 111) 3 20 := ⟨by decide +kernel, rfl⟩
theorem iX9_lot_20 : ab_bi mX9_lot 20 .ne 23 25 := ⟨5, by decide +kernel, rfl, by decide⟩
theorem iX9_lot_23 : ab_at mX9_lot 23 (.iconst (-1)) 1 24 := ⟨by decide +kernel, rfl⟩
theorem iX9_lot_24 : ab_at mX9_lot 24 (.ireturn) 1 25 := ⟨by decide +kernel, rfl⟩
theorem iX9_lot_25 : ab_at mX9_lot 25 (.iload_n 2) 1 26 := ⟨by decide +kernel, rfl⟩
theorem iX9_lot_26 : ab_at mX9_lot 26 (.iconst 2) 1 27 := ⟨by decide +kernel, rfl⟩
theorem iX9_lot_27 : ab_bc mX9_lot 27 .ge 30 50 := ⟨23, by decide +kernel, rfl, by decide⟩
theorem iX9_lot_30 : ab_at mX9_lot 30 (.iload_n 2) 1 31 := ⟨by decide +kernel, rfl⟩
theorem iX9_lot_31 : ab_bi mX9_lot 31 .ne 34 43 := ⟨12, by decide +kernel, rfl, by decide⟩
theorem iX9_lot_34 : ab_at mX9_lot 34 (.aload_n 0) 1 35 := ⟨by decide +kernel, rfl⟩
theorem iX9_lot_35 : ab_at mX9_lot 35 (.getfield 24) 3 38 := ⟨by decide +kernel, rfl⟩
theorem iX9_lot_38 : ab_at mX9_lot 38 (.iload_n 1) 1 39 := ⟨by decide +kernel, rfl⟩
theorem iX9_lot_39 : ab_at mX9_lot 39 (.iaload) 1 40 := ⟨by decide +kernel, rfl⟩
theorem iX9_lot_40 : ab_bg mX9_lot 40 49 := ⟨9, by decide +kernel, by decide⟩
theorem iX9_lot_43 : ab_at mX9_lot 43 (.aload_n 0) 1 44 := ⟨by decide +kernel, rfl⟩
theorem iX9_lot_44 : ab_at mX9_lot 44 (.getfield 27) 3 47 := ⟨by decide +kernel, rfl⟩
theorem iX9_lot_47 : ab_at mX9_lot 47 (.iload_n 1) 1 48 := ⟨by decide +kernel, rfl⟩
theorem iX9_lot_48 : ab_at mX9_lot 48 (.iaload) 1 49 := ⟨by decide +kernel, rfl⟩
theorem iX9_lot_49 : ab_at mX9_lot 49 (.ireturn) 1 50 := ⟨by decide +kernel, rfl⟩
theorem iX9_lot_50 : ab_at mX9_lot 50 (.aload_n 0) 1 51 := ⟨by decide +kernel, rfl⟩
theorem iX9_lot_51 : ab_at mX9_lot 51 (.aload_n 0) 1 52 := ⟨by decide +kernel, rfl⟩
theorem iX9_lot_52 : ab_at mX9_lot 52 (.getfield 24) 3 55 := ⟨by decide +kernel, rfl⟩
theorem iX9_lot_55 : ab_at mX9_lot 55 (.iload_n 1) 1 56 := ⟨by decide +kernel, rfl⟩
theorem iX9_lot_56 : ab_at mX9_lot 56 (.iaload) 1 57 := ⟨by decide +kernel, rfl⟩
theorem iX9_lot_57 : ab_at mX9_lot 57 (.invokevirtual 171) 3 60 := ⟨by decide +kernel, rfl⟩
theorem iX9_lot_60 : ab_bi mX9_lot 60 .ne 63 66 := ⟨6, by decide +kernel, rfl, by decide⟩
theorem iX9_lot_63 : ab_at mX9_lot 63 (.bipush (-5)) 2 65 := ⟨by decide +kernel, rfl⟩
theorem iX9_lot_65 : ab_at mX9_lot 65 (.ireturn) 1 66 := ⟨by decide +kernel, rfl⟩
theorem iX9_lot_66 : ab_at mX9_lot 66 (.iconst 0) 1 67 := ⟨by decide +kernel, rfl⟩
theorem iX9_lot_67 : ab_at mX9_lot 67 (.istore_n 3) 1 68 := ⟨by decide +kernel, rfl⟩
theorem iX9_lot_68 : ab_at mX9_lot 68 (.iconst 0) 1 69 := ⟨by decide +kernel, rfl⟩
theorem iX9_lot_69 : ab_at mX9_lot 69 (.istore 4) 2 71 := ⟨by decide +kernel, rfl⟩
theorem iX9_lot_71 : ab_at mX9_lot 71 (.iload 4) 2 73 := ⟨by decide +kernel, rfl⟩
theorem iX9_lot_73 : ab_at mX9_lot 73 (.aload_n 0) 1 74 := ⟨by decide +kernel, rfl⟩
theorem iX9_lot_74 : ab_at mX9_lot 74 (.getfield 155) 3 77 := ⟨by decide +kernel, rfl⟩
theorem iX9_lot_77 : ab_bc mX9_lot 77 .ge 80 135 := ⟨58, by decide +kernel, rfl, by decide⟩
theorem iX9_lot_80 : ab_at mX9_lot 80 (.iload_n 3) 1 81 := ⟨by decide +kernel, rfl⟩
theorem iX9_lot_81 : ab_at mX9_lot 81 (.aload_n 0) 1 82 := ⟨by decide +kernel, rfl⟩
theorem iX9_lot_82 : ab_at mX9_lot 82 (.getfield 93) 3 85 := ⟨by decide +kernel, rfl⟩
theorem iX9_lot_85 : ab_at mX9_lot 85 (.iload 4) 2 87 := ⟨by decide +kernel, rfl⟩
theorem iX9_lot_87 : ab_at mX9_lot 87 (.iaload) 1 88 := ⟨by decide +kernel, rfl⟩
theorem iX9_lot_88 : ab_at mX9_lot 88 (.aload_n 0) 1 89 := ⟨by decide +kernel, rfl⟩
theorem iX9_lot_89 : ab_at mX9_lot 89 (.getfield 158) 3 92 := ⟨by decide +kernel, rfl⟩
theorem iX9_lot_92 : ab_bc mX9_lot 92 .ge 95 126 := ⟨34, by decide +kernel, rfl, by decide⟩
theorem iX9_lot_95 : ab_at mX9_lot 95 (.aload_n 0) 1 96 := ⟨by decide +kernel, rfl⟩
theorem iX9_lot_96 : ab_at mX9_lot 96 (.getfield 84) 3 99 := ⟨by decide +kernel, rfl⟩
theorem iX9_lot_99 : ab_at mX9_lot 99 (.aload_n 0) 1 100 := ⟨by decide +kernel, rfl⟩
theorem iX9_lot_100 : ab_at mX9_lot 100 (.getfield 93) 3 103 := ⟨by decide +kernel, rfl⟩
theorem iX9_lot_103 : ab_at mX9_lot 103 (.iload 4) 2 105 := ⟨by decide +kernel, rfl⟩
theorem iX9_lot_105 : ab_at mX9_lot 105 (.iaload) 1 106 := ⟨by decide +kernel, rfl⟩
theorem iX9_lot_106 : ab_at mX9_lot 106 (.iaload) 1 107 := ⟨by decide +kernel, rfl⟩
theorem iX9_lot_107 : ab_at mX9_lot 107 (.iload_n 1) 1 108 := ⟨by decide +kernel, rfl⟩
theorem iX9_lot_108 : ab_bc mX9_lot 108 .ne 111 126 := ⟨18, by decide +kernel, rfl, by decide⟩
theorem iX9_lot_111 : ab_at mX9_lot 111 (.aload_n 0) 1 112 := ⟨by decide +kernel, rfl⟩
theorem iX9_lot_112 : ab_at mX9_lot 112 (.getfield 78) 3 115 := ⟨by decide +kernel, rfl⟩
theorem iX9_lot_115 : ab_at mX9_lot 115 (.aload_n 0) 1 116 := ⟨by decide +kernel, rfl⟩
theorem iX9_lot_116 : ab_at mX9_lot 116 (.getfield 81) 3 119 := ⟨by decide +kernel, rfl⟩
theorem iX9_lot_119 : ab_at mX9_lot 119 (.iload 4) 2 121 := ⟨by decide +kernel, rfl⟩
theorem iX9_lot_121 : ab_at mX9_lot 121 (.iaload) 1 122 := ⟨by decide +kernel, rfl⟩
theorem iX9_lot_122 : ab_at mX9_lot 122 (.iaload) 1 123 := ⟨by decide +kernel, rfl⟩
theorem iX9_lot_123 : ab_bg mX9_lot 123 127 := ⟨4, by decide +kernel, by decide⟩
theorem iX9_lot_126 : ab_at mX9_lot 126 (.iconst 0) 1 127 := ⟨by decide +kernel, rfl⟩
theorem iX9_lot_127 : ab_at mX9_lot 127 (.iadd) 1 128 := ⟨by decide +kernel, rfl⟩
theorem iX9_lot_128 : ab_at mX9_lot 128 (.istore_n 3) 1 129 := ⟨by decide +kernel, rfl⟩
theorem iX9_lot_129 : ab_at mX9_lot 129 (.iinc 4 1) 3 132 := ⟨by decide +kernel, rfl⟩
theorem iX9_lot_132 : ab_bg mX9_lot 132 71 := ⟨-61, by decide +kernel, by decide⟩
theorem iX9_lot_135 : ab_at mX9_lot 135 (.iload_n 3) 1 136 := ⟨by decide +kernel, rfl⟩
theorem iX9_lot_136 : ab_at mX9_lot 136 (.ireturn) 1 137 := ⟨by decide +kernel, rfl⟩
theorem iX9_deal_0 : ab_at mX9_deal 0 (.aload_n 0) 1 1 := ⟨by decide +kernel, rfl⟩
theorem iX9_deal_1 : ab_at mX9_deal 1 (.invokevirtual 149) 3 4 := ⟨by decide +kernel, rfl⟩
theorem iX9_deal_4 : ab_at mX9_deal 4 (.iload_n 1) 1 5 := ⟨by decide +kernel, rfl⟩
theorem iX9_deal_5 : ab_at mX9_deal 5 (.iconst 0) 1 6 := ⟨by decide +kernel, rfl⟩
theorem iX9_deal_6 : ab_at mX9_deal 6 (.aload_n 0) 1 7 := ⟨by decide +kernel, rfl⟩
theorem iX9_deal_7 : ab_at mX9_deal 7 (.getfield 143) 3 10 := ⟨by decide +kernel, rfl⟩
theorem iX9_deal_10 : ab_at mX9_deal 10 (.iconst 1) 1 11 := ⟨by decide +kernel, rfl⟩
theorem iX9_deal_11 : ab_at mX9_deal 11 (.isub) 1 12 := ⟨by decide +kernel, rfl⟩
theorem iX9_deal_12 : ab_at mX9_deal 12 (.invokestatic 111) 3 15 := ⟨by decide +kernel, rfl⟩
theorem iX9_deal_15 : ab_bi mX9_deal 15 .ne 18 20 := ⟨5, by decide +kernel, rfl, by decide⟩
theorem iX9_deal_18 : ab_at mX9_deal 18 (.iconst (-1)) 1 19 := ⟨by decide +kernel, rfl⟩
theorem iX9_deal_19 : ab_at mX9_deal 19 (.ireturn) 1 20 := ⟨by decide +kernel, rfl⟩
theorem iX9_deal_20 : ab_at mX9_deal 20 (.aload_n 0) 1 21 := ⟨by decide +kernel, rfl⟩
theorem iX9_deal_21 : ab_at mX9_deal 21 (.aload_n 0) 1 22 := ⟨by decide +kernel, rfl⟩
theorem iX9_deal_22 : ab_at mX9_deal 22 (.getfield 16) 3 25 := ⟨by decide +kernel, rfl⟩
theorem iX9_deal_25 : ab_at mX9_deal 25 (.aload_n 0) 1 26 := ⟨by decide +kernel, rfl⟩
theorem iX9_deal_26 : ab_at mX9_deal 26 (.getfield 72) 3 29 := ⟨by decide +kernel, rfl⟩
theorem iX9_deal_29 : ab_at mX9_deal 29 (.iload_n 1) 1 30 := ⟨by decide +kernel, rfl⟩
theorem iX9_deal_30 : ab_at mX9_deal 30 (.iaload) 1 31 := ⟨by decide +kernel, rfl⟩
theorem iX9_deal_31 : ab_at mX9_deal 31 (.iaload) 1 32 := ⟨by decide +kernel, rfl⟩
theorem iX9_deal_32 : ab_at mX9_deal 32 (.invokevirtual 171) 3 35 := ⟨by decide +kernel, rfl⟩
theorem iX9_deal_35 : ab_bi mX9_deal 35 .ne 38 41 := ⟨6, by decide +kernel, rfl, by decide⟩
theorem iX9_deal_38 : ab_at mX9_deal 38 (.bipush (-5)) 2 40 := ⟨by decide +kernel, rfl⟩
theorem iX9_deal_40 : ab_at mX9_deal 40 (.ireturn) 1 41 := ⟨by decide +kernel, rfl⟩
theorem iX9_deal_41 : ab_at mX9_deal 41 (.bipush (-4)) 2 43 := ⟨by decide +kernel, rfl⟩
theorem iX9_deal_43 : ab_at mX9_deal 43 (.istore_n 2) 1 44 := ⟨by decide +kernel, rfl⟩
theorem iX9_deal_44 : ab_at mX9_deal 44 (.iconst 0) 1 45 := ⟨by decide +kernel, rfl⟩
theorem iX9_deal_45 : ab_at mX9_deal 45 (.istore_n 3) 1 46 := ⟨by decide +kernel, rfl⟩
theorem iX9_deal_46 : ab_at mX9_deal 46 (.iload_n 3) 1 47 := ⟨by decide +kernel, rfl⟩
theorem iX9_deal_47 : ab_at mX9_deal 47 (.aload_n 0) 1 48 := ⟨by decide +kernel, rfl⟩
theorem iX9_deal_48 : ab_at mX9_deal 48 (.getfield 155) 3 51 := ⟨by decide +kernel, rfl⟩
theorem iX9_deal_51 : ab_bc mX9_deal 51 .ge 54 99 := ⟨48, by decide +kernel, rfl, by decide⟩
theorem iX9_deal_54 : ab_at mX9_deal 54 (.aload_n 0) 1 55 := ⟨by decide +kernel, rfl⟩
theorem iX9_deal_55 : ab_at mX9_deal 55 (.getfield 81) 3 58 := ⟨by decide +kernel, rfl⟩
theorem iX9_deal_58 : ab_at mX9_deal 58 (.iload_n 3) 1 59 := ⟨by decide +kernel, rfl⟩
theorem iX9_deal_59 : ab_at mX9_deal 59 (.iaload) 1 60 := ⟨by decide +kernel, rfl⟩
theorem iX9_deal_60 : ab_at mX9_deal 60 (.iload_n 1) 1 61 := ⟨by decide +kernel, rfl⟩
theorem iX9_deal_61 : ab_bc mX9_deal 61 .ne 64 91 := ⟨30, by decide +kernel, rfl, by decide⟩
theorem iX9_deal_64 : ab_at mX9_deal 64 (.aload_n 0) 1 65 := ⟨by decide +kernel, rfl⟩
theorem iX9_deal_65 : ab_at mX9_deal 65 (.getfield 93) 3 68 := ⟨by decide +kernel, rfl⟩
theorem iX9_deal_68 : ab_at mX9_deal 68 (.iload_n 3) 1 69 := ⟨by decide +kernel, rfl⟩
theorem iX9_deal_69 : ab_at mX9_deal 69 (.iaload) 1 70 := ⟨by decide +kernel, rfl⟩
theorem iX9_deal_70 : ab_at mX9_deal 70 (.aload_n 0) 1 71 := ⟨by decide +kernel, rfl⟩
theorem iX9_deal_71 : ab_at mX9_deal 71 (.getfield 158) 3 74 := ⟨by decide +kernel, rfl⟩
theorem iX9_deal_74 : ab_bc mX9_deal 74 .ge 77 91 := ⟨17, by decide +kernel, rfl, by decide⟩
theorem iX9_deal_77 : ab_at mX9_deal 77 (.aload_n 0) 1 78 := ⟨by decide +kernel, rfl⟩
theorem iX9_deal_78 : ab_at mX9_deal 78 (.getfield 84) 3 81 := ⟨by decide +kernel, rfl⟩
theorem iX9_deal_81 : ab_at mX9_deal 81 (.aload_n 0) 1 82 := ⟨by decide +kernel, rfl⟩
theorem iX9_deal_82 : ab_at mX9_deal 82 (.getfield 93) 3 85 := ⟨by decide +kernel, rfl⟩
theorem iX9_deal_85 : ab_at mX9_deal 85 (.iload_n 3) 1 86 := ⟨by decide +kernel, rfl⟩
theorem iX9_deal_86 : ab_at mX9_deal 86 (.iaload) 1 87 := ⟨by decide +kernel, rfl⟩
theorem iX9_deal_87 : ab_at mX9_deal 87 (.iaload) 1 88 := ⟨by decide +kernel, rfl⟩
theorem iX9_deal_88 : ab_bg mX9_deal 88 92 := ⟨4, by decide +kernel, by decide⟩
theorem iX9_deal_91 : ab_at mX9_deal 91 (.iload_n 2) 1 92 := ⟨by decide +kernel, rfl⟩
theorem iX9_deal_92 : ab_at mX9_deal 92 (.istore_n 2) 1 93 := ⟨by decide +kernel, rfl⟩
theorem iX9_deal_93 : ab_at mX9_deal 93 (.iinc 3 1) 3 96 := ⟨by decide +kernel, rfl⟩
theorem iX9_deal_96 : ab_bg mX9_deal 96 46 := ⟨-50, by decide +kernel, by decide⟩
theorem iX9_deal_99 : ab_at mX9_deal 99 (.iload_n 2) 1 100 := ⟨by decide +kernel, rfl⟩
theorem iX9_deal_100 : ab_at mX9_deal 100 (.ireturn) 1 101 := ⟨by decide +kernel, rfl⟩
end
section
theorem iX9_dealt_0 : ab_at mX9_dealt 0 (.iload_n 1) 1 1 := ⟨by decide +kernel, rfl⟩
theorem iX9_dealt_1 : ab_at mX9_dealt 1 (.iconst 0) 1 2 := ⟨by decide +kernel, rfl⟩
theorem iX9_dealt_2 : ab_at mX9_dealt 2 (.bipush 7) 2 4 := ⟨by decide +kernel, rfl⟩
theorem iX9_dealt_4 : ab_at mX9_dealt 4 (.invokestatic 111) 3 7 := ⟨by decide +kernel, rfl⟩
theorem iX9_dealt_7 : ab_bi mX9_dealt 7 .eq 10 19 := ⟨12, by decide +kernel, rfl, by decide⟩
theorem iX9_dealt_10 : ab_at mX9_dealt 10 (.iload_n 2) 1 11 := ⟨by decide +kernel, rfl⟩
theorem iX9_dealt_11 : ab_at mX9_dealt 11 (.iconst 0) 1 12 := ⟨by decide +kernel, rfl⟩
theorem iX9_dealt_12 : ab_at mX9_dealt 12 (.iconst 2) 1 13 := ⟨by decide +kernel, rfl⟩
theorem iX9_dealt_13 : ab_at mX9_dealt 13 (.invokestatic 111) 3 16 := ⟨by decide +kernel, rfl⟩
theorem iX9_dealt_16 : ab_bi mX9_dealt 16 .ne 19 21 := ⟨5, by decide +kernel, rfl, by decide⟩
theorem iX9_dealt_19 : ab_at mX9_dealt 19 (.iconst (-1)) 1 20 := ⟨by decide +kernel, rfl⟩
theorem iX9_dealt_20 : ab_at mX9_dealt 20 (.ireturn) 1 21 := ⟨by decide +kernel, rfl⟩
theorem iX9_dealt_21 : ab_at mX9_dealt 21 (.aload_n 0) 1 22 := ⟨by decide +kernel, rfl⟩
theorem iX9_dealt_22 : ab_at mX9_dealt 22 (.iload_n 1) 1 23 := ⟨by decide +kernel, rfl⟩
theorem iX9_dealt_23 : ab_at mX9_dealt 23 (.invokevirtual 171) 3 26 := ⟨by decide +kernel, rfl⟩
theorem iX9_dealt_26 : ab_bi mX9_dealt 26 .ne 29 32 := ⟨6, by decide +kernel, rfl, by decide⟩
theorem iX9_dealt_29 : ab_at mX9_dealt 29 (.bipush (-5)) 2 31 := ⟨by decide +kernel, rfl⟩
theorem iX9_dealt_31 : ab_at mX9_dealt 31 (.ireturn) 1 32 := ⟨by decide +kernel, rfl⟩
theorem iX9_dealt_32 : ab_at mX9_dealt 32 (.iconst 0) 1 33 := ⟨by decide +kernel, rfl⟩
theorem iX9_dealt_33 : ab_at mX9_dealt 33 (.istore_n 3) 1 34 := ⟨by decide +kernel, rfl⟩
theorem iX9_dealt_34 : ab_at mX9_dealt 34 (.iconst 0) 1 35 := ⟨by decide +kernel, rfl⟩
theorem iX9_dealt_35 : ab_at mX9_dealt 35 (.istore 4) 2 37 := ⟨by decide +kernel, rfl⟩
theorem iX9_dealt_37 : ab_at mX9_dealt 37 (.iload 4) 2 39 := ⟨by decide +kernel, rfl⟩
theorem iX9_dealt_39 : ab_at mX9_dealt 39 (.aload_n 0) 1 40 := ⟨by decide +kernel, rfl⟩
theorem iX9_dealt_40 : ab_at mX9_dealt 40 (.getfield 155) 3 43 := ⟨by decide +kernel, rfl⟩
theorem iX9_dealt_43 : ab_bc mX9_dealt 43 .ge 46 74 := ⟨31, by decide +kernel, rfl, by decide⟩
theorem iX9_dealt_46 : ab_at mX9_dealt 46 (.iload_n 3) 1 47 := ⟨by decide +kernel, rfl⟩
theorem iX9_dealt_47 : ab_at mX9_dealt 47 (.aload_n 0) 1 48 := ⟨by decide +kernel, rfl⟩
theorem iX9_dealt_48 : ab_at mX9_dealt 48 (.getfield 93) 3 51 := ⟨by decide +kernel, rfl⟩
theorem iX9_dealt_51 : ab_at mX9_dealt 51 (.iload 4) 2 53 := ⟨by decide +kernel, rfl⟩
theorem iX9_dealt_53 : ab_at mX9_dealt 53 (.iaload) 1 54 := ⟨by decide +kernel, rfl⟩
theorem iX9_dealt_54 : ab_at mX9_dealt 54 (.aload_n 0) 1 55 := ⟨by decide +kernel, rfl⟩
theorem iX9_dealt_55 : ab_at mX9_dealt 55 (.getfield 158) 3 58 := ⟨by decide +kernel, rfl⟩
theorem iX9_dealt_58 : ab_bc mX9_dealt 58 .ge 61 65 := ⟨7, by decide +kernel, rfl, by decide⟩
theorem iX9_dealt_61 : ab_at mX9_dealt 61 (.iconst 1) 1 62 := ⟨by decide +kernel, rfl⟩
theorem iX9_dealt_62 : ab_bg mX9_dealt 62 66 := ⟨4, by decide +kernel, by decide⟩
theorem iX9_dealt_65 : ab_at mX9_dealt 65 (.iconst 0) 1 66 := ⟨by decide +kernel, rfl⟩
theorem iX9_dealt_66 : ab_at mX9_dealt 66 (.iadd) 1 67 := ⟨by decide +kernel, rfl⟩
theorem iX9_dealt_67 : ab_at mX9_dealt 67 (.istore_n 3) 1 68 := ⟨by decide +kernel, rfl⟩
theorem iX9_dealt_68 : ab_at mX9_dealt 68 (.iinc 4 1) 3 71 := ⟨by decide +kernel, rfl⟩
theorem iX9_dealt_71 : ab_bg mX9_dealt 71 37 := ⟨-34, by decide +kernel, by decide⟩
theorem iX9_dealt_74 : ab_at mX9_dealt 74 (.iload_n 2) 1 75 := ⟨by decide +kernel, rfl⟩
theorem iX9_dealt_75 : ab_bi mX9_dealt 75 .ne 78 85 := ⟨10, by decide +kernel, rfl, by decide⟩
theorem iX9_dealt_78 : ab_at mX9_dealt 78 (.aload_n 0) 1 79 := ⟨by decide +kernel, rfl⟩
theorem iX9_dealt_79 : ab_at mX9_dealt 79 (.getfield 165) 3 82 := ⟨by decide +kernel, rfl⟩
theorem iX9_dealt_82 : ab_bg mX9_dealt 82 100 := ⟨18, by decide +kernel, by decide⟩
theorem iX9_dealt_85 : ab_at mX9_dealt 85 (.iload_n 2) 1 86 := ⟨by decide +kernel, rfl⟩
theorem iX9_dealt_86 : ab_at mX9_dealt 86 (.iconst 1) 1 87 := ⟨by decide +kernel, rfl⟩
theorem iX9_dealt_87 : ab_bc mX9_dealt 87 .ne 90 94 := ⟨7, by decide +kernel, rfl, by decide⟩
theorem iX9_dealt_90 : ab_at mX9_dealt 90 (.iload_n 3) 1 91 := ⟨by decide +kernel, rfl⟩
theorem iX9_dealt_91 : ab_bg mX9_dealt 91 100 := ⟨9, by decide +kernel, by decide⟩
theorem iX9_dealt_94 : ab_at mX9_dealt 94 (.aload_n 0) 1 95 := ⟨by decide +kernel, rfl⟩
theorem iX9_dealt_95 : ab_at mX9_dealt 95 (.getfield 155) 3 98 := ⟨by decide +kernel, rfl⟩
theorem iX9_dealt_98 : ab_at mX9_dealt 98 (.iload_n 3) 1 99 := ⟨by decide +kernel, rfl⟩
theorem iX9_dealt_99 : ab_at mX9_dealt 99 (.isub) 1 100 := ⟨by decide +kernel, rfl⟩
theorem iX9_dealt_100 : ab_at mX9_dealt 100 (.ireturn) 1 101 := ⟨by decide +kernel, rfl⟩
theorem iX9_weaver_0 : ab_at mX9_weaver 0 (.iload_n 1) 1 1 := ⟨by decide +kernel, rfl⟩
theorem iX9_weaver_1 : ab_at mX9_weaver 1 (.iconst 1) 1 2 := ⟨by decide +kernel, rfl⟩
theorem iX9_weaver_2 : ab_at mX9_weaver 2 (.bipush 20) 2 4 := ⟨by decide +kernel, rfl⟩
theorem iX9_weaver_4 : ab_at mX9_weaver 4 (.invokestatic 111) 3 7 := ⟨by decide +kernel, rfl⟩
theorem iX9_weaver_7 : ab_bi mX9_weaver 7 .ne 10 12 := ⟨5, by decide +kernel, rfl, by decide⟩
theorem iX9_weaver_10 : ab_at mX9_weaver 10 (.iconst (-1)) 1 11 := ⟨by decide +kernel, rfl⟩
theorem iX9_weaver_11 : ab_at mX9_weaver 11 (.ireturn) 1 12 := ⟨by decide +kernel, rfl⟩
theorem iX9_weaver_12 : ab_at mX9_weaver 12 (.aload_n 0) 1 13 := ⟨by decide +kernel, rfl⟩
theorem iX9_weaver_13 : ab_at mX9_weaver 13 (.getfield 174) 3 16 := ⟨by decide +kernel, rfl⟩
theorem iX9_weaver_16 : ab_at mX9_weaver 16 (.iconst 4) 1 17 := ⟨by decide +kernel, rfl⟩
theorem iX9_weaver_17 : ab_bc mX9_weaver 17 .ne 20 23 := ⟨6, by decide +kernel, rfl, by decide⟩
theorem iX9_weaver_20 : ab_at mX9_weaver 20 (.bipush (-2)) 2 22 := ⟨by decide +kernel, rfl⟩
theorem iX9_weaver_22 : ab_at mX9_weaver 22 (.ireturn) 1 23 := ⟨by decide +kernel, rfl⟩
theorem iX9_weaver_23 : ab_at mX9_weaver 23 (.aload_n 0) 1 24 := ⟨by decide +kernel, rfl⟩
theorem iX9_weaver_24 : ab_at mX9_weaver 24 (.getfield 30) 3 27 := ⟨by decide +kernel, rfl⟩
theorem iX9_weaver_27 : ab_at mX9_weaver 27 (.aload_n 0) 1 28 := ⟨by decide +kernel, rfl⟩
theorem iX9_weaver_28 : ab_at mX9_weaver 28 (.getfield 174) 3 31 := ⟨by decide +kernel, rfl⟩
theorem iX9_weaver_31 : ab_at mX9_weaver 31 (.iload_n 1) 1 32 := ⟨by decide +kernel, rfl⟩
theorem iX9_weaver_32 : ab_at mX9_weaver 32 (.iastore) 1 33 := ⟨by decide +kernel, rfl⟩
theorem iX9_weaver_33 : ab_at mX9_weaver 33 (.aload_n 0) 1 34 := ⟨by decide +kernel, rfl⟩
theorem iX9_weaver_34 : ab_at mX9_weaver 34 (.getfield 33) 3 37 := ⟨by decide +kernel, rfl⟩
theorem iX9_weaver_37 : ab_at mX9_weaver 37 (.aload_n 0) 1 38 := ⟨by decide +kernel, rfl⟩
theorem iX9_weaver_38 : ab_at mX9_weaver 38 (.getfield 174) 3 41 := ⟨by decide +kernel, rfl⟩
theorem iX9_weaver_41 : ab_at mX9_weaver 41 (.iload_n 2) 1 42 := ⟨by decide +kernel, rfl⟩
theorem iX9_weaver_42 : ab_at mX9_weaver 42 (.bastore) 1 43 := ⟨by decide +kernel, rfl⟩
theorem iX9_weaver_43 : ab_at mX9_weaver 43 (.aload_n 0) 1 44 := ⟨by decide +kernel, rfl⟩
theorem iX9_weaver_44 : ab_at mX9_weaver 44 (.dup) 1 45 := ⟨by decide +kernel, rfl⟩
theorem iX9_weaver_45 : ab_at mX9_weaver 45 (.getfield 174) 3 48 := ⟨by decide +kernel, rfl⟩
theorem iX9_weaver_48 : ab_at mX9_weaver 48 (.iconst 1) 1 49 := ⟨by decide +kernel, rfl⟩
theorem iX9_weaver_49 : ab_at mX9_weaver 49 (.iadd) 1 50 := ⟨by decide +kernel, rfl⟩
theorem iX9_weaver_50 : ab_at mX9_weaver 50 (.putfield 174) 3 53 := ⟨by decide +kernel, rfl⟩
theorem iX9_weaver_53 : ab_at mX9_weaver 53 (.aload_n 0) 1 54 := ⟨by decide +kernel, rfl⟩
theorem iX9_weaver_54 : ab_at mX9_weaver 54 (.iconst 0) 1 55 := ⟨by decide +kernel, rfl⟩
theorem iX9_weaver_55 : ab_at mX9_weaver 55 (.putfield 115) 3 58 := ⟨by decide +kernel, rfl⟩
theorem iX9_weaver_58 : ab_at mX9_weaver 58 (.aload_n 0) 1 59 := ⟨by decide +kernel, rfl⟩
theorem iX9_weaver_59 : ab_at mX9_weaver 59 (.getfield 174) 3 62 := ⟨by decide +kernel, rfl⟩
theorem iX9_weaver_62 : ab_at mX9_weaver 62 (.iconst 1) 1 63 := ⟨by decide +kernel, rfl⟩
theorem iX9_weaver_63 : ab_at mX9_weaver 63 (.isub) 1 64 := ⟨by decide +kernel, rfl⟩
theorem iX9_weaver_64 : ab_at mX9_weaver 64 (.ireturn) 1 65 := ⟨by decide +kernel, rfl⟩
theorem iX9_speed_0 : ab_at mX9_speed 0 (.iload_n 1) 1 1 := ⟨by decide +kernel, rfl⟩
theorem iX9_speed_1 : ab_at mX9_speed 1 (.iconst 0) 1 2 := ⟨by decide +kernel, rfl⟩
theorem iX9_speed_2 : ab_at mX9_speed 2 (.aload_n 0) 1 3 := ⟨by decide +kernel, rfl⟩
theorem iX9_speed_3 : ab_at mX9_speed 3 (.getfield 174) 3 6 := ⟨by decide +kernel, rfl⟩
theorem iX9_speed_6 : ab_at mX9_speed 6 (.iconst 1) 1 7 := ⟨by decide +kernel, rfl⟩
theorem iX9_speed_7 : ab_at mX9_speed 7 (.isub) 1 8 := ⟨by decide +kernel, rfl⟩
theorem iX9_speed_8 : ab_at mX9_speed 8 (.invokestatic 111) 3 11 := ⟨by decide +kernel, rfl⟩
theorem iX9_speed_11 : ab_bi mX9_speed 11 .eq 14 24 := ⟨13, by decide +kernel, rfl, by decide⟩
theorem iX9_speed_14 : ab_at mX9_speed 14 (.iload_n 2) 1 15 := ⟨by decide +kernel, rfl⟩
theorem iX9_speed_15 : ab_at mX9_speed 15 (.iconst 1) 1 16 := ⟨by decide +kernel, rfl⟩
theorem iX9_speed_16 : ab_at mX9_speed 16 (.bipush 20) 2 18 := ⟨by decide +kernel, rfl⟩
theorem iX9_speed_18 : ab_at mX9_speed 18 (.invokestatic 111) 3 21 := ⟨by decide +kernel, rfl⟩
theorem iX9_speed_21 : ab_bi mX9_speed 21 .ne 24 26 := ⟨5, by decide +kernel, rfl, by decide⟩
theorem iX9_speed_24 : ab_at mX9_speed 24 (.iconst (-1)) 1 25 := ⟨by decide +kernel, rfl⟩
theorem iX9_speed_25 : ab_at mX9_speed 25 (.ireturn) 1 26 := ⟨by decide +kernel, rfl⟩
theorem iX9_speed_26 : ab_at mX9_speed 26 (.aload_n 0) 1 27 := ⟨by decide +kernel, rfl⟩
theorem iX9_speed_27 : ab_at mX9_speed 27 (.getfield 30) 3 30 := ⟨by decide +kernel, rfl⟩
theorem iX9_speed_30 : ab_at mX9_speed 30 (.iload_n 1) 1 31 := ⟨by decide +kernel, rfl⟩
theorem iX9_speed_31 : ab_at mX9_speed 31 (.iaload) 1 32 := ⟨by decide +kernel, rfl⟩
theorem iX9_speed_32 : ab_at mX9_speed 32 (.istore_n 3) 1 33 := ⟨by decide +kernel, rfl⟩
theorem iX9_speed_33 : ab_at mX9_speed 33 (.aload_n 0) 1 34 := ⟨by decide +kernel, rfl⟩
theorem iX9_speed_34 : ab_at mX9_speed 34 (.getfield 30) 3 37 := ⟨by decide +kernel, rfl⟩
theorem iX9_speed_37 : ab_at mX9_speed 37 (.iload_n 1) 1 38 := ⟨by decide +kernel, rfl⟩
theorem iX9_speed_38 : ab_at mX9_speed 38 (.iload_n 2) 1 39 := ⟨by decide +kernel, rfl⟩
theorem iX9_speed_39 : ab_at mX9_speed 39 (.iastore) 1 40 := ⟨by decide +kernel, rfl⟩
theorem iX9_speed_40 : ab_at mX9_speed 40 (.aload_n 0) 1 41 := ⟨by decide +kernel, rfl⟩
theorem iX9_speed_41 : ab_at mX9_speed 41 (.iconst 0) 1 42 := ⟨by decide +kernel, rfl⟩
theorem iX9_speed_42 : ab_at mX9_speed 42 (.putfield 115) 3 45 := ⟨by decide +kernel, rfl⟩
theorem iX9_speed_45 : ab_at mX9_speed 45 (.iload_n 3) 1 46 := ⟨by decide +kernel, rfl⟩
theorem iX9_speed_46 : ab_at mX9_speed 46 (.ireturn) 1 47 := ⟨by decide +kernel, rfl⟩
theorem iX9_workAt_0 : ab_at mX9_workAt 0 (.aload_n 0) 1 1 := ⟨by decide +kernel, rfl⟩
theorem iX9_workAt_1 : ab_at mX9_workAt 1 (.getfield 20) 3 4 := ⟨by decide +kernel, rfl⟩
theorem iX9_workAt_4 : ab_at mX9_workAt 4 (.bipush 12) 2 6 := ⟨by decide +kernel, rfl⟩
theorem iX9_workAt_6 : ab_at mX9_workAt 6 (.iload_n 2) 1 7 := ⟨by decide +kernel, rfl⟩
theorem iX9_workAt_7 : ab_at mX9_workAt 7 (.imul) 1 8 := ⟨by decide +kernel, rfl⟩
theorem iX9_workAt_8 : ab_at mX9_workAt 8 (.iload_n 1) 1 9 := ⟨by decide +kernel, rfl⟩
theorem iX9_workAt_9 : ab_at mX9_workAt 9 (.iadd) 1 10 := ⟨by decide +kernel, rfl⟩
theorem iX9_workAt_10 : ab_at mX9_workAt 10 (.baload) 1 11 := ⟨by decide +kernel, rfl⟩
theorem iX9_workAt_11 : ab_bi mX9_workAt 11 .eq 14 18 := ⟨7, by decide +kernel, rfl, by decide⟩
theorem iX9_workAt_14 : ab_at mX9_workAt 14 (.iconst 3) 1 15 := ⟨by decide +kernel, rfl⟩
theorem iX9_workAt_15 : ab_bg mX9_workAt 15 19 := ⟨4, by decide +kernel, by decide⟩
theorem iX9_workAt_18 : ab_at mX9_workAt 18 (.iconst 1) 1 19 := ⟨by decide +kernel, rfl⟩
theorem iX9_workAt_19 : ab_at mX9_workAt 19 (.ireturn) 1 20 := ⟨by decide +kernel, rfl⟩
theorem iX9_work_0 : ab_at mX9_work 0 (.iconst 0) 1 1 := ⟨by decide +kernel, rfl⟩
theorem iX9_work_1 : ab_at mX9_work 1 (.istore 4) 2 3 := ⟨by decide +kernel, rfl⟩
theorem iX9_work_3 : ab_at mX9_work 3 (.iload_n 1) 1 4 := ⟨by decide +kernel, rfl⟩
theorem iX9_work_4 : ab_at mX9_work 4 (.istore 5) 2 6 := ⟨by decide +kernel, rfl⟩
theorem iX9_work_6 : ab_at mX9_work 6 (.iload 5) 2 8 := ⟨by decide +kernel, rfl⟩
theorem iX9_work_8 : ab_at mX9_work 8 (.iload_n 1) 1 9 := ⟨by decide +kernel, rfl⟩
theorem iX9_work_9 : ab_at mX9_work 9 (.iload_n 2) 1 10 := ⟨by decide +kernel, rfl⟩
theorem iX9_work_10 : ab_at mX9_work 10 (.iadd) 1 11 := ⟨by decide +kernel, rfl⟩
theorem iX9_work_11 : ab_bc mX9_work 11 .ge 14 48 := ⟨37, by decide +kernel, rfl, by decide⟩
theorem iX9_work_14 : ab_at mX9_work 14 (.iconst 0) 1 15 := ⟨by decide +kernel, rfl⟩
theorem iX9_work_15 : ab_at mX9_work 15 (.istore 6) 2 17 := ⟨by decide +kernel, rfl⟩
theorem iX9_work_17 : ab_at mX9_work 17 (.iload 6) 2 19 := ⟨by decide +kernel, rfl⟩
theorem iX9_work_19 : ab_at mX9_work 19 (.iload_n 3) 1 20 := ⟨by decide +kernel, rfl⟩
theorem iX9_work_20 : ab_bc mX9_work 20 .ge 23 42 := ⟨22, by decide +kernel, rfl, by decide⟩
theorem iX9_work_23 : ab_at mX9_work 23 (.iload 4) 2 25 := ⟨by decide +kernel, rfl⟩
theorem iX9_work_25 : ab_at mX9_work 25 (.aload_n 0) 1 26 := ⟨by decide +kernel, rfl⟩
theorem iX9_work_26 : ab_at mX9_work 26 (.iload 5) 2 28 := ⟨by decide +kernel, rfl⟩
theorem iX9_work_28 : ab_at mX9_work 28 (.iload 6) 2 30 := ⟨by decide +kernel, rfl⟩
theorem iX9_work_30 : ab_at mX9_work 30 (.invokevirtual 177) 3 33 := ⟨by decide +kernel, rfl⟩
theorem iX9_work_33 : ab_at mX9_work 33 (.iadd) 1 34 := ⟨by decide +kernel, rfl⟩
theorem iX9_work_34 : ab_at mX9_work 34 (.istore 4) 2 36 := ⟨by decide +kernel, rfl⟩
theorem iX9_work_36 : ab_at mX9_work 36 (.iinc 6 1) 3 39 := ⟨by decide +kernel, rfl⟩
theorem iX9_work_39 : ab_bg mX9_work 39 17 := ⟨-22, by decide +kernel, by decide⟩
theorem iX9_work_42 : ab_at mX9_work 42 (.iinc 5 1) 3 45 := ⟨by decide +kernel, rfl⟩
theorem iX9_work_45 : ab_bg mX9_work 45 6 := ⟨-39, by decide +kernel, by decide⟩
theorem iX9_work_48 : ab_at mX9_work 48 (.iload 4) 2 50 := ⟨by decide +kernel, rfl⟩
theorem iX9_work_50 : ab_at mX9_work 50 (.ireturn) 1 51 := ⟨by decide +kernel, rfl⟩
theorem iX9_hasFace_0 : ab_at mX9_hasFace 0 (.iconst 0) 1 1 := ⟨by decide +kernel, rfl⟩
theorem iX9_hasFace_1 : ab_at mX9_hasFace 1 (.istore_n 3) 1 2 := ⟨by decide +kernel, rfl⟩
theorem iX9_hasFace_2 : ab_at mX9_hasFace 2 (.iload_n 1) 1 3 := ⟨by decide +kernel, rfl⟩
theorem iX9_hasFace_3 : ab_at mX9_hasFace 3 (.istore 4) 2 5 := ⟨by decide +kernel, rfl⟩
theorem iX9_hasFace_5 : ab_at mX9_hasFace 5 (.iload 4) 2 7 := ⟨by decide +kernel, rfl⟩
theorem iX9_hasFace_7 : ab_at mX9_hasFace 7 (.iload_n 1) 1 8 := ⟨by decide +kernel, rfl⟩
theorem iX9_hasFace_8 : ab_at mX9_hasFace 8 (.iload_n 2) 1 9 := ⟨by decide +kernel, rfl⟩
theorem iX9_hasFace_9 : ab_at mX9_hasFace 9 (.iadd) 1 10 := ⟨by decide +kernel, rfl⟩
theorem iX9_hasFace_10 : ab_bc mX9_hasFace 10 .ge 13 63 := ⟨53, by decide +kernel, rfl, by decide⟩
theorem iX9_hasFace_13 : ab_at mX9_hasFace 13 (.iconst 0) 1 14 := ⟨by decide +kernel, rfl⟩
theorem iX9_hasFace_14 : ab_at mX9_hasFace 14 (.istore 5) 2 16 := ⟨by decide +kernel, rfl⟩
theorem iX9_hasFace_16 : ab_at mX9_hasFace 16 (.iload 5) 2 18 := ⟨by decide +kernel, rfl⟩
theorem iX9_hasFace_18 : ab_at mX9_hasFace 18 (.aload_n 0) 1 19 := ⟨by decide +kernel, rfl⟩
theorem iX9_hasFace_19 : ab_at mX9_hasFace 19 (.getfield 13) 3 22 := ⟨by decide +kernel, rfl⟩
theorem iX9_hasFace_22 : ab_bc mX9_hasFace 22 .ge 25 57 := ⟨35, by decide +kernel, rfl, by decide⟩
theorem iX9_hasFace_25 : ab_at mX9_hasFace 25 (.iload_n 3) 1 26 := ⟨by decide +kernel, rfl⟩
theorem iX9_hasFace_26 : ab_bi mX9_hasFace 26 .ne 29 45 := ⟨19, by decide +kernel, rfl, by decide⟩
theorem iX9_hasFace_29 : ab_at mX9_hasFace 29 (.aload_n 0) 1 30 := ⟨by decide +kernel, rfl⟩
theorem iX9_hasFace_30 : ab_at mX9_hasFace 30 (.getfield 20) 3 33 := ⟨by decide +kernel, rfl⟩
theorem iX9_hasFace_33 : ab_at mX9_hasFace 33 (.bipush 12) 2 35 := ⟨by decide +kernel, rfl⟩
theorem iX9_hasFace_35 : ab_at mX9_hasFace 35 (.iload 5) 2 37 := ⟨by decide +kernel, rfl⟩
theorem iX9_hasFace_37 : ab_at mX9_hasFace 37 (.imul) 1 38 := ⟨by decide +kernel, rfl⟩
theorem iX9_hasFace_38 : ab_at mX9_hasFace 38 (.iload 4) 2 40 := ⟨by decide +kernel, rfl⟩
theorem iX9_hasFace_40 : ab_at mX9_hasFace 40 (.iadd) 1 41 := ⟨by decide +kernel, rfl⟩
theorem iX9_hasFace_41 : ab_at mX9_hasFace 41 (.baload) 1 42 := ⟨by decide +kernel, rfl⟩
theorem iX9_hasFace_42 : ab_bi mX9_hasFace 42 .eq 45 49 := ⟨7, by decide +kernel, rfl, by decide⟩
theorem iX9_hasFace_45 : ab_at mX9_hasFace 45 (.iconst 1) 1 46 := ⟨by decide +kernel, rfl⟩
theorem iX9_hasFace_46 : ab_bg mX9_hasFace 46 50 := ⟨4, by decide +kernel, by decide⟩
theorem iX9_hasFace_49 : ab_at mX9_hasFace 49 (.iconst 0) 1 50 := ⟨by decide +kernel, rfl⟩
theorem iX9_hasFace_50 : ab_at mX9_hasFace 50 (.istore_n 3) 1 51 := ⟨by decide +kernel, rfl⟩
theorem iX9_hasFace_51 : ab_at mX9_hasFace 51 (.iinc 5 1) 3 54 := ⟨by decide +kernel, rfl⟩
theorem iX9_hasFace_54 : ab_bg mX9_hasFace 54 16 := ⟨-38, by decide +kernel, by decide⟩
theorem iX9_hasFace_57 : ab_at mX9_hasFace 57 (.iinc 4 1) 3 60 := ⟨by decide +kernel, rfl⟩
theorem iX9_hasFace_60 : ab_bg mX9_hasFace 60 5 := ⟨-55, by decide +kernel, by decide⟩
theorem iX9_hasFace_63 : ab_at mX9_hasFace 63 (.iload_n 3) 1 64 := ⟨by decide +kernel, rfl⟩
theorem iX9_hasFace_64 : ab_at mX9_hasFace 64 (.ireturn) 1 65 := ⟨by decide +kernel, rfl⟩
theorem iX9_daysOf_0 : ab_at mX9_daysOf 0 (.aload_n 0) 1 1 := ⟨by decide +kernel, rfl⟩
theorem iX9_daysOf_1 : ab_at mX9_daysOf 1 (.iload_n 1) 1 2 := ⟨by decide +kernel, rfl⟩
theorem iX9_daysOf_2 : ab_at mX9_daysOf 2 (.iload_n 2) 1 3 := ⟨by decide +kernel, rfl⟩
theorem iX9_daysOf_3 : ab_at mX9_daysOf 3 (.invokevirtual 180) 3 6 := ⟨by decide +kernel, rfl⟩
theorem iX9_daysOf_6 : ab_bi mX9_daysOf 6 .eq 9 20 := ⟨14, by decide +kernel, rfl, by decide⟩
theorem iX9_daysOf_9 : ab_at mX9_daysOf 9 (.aload_n 0) 1 10 := ⟨by decide +kernel, rfl⟩
theorem iX9_daysOf_10 : ab_at mX9_daysOf 10 (.getfield 33) 3 13 := ⟨by decide +kernel, rfl⟩
theorem iX9_daysOf_13 : ab_at mX9_daysOf 13 (.iload_n 3) 1 14 := ⟨by decide +kernel, rfl⟩
theorem iX9_daysOf_14 : ab_at mX9_daysOf 14 (.baload) 1 15 := ⟨by decide +kernel, rfl⟩
theorem iX9_daysOf_15 : ab_bi mX9_daysOf 15 .ne 18 20 := ⟨5, by decide +kernel, rfl, by decide⟩
theorem iX9_daysOf_18 : ab_at mX9_daysOf 18 (.iconst 0) 1 19 := ⟨by decide +kernel, rfl⟩
theorem iX9_daysOf_19 : ab_at mX9_daysOf 19 (.ireturn) 1 20 := ⟨by decide +kernel, rfl⟩
theorem iX9_daysOf_20 : ab_at mX9_daysOf 20 (.aload_n 0) 1 21 := ⟨by decide +kernel, rfl⟩
theorem iX9_daysOf_21 : ab_at mX9_daysOf 21 (.iload_n 1) 1 22 := ⟨by decide +kernel, rfl⟩
theorem iX9_daysOf_22 : ab_at mX9_daysOf 22 (.iload_n 2) 1 23 := ⟨by decide +kernel, rfl⟩
theorem iX9_daysOf_23 : ab_at mX9_daysOf 23 (.aload_n 0) 1 24 := ⟨by decide +kernel, rfl⟩
theorem iX9_daysOf_24 : ab_at mX9_daysOf 24 (.getfield 13) 3 27 := ⟨by decide +kernel, rfl⟩
theorem iX9_daysOf_27 : ab_at mX9_daysOf 27 (.invokevirtual 183) 3 30 := ⟨by decide +kernel, rfl⟩
theorem iX9_daysOf_30 : ab_at mX9_daysOf 30 (.aload_n 0) 1 31 := ⟨by decide +kernel, rfl⟩
theorem iX9_daysOf_31 : ab_at mX9_daysOf 31 (.getfield 30) 3 34 := ⟨by decide +kernel, rfl⟩
theorem iX9_daysOf_34 : ab_at mX9_daysOf 34 (.iload_n 3) 1 35 := ⟨by decide +kernel, rfl⟩
theorem iX9_daysOf_35 : ab_at mX9_daysOf 35 (.iaload) 1 36 := ⟨by decide +kernel, rfl⟩
theorem iX9_daysOf_36 : ab_at mX9_daysOf 36 (.iadd) 1 37 := ⟨by decide +kernel, rfl⟩
theorem iX9_daysOf_37 : ab_at mX9_daysOf 37 (.iconst 1) 1 38 := ⟨by decide +kernel, rfl⟩
theorem iX9_daysOf_38 : ab_at mX9_daysOf 38 (.isub) 1 39 := ⟨by decide +kernel, rfl⟩
theorem iX9_daysOf_39 : ab_at mX9_daysOf 39 (.aload_n 0) 1 40 := ⟨by decide +kernel, rfl⟩
theorem iX9_daysOf_40 : ab_at mX9_daysOf 40 (.getfield 30) 3 43 := ⟨by decide +kernel, rfl⟩
theorem iX9_daysOf_43 : ab_at mX9_daysOf 43 (.iload_n 3) 1 44 := ⟨by decide +kernel, rfl⟩
theorem iX9_daysOf_44 : ab_at mX9_daysOf 44 (.iaload) 1 45 := ⟨by decide +kernel, rfl⟩
theorem iX9_daysOf_45 : ab_at mX9_daysOf 45 (.idiv) 1 46 := ⟨by decide +kernel, rfl⟩
theorem iX9_daysOf_46 : ab_at mX9_daysOf 46 (.ireturn) 1 47 := ⟨by decide +kernel, rfl⟩
theorem iX9_isTaken_0 : ab_at mX9_isTaken 0 (.iconst 0) 1 1 := ⟨by decide +kernel, rfl⟩
theorem iX9_isTaken_1 : ab_at mX9_isTaken 1 (.istore_n 3) 1 2 := ⟨by decide +kernel, rfl⟩
theorem iX9_isTaken_2 : ab_at mX9_isTaken 2 (.iconst 0) 1 3 := ⟨by decide +kernel, rfl⟩
theorem iX9_isTaken_3 : ab_at mX9_isTaken 3 (.istore 4) 2 5 := ⟨by decide +kernel, rfl⟩
theorem iX9_isTaken_5 : ab_at mX9_isTaken 5 (.iload 4) 2 7 := ⟨by decide +kernel, rfl⟩
theorem iX9_isTaken_7 : ab_at mX9_isTaken 7 (.iload_n 1) 1 8 := ⟨by decide +kernel, rfl⟩
theorem iX9_isTaken_8 : ab_bc mX9_isTaken 8 .ge 11 41 := ⟨33, by decide +kernel, rfl, by decide⟩
theorem iX9_isTaken_11 : ab_at mX9_isTaken 11 (.iload_n 3) 1 12 := ⟨by decide +kernel, rfl⟩
theorem iX9_isTaken_12 : ab_bi mX9_isTaken 12 .ne 15 29 := ⟨17, by decide +kernel, rfl, by decide⟩
theorem iX9_isTaken_15 : ab_at mX9_isTaken 15 (.aload_n 0) 1 16 := ⟨by decide +kernel, rfl⟩
theorem iX9_isTaken_16 : ab_at mX9_isTaken 16 (.getfield 96) 3 19 := ⟨by decide +kernel, rfl⟩
theorem iX9_isTaken_19 : ab_at mX9_isTaken 19 (.iload 4) 2 21 := ⟨by decide +kernel, rfl⟩
theorem iX9_isTaken_21 : ab_at mX9_isTaken 21 (.iaload) 1 22 := ⟨by decide +kernel, rfl⟩
theorem iX9_isTaken_22 : ab_at mX9_isTaken 22 (.bipush 12) 2 24 := ⟨by decide +kernel, rfl⟩
theorem iX9_isTaken_24 : ab_at mX9_isTaken 24 (.idiv) 1 25 := ⟨by decide +kernel, rfl⟩
theorem iX9_isTaken_25 : ab_at mX9_isTaken 25 (.iload_n 2) 1 26 := ⟨by decide +kernel, rfl⟩
theorem iX9_isTaken_26 : ab_bc mX9_isTaken 26 .ne 29 33 := ⟨7, by decide +kernel, rfl, by decide⟩
theorem iX9_isTaken_29 : ab_at mX9_isTaken 29 (.iconst 1) 1 30 := ⟨by decide +kernel, rfl⟩
theorem iX9_isTaken_30 : ab_bg mX9_isTaken 30 34 := ⟨4, by decide +kernel, by decide⟩
theorem iX9_isTaken_33 : ab_at mX9_isTaken 33 (.iconst 0) 1 34 := ⟨by decide +kernel, rfl⟩
theorem iX9_isTaken_34 : ab_at mX9_isTaken 34 (.istore_n 3) 1 35 := ⟨by decide +kernel, rfl⟩
theorem iX9_isTaken_35 : ab_at mX9_isTaken 35 (.iinc 4 1) 3 38 := ⟨by decide +kernel, rfl⟩
theorem iX9_isTaken_38 : ab_bg mX9_isTaken 38 5 := ⟨-33, by decide +kernel, by decide⟩
theorem iX9_isTaken_41 : ab_at mX9_isTaken 41 (.iload_n 3) 1 42 := ⟨by decide +kernel, rfl⟩
theorem iX9_isTaken_42 : ab_at mX9_isTaken 42 (.ireturn) 1 43 := ⟨by decide +kernel, rfl⟩
theorem iX9_findSharing_0 : ab_at mX9_findSharing 0 (.aload_n 0) 1 1 := ⟨by decide +kernel, rfl⟩
theorem iX9_findSharing_1 : ab_at mX9_findSharing 1 (.iconst 0) 1 2 := ⟨by decide +kernel, rfl⟩
theorem iX9_findSharing_2 : ab_at mX9_findSharing 2 (.putfield 186) 3 5 := ⟨by decide +kernel, rfl⟩
theorem iX9_findSharing_5 : ab_at mX9_findSharing 5 (.aload_n 0) 1 6 := ⟨by decide +kernel, rfl⟩
theorem iX9_findSharing_6 : ab_at mX9_findSharing 6 (.iconst 0) 1 7 := ⟨by decide +kernel, rfl⟩
theorem iX9_findSharing_7 : ab_at mX9_findSharing 7 (.putfield 189) 3 10 := ⟨by decide +kernel, rfl⟩
theorem iX9_findSharing_10 : ab_at mX9_findSharing 10 (.iconst 0) 1 11 := ⟨by decide +kernel, rfl⟩
theorem iX9_findSharing_11 : ab_at mX9_findSharing 11 (.istore_n 1) 1 12 := ⟨by decide +kernel, rfl⟩
theorem iX9_findSharing_12 : ab_at mX9_findSharing 12 (.aload_n 0) 1 13 := ⟨by decide +kernel, rfl⟩
theorem iX9_findSharing_13 : ab_at mX9_findSharing 13 (.getfield 96) 3 16 := ⟨by decide +kernel, rfl⟩
theorem iX9_findSharing_16 : ab_at mX9_findSharing 16 (.iconst 0) 1 17 := ⟨by decide +kernel, rfl⟩
theorem iX9_findSharing_17 : ab_at mX9_findSharing 17 (.iconst (-1)) 1 18 := ⟨by decide +kernel, rfl⟩
theorem iX9_findSharing_18 : ab_at mX9_findSharing 18 (.iastore) 1 19 := ⟨by decide +kernel, rfl⟩
theorem iX9_findSharing_19 : ab_at mX9_findSharing 19 (.aload_n 0) 1 20 := ⟨by decide +kernel, rfl⟩
theorem iX9_findSharing_20 : ab_at mX9_findSharing 20 (.getfield 99) 3 23 := ⟨by decide +kernel, rfl⟩
theorem iX9_findSharing_23 : ab_at mX9_findSharing 23 (.iconst 0) 1 24 := ⟨by decide +kernel, rfl⟩
theorem iX9_findSharing_24 : ab_at mX9_findSharing 24 (.iconst 0) 1 25 := ⟨by decide +kernel, rfl⟩
theorem iX9_findSharing_25 : ab_at mX9_findSharing 25 (.iastore) 1 26 := ⟨by decide +kernel, rfl⟩
theorem iX9_findSharing_26 : ab_at mX9_findSharing 26 (.aload_n 0) 1 27 := ⟨by decide +kernel, rfl⟩
theorem iX9_findSharing_27 : ab_at mX9_findSharing 27 (.getfield 102) 3 30 := ⟨by decide +kernel, rfl⟩
theorem iX9_findSharing_30 : ab_at mX9_findSharing 30 (.iconst 0) 1 31 := ⟨by decide +kernel, rfl⟩
theorem iX9_findSharing_31 : ab_at mX9_findSharing 31 (.iconst 0) 1 32 := ⟨by decide +kernel, rfl⟩
theorem iX9_findSharing_32 : ab_at mX9_findSharing 32 (.iastore) 1 33 := ⟨by decide +kernel, rfl⟩
theorem iX9_findSharing_33 : ab_at mX9_findSharing 33 (.iload_n 1) 1 34 := ⟨by decide +kernel, rfl⟩
theorem iX9_findSharing_34 : ab_bi mX9_findSharing 34 .lt 37 303 := ⟨269, by decide +kernel, rfl, by decide⟩
theorem iX9_findSharing_37 : ab_at mX9_findSharing 37 (.aload_n 0) 1 38 := ⟨by decide +kernel, rfl⟩
theorem iX9_findSharing_38 : ab_at mX9_findSharing 38 (.getfield 96) 3 41 := ⟨by decide +kernel, rfl⟩
theorem iX9_findSharing_41 : ab_at mX9_findSharing 41 (.iload_n 1) 1 42 := ⟨by decide +kernel, rfl⟩
theorem iX9_findSharing_42 : ab_at mX9_findSharing 42 (.dup2) 1 43 := ⟨by decide +kernel, rfl⟩
theorem iX9_findSharing_43 : ab_at mX9_findSharing 43 (.iaload) 1 44 := ⟨by decide +kernel, rfl⟩
theorem iX9_findSharing_44 : ab_at mX9_findSharing 44 (.iconst 1) 1 45 := ⟨by decide +kernel, rfl⟩
theorem iX9_findSharing_45 : ab_at mX9_findSharing 45 (.iadd) 1 46 := ⟨by decide +kernel, rfl⟩
theorem iX9_findSharing_46 : ab_at mX9_findSharing 46 (.iastore) 1 47 := ⟨by decide +kernel, rfl⟩
theorem iX9_findSharing_47 : ab_at mX9_findSharing 47 (.aload_n 0) 1 48 := ⟨by decide +kernel, rfl⟩
theorem iX9_findSharing_48 : ab_at mX9_findSharing 48 (.getfield 96) 3 51 := ⟨by decide +kernel, rfl⟩
theorem iX9_findSharing_51 : ab_at mX9_findSharing 51 (.iload_n 1) 1 52 := ⟨by decide +kernel, rfl⟩
theorem iX9_findSharing_52 : ab_at mX9_findSharing 52 (.iaload) 1 53 := ⟨by decide +kernel, rfl⟩
theorem iX9_findSharing_53 : ab_at mX9_findSharing 53 (.istore_n 2) 1 54 := ⟨by decide +kernel, rfl⟩
theorem iX9_findSharing_54 : ab_at mX9_findSharing 54 (.iload_n 1) 1 55 := ⟨by decide +kernel, rfl⟩
theorem iX9_findSharing_55 : ab_at mX9_findSharing 55 (.iconst 4) 1 56 := ⟨by decide +kernel, rfl⟩
theorem iX9_findSharing_56 : ab_bc mX9_findSharing 56 .eq 59 70 := ⟨14, by decide +kernel, rfl, by decide⟩
theorem iX9_findSharing_59 : ab_at mX9_findSharing 59 (.iload_n 2) 1 60 := ⟨by decide +kernel, rfl⟩
theorem iX9_findSharing_60 : ab_at mX9_findSharing 60 (.bipush 12) 2 62 := ⟨by decide +kernel, rfl⟩
theorem iX9_findSharing_62 : ab_at mX9_findSharing 62 (.aload_n 0) 1 63 := ⟨by decide +kernel, rfl⟩
theorem iX9_findSharing_63 : ab_at mX9_findSharing 63 (.getfield 174) 3 66 := ⟨by decide +kernel, rfl⟩
theorem iX9_findSharing_66 : ab_at mX9_findSharing 66 (.imul) 1 67 := ⟨by decide +kernel, rfl⟩
theorem iX9_findSharing_67 : ab_bc mX9_findSharing 67 .lt 70 76 := ⟨9, by decide +kernel, rfl, by decide⟩
theorem iX9_findSharing_70 : ab_at mX9_findSharing 70 (.iinc 1 (-1)) 3 73 := ⟨by decide +kernel, rfl⟩
theorem iX9_findSharing_73 : ab_bg mX9_findSharing 73 33 := ⟨-40, by decide +kernel, by decide⟩
theorem iX9_findSharing_76 : ab_at mX9_findSharing 76 (.iload_n 2) 1 77 := ⟨by decide +kernel, rfl⟩
theorem iX9_findSharing_77 : ab_at mX9_findSharing 77 (.bipush 12) 2 79 := ⟨by decide +kernel, rfl⟩
theorem iX9_findSharing_79 : ab_at mX9_findSharing 79 (.irem) 1 80 := ⟨by decide +kernel, rfl⟩
theorem iX9_findSharing_80 : ab_at mX9_findSharing 80 (.iconst 1) 1 81 := ⟨by decide +kernel, rfl⟩
theorem iX9_findSharing_81 : ab_at mX9_findSharing 81 (.iadd) 1 82 := ⟨by decide +kernel, rfl⟩
theorem iX9_findSharing_82 : ab_at mX9_findSharing 82 (.istore_n 3) 1 83 := ⟨by decide +kernel, rfl⟩
theorem iX9_findSharing_83 : ab_at mX9_findSharing 83 (.aload_n 0) 1 84 := ⟨by decide +kernel, rfl⟩
theorem iX9_findSharing_84 : ab_at mX9_findSharing 84 (.getfield 99) 3 87 := ⟨by decide +kernel, rfl⟩
theorem iX9_findSharing_87 : ab_at mX9_findSharing 87 (.iload_n 1) 1 88 := ⟨by decide +kernel, rfl⟩
theorem iX9_findSharing_88 : ab_at mX9_findSharing 88 (.iaload) 1 89 := ⟨by decide +kernel, rfl⟩
theorem iX9_findSharing_89 : ab_at mX9_findSharing 89 (.iload_n 3) 1 90 := ⟨by decide +kernel, rfl⟩
theorem iX9_findSharing_90 : ab_at mX9_findSharing 90 (.iadd) 1 91 := ⟨by decide +kernel, rfl⟩
theorem iX9_findSharing_91 : ab_at mX9_findSharing 91 (.istore 4) 2 93 := ⟨by decide +kernel, rfl⟩
theorem iX9_findSharing_93 : ab_at mX9_findSharing 93 (.iload 4) 2 95 := ⟨by decide +kernel, rfl⟩
theorem iX9_findSharing_95 : ab_at mX9_findSharing 95 (.aload_n 0) 1 96 := ⟨by decide +kernel, rfl⟩
theorem iX9_findSharing_96 : ab_at mX9_findSharing 96 (.getfield 7) 3 99 := ⟨by decide +kernel, rfl⟩
theorem iX9_findSharing_99 : ab_bc mX9_findSharing 99 .gt 102 33 := ⟨-66, by decide +kernel, rfl, by decide⟩
theorem iX9_findSharing_102 : ab_at mX9_findSharing 102 (.aload_n 0) 1 103 := ⟨by decide +kernel, rfl⟩
theorem iX9_findSharing_103 : ab_at mX9_findSharing 103 (.iload_n 1) 1 104 := ⟨by decide +kernel, rfl⟩
theorem iX9_findSharing_104 : ab_at mX9_findSharing 104 (.iload_n 2) 1 105 := ⟨by decide +kernel, rfl⟩
theorem iX9_findSharing_105 : ab_at mX9_findSharing 105 (.bipush 12) 2 107 := ⟨by decide +kernel, rfl⟩
theorem iX9_findSharing_107 : ab_at mX9_findSharing 107 (.idiv) 1 108 := ⟨by decide +kernel, rfl⟩
theorem iX9_findSharing_108 : ab_at mX9_findSharing 108 (.invokevirtual 192) 3 111 := ⟨by decide +kernel, rfl⟩
theorem iX9_findSharing_111 : ab_bi mX9_findSharing 111 .eq 114 117 := ⟨6, by decide +kernel, rfl, by decide⟩
theorem iX9_findSharing_114 : ab_bg mX9_findSharing 114 33 := ⟨-81, by decide +kernel, by decide⟩
theorem iX9_findSharing_117 : ab_at mX9_findSharing 117 (.aload_n 0) 1 118 := ⟨by decide +kernel, rfl⟩
theorem iX9_findSharing_118 : ab_at mX9_findSharing 118 (.aload_n 0) 1 119 := ⟨by decide +kernel, rfl⟩
theorem iX9_findSharing_119 : ab_at mX9_findSharing 119 (.getfield 99) 3 122 := ⟨by decide +kernel, rfl⟩
theorem iX9_findSharing_122 : ab_at mX9_findSharing 122 (.iload_n 1) 1 123 := ⟨by decide +kernel, rfl⟩
theorem iX9_findSharing_123 : ab_at mX9_findSharing 123 (.iaload) 1 124 := ⟨by decide +kernel, rfl⟩
theorem iX9_findSharing_124 : ab_at mX9_findSharing 124 (.iload_n 3) 1 125 := ⟨by decide +kernel, rfl⟩
theorem iX9_findSharing_125 : ab_at mX9_findSharing 125 (.iload_n 2) 1 126 := ⟨by decide +kernel, rfl⟩
theorem iX9_findSharing_126 : ab_at mX9_findSharing 126 (.bipush 12) 2 128 := ⟨by decide +kernel, rfl⟩
theorem iX9_findSharing_128 : ab_at mX9_findSharing 128 (.idiv) 1 129 := ⟨by decide +kernel, rfl⟩
theorem iX9_findSharing_129 : ab_at mX9_findSharing 129 (.invokevirtual 195) 3 132 := ⟨by decide +kernel, rfl⟩
theorem iX9_findSharing_132 : ab_at mX9_findSharing 132 (.istore 5) 2 134 := ⟨by decide +kernel, rfl⟩
theorem iX9_findSharing_134 : ab_at mX9_findSharing 134 (.iload 5) 2 136 := ⟨by decide +kernel, rfl⟩
theorem iX9_findSharing_136 : ab_bi mX9_findSharing 136 .ne 139 142 := ⟨6, by decide +kernel, rfl, by decide⟩
theorem iX9_findSharing_139 : ab_bg mX9_findSharing 139 33 := ⟨-106, by decide +kernel, by decide⟩
theorem iX9_findSharing_142 : ab_at mX9_findSharing 142 (.iload 5) 2 144 := ⟨by decide +kernel, rfl⟩
theorem iX9_findSharing_144 : ab_at mX9_findSharing 144 (.aload_n 0) 1 145 := ⟨by decide +kernel, rfl⟩
theorem iX9_findSharing_145 : ab_at mX9_findSharing 145 (.getfield 102) 3 148 := ⟨by decide +kernel, rfl⟩
theorem iX9_findSharing_148 : ab_at mX9_findSharing 148 (.iload_n 1) 1 149 := ⟨by decide +kernel, rfl⟩
theorem iX9_findSharing_149 : ab_at mX9_findSharing 149 (.iaload) 1 150 := ⟨by decide +kernel, rfl⟩
theorem iX9_findSharing_150 : ab_bc mX9_findSharing 150 .le 153 158 := ⟨8, by decide +kernel, rfl, by decide⟩
theorem iX9_findSharing_153 : ab_at mX9_findSharing 153 (.iload 5) 2 155 := ⟨by decide +kernel, rfl⟩
theorem iX9_findSharing_155 : ab_bg mX9_findSharing 155 164 := ⟨9, by decide +kernel, by decide⟩
theorem iX9_findSharing_158 : ab_at mX9_findSharing 158 (.aload_n 0) 1 159 := ⟨by decide +kernel, rfl⟩
theorem iX9_findSharing_159 : ab_at mX9_findSharing 159 (.getfield 102) 3 162 := ⟨by decide +kernel, rfl⟩
theorem iX9_findSharing_162 : ab_at mX9_findSharing 162 (.iload_n 1) 1 163 := ⟨by decide +kernel, rfl⟩
theorem iX9_findSharing_163 : ab_at mX9_findSharing 163 (.iaload) 1 164 := ⟨by decide +kernel, rfl⟩
theorem iX9_findSharing_164 : ab_at mX9_findSharing 164 (.istore 5) 2 166 := ⟨by decide +kernel, rfl⟩
theorem iX9_findSharing_166 : ab_at mX9_findSharing 166 (.aload_n 0) 1 167 := ⟨by decide +kernel, rfl⟩
theorem iX9_findSharing_167 : ab_at mX9_findSharing 167 (.getfield 186) 3 170 := ⟨by decide +kernel, rfl⟩
theorem iX9_findSharing_170 : ab_bi mX9_findSharing 170 .le 173 185 := ⟨15, by decide +kernel, rfl, by decide⟩
theorem iX9_findSharing_173 : ab_at mX9_findSharing 173 (.iload 5) 2 175 := ⟨by decide +kernel, rfl⟩
theorem iX9_findSharing_175 : ab_at mX9_findSharing 175 (.aload_n 0) 1 176 := ⟨by decide +kernel, rfl⟩
theorem iX9_findSharing_176 : ab_at mX9_findSharing 176 (.getfield 189) 3 179 := ⟨by decide +kernel, rfl⟩
theorem iX9_findSharing_179 : ab_bc mX9_findSharing 179 .le 182 185 := ⟨6, by decide +kernel, rfl, by decide⟩
theorem iX9_findSharing_182 : ab_bg mX9_findSharing 182 33 := ⟨-149, by decide +kernel, by decide⟩
theorem iX9_findSharing_185 : ab_at mX9_findSharing 185 (.iload 4) 2 187 := ⟨by decide +kernel, rfl⟩
theorem iX9_findSharing_187 : ab_at mX9_findSharing 187 (.aload_n 0) 1 188 := ⟨by decide +kernel, rfl⟩
theorem iX9_findSharing_188 : ab_at mX9_findSharing 188 (.getfield 7) 3 191 := ⟨by decide +kernel, rfl⟩
theorem iX9_findSharing_191 : ab_bc mX9_findSharing 191 .ne 194 274 := ⟨83, by decide +kernel, rfl, by decide⟩
theorem iX9_findSharing_194 : ab_at mX9_findSharing 194 (.aload_n 0) 1 195 := ⟨by decide +kernel, rfl⟩
theorem iX9_findSharing_195 : ab_at mX9_findSharing 195 (.getfield 186) 3 198 := ⟨by decide +kernel, rfl⟩
theorem iX9_findSharing_198 : ab_bi mX9_findSharing 198 .eq 201 229 := ⟨31, by decide +kernel, rfl, by decide⟩
theorem iX9_findSharing_201 : ab_at mX9_findSharing 201 (.iload 5) 2 203 := ⟨by decide +kernel, rfl⟩
theorem iX9_findSharing_203 : ab_at mX9_findSharing 203 (.aload_n 0) 1 204 := ⟨by decide +kernel, rfl⟩
theorem iX9_findSharing_204 : ab_at mX9_findSharing 204 (.getfield 189) 3 207 := ⟨by decide +kernel, rfl⟩
theorem iX9_findSharing_207 : ab_bc mX9_findSharing 207 .lt 210 229 := ⟨22, by decide +kernel, rfl, by decide⟩
theorem iX9_findSharing_210 : ab_at mX9_findSharing 210 (.iload 5) 2 212 := ⟨by decide +kernel, rfl⟩
theorem iX9_findSharing_212 : ab_at mX9_findSharing 212 (.aload_n 0) 1 213 := ⟨by decide +kernel, rfl⟩
theorem iX9_findSharing_213 : ab_at mX9_findSharing 213 (.getfield 189) 3 216 := ⟨by decide +kernel, rfl⟩
theorem iX9_findSharing_216 : ab_bc mX9_findSharing 216 .ne 219 33 := ⟨-183, by decide +kernel, rfl, by decide⟩
theorem iX9_findSharing_219 : ab_at mX9_findSharing 219 (.iload_n 1) 1 220 := ⟨by decide +kernel, rfl⟩
theorem iX9_findSharing_220 : ab_at mX9_findSharing 220 (.iconst 1) 1 221 := ⟨by decide +kernel, rfl⟩
theorem iX9_findSharing_221 : ab_at mX9_findSharing 221 (.iadd) 1 222 := ⟨by decide +kernel, rfl⟩
theorem iX9_findSharing_222 : ab_at mX9_findSharing 222 (.aload_n 0) 1 223 := ⟨by decide +kernel, rfl⟩
theorem iX9_findSharing_223 : ab_at mX9_findSharing 223 (.getfield 186) 3 226 := ⟨by decide +kernel, rfl⟩
theorem iX9_findSharing_226 : ab_bc mX9_findSharing 226 .ge 229 33 := ⟨-193, by decide +kernel, rfl, by decide⟩
theorem iX9_findSharing_229 : ab_at mX9_findSharing 229 (.aload_n 0) 1 230 := ⟨by decide +kernel, rfl⟩
theorem iX9_findSharing_230 : ab_at mX9_findSharing 230 (.iload 5) 2 232 := ⟨by decide +kernel, rfl⟩
theorem iX9_findSharing_232 : ab_at mX9_findSharing 232 (.putfield 189) 3 235 := ⟨by decide +kernel, rfl⟩
theorem iX9_findSharing_235 : ab_at mX9_findSharing 235 (.aload_n 0) 1 236 := ⟨by decide +kernel, rfl⟩
theorem iX9_findSharing_236 : ab_at mX9_findSharing 236 (.iload_n 1) 1 237 := ⟨by decide +kernel, rfl⟩
theorem iX9_findSharing_237 : ab_at mX9_findSharing 237 (.iconst 1) 1 238 := ⟨by decide +kernel, rfl⟩
theorem iX9_findSharing_238 : ab_at mX9_findSharing 238 (.iadd) 1 239 := ⟨by decide +kernel, rfl⟩
theorem iX9_findSharing_239 : ab_at mX9_findSharing 239 (.putfield 186) 3 242 := ⟨by decide +kernel, rfl⟩
theorem iX9_findSharing_242 : ab_at mX9_findSharing 242 (.iconst 0) 1 243 := ⟨by decide +kernel, rfl⟩
theorem iX9_findSharing_243 : ab_at mX9_findSharing 243 (.istore 6) 2 245 := ⟨by decide +kernel, rfl⟩
theorem iX9_findSharing_245 : ab_at mX9_findSharing 245 (.iload 6) 2 247 := ⟨by decide +kernel, rfl⟩
theorem iX9_findSharing_247 : ab_at mX9_findSharing 247 (.iload_n 1) 1 248 := ⟨by decide +kernel, rfl⟩
theorem iX9_findSharing_248 : ab_bc mX9_findSharing 248 .gt 251 271 := ⟨23, by decide +kernel, rfl, by decide⟩
theorem iX9_findSharing_251 : ab_at mX9_findSharing 251 (.aload_n 0) 1 252 := ⟨by decide +kernel, rfl⟩
theorem iX9_findSharing_252 : ab_at mX9_findSharing 252 (.getfield 105) 3 255 := ⟨by decide +kernel, rfl⟩
theorem iX9_findSharing_255 : ab_at mX9_findSharing 255 (.iload 6) 2 257 := ⟨by decide +kernel, rfl⟩
theorem iX9_findSharing_257 : ab_at mX9_findSharing 257 (.aload_n 0) 1 258 := ⟨by decide +kernel, rfl⟩
theorem iX9_findSharing_258 : ab_at mX9_findSharing 258 (.getfield 96) 3 261 := ⟨by decide +kernel, rfl⟩
theorem iX9_findSharing_261 : ab_at mX9_findSharing 261 (.iload 6) 2 263 := ⟨by decide +kernel, rfl⟩
theorem iX9_findSharing_263 : ab_at mX9_findSharing 263 (.iaload) 1 264 := ⟨by decide +kernel, rfl⟩
theorem iX9_findSharing_264 : ab_at mX9_findSharing 264 (.iastore) 1 265 := ⟨by decide +kernel, rfl⟩
theorem iX9_findSharing_265 : ab_at mX9_findSharing 265 (.iinc 6 1) 3 268 := ⟨by decide +kernel, rfl⟩
theorem iX9_findSharing_268 : ab_bg mX9_findSharing 268 245 := ⟨-23, by decide +kernel, by decide⟩
theorem iX9_findSharing_271 : ab_bg mX9_findSharing 271 33 := ⟨-238, by decide +kernel, by decide⟩
theorem iX9_findSharing_274 : ab_at mX9_findSharing 274 (.iinc 1 1) 3 277 := ⟨by decide +kernel, rfl⟩
theorem iX9_findSharing_277 : ab_at mX9_findSharing 277 (.aload_n 0) 1 278 := ⟨by decide +kernel, rfl⟩
theorem iX9_findSharing_278 : ab_at mX9_findSharing 278 (.getfield 96) 3 281 := ⟨by decide +kernel, rfl⟩
theorem iX9_findSharing_281 : ab_at mX9_findSharing 281 (.iload_n 1) 1 282 := ⟨by decide +kernel, rfl⟩
theorem iX9_findSharing_282 : ab_at mX9_findSharing 282 (.iconst (-1)) 1 283 := ⟨by decide +kernel, rfl⟩
theorem iX9_findSharing_283 : ab_at mX9_findSharing 283 (.iastore) 1 284 := ⟨by decide +kernel, rfl⟩
theorem iX9_findSharing_284 : ab_at mX9_findSharing 284 (.aload_n 0) 1 285 := ⟨by decide +kernel, rfl⟩
theorem iX9_findSharing_285 : ab_at mX9_findSharing 285 (.getfield 99) 3 288 := ⟨by decide +kernel, rfl⟩
theorem iX9_findSharing_288 : ab_at mX9_findSharing 288 (.iload_n 1) 1 289 := ⟨by decide +kernel, rfl⟩
theorem iX9_findSharing_289 : ab_at mX9_findSharing 289 (.iload 4) 2 291 := ⟨by decide +kernel, rfl⟩
theorem iX9_findSharing_291 : ab_at mX9_findSharing 291 (.iastore) 1 292 := ⟨by decide +kernel, rfl⟩
theorem iX9_findSharing_292 : ab_at mX9_findSharing 292 (.aload_n 0) 1 293 := ⟨by decide +kernel, rfl⟩
theorem iX9_findSharing_293 : ab_at mX9_findSharing 293 (.getfield 102) 3 296 := ⟨by decide +kernel, rfl⟩
theorem iX9_findSharing_296 : ab_at mX9_findSharing 296 (.iload_n 1) 1 297 := ⟨by decide +kernel, rfl⟩
theorem iX9_findSharing_297 : ab_at mX9_findSharing 297 (.iload 5) 2 299 := ⟨by decide +kernel, rfl⟩
theorem iX9_findSharing_299 : ab_at mX9_findSharing 299 (.iastore) 1 300 := ⟨by decide +kernel, rfl⟩
theorem iX9_findSharing_300 : ab_bg mX9_findSharing 300 33 := ⟨-267, by decide +kernel, by decide⟩
theorem iX9_findSharing_303 : ab_at mX9_findSharing 303 (.aload_n 0) 1 304 := ⟨by decide +kernel, rfl⟩
theorem iX9_findSharing_304 : ab_at mX9_findSharing 304 (.getfield 186) 3 307 := ⟨by decide +kernel, rfl⟩
theorem iX9_findSharing_307 : ab_bi mX9_findSharing 307 .le 310 314 := ⟨7, by decide +kernel, rfl, by decide⟩
theorem iX9_findSharing_310 : ab_at mX9_findSharing 310 (.iconst 1) 1 311 := ⟨by decide +kernel, rfl⟩
theorem iX9_findSharing_311 : ab_bg mX9_findSharing 311 315 := ⟨4, by decide +kernel, by decide⟩
theorem iX9_findSharing_314 : ab_at mX9_findSharing 314 (.iconst 0) 1 315 := ⟨by decide +kernel, rfl⟩
theorem iX9_findSharing_315 : ab_at mX9_findSharing 315 (.ireturn) 1 316 := ⟨by decide +kernel, rfl⟩
theorem iX9_share_0 : ab_at mX9_share 0 (.iload_n 1) 1 1 := ⟨by decide +kernel, rfl⟩
theorem iX9_share_1 : ab_at mX9_share 1 (.iconst 0) 1 2 := ⟨by decide +kernel, rfl⟩
theorem iX9_share_2 : ab_at mX9_share 2 (.iconst 1) 1 3 := ⟨by decide +kernel, rfl⟩
theorem iX9_share_3 : ab_at mX9_share 3 (.invokestatic 111) 3 6 := ⟨by decide +kernel, rfl⟩
theorem iX9_share_6 : ab_bi mX9_share 6 .ne 9 11 := ⟨5, by decide +kernel, rfl, by decide⟩
theorem iX9_share_9 : ab_at mX9_share 9 (.iconst (-1)) 1 10 := ⟨by decide +kernel, rfl⟩
theorem iX9_share_10 : ab_at mX9_share 10 (.ireturn) 1 11 := ⟨by decide +kernel, rfl⟩
theorem iX9_share_11 : ab_at mX9_share 11 (.aload_n 0) 1 12 := ⟨by decide +kernel, rfl⟩
theorem iX9_share_12 : ab_at mX9_share 12 (.invokevirtual 198) 3 15 := ⟨by decide +kernel, rfl⟩
theorem iX9_share_15 : ab_bi mX9_share 15 .ne 18 21 := ⟨6, by decide +kernel, rfl, by decide⟩
theorem iX9_share_18 : ab_at mX9_share 18 (.bipush (-4)) 2 20 := ⟨by decide +kernel, rfl⟩
theorem iX9_share_20 : ab_at mX9_share 20 (.ireturn) 1 21 := ⟨by decide +kernel, rfl⟩
theorem iX9_share_21 : ab_at mX9_share 21 (.iload_n 1) 1 22 := ⟨by decide +kernel, rfl⟩
theorem iX9_share_22 : ab_bi mX9_share 22 .ne 25 32 := ⟨10, by decide +kernel, rfl, by decide⟩
theorem iX9_share_25 : ab_at mX9_share 25 (.aload_n 0) 1 26 := ⟨by decide +kernel, rfl⟩
theorem iX9_share_26 : ab_at mX9_share 26 (.getfield 189) 3 29 := ⟨by decide +kernel, rfl⟩
theorem iX9_share_29 : ab_bg mX9_share 29 36 := ⟨7, by decide +kernel, by decide⟩
theorem iX9_share_32 : ab_at mX9_share 32 (.aload_n 0) 1 33 := ⟨by decide +kernel, rfl⟩
theorem iX9_share_33 : ab_at mX9_share 33 (.getfield 186) 3 36 := ⟨by decide +kernel, rfl⟩
theorem iX9_share_36 : ab_at mX9_share 36 (.ireturn) 1 37 := ⟨by decide +kernel, rfl⟩
theorem iX9_who_0 : ab_at mX9_who 0 (.iload_n 1) 1 1 := ⟨by decide +kernel, rfl⟩
theorem iX9_who_1 : ab_at mX9_who 1 (.iconst 0) 1 2 := ⟨by decide +kernel, rfl⟩
theorem iX9_who_2 : ab_at mX9_who 2 (.aload_n 0) 1 3 := ⟨by decide +kernel, rfl⟩
theorem iX9_who_3 : ab_at mX9_who 3 (.getfield 7) 3 6 := ⟨by decide +kernel, rfl⟩
theorem iX9_who_6 : ab_at mX9_who 6 (.iconst 1) 1 7 := ⟨by decide +kernel, rfl⟩
theorem iX9_who_7 : ab_at mX9_who 7 (.isub) 1 8 := ⟨by decide +kernel, rfl⟩
theorem iX9_who_8 : ab_at mX9_who 8 (.invokestatic 111) 3 11 := ⟨by decide +kernel, rfl⟩
theorem iX9_who_11 : ab_bi mX9_who 11 .ne 14 16 := ⟨5, by decide +kernel, rfl, by decide⟩
theorem iX9_who_14 : ab_at mX9_who 14 (.iconst (-1)) 1 15 := ⟨by decide +kernel, rfl⟩
theorem iX9_who_15 : ab_at mX9_who 15 (.ireturn) 1 16 := ⟨by decide +kernel, rfl⟩
theorem iX9_who_16 : ab_at mX9_who 16 (.aload_n 0) 1 17 := ⟨by decide +kernel, rfl⟩
theorem iX9_who_17 : ab_at mX9_who 17 (.invokevirtual 198) 3 20 := ⟨by decide +kernel, rfl⟩
theorem iX9_who_20 : ab_bi mX9_who 20 .ne 23 26 := ⟨6, by decide +kernel, rfl, by decide⟩
theorem iX9_who_23 : ab_at mX9_who 23 (.bipush (-4)) 2 25 := ⟨by decide +kernel, rfl⟩
theorem iX9_who_25 : ab_at mX9_who 25 (.ireturn) 1 26 := ⟨by decide +kernel, rfl⟩
theorem iX9_who_26 : ab_at mX9_who 26 (.iconst 0) 1 27 := ⟨by decide +kernel, rfl⟩
theorem iX9_who_27 : ab_at mX9_who 27 (.istore_n 2) 1 28 := ⟨by decide +kernel, rfl⟩
theorem iX9_who_28 : ab_at mX9_who 28 (.aload_n 0) 1 29 := ⟨by decide +kernel, rfl⟩
theorem iX9_who_29 : ab_at mX9_who 29 (.getfield 105) 3 32 := ⟨by decide +kernel, rfl⟩
theorem iX9_who_32 : ab_at mX9_who 32 (.iconst 0) 1 33 := ⟨by decide +kernel, rfl⟩
theorem iX9_who_33 : ab_at mX9_who 33 (.iaload) 1 34 := ⟨by decide +kernel, rfl⟩
theorem iX9_who_34 : ab_at mX9_who 34 (.bipush 12) 2 36 := ⟨by decide +kernel, rfl⟩
theorem iX9_who_36 : ab_at mX9_who 36 (.irem) 1 37 := ⟨by decide +kernel, rfl⟩
theorem iX9_who_37 : ab_at mX9_who 37 (.iconst 1) 1 38 := ⟨by decide +kernel, rfl⟩
theorem iX9_who_38 : ab_at mX9_who 38 (.iadd) 1 39 := ⟨by decide +kernel, rfl⟩
theorem iX9_who_39 : ab_at mX9_who 39 (.istore_n 3) 1 40 := ⟨by decide +kernel, rfl⟩
theorem iX9_who_40 : ab_at mX9_who 40 (.iload_n 1) 1 41 := ⟨by decide +kernel, rfl⟩
theorem iX9_who_41 : ab_at mX9_who 41 (.iload_n 3) 1 42 := ⟨by decide +kernel, rfl⟩
theorem iX9_who_42 : ab_bc mX9_who 42 .lt 45 65 := ⟨23, by decide +kernel, rfl, by decide⟩
theorem iX9_who_45 : ab_at mX9_who 45 (.iinc 2 1) 3 48 := ⟨by decide +kernel, rfl⟩
theorem iX9_who_48 : ab_at mX9_who 48 (.iload_n 3) 1 49 := ⟨by decide +kernel, rfl⟩
theorem iX9_who_49 : ab_at mX9_who 49 (.aload_n 0) 1 50 := ⟨by decide +kernel, rfl⟩
theorem iX9_who_50 : ab_at mX9_who 50 (.getfield 105) 3 53 := ⟨by decide +kernel, rfl⟩
theorem iX9_who_53 : ab_at mX9_who 53 (.iload_n 2) 1 54 := ⟨by decide +kernel, rfl⟩
theorem iX9_who_54 : ab_at mX9_who 54 (.iaload) 1 55 := ⟨by decide +kernel, rfl⟩
theorem iX9_who_55 : ab_at mX9_who 55 (.bipush 12) 2 57 := ⟨by decide +kernel, rfl⟩
theorem iX9_who_57 : ab_at mX9_who 57 (.irem) 1 58 := ⟨by decide +kernel, rfl⟩
theorem iX9_who_58 : ab_at mX9_who 58 (.iconst 1) 1 59 := ⟨by decide +kernel, rfl⟩
theorem iX9_who_59 : ab_at mX9_who 59 (.iadd) 1 60 := ⟨by decide +kernel, rfl⟩
theorem iX9_who_60 : ab_at mX9_who 60 (.iadd) 1 61 := ⟨by decide +kernel, rfl⟩
theorem iX9_who_61 : ab_at mX9_who 61 (.istore_n 3) 1 62 := ⟨by decide +kernel, rfl⟩
theorem iX9_who_62 : ab_bg mX9_who 62 40 := ⟨-22, by decide +kernel, by decide⟩
theorem iX9_who_65 : ab_at mX9_who 65 (.aload_n 0) 1 66 := ⟨by decide +kernel, rfl⟩
theorem iX9_who_66 : ab_at mX9_who 66 (.getfield 105) 3 69 := ⟨by decide +kernel, rfl⟩
theorem iX9_who_69 : ab_at mX9_who 69 (.iload_n 2) 1 70 := ⟨by decide +kernel, rfl⟩
theorem iX9_who_70 : ab_at mX9_who 70 (.iaload) 1 71 := ⟨by decide +kernel, rfl⟩
theorem iX9_who_71 : ab_at mX9_who 71 (.bipush 12) 2 73 := ⟨by decide +kernel, rfl⟩
theorem iX9_who_73 : ab_at mX9_who 73 (.idiv) 1 74 := ⟨by decide +kernel, rfl⟩
theorem iX9_who_74 : ab_at mX9_who 74 (.ireturn) 1 75 := ⟨by decide +kernel, rfl⟩
theorem iX9_up_0 : ab_at mX9_up 0 (.aload_n 0) 1 1 := ⟨by decide +kernel, rfl⟩
theorem iX9_up_1 : ab_at mX9_up 1 (.invokevirtual 198) 3 4 := ⟨by decide +kernel, rfl⟩
theorem iX9_up_4 : ab_bi mX9_up 4 .ne 7 10 := ⟨6, by decide +kernel, rfl, by decide⟩
theorem iX9_up_7 : ab_at mX9_up 7 (.bipush (-4)) 2 9 := ⟨by decide +kernel, rfl⟩
theorem iX9_up_9 : ab_at mX9_up 9 (.ireturn) 1 10 := ⟨by decide +kernel, rfl⟩
theorem iX9_up_10 : ab_at mX9_up 10 (.aload_n 0) 1 11 := ⟨by decide +kernel, rfl⟩
theorem iX9_up_11 : ab_at mX9_up 11 (.aload_n 0) 1 12 := ⟨by decide +kernel, rfl⟩
theorem iX9_up_12 : ab_at mX9_up 12 (.getfield 186) 3 15 := ⟨by decide +kernel, rfl⟩
theorem iX9_up_15 : ab_at mX9_up 15 (.putfield 115) 3 18 := ⟨by decide +kernel, rfl⟩
theorem iX9_up_18 : ab_at mX9_up 18 (.aload_n 0) 1 19 := ⟨by decide +kernel, rfl⟩
theorem iX9_up_19 : ab_at mX9_up 19 (.iconst 0) 1 20 := ⟨by decide +kernel, rfl⟩
theorem iX9_up_20 : ab_at mX9_up 20 (.putfield 202) 3 23 := ⟨by decide +kernel, rfl⟩
theorem iX9_up_23 : ab_at mX9_up 23 (.iconst 0) 1 24 := ⟨by decide +kernel, rfl⟩
theorem iX9_up_24 : ab_at mX9_up 24 (.istore_n 1) 1 25 := ⟨by decide +kernel, rfl⟩
theorem iX9_up_25 : ab_at mX9_up 25 (.iconst 0) 1 26 := ⟨by decide +kernel, rfl⟩
theorem iX9_up_26 : ab_at mX9_up 26 (.istore_n 2) 1 27 := ⟨by decide +kernel, rfl⟩
theorem iX9_up_27 : ab_at mX9_up 27 (.iload_n 2) 1 28 := ⟨by decide +kernel, rfl⟩
theorem iX9_up_28 : ab_at mX9_up 28 (.aload_n 0) 1 29 := ⟨by decide +kernel, rfl⟩
theorem iX9_up_29 : ab_at mX9_up 29 (.getfield 115) 3 32 := ⟨by decide +kernel, rfl⟩
theorem iX9_up_32 : ab_bc mX9_up 32 .ge 35 96 := ⟨64, by decide +kernel, rfl, by decide⟩
theorem iX9_up_35 : ab_at mX9_up 35 (.aload_n 0) 1 36 := ⟨by decide +kernel, rfl⟩
theorem iX9_up_36 : ab_at mX9_up 36 (.getfield 42) 3 39 := ⟨by decide +kernel, rfl⟩
theorem iX9_up_39 : ab_at mX9_up 39 (.iload_n 2) 1 40 := ⟨by decide +kernel, rfl⟩
theorem iX9_up_40 : ab_at mX9_up 40 (.aload_n 0) 1 41 := ⟨by decide +kernel, rfl⟩
theorem iX9_up_41 : ab_at mX9_up 41 (.getfield 105) 3 44 := ⟨by decide +kernel, rfl⟩
theorem iX9_up_44 : ab_at mX9_up 44 (.iload_n 2) 1 45 := ⟨by decide +kernel, rfl⟩
theorem iX9_up_45 : ab_at mX9_up 45 (.iaload) 1 46 := ⟨by decide +kernel, rfl⟩
theorem iX9_up_46 : ab_at mX9_up 46 (.bipush 12) 2 48 := ⟨by decide +kernel, rfl⟩
theorem iX9_up_48 : ab_at mX9_up 48 (.idiv) 1 49 := ⟨by decide +kernel, rfl⟩
theorem iX9_up_49 : ab_at mX9_up 49 (.iastore) 1 50 := ⟨by decide +kernel, rfl⟩
theorem iX9_up_50 : ab_at mX9_up 50 (.aload_n 0) 1 51 := ⟨by decide +kernel, rfl⟩
theorem iX9_up_51 : ab_at mX9_up 51 (.getfield 45) 3 54 := ⟨by decide +kernel, rfl⟩
theorem iX9_up_54 : ab_at mX9_up 54 (.iload_n 2) 1 55 := ⟨by decide +kernel, rfl⟩
theorem iX9_up_55 : ab_at mX9_up 55 (.iload_n 1) 1 56 := ⟨by decide +kernel, rfl⟩
theorem iX9_up_56 : ab_at mX9_up 56 (.iastore) 1 57 := ⟨by decide +kernel, rfl⟩
theorem iX9_up_57 : ab_at mX9_up 57 (.aload_n 0) 1 58 := ⟨by decide +kernel, rfl⟩
theorem iX9_up_58 : ab_at mX9_up 58 (.getfield 48) 3 61 := ⟨by decide +kernel, rfl⟩
theorem iX9_up_61 : ab_at mX9_up 61 (.iload_n 2) 1 62 := ⟨by decide +kernel, rfl⟩
theorem iX9_up_62 : ab_at mX9_up 62 (.aload_n 0) 1 63 := ⟨by decide +kernel, rfl⟩
theorem iX9_up_63 : ab_at mX9_up 63 (.getfield 105) 3 66 := ⟨by decide +kernel, rfl⟩
theorem iX9_up_66 : ab_at mX9_up 66 (.iload_n 2) 1 67 := ⟨by decide +kernel, rfl⟩
theorem iX9_up_67 : ab_at mX9_up 67 (.iaload) 1 68 := ⟨by decide +kernel, rfl⟩
theorem iX9_up_68 : ab_at mX9_up 68 (.bipush 12) 2 70 := ⟨by decide +kernel, rfl⟩
theorem iX9_up_70 : ab_at mX9_up 70 (.irem) 1 71 := ⟨by decide +kernel, rfl⟩
theorem iX9_up_71 : ab_at mX9_up 71 (.iconst 1) 1 72 := ⟨by decide +kernel, rfl⟩
theorem iX9_up_72 : ab_at mX9_up 72 (.iadd) 1 73 := ⟨by decide +kernel, rfl⟩
theorem iX9_up_73 : ab_at mX9_up 73 (.iastore) 1 74 := ⟨by decide +kernel, rfl⟩
theorem iX9_up_74 : ab_at mX9_up 74 (.aload_n 0) 1 75 := ⟨by decide +kernel, rfl⟩
theorem iX9_up_75 : ab_at mX9_up 75 (.getfield 51) 3 78 := ⟨by decide +kernel, rfl⟩
theorem iX9_up_78 : ab_at mX9_up 78 (.iload_n 2) 1 79 := ⟨by decide +kernel, rfl⟩
theorem iX9_up_79 : ab_at mX9_up 79 (.iconst 0) 1 80 := ⟨by decide +kernel, rfl⟩
theorem iX9_up_80 : ab_at mX9_up 80 (.iastore) 1 81 := ⟨by decide +kernel, rfl⟩
theorem iX9_up_81 : ab_at mX9_up 81 (.iload_n 1) 1 82 := ⟨by decide +kernel, rfl⟩
theorem iX9_up_82 : ab_at mX9_up 82 (.aload_n 0) 1 83 := ⟨by decide +kernel, rfl⟩
theorem iX9_up_83 : ab_at mX9_up 83 (.getfield 48) 3 86 := ⟨by decide +kernel, rfl⟩
theorem iX9_up_86 : ab_at mX9_up 86 (.iload_n 2) 1 87 := ⟨by decide +kernel, rfl⟩
theorem iX9_up_87 : ab_at mX9_up 87 (.iaload) 1 88 := ⟨by decide +kernel, rfl⟩
theorem iX9_up_88 : ab_at mX9_up 88 (.iadd) 1 89 := ⟨by decide +kernel, rfl⟩
theorem iX9_up_89 : ab_at mX9_up 89 (.istore_n 1) 1 90 := ⟨by decide +kernel, rfl⟩
theorem iX9_up_90 : ab_at mX9_up 90 (.iinc 2 1) 3 93 := ⟨by decide +kernel, rfl⟩
theorem iX9_up_93 : ab_bg mX9_up 93 27 := ⟨-66, by decide +kernel, by decide⟩
theorem iX9_up_96 : ab_at mX9_up 96 (.aload_n 0) 1 97 := ⟨by decide +kernel, rfl⟩
theorem iX9_up_97 : ab_at mX9_up 97 (.getfield 115) 3 100 := ⟨by decide +kernel, rfl⟩
theorem iX9_up_100 : ab_at mX9_up 100 (.ireturn) 1 101 := ⟨by decide +kernel, rfl⟩
theorem iX9_allOf_0 : ab_at mX9_allOf 0 (.aload_n 0) 1 1 := ⟨by decide +kernel, rfl⟩
theorem iX9_allOf_1 : ab_at mX9_allOf 1 (.aload_n 0) 1 2 := ⟨by decide +kernel, rfl⟩
theorem iX9_allOf_2 : ab_at mX9_allOf 2 (.getfield 45) 3 5 := ⟨by decide +kernel, rfl⟩
theorem iX9_allOf_5 : ab_at mX9_allOf 5 (.iload_n 1) 1 6 := ⟨by decide +kernel, rfl⟩
theorem iX9_allOf_6 : ab_at mX9_allOf 6 (.iaload) 1 7 := ⟨by decide +kernel, rfl⟩
theorem iX9_allOf_7 : ab_at mX9_allOf 7 (.aload_n 0) 1 8 := ⟨by decide +kernel, rfl⟩
theorem iX9_allOf_8 : ab_at mX9_allOf 8 (.getfield 48) 3 11 := ⟨by decide +kernel, rfl⟩
theorem iX9_allOf_11 : ab_at mX9_allOf 11 (.iload_n 1) 1 12 := ⟨by decide +kernel, rfl⟩
theorem iX9_allOf_12 : ab_at mX9_allOf 12 (.iaload) 1 13 := ⟨by decide +kernel, rfl⟩
theorem iX9_allOf_13 : ab_at mX9_allOf 13 (.aload_n 0) 1 14 := ⟨by decide +kernel, rfl⟩
theorem iX9_allOf_14 : ab_at mX9_allOf 14 (.getfield 13) 3 17 := ⟨by decide +kernel, rfl⟩
theorem iX9_allOf_17 : ab_at mX9_allOf 17 (.invokevirtual 183) 3 20 := ⟨by decide +kernel, rfl⟩
theorem iX9_allOf_20 : ab_at mX9_allOf 20 (.ireturn) 1 21 := ⟨by decide +kernel, rfl⟩
theorem iX9_wholeOf_0 : ab_at mX9_wholeOf 0 (.iconst 0) 1 1 := ⟨by decide +kernel, rfl⟩
theorem iX9_wholeOf_1 : ab_at mX9_wholeOf 1 (.istore_n 2) 1 2 := ⟨by decide +kernel, rfl⟩
theorem iX9_wholeOf_2 : ab_at mX9_wholeOf 2 (.iload_n 2) 1 3 := ⟨by decide +kernel, rfl⟩
theorem iX9_wholeOf_3 : ab_at mX9_wholeOf 3 (.aload_n 0) 1 4 := ⟨by decide +kernel, rfl⟩
theorem iX9_wholeOf_4 : ab_at mX9_wholeOf 4 (.getfield 13) 3 7 := ⟨by decide +kernel, rfl⟩
theorem iX9_wholeOf_7 : ab_bc mX9_wholeOf 7 .ge 10 44 := ⟨37, by decide +kernel, rfl, by decide⟩
theorem iX9_wholeOf_10 : ab_at mX9_wholeOf 10 (.aload_n 0) 1 11 := ⟨by decide +kernel, rfl⟩
theorem iX9_wholeOf_11 : ab_at mX9_wholeOf 11 (.aload_n 0) 1 12 := ⟨by decide +kernel, rfl⟩
theorem iX9_wholeOf_12 : ab_at mX9_wholeOf 12 (.getfield 45) 3 15 := ⟨by decide +kernel, rfl⟩
theorem iX9_wholeOf_15 : ab_at mX9_wholeOf 15 (.iload_n 1) 1 16 := ⟨by decide +kernel, rfl⟩
theorem iX9_wholeOf_16 : ab_at mX9_wholeOf 16 (.iaload) 1 17 := ⟨by decide +kernel, rfl⟩
theorem iX9_wholeOf_17 : ab_at mX9_wholeOf 17 (.aload_n 0) 1 18 := ⟨by decide +kernel, rfl⟩
theorem iX9_wholeOf_18 : ab_at mX9_wholeOf 18 (.getfield 48) 3 21 := ⟨by decide +kernel, rfl⟩
theorem iX9_wholeOf_21 : ab_at mX9_wholeOf 21 (.iload_n 1) 1 22 := ⟨by decide +kernel, rfl⟩
theorem iX9_wholeOf_22 : ab_at mX9_wholeOf 22 (.iaload) 1 23 := ⟨by decide +kernel, rfl⟩
theorem iX9_wholeOf_23 : ab_at mX9_wholeOf 23 (.iload_n 2) 1 24 := ⟨by decide +kernel, rfl⟩
theorem iX9_wholeOf_24 : ab_at mX9_wholeOf 24 (.iconst 1) 1 25 := ⟨by decide +kernel, rfl⟩
theorem iX9_wholeOf_25 : ab_at mX9_wholeOf 25 (.iadd) 1 26 := ⟨by decide +kernel, rfl⟩
theorem iX9_wholeOf_26 : ab_at mX9_wholeOf 26 (.invokevirtual 183) 3 29 := ⟨by decide +kernel, rfl⟩
theorem iX9_wholeOf_29 : ab_at mX9_wholeOf 29 (.aload_n 0) 1 30 := ⟨by decide +kernel, rfl⟩
theorem iX9_wholeOf_30 : ab_at mX9_wholeOf 30 (.getfield 51) 3 33 := ⟨by decide +kernel, rfl⟩
theorem iX9_wholeOf_33 : ab_at mX9_wholeOf 33 (.iload_n 1) 1 34 := ⟨by decide +kernel, rfl⟩
theorem iX9_wholeOf_34 : ab_at mX9_wholeOf 34 (.iaload) 1 35 := ⟨by decide +kernel, rfl⟩
theorem iX9_wholeOf_35 : ab_bc mX9_wholeOf 35 .gt 38 44 := ⟨9, by decide +kernel, rfl, by decide⟩
theorem iX9_wholeOf_38 : ab_at mX9_wholeOf 38 (.iinc 2 1) 3 41 := ⟨by decide +kernel, rfl⟩
theorem iX9_wholeOf_41 : ab_bg mX9_wholeOf 41 2 := ⟨-39, by decide +kernel, by decide⟩
theorem iX9_wholeOf_44 : ab_at mX9_wholeOf 44 (.iload_n 2) 1 45 := ⟨by decide +kernel, rfl⟩
theorem iX9_wholeOf_45 : ab_at mX9_wholeOf 45 (.ireturn) 1 46 := ⟨by decide +kernel, rfl⟩
theorem iX9_findWhole_0 : ab_at mX9_findWhole 0 (.iconst 0) 1 1 := ⟨by decide +kernel, rfl⟩
theorem iX9_findWhole_1 : ab_at mX9_findWhole 1 (.istore_n 1) 1 2 := ⟨by decide +kernel, rfl⟩
theorem iX9_findWhole_2 : ab_at mX9_findWhole 2 (.iload_n 1) 1 3 := ⟨by decide +kernel, rfl⟩
theorem iX9_findWhole_3 : ab_at mX9_findWhole 3 (.aload_n 0) 1 4 := ⟨by decide +kernel, rfl⟩
theorem iX9_findWhole_4 : ab_at mX9_findWhole 4 (.getfield 115) 3 7 := ⟨by decide +kernel, rfl⟩
theorem iX9_findWhole_7 : ab_bc mX9_findWhole 7 .ge 10 27 := ⟨20, by decide +kernel, rfl, by decide⟩
theorem iX9_findWhole_10 : ab_at mX9_findWhole 10 (.aload_n 0) 1 11 := ⟨by decide +kernel, rfl⟩
theorem iX9_findWhole_11 : ab_at mX9_findWhole 11 (.getfield 108) 3 14 := ⟨by decide +kernel, rfl⟩
theorem iX9_findWhole_14 : ab_at mX9_findWhole 14 (.iload_n 1) 1 15 := ⟨by decide +kernel, rfl⟩
theorem iX9_findWhole_15 : ab_at mX9_findWhole 15 (.aload_n 0) 1 16 := ⟨by decide +kernel, rfl⟩
theorem iX9_findWhole_16 : ab_at mX9_findWhole 16 (.iload_n 1) 1 17 := ⟨by decide +kernel, rfl⟩
theorem iX9_findWhole_17 : ab_at mX9_findWhole 17 (.invokevirtual 205) 3 20 := ⟨by decide +kernel, rfl⟩
theorem iX9_findWhole_20 : ab_at mX9_findWhole 20 (.iastore) 1 21 := ⟨by decide +kernel, rfl⟩
theorem iX9_findWhole_21 : ab_at mX9_findWhole 21 (.iinc 1 1) 3 24 := ⟨by decide +kernel, rfl⟩
theorem iX9_findWhole_24 : ab_bg mX9_findWhole 24 2 := ⟨-22, by decide +kernel, by decide⟩
theorem iX9_findWhole_27 : ab_at mX9_findWhole 27 (.return_) 1 28 := ⟨by decide +kernel, rfl⟩
theorem iX9_isAhead_0 : ab_at mX9_isAhead 0 (.iload_n 1) 1 1 := ⟨by decide +kernel, rfl⟩
theorem iX9_isAhead_1 : ab_bi mX9_isAhead 1 .le 4 26 := ⟨25, by decide +kernel, rfl, by decide⟩
theorem iX9_isAhead_4 : ab_at mX9_isAhead 4 (.aload_n 0) 1 5 := ⟨by decide +kernel, rfl⟩
theorem iX9_isAhead_5 : ab_at mX9_isAhead 5 (.getfield 108) 3 8 := ⟨by decide +kernel, rfl⟩
theorem iX9_isAhead_8 : ab_at mX9_isAhead 8 (.iload_n 1) 1 9 := ⟨by decide +kernel, rfl⟩
theorem iX9_isAhead_9 : ab_at mX9_isAhead 9 (.iaload) 1 10 := ⟨by decide +kernel, rfl⟩
theorem iX9_isAhead_10 : ab_at mX9_isAhead 10 (.aload_n 0) 1 11 := ⟨by decide +kernel, rfl⟩
theorem iX9_isAhead_11 : ab_at mX9_isAhead 11 (.getfield 108) 3 14 := ⟨by decide +kernel, rfl⟩
theorem iX9_isAhead_14 : ab_at mX9_isAhead 14 (.iload_n 1) 1 15 := ⟨by decide +kernel, rfl⟩
theorem iX9_isAhead_15 : ab_at mX9_isAhead 15 (.iconst 1) 1 16 := ⟨by decide +kernel, rfl⟩
theorem iX9_isAhead_16 : ab_at mX9_isAhead 16 (.isub) 1 17 := ⟨by decide +kernel, rfl⟩
theorem iX9_isAhead_17 : ab_at mX9_isAhead 17 (.iaload) 1 18 := ⟨by decide +kernel, rfl⟩
theorem iX9_isAhead_18 : ab_at mX9_isAhead 18 (.isub) 1 19 := ⟨by decide +kernel, rfl⟩
theorem iX9_isAhead_19 : ab_at mX9_isAhead 19 (.aload_n 0) 1 20 := ⟨by decide +kernel, rfl⟩
theorem iX9_isAhead_20 : ab_at mX9_isAhead 20 (.getfield 39) 3 23 := ⟨by decide +kernel, rfl⟩
theorem iX9_isAhead_23 : ab_bc mX9_isAhead 23 .ge 26 58 := ⟨35, by decide +kernel, rfl, by decide⟩
theorem iX9_isAhead_26 : ab_at mX9_isAhead 26 (.iload_n 1) 1 27 := ⟨by decide +kernel, rfl⟩
theorem iX9_isAhead_27 : ab_at mX9_isAhead 27 (.iconst 1) 1 28 := ⟨by decide +kernel, rfl⟩
theorem iX9_isAhead_28 : ab_at mX9_isAhead 28 (.iadd) 1 29 := ⟨by decide +kernel, rfl⟩
theorem iX9_isAhead_29 : ab_at mX9_isAhead 29 (.aload_n 0) 1 30 := ⟨by decide +kernel, rfl⟩
theorem iX9_isAhead_30 : ab_at mX9_isAhead 30 (.getfield 115) 3 33 := ⟨by decide +kernel, rfl⟩
theorem iX9_isAhead_33 : ab_bc mX9_isAhead 33 .ge 36 62 := ⟨29, by decide +kernel, rfl, by decide⟩
theorem iX9_isAhead_36 : ab_at mX9_isAhead 36 (.aload_n 0) 1 37 := ⟨by decide +kernel, rfl⟩
theorem iX9_isAhead_37 : ab_at mX9_isAhead 37 (.getfield 108) 3 40 := ⟨by decide +kernel, rfl⟩
theorem iX9_isAhead_40 : ab_at mX9_isAhead 40 (.iload_n 1) 1 41 := ⟨by decide +kernel, rfl⟩
theorem iX9_isAhead_41 : ab_at mX9_isAhead 41 (.iaload) 1 42 := ⟨by decide +kernel, rfl⟩
theorem iX9_isAhead_42 : ab_at mX9_isAhead 42 (.aload_n 0) 1 43 := ⟨by decide +kernel, rfl⟩
theorem iX9_isAhead_43 : ab_at mX9_isAhead 43 (.getfield 108) 3 46 := ⟨by decide +kernel, rfl⟩
theorem iX9_isAhead_46 : ab_at mX9_isAhead 46 (.iload_n 1) 1 47 := ⟨by decide +kernel, rfl⟩
theorem iX9_isAhead_47 : ab_at mX9_isAhead 47 (.iconst 1) 1 48 := ⟨by decide +kernel, rfl⟩
theorem iX9_isAhead_48 : ab_at mX9_isAhead 48 (.iadd) 1 49 := ⟨by decide +kernel, rfl⟩
theorem iX9_isAhead_49 : ab_at mX9_isAhead 49 (.iaload) 1 50 := ⟨by decide +kernel, rfl⟩
theorem iX9_isAhead_50 : ab_at mX9_isAhead 50 (.isub) 1 51 := ⟨by decide +kernel, rfl⟩
theorem iX9_isAhead_51 : ab_at mX9_isAhead 51 (.aload_n 0) 1 52 := ⟨by decide +kernel, rfl⟩
theorem iX9_isAhead_52 : ab_at mX9_isAhead 52 (.getfield 39) 3 55 := ⟨by decide +kernel, rfl⟩
theorem iX9_isAhead_55 : ab_bc mX9_isAhead 55 .lt 58 62 := ⟨7, by decide +kernel, rfl, by decide⟩
theorem iX9_isAhead_58 : ab_at mX9_isAhead 58 (.iconst 1) 1 59 := ⟨by decide +kernel, rfl⟩
theorem iX9_isAhead_59 : ab_bg mX9_isAhead 59 63 := ⟨4, by decide +kernel, by decide⟩
theorem iX9_isAhead_62 : ab_at mX9_isAhead 62 (.iconst 0) 1 63 := ⟨by decide +kernel, rfl⟩
theorem iX9_isAhead_63 : ab_at mX9_isAhead 63 (.ireturn) 1 64 := ⟨by decide +kernel, rfl⟩
theorem iX9_days_0 : ab_at mX9_days 0 (.iload_n 1) 1 1 := ⟨by decide +kernel, rfl⟩
theorem iX9_days_1 : ab_at mX9_days 1 (.iconst 1) 1 2 := ⟨by decide +kernel, rfl⟩
theorem iX9_days_2 : ab_at mX9_days 2 (.bipush 100) 2 4 := ⟨by decide +kernel, rfl⟩
theorem iX9_days_4 : ab_at mX9_days 4 (.invokestatic 111) 3 7 := ⟨by decide +kernel, rfl⟩
theorem iX9_days_7 : ab_bi mX9_days 7 .ne 10 12 := ⟨5, by decide +kernel, rfl, by decide⟩
theorem iX9_days_10 : ab_at mX9_days 10 (.iconst (-1)) 1 11 := ⟨by decide +kernel, rfl⟩
theorem iX9_days_11 : ab_at mX9_days 11 (.ireturn) 1 12 := ⟨by decide +kernel, rfl⟩
theorem iX9_days_12 : ab_at mX9_days 12 (.aload_n 0) 1 13 := ⟨by decide +kernel, rfl⟩
theorem iX9_days_13 : ab_at mX9_days 13 (.getfield 115) 3 16 := ⟨by decide +kernel, rfl⟩
theorem iX9_days_16 : ab_bi mX9_days 16 .ne 19 22 := ⟨6, by decide +kernel, rfl, by decide⟩
theorem iX9_days_19 : ab_at mX9_days 19 (.bipush (-3)) 2 21 := ⟨by decide +kernel, rfl⟩
theorem iX9_days_21 : ab_at mX9_days 21 (.ireturn) 1 22 := ⟨by decide +kernel, rfl⟩
theorem iX9_days_22 : ab_at mX9_days 22 (.iconst 0) 1 23 := ⟨by decide +kernel, rfl⟩
theorem iX9_days_23 : ab_at mX9_days 23 (.istore_n 2) 1 24 := ⟨by decide +kernel, rfl⟩
theorem iX9_days_24 : ab_at mX9_days 24 (.iload_n 2) 1 25 := ⟨by decide +kernel, rfl⟩
theorem iX9_days_25 : ab_at mX9_days 25 (.iload_n 1) 1 26 := ⟨by decide +kernel, rfl⟩
theorem iX9_days_26 : ab_bc mX9_days 26 .ge 29 119 := ⟨93, by decide +kernel, rfl, by decide⟩
theorem iX9_days_29 : ab_at mX9_days 29 (.aload_n 0) 1 30 := ⟨by decide +kernel, rfl⟩
theorem iX9_days_30 : ab_at mX9_days 30 (.invokevirtual 208) 3 33 := ⟨by decide +kernel, rfl⟩
theorem iX9_days_33 : ab_at mX9_days 33 (.iconst 0) 1 34 := ⟨by decide +kernel, rfl⟩
theorem iX9_days_34 : ab_at mX9_days 34 (.istore_n 3) 1 35 := ⟨by decide +kernel, rfl⟩
theorem iX9_days_35 : ab_at mX9_days 35 (.iload_n 3) 1 36 := ⟨by decide +kernel, rfl⟩
theorem iX9_days_36 : ab_at mX9_days 36 (.aload_n 0) 1 37 := ⟨by decide +kernel, rfl⟩
theorem iX9_days_37 : ab_at mX9_days 37 (.getfield 115) 3 40 := ⟨by decide +kernel, rfl⟩
theorem iX9_days_40 : ab_bc mX9_days 40 .ge 43 113 := ⟨73, by decide +kernel, rfl, by decide⟩
theorem iX9_days_43 : ab_at mX9_days 43 (.aload_n 0) 1 44 := ⟨by decide +kernel, rfl⟩
theorem iX9_days_44 : ab_at mX9_days 44 (.iload_n 3) 1 45 := ⟨by decide +kernel, rfl⟩
theorem iX9_days_45 : ab_at mX9_days 45 (.invokevirtual 211) 3 48 := ⟨by decide +kernel, rfl⟩
theorem iX9_days_48 : ab_at mX9_days 48 (.istore 4) 2 50 := ⟨by decide +kernel, rfl⟩
theorem iX9_days_50 : ab_at mX9_days 50 (.aload_n 0) 1 51 := ⟨by decide +kernel, rfl⟩
theorem iX9_days_51 : ab_at mX9_days 51 (.iload_n 3) 1 52 := ⟨by decide +kernel, rfl⟩
theorem iX9_days_52 : ab_at mX9_days 52 (.invokevirtual 214) 3 55 := ⟨by decide +kernel, rfl⟩
theorem iX9_days_55 : ab_bi mX9_days 55 .eq 58 67 := ⟨12, by decide +kernel, rfl, by decide⟩
theorem iX9_days_58 : ab_at mX9_days 58 (.aload_n 0) 1 59 := ⟨by decide +kernel, rfl⟩
theorem iX9_days_59 : ab_at mX9_days 59 (.getfield 51) 3 62 := ⟨by decide +kernel, rfl⟩
theorem iX9_days_62 : ab_at mX9_days 62 (.iload_n 3) 1 63 := ⟨by decide +kernel, rfl⟩
theorem iX9_days_63 : ab_at mX9_days 63 (.iaload) 1 64 := ⟨by decide +kernel, rfl⟩
theorem iX9_days_64 : ab_bg mX9_days 64 85 := ⟨21, by decide +kernel, by decide⟩
theorem iX9_days_67 : ab_at mX9_days 67 (.aload_n 0) 1 68 := ⟨by decide +kernel, rfl⟩
theorem iX9_days_68 : ab_at mX9_days 68 (.getfield 51) 3 71 := ⟨by decide +kernel, rfl⟩
theorem iX9_days_71 : ab_at mX9_days 71 (.iload_n 3) 1 72 := ⟨by decide +kernel, rfl⟩
theorem iX9_days_72 : ab_at mX9_days 72 (.iaload) 1 73 := ⟨by decide +kernel, rfl⟩
theorem iX9_days_73 : ab_at mX9_days 73 (.aload_n 0) 1 74 := ⟨by decide +kernel, rfl⟩
theorem iX9_days_74 : ab_at mX9_days 74 (.getfield 30) 3 77 := ⟨by decide +kernel, rfl⟩
theorem iX9_days_77 : ab_at mX9_days 77 (.aload_n 0) 1 78 := ⟨by decide +kernel, rfl⟩
theorem iX9_days_78 : ab_at mX9_days 78 (.getfield 42) 3 81 := ⟨by decide +kernel, rfl⟩
theorem iX9_days_81 : ab_at mX9_days 81 (.iload_n 3) 1 82 := ⟨by decide +kernel, rfl⟩
theorem iX9_days_82 : ab_at mX9_days 82 (.iaload) 1 83 := ⟨by decide +kernel, rfl⟩
theorem iX9_days_83 : ab_at mX9_days 83 (.iaload) 1 84 := ⟨by decide +kernel, rfl⟩
theorem iX9_days_84 : ab_at mX9_days 84 (.iadd) 1 85 := ⟨by decide +kernel, rfl⟩
theorem iX9_days_85 : ab_at mX9_days 85 (.istore 5) 2 87 := ⟨by decide +kernel, rfl⟩
theorem iX9_days_87 : ab_at mX9_days 87 (.aload_n 0) 1 88 := ⟨by decide +kernel, rfl⟩
theorem iX9_days_88 : ab_at mX9_days 88 (.getfield 51) 3 91 := ⟨by decide +kernel, rfl⟩
theorem iX9_days_91 : ab_at mX9_days 91 (.iload_n 3) 1 92 := ⟨by decide +kernel, rfl⟩
theorem iX9_days_92 : ab_at mX9_days 92 (.iload 5) 2 94 := ⟨by decide +kernel, rfl⟩
theorem iX9_days_94 : ab_at mX9_days 94 (.iload 4) 2 96 := ⟨by decide +kernel, rfl⟩
theorem iX9_days_96 : ab_bc mX9_days 96 .ge 99 104 := ⟨8, by decide +kernel, rfl, by decide⟩
theorem iX9_days_99 : ab_at mX9_days 99 (.iload 5) 2 101 := ⟨by decide +kernel, rfl⟩
theorem iX9_days_101 : ab_bg mX9_days 101 106 := ⟨5, by decide +kernel, by decide⟩
theorem iX9_days_104 : ab_at mX9_days 104 (.iload 4) 2 106 := ⟨by decide +kernel, rfl⟩
theorem iX9_days_106 : ab_at mX9_days 106 (.iastore) 1 107 := ⟨by decide +kernel, rfl⟩
theorem iX9_days_107 : ab_at mX9_days 107 (.iinc 3 1) 3 110 := ⟨by decide +kernel, rfl⟩
theorem iX9_days_110 : ab_bg mX9_days 110 35 := ⟨-75, by decide +kernel, by decide⟩
theorem iX9_days_113 : ab_at mX9_days 113 (.iinc 2 1) 3 116 := ⟨by decide +kernel, rfl⟩
theorem iX9_days_116 : ab_bg mX9_days 116 24 := ⟨-92, by decide +kernel, by decide⟩
theorem iX9_days_119 : ab_at mX9_days 119 (.aload_n 0) 1 120 := ⟨by decide +kernel, rfl⟩
theorem iX9_days_120 : ab_at mX9_days 120 (.dup) 1 121 := ⟨by decide +kernel, rfl⟩
theorem iX9_days_121 : ab_at mX9_days 121 (.getfield 202) 3 124 := ⟨by decide +kernel, rfl⟩
theorem iX9_days_124 : ab_at mX9_days 124 (.iload_n 1) 1 125 := ⟨by decide +kernel, rfl⟩
theorem iX9_days_125 : ab_at mX9_days 125 (.iadd) 1 126 := ⟨by decide +kernel, rfl⟩
theorem iX9_days_126 : ab_at mX9_days 126 (.putfield 202) 3 129 := ⟨by decide +kernel, rfl⟩
theorem iX9_days_129 : ab_at mX9_days 129 (.aload_n 0) 1 130 := ⟨by decide +kernel, rfl⟩
theorem iX9_days_130 : ab_at mX9_days 130 (.invokevirtual 208) 3 133 := ⟨by decide +kernel, rfl⟩
theorem iX9_days_133 : ab_at mX9_days 133 (.aload_n 0) 1 134 := ⟨by decide +kernel, rfl⟩
theorem iX9_days_134 : ab_at mX9_days 134 (.getfield 13) 3 137 := ⟨by decide +kernel, rfl⟩
theorem iX9_days_137 : ab_at mX9_days 137 (.istore_n 2) 1 138 := ⟨by decide +kernel, rfl⟩
theorem iX9_days_138 : ab_at mX9_days 138 (.iconst 0) 1 139 := ⟨by decide +kernel, rfl⟩
theorem iX9_days_139 : ab_at mX9_days 139 (.istore_n 3) 1 140 := ⟨by decide +kernel, rfl⟩
theorem iX9_days_140 : ab_at mX9_days 140 (.iload_n 3) 1 141 := ⟨by decide +kernel, rfl⟩
theorem iX9_days_141 : ab_at mX9_days 141 (.aload_n 0) 1 142 := ⟨by decide +kernel, rfl⟩
theorem iX9_days_142 : ab_at mX9_days 142 (.getfield 115) 3 145 := ⟨by decide +kernel, rfl⟩
theorem iX9_days_145 : ab_bc mX9_days 145 .ge 148 175 := ⟨30, by decide +kernel, rfl, by decide⟩
theorem iX9_days_148 : ab_at mX9_days 148 (.aload_n 0) 1 149 := ⟨by decide +kernel, rfl⟩
theorem iX9_days_149 : ab_at mX9_days 149 (.getfield 108) 3 152 := ⟨by decide +kernel, rfl⟩
theorem iX9_days_152 : ab_at mX9_days 152 (.iload_n 3) 1 153 := ⟨by decide +kernel, rfl⟩
theorem iX9_days_153 : ab_at mX9_days 153 (.iaload) 1 154 := ⟨by decide +kernel, rfl⟩
theorem iX9_days_154 : ab_at mX9_days 154 (.iload_n 2) 1 155 := ⟨by decide +kernel, rfl⟩
theorem iX9_days_155 : ab_bc mX9_days 155 .ge 158 167 := ⟨12, by decide +kernel, rfl, by decide⟩
theorem iX9_days_158 : ab_at mX9_days 158 (.aload_n 0) 1 159 := ⟨by decide +kernel, rfl⟩
theorem iX9_days_159 : ab_at mX9_days 159 (.getfield 108) 3 162 := ⟨by decide +kernel, rfl⟩
theorem iX9_days_162 : ab_at mX9_days 162 (.iload_n 3) 1 163 := ⟨by decide +kernel, rfl⟩
theorem iX9_days_163 : ab_at mX9_days 163 (.iaload) 1 164 := ⟨by decide +kernel, rfl⟩
theorem iX9_days_164 : ab_bg mX9_days 164 168 := ⟨4, by decide +kernel, by decide⟩
theorem iX9_days_167 : ab_at mX9_days 167 (.iload_n 2) 1 168 := ⟨by decide +kernel, rfl⟩
theorem iX9_days_168 : ab_at mX9_days 168 (.istore_n 2) 1 169 := ⟨by decide +kernel, rfl⟩
theorem iX9_days_169 : ab_at mX9_days 169 (.iinc 3 1) 3 172 := ⟨by decide +kernel, rfl⟩
theorem iX9_days_172 : ab_bg mX9_days 172 140 := ⟨-32, by decide +kernel, by decide⟩
theorem iX9_days_175 : ab_at mX9_days 175 (.iload_n 2) 1 176 := ⟨by decide +kernel, rfl⟩
theorem iX9_days_176 : ab_at mX9_days 176 (.ireturn) 1 177 := ⟨by decide +kernel, rfl⟩
theorem iX9_strip_0 : ab_at mX9_strip 0 (.aload_n 0) 1 1 := ⟨by decide +kernel, rfl⟩
theorem iX9_strip_1 : ab_at mX9_strip 1 (.getfield 115) 3 4 := ⟨by decide +kernel, rfl⟩
theorem iX9_strip_4 : ab_bi mX9_strip 4 .ne 7 10 := ⟨6, by decide +kernel, rfl, by decide⟩
theorem iX9_strip_7 : ab_at mX9_strip 7 (.bipush (-3)) 2 9 := ⟨by decide +kernel, rfl⟩
theorem iX9_strip_9 : ab_at mX9_strip 9 (.ireturn) 1 10 := ⟨by decide +kernel, rfl⟩
theorem iX9_strip_10 : ab_at mX9_strip 10 (.iload_n 1) 1 11 := ⟨by decide +kernel, rfl⟩
theorem iX9_strip_11 : ab_at mX9_strip 11 (.iconst 0) 1 12 := ⟨by decide +kernel, rfl⟩
theorem iX9_strip_12 : ab_at mX9_strip 12 (.aload_n 0) 1 13 := ⟨by decide +kernel, rfl⟩
theorem iX9_strip_13 : ab_at mX9_strip 13 (.getfield 115) 3 16 := ⟨by decide +kernel, rfl⟩
theorem iX9_strip_16 : ab_at mX9_strip 16 (.iconst 1) 1 17 := ⟨by decide +kernel, rfl⟩
theorem iX9_strip_17 : ab_at mX9_strip 17 (.isub) 1 18 := ⟨by decide +kernel, rfl⟩
theorem iX9_strip_18 : ab_at mX9_strip 18 (.invokestatic 111) 3 21 := ⟨by decide +kernel, rfl⟩
theorem iX9_strip_21 : ab_bi mX9_strip 21 .eq 24 34 := ⟨13, by decide +kernel, rfl, by decide⟩
theorem iX9_strip_24 : ab_at mX9_strip 24 (.iload_n 2) 1 25 := ⟨by decide +kernel, rfl⟩
theorem iX9_strip_25 : ab_at mX9_strip 25 (.iconst 0) 1 26 := ⟨by decide +kernel, rfl⟩
theorem iX9_strip_26 : ab_at mX9_strip 26 (.bipush 6) 2 28 := ⟨by decide +kernel, rfl⟩
theorem iX9_strip_28 : ab_at mX9_strip 28 (.invokestatic 111) 3 31 := ⟨by decide +kernel, rfl⟩
theorem iX9_strip_31 : ab_bi mX9_strip 31 .ne 34 36 := ⟨5, by decide +kernel, rfl, by decide⟩
theorem iX9_strip_34 : ab_at mX9_strip 34 (.iconst (-1)) 1 35 := ⟨by decide +kernel, rfl⟩
theorem iX9_strip_35 : ab_at mX9_strip 35 (.ireturn) 1 36 := ⟨by decide +kernel, rfl⟩
theorem iX9_strip_36 : ab_at mX9_strip 36 (.iload_n 2) 1 37 := ⟨by decide +kernel, rfl⟩
theorem iX9_strip_37 : decode mX9_strip.2.1 37 = .ok (.tableswitch 79 0 5 #[39, 46, 53, 60, 67, 73], 39) := by decide +kernel
theorem iX9_strip_76 : ab_at mX9_strip 76 (.aload_n 0) 1 77 := ⟨by decide +kernel, rfl⟩
theorem iX9_strip_77 : ab_at mX9_strip 77 (.getfield 42) 3 80 := ⟨by decide +kernel, rfl⟩
theorem iX9_strip_80 : ab_at mX9_strip 80 (.iload_n 1) 1 81 := ⟨by decide +kernel, rfl⟩
theorem iX9_strip_81 : ab_at mX9_strip 81 (.iaload) 1 82 := ⟨by decide +kernel, rfl⟩
theorem iX9_strip_82 : ab_at mX9_strip 82 (.ireturn) 1 83 := ⟨by decide +kernel, rfl⟩
theorem iX9_strip_83 : ab_at mX9_strip 83 (.aload_n 0) 1 84 := ⟨by decide +kernel, rfl⟩
theorem iX9_strip_84 : ab_at mX9_strip 84 (.getfield 45) 3 87 := ⟨by decide +kernel, rfl⟩
theorem iX9_strip_87 : ab_at mX9_strip 87 (.iload_n 1) 1 88 := ⟨by decide +kernel, rfl⟩
theorem iX9_strip_88 : ab_at mX9_strip 88 (.iaload) 1 89 := ⟨by decide +kernel, rfl⟩
theorem iX9_strip_89 : ab_at mX9_strip 89 (.ireturn) 1 90 := ⟨by decide +kernel, rfl⟩
theorem iX9_strip_90 : ab_at mX9_strip 90 (.aload_n 0) 1 91 := ⟨by decide +kernel, rfl⟩
theorem iX9_strip_91 : ab_at mX9_strip 91 (.getfield 48) 3 94 := ⟨by decide +kernel, rfl⟩
theorem iX9_strip_94 : ab_at mX9_strip 94 (.iload_n 1) 1 95 := ⟨by decide +kernel, rfl⟩
theorem iX9_strip_95 : ab_at mX9_strip 95 (.iaload) 1 96 := ⟨by decide +kernel, rfl⟩
theorem iX9_strip_96 : ab_at mX9_strip 96 (.ireturn) 1 97 := ⟨by decide +kernel, rfl⟩
theorem iX9_strip_97 : ab_at mX9_strip 97 (.aload_n 0) 1 98 := ⟨by decide +kernel, rfl⟩
theorem iX9_strip_98 : ab_at mX9_strip 98 (.getfield 51) 3 101 := ⟨by decide +kernel, rfl⟩
theorem iX9_strip_101 : ab_at mX9_strip 101 (.iload_n 1) 1 102 := ⟨by decide +kernel, rfl⟩
theorem iX9_strip_102 : ab_at mX9_strip 102 (.iaload) 1 103 := ⟨by decide +kernel, rfl⟩
theorem iX9_strip_103 : ab_at mX9_strip 103 (.ireturn) 1 104 := ⟨by decide +kernel, rfl⟩
theorem iX9_strip_104 : ab_at mX9_strip 104 (.aload_n 0) 1 105 := ⟨by decide +kernel, rfl⟩
theorem iX9_strip_105 : ab_at mX9_strip 105 (.iload_n 1) 1 106 := ⟨by decide +kernel, rfl⟩
theorem iX9_strip_106 : ab_at mX9_strip 106 (.invokevirtual 211) 3 109 := ⟨by decide +kernel, rfl⟩
theorem iX9_strip_109 : ab_at mX9_strip 109 (.ireturn) 1 110 := ⟨by decide +kernel, rfl⟩
theorem iX9_strip_110 : ab_at mX9_strip 110 (.aload_n 0) 1 111 := ⟨by decide +kernel, rfl⟩
theorem iX9_strip_111 : ab_at mX9_strip 111 (.iload_n 1) 1 112 := ⟨by decide +kernel, rfl⟩
theorem iX9_strip_112 : ab_at mX9_strip 112 (.invokevirtual 205) 3 115 := ⟨by decide +kernel, rfl⟩
theorem iX9_strip_115 : ab_at mX9_strip 115 (.ireturn) 1 116 := ⟨by decide +kernel, rfl⟩
theorem iX9_strip_116 : ab_at mX9_strip 116 (.aload_n 0) 1 117 := ⟨by decide +kernel, rfl⟩
theorem iX9_strip_117 : ab_at mX9_strip 117 (.invokevirtual 208) 3 120 := ⟨by decide +kernel, rfl⟩
theorem iX9_strip_120 : ab_at mX9_strip 120 (.aload_n 0) 1 121 := ⟨by decide +kernel, rfl⟩
theorem iX9_strip_121 : ab_at mX9_strip 121 (.iload_n 1) 1 122 := ⟨by decide +kernel, rfl⟩
theorem iX9_strip_122 : ab_at mX9_strip 122 (.invokevirtual 214) 3 125 := ⟨by decide +kernel, rfl⟩
theorem iX9_strip_125 : ab_bi mX9_strip 125 .ne 128 146 := ⟨21, by decide +kernel, rfl, by decide⟩
theorem iX9_strip_128 : ab_at mX9_strip 128 (.aload_n 0) 1 129 := ⟨by decide +kernel, rfl⟩
theorem iX9_strip_129 : ab_at mX9_strip 129 (.getfield 51) 3 132 := ⟨by decide +kernel, rfl⟩
theorem iX9_strip_132 : ab_at mX9_strip 132 (.iload_n 1) 1 133 := ⟨by decide +kernel, rfl⟩
theorem iX9_strip_133 : ab_at mX9_strip 133 (.iaload) 1 134 := ⟨by decide +kernel, rfl⟩
theorem iX9_strip_134 : ab_at mX9_strip 134 (.aload_n 0) 1 135 := ⟨by decide +kernel, rfl⟩
theorem iX9_strip_135 : ab_at mX9_strip 135 (.iload_n 1) 1 136 := ⟨by decide +kernel, rfl⟩
theorem iX9_strip_136 : ab_at mX9_strip 136 (.invokevirtual 211) 3 139 := ⟨by decide +kernel, rfl⟩
theorem iX9_strip_139 : ab_bc mX9_strip 139 .ge 142 146 := ⟨7, by decide +kernel, rfl, by decide⟩
theorem iX9_strip_142 : ab_at mX9_strip 142 (.iconst 1) 1 143 := ⟨by decide +kernel, rfl⟩
theorem iX9_strip_143 : ab_bg mX9_strip 143 147 := ⟨4, by decide +kernel, by decide⟩
theorem iX9_strip_146 : ab_at mX9_strip 146 (.iconst 0) 1 147 := ⟨by decide +kernel, rfl⟩
theorem iX9_strip_147 : ab_at mX9_strip 147 (.ireturn) 1 148 := ⟨by decide +kernel, rfl⟩
theorem iX9_isWoven_0 : ab_at mX9_isWoven 0 (.iconst 0) 1 1 := ⟨by decide +kernel, rfl⟩
theorem iX9_isWoven_1 : ab_at mX9_isWoven 1 (.istore_n 3) 1 2 := ⟨by decide +kernel, rfl⟩
theorem iX9_isWoven_2 : ab_at mX9_isWoven 2 (.iload_n 1) 1 3 := ⟨by decide +kernel, rfl⟩
theorem iX9_isWoven_3 : ab_at mX9_isWoven 3 (.aload_n 0) 1 4 := ⟨by decide +kernel, rfl⟩
theorem iX9_isWoven_4 : ab_at mX9_isWoven 4 (.getfield 45) 3 7 := ⟨by decide +kernel, rfl⟩
theorem iX9_isWoven_7 : ab_at mX9_isWoven 7 (.iload_n 3) 1 8 := ⟨by decide +kernel, rfl⟩
theorem iX9_isWoven_8 : ab_at mX9_isWoven 8 (.iaload) 1 9 := ⟨by decide +kernel, rfl⟩
theorem iX9_isWoven_9 : ab_at mX9_isWoven 9 (.aload_n 0) 1 10 := ⟨by decide +kernel, rfl⟩
theorem iX9_isWoven_10 : ab_at mX9_isWoven 10 (.getfield 48) 3 13 := ⟨by decide +kernel, rfl⟩
theorem iX9_isWoven_13 : ab_at mX9_isWoven 13 (.iload_n 3) 1 14 := ⟨by decide +kernel, rfl⟩
theorem iX9_isWoven_14 : ab_at mX9_isWoven 14 (.iaload) 1 15 := ⟨by decide +kernel, rfl⟩
theorem iX9_isWoven_15 : ab_at mX9_isWoven 15 (.iadd) 1 16 := ⟨by decide +kernel, rfl⟩
theorem iX9_isWoven_16 : ab_bc mX9_isWoven 16 .lt 19 25 := ⟨9, by decide +kernel, rfl, by decide⟩
theorem iX9_isWoven_19 : ab_at mX9_isWoven 19 (.iinc 3 1) 3 22 := ⟨by decide +kernel, rfl⟩
theorem iX9_isWoven_22 : ab_bg mX9_isWoven 22 2 := ⟨-20, by decide +kernel, by decide⟩
theorem iX9_isWoven_25 : ab_at mX9_isWoven 25 (.aload_n 0) 1 26 := ⟨by decide +kernel, rfl⟩
theorem iX9_isWoven_26 : ab_at mX9_isWoven 26 (.aload_n 0) 1 27 := ⟨by decide +kernel, rfl⟩
theorem iX9_isWoven_27 : ab_at mX9_isWoven 27 (.getfield 45) 3 30 := ⟨by decide +kernel, rfl⟩
theorem iX9_isWoven_30 : ab_at mX9_isWoven 30 (.iload_n 3) 1 31 := ⟨by decide +kernel, rfl⟩
theorem iX9_isWoven_31 : ab_at mX9_isWoven 31 (.iaload) 1 32 := ⟨by decide +kernel, rfl⟩
theorem iX9_isWoven_32 : ab_at mX9_isWoven 32 (.aload_n 0) 1 33 := ⟨by decide +kernel, rfl⟩
theorem iX9_isWoven_33 : ab_at mX9_isWoven 33 (.getfield 48) 3 36 := ⟨by decide +kernel, rfl⟩
theorem iX9_isWoven_36 : ab_at mX9_isWoven 36 (.iload_n 3) 1 37 := ⟨by decide +kernel, rfl⟩
theorem iX9_isWoven_37 : ab_at mX9_isWoven 37 (.iaload) 1 38 := ⟨by decide +kernel, rfl⟩
theorem iX9_isWoven_38 : ab_at mX9_isWoven 38 (.iload_n 2) 1 39 := ⟨by decide +kernel, rfl⟩
theorem iX9_isWoven_39 : ab_at mX9_isWoven 39 (.invokevirtual 183) 3 42 := ⟨by decide +kernel, rfl⟩
theorem iX9_isWoven_42 : ab_at mX9_isWoven 42 (.istore 4) 2 44 := ⟨by decide +kernel, rfl⟩
theorem iX9_isWoven_44 : ab_at mX9_isWoven 44 (.aload_n 0) 1 45 := ⟨by decide +kernel, rfl⟩
theorem iX9_isWoven_45 : ab_at mX9_isWoven 45 (.getfield 45) 3 48 := ⟨by decide +kernel, rfl⟩
theorem iX9_isWoven_48 : ab_at mX9_isWoven 48 (.iload_n 3) 1 49 := ⟨by decide +kernel, rfl⟩
theorem iX9_isWoven_49 : ab_at mX9_isWoven 49 (.iaload) 1 50 := ⟨by decide +kernel, rfl⟩
theorem iX9_isWoven_50 : ab_at mX9_isWoven 50 (.istore 5) 2 52 := ⟨by decide +kernel, rfl⟩
theorem iX9_isWoven_52 : ab_at mX9_isWoven 52 (.iload 5) 2 54 := ⟨by decide +kernel, rfl⟩
theorem iX9_isWoven_54 : ab_at mX9_isWoven 54 (.iload_n 1) 1 55 := ⟨by decide +kernel, rfl⟩
theorem iX9_isWoven_55 : ab_bc mX9_isWoven 55 .gt 58 76 := ⟨21, by decide +kernel, rfl, by decide⟩
theorem iX9_isWoven_58 : ab_at mX9_isWoven 58 (.iload 4) 2 60 := ⟨by decide +kernel, rfl⟩
theorem iX9_isWoven_60 : ab_at mX9_isWoven 60 (.aload_n 0) 1 61 := ⟨by decide +kernel, rfl⟩
theorem iX9_isWoven_61 : ab_at mX9_isWoven 61 (.iload 5) 2 63 := ⟨by decide +kernel, rfl⟩
theorem iX9_isWoven_63 : ab_at mX9_isWoven 63 (.iload_n 2) 1 64 := ⟨by decide +kernel, rfl⟩
theorem iX9_isWoven_64 : ab_at mX9_isWoven 64 (.invokevirtual 177) 3 67 := ⟨by decide +kernel, rfl⟩
theorem iX9_isWoven_67 : ab_at mX9_isWoven 67 (.iadd) 1 68 := ⟨by decide +kernel, rfl⟩
theorem iX9_isWoven_68 : ab_at mX9_isWoven 68 (.istore 4) 2 70 := ⟨by decide +kernel, rfl⟩
theorem iX9_isWoven_70 : ab_at mX9_isWoven 70 (.iinc 5 1) 3 73 := ⟨by decide +kernel, rfl⟩
theorem iX9_isWoven_73 : ab_bg mX9_isWoven 73 52 := ⟨-21, by decide +kernel, by decide⟩
theorem iX9_isWoven_76 : ab_at mX9_isWoven 76 (.iload 4) 2 78 := ⟨by decide +kernel, rfl⟩
theorem iX9_isWoven_78 : ab_at mX9_isWoven 78 (.aload_n 0) 1 79 := ⟨by decide +kernel, rfl⟩
theorem iX9_isWoven_79 : ab_at mX9_isWoven 79 (.getfield 51) 3 82 := ⟨by decide +kernel, rfl⟩
theorem iX9_isWoven_82 : ab_at mX9_isWoven 82 (.iload_n 3) 1 83 := ⟨by decide +kernel, rfl⟩
theorem iX9_isWoven_83 : ab_at mX9_isWoven 83 (.iaload) 1 84 := ⟨by decide +kernel, rfl⟩
theorem iX9_isWoven_84 : ab_bc mX9_isWoven 84 .gt 87 91 := ⟨7, by decide +kernel, rfl, by decide⟩
theorem iX9_isWoven_87 : ab_at mX9_isWoven 87 (.iconst 1) 1 88 := ⟨by decide +kernel, rfl⟩
theorem iX9_isWoven_88 : ab_bg mX9_isWoven 88 92 := ⟨4, by decide +kernel, by decide⟩
theorem iX9_isWoven_91 : ab_at mX9_isWoven 91 (.iconst 0) 1 92 := ⟨by decide +kernel, rfl⟩
theorem iX9_isWoven_92 : ab_at mX9_isWoven 92 (.ireturn) 1 93 := ⟨by decide +kernel, rfl⟩
theorem iX9_woven_0 : ab_at mX9_woven 0 (.aload_n 0) 1 1 := ⟨by decide +kernel, rfl⟩
theorem iX9_woven_1 : ab_at mX9_woven 1 (.getfield 115) 3 4 := ⟨by decide +kernel, rfl⟩
theorem iX9_woven_4 : ab_bi mX9_woven 4 .ne 7 10 := ⟨6, by decide +kernel, rfl, by decide⟩
theorem iX9_woven_7 : ab_at mX9_woven 7 (.bipush (-3)) 2 9 := ⟨by decide +kernel, rfl⟩
theorem iX9_woven_9 : ab_at mX9_woven 9 (.ireturn) 1 10 := ⟨by decide +kernel, rfl⟩
theorem iX9_woven_10 : ab_at mX9_woven 10 (.aload_n 0) 1 11 := ⟨by decide +kernel, rfl⟩
theorem iX9_woven_11 : ab_at mX9_woven 11 (.iload_n 1) 1 12 := ⟨by decide +kernel, rfl⟩
theorem iX9_woven_12 : ab_at mX9_woven 12 (.iload_n 2) 1 13 := ⟨by decide +kernel, rfl⟩
theorem iX9_woven_13 : ab_at mX9_woven 13 (.invokevirtual 118) 3 16 := ⟨by decide +kernel, rfl⟩
theorem iX9_woven_16 : ab_bi mX9_woven 16 .ne 19 21 := ⟨5, by decide +kernel, rfl, by decide⟩
theorem iX9_woven_19 : ab_at mX9_woven 19 (.iconst (-1)) 1 20 := ⟨by decide +kernel, rfl⟩
theorem iX9_woven_20 : ab_at mX9_woven 20 (.ireturn) 1 21 := ⟨by decide +kernel, rfl⟩
theorem iX9_woven_21 : ab_at mX9_woven 21 (.aload_n 0) 1 22 := ⟨by decide +kernel, rfl⟩
theorem iX9_woven_22 : ab_at mX9_woven 22 (.iload_n 1) 1 23 := ⟨by decide +kernel, rfl⟩
theorem iX9_woven_23 : ab_at mX9_woven 23 (.iload_n 2) 1 24 := ⟨by decide +kernel, rfl⟩
theorem iX9_woven_24 : ab_at mX9_woven 24 (.invokevirtual 217) 3 27 := ⟨by decide +kernel, rfl⟩
theorem iX9_woven_27 : ab_bi mX9_woven 27 .eq 30 34 := ⟨7, by decide +kernel, rfl, by decide⟩
theorem iX9_woven_30 : ab_at mX9_woven 30 (.iconst 1) 1 31 := ⟨by decide +kernel, rfl⟩
theorem iX9_woven_31 : ab_bg mX9_woven 31 35 := ⟨4, by decide +kernel, by decide⟩
theorem iX9_woven_34 : ab_at mX9_woven 34 (.iconst 0) 1 35 := ⟨by decide +kernel, rfl⟩
theorem iX9_woven_35 : ab_at mX9_woven 35 (.ireturn) 1 36 := ⟨by decide +kernel, rfl⟩
theorem iX9_unweave_0 : ab_at mX9_unweave 0 (.aload_n 0) 1 1 := ⟨by decide +kernel, rfl⟩
theorem iX9_unweave_1 : ab_at mX9_unweave 1 (.getfield 115) 3 4 := ⟨by decide +kernel, rfl⟩
theorem iX9_unweave_4 : ab_bi mX9_unweave 4 .ne 7 10 := ⟨6, by decide +kernel, rfl, by decide⟩
theorem iX9_unweave_7 : ab_at mX9_unweave 7 (.bipush (-3)) 2 9 := ⟨by decide +kernel, rfl⟩
theorem iX9_unweave_9 : ab_at mX9_unweave 9 (.ireturn) 1 10 := ⟨by decide +kernel, rfl⟩
theorem iX9_unweave_10 : ab_at mX9_unweave 10 (.iload_n 1) 1 11 := ⟨by decide +kernel, rfl⟩
theorem iX9_unweave_11 : ab_at mX9_unweave 11 (.iconst 0) 1 12 := ⟨by decide +kernel, rfl⟩
theorem iX9_unweave_12 : ab_at mX9_unweave 12 (.aload_n 0) 1 13 := ⟨by decide +kernel, rfl⟩
theorem iX9_unweave_13 : ab_at mX9_unweave 13 (.getfield 115) 3 16 := ⟨by decide +kernel, rfl⟩
theorem iX9_unweave_16 : ab_at mX9_unweave 16 (.iconst 1) 1 17 := ⟨by decide +kernel, rfl⟩
theorem iX9_unweave_17 : ab_at mX9_unweave 17 (.isub) 1 18 := ⟨by decide +kernel, rfl⟩
theorem iX9_unweave_18 : ab_at mX9_unweave 18 (.invokestatic 111) 3 21 := ⟨by decide +kernel, rfl⟩
theorem iX9_unweave_21 : ab_bi mX9_unweave 21 .eq 24 38 := ⟨17, by decide +kernel, rfl, by decide⟩
theorem iX9_unweave_24 : ab_at mX9_unweave 24 (.iload_n 2) 1 25 := ⟨by decide +kernel, rfl⟩
theorem iX9_unweave_25 : ab_at mX9_unweave 25 (.iconst 0) 1 26 := ⟨by decide +kernel, rfl⟩
theorem iX9_unweave_26 : ab_at mX9_unweave 26 (.aload_n 0) 1 27 := ⟨by decide +kernel, rfl⟩
theorem iX9_unweave_27 : ab_at mX9_unweave 27 (.getfield 13) 3 30 := ⟨by decide +kernel, rfl⟩
theorem iX9_unweave_30 : ab_at mX9_unweave 30 (.iconst 1) 1 31 := ⟨by decide +kernel, rfl⟩
theorem iX9_unweave_31 : ab_at mX9_unweave 31 (.isub) 1 32 := ⟨by decide +kernel, rfl⟩
theorem iX9_unweave_32 : ab_at mX9_unweave 32 (.invokestatic 111) 3 35 := ⟨by decide +kernel, rfl⟩
theorem iX9_unweave_35 : ab_bi mX9_unweave 35 .ne 38 40 := ⟨5, by decide +kernel, rfl, by decide⟩
theorem iX9_unweave_38 : ab_at mX9_unweave 38 (.iconst (-1)) 1 39 := ⟨by decide +kernel, rfl⟩
theorem iX9_unweave_39 : ab_at mX9_unweave 39 (.ireturn) 1 40 := ⟨by decide +kernel, rfl⟩
theorem iX9_unweave_40 : ab_at mX9_unweave 40 (.aload_n 0) 1 41 := ⟨by decide +kernel, rfl⟩
theorem iX9_unweave_41 : ab_at mX9_unweave 41 (.aload_n 0) 1 42 := ⟨by decide +kernel, rfl⟩
theorem iX9_unweave_42 : ab_at mX9_unweave 42 (.getfield 45) 3 45 := ⟨by decide +kernel, rfl⟩
theorem iX9_unweave_45 : ab_at mX9_unweave 45 (.iload_n 1) 1 46 := ⟨by decide +kernel, rfl⟩
theorem iX9_unweave_46 : ab_at mX9_unweave 46 (.iaload) 1 47 := ⟨by decide +kernel, rfl⟩
theorem iX9_unweave_47 : ab_at mX9_unweave 47 (.aload_n 0) 1 48 := ⟨by decide +kernel, rfl⟩
theorem iX9_unweave_48 : ab_at mX9_unweave 48 (.getfield 48) 3 51 := ⟨by decide +kernel, rfl⟩
theorem iX9_unweave_51 : ab_at mX9_unweave 51 (.iload_n 1) 1 52 := ⟨by decide +kernel, rfl⟩
theorem iX9_unweave_52 : ab_at mX9_unweave 52 (.iaload) 1 53 := ⟨by decide +kernel, rfl⟩
theorem iX9_unweave_53 : ab_at mX9_unweave 53 (.iload_n 2) 1 54 := ⟨by decide +kernel, rfl⟩
theorem iX9_unweave_54 : ab_at mX9_unweave 54 (.invokevirtual 183) 3 57 := ⟨by decide +kernel, rfl⟩
theorem iX9_unweave_57 : ab_at mX9_unweave 57 (.istore_n 3) 1 58 := ⟨by decide +kernel, rfl⟩
theorem iX9_unweave_58 : ab_at mX9_unweave 58 (.aload_n 0) 1 59 := ⟨by decide +kernel, rfl⟩
theorem iX9_unweave_59 : ab_at mX9_unweave 59 (.getfield 51) 3 62 := ⟨by decide +kernel, rfl⟩
theorem iX9_unweave_62 : ab_at mX9_unweave 62 (.iload_n 1) 1 63 := ⟨by decide +kernel, rfl⟩
theorem iX9_unweave_63 : ab_at mX9_unweave 63 (.iaload) 1 64 := ⟨by decide +kernel, rfl⟩
theorem iX9_unweave_64 : ab_at mX9_unweave 64 (.iload_n 3) 1 65 := ⟨by decide +kernel, rfl⟩
theorem iX9_unweave_65 : ab_bc mX9_unweave 65 .le 68 79 := ⟨14, by decide +kernel, rfl, by decide⟩
theorem iX9_unweave_68 : ab_at mX9_unweave 68 (.aload_n 0) 1 69 := ⟨by decide +kernel, rfl⟩
theorem iX9_unweave_69 : ab_at mX9_unweave 69 (.getfield 51) 3 72 := ⟨by decide +kernel, rfl⟩
theorem iX9_unweave_72 : ab_at mX9_unweave 72 (.iload_n 1) 1 73 := ⟨by decide +kernel, rfl⟩
theorem iX9_unweave_73 : ab_at mX9_unweave 73 (.iaload) 1 74 := ⟨by decide +kernel, rfl⟩
theorem iX9_unweave_74 : ab_at mX9_unweave 74 (.iload_n 3) 1 75 := ⟨by decide +kernel, rfl⟩
theorem iX9_unweave_75 : ab_at mX9_unweave 75 (.isub) 1 76 := ⟨by decide +kernel, rfl⟩
theorem iX9_unweave_76 : ab_bg mX9_unweave 76 80 := ⟨4, by decide +kernel, by decide⟩
theorem iX9_unweave_79 : ab_at mX9_unweave 79 (.iconst 0) 1 80 := ⟨by decide +kernel, rfl⟩
theorem iX9_unweave_80 : ab_at mX9_unweave 80 (.istore 4) 2 82 := ⟨by decide +kernel, rfl⟩
theorem iX9_unweave_82 : ab_at mX9_unweave 82 (.aload_n 0) 1 83 := ⟨by decide +kernel, rfl⟩
theorem iX9_unweave_83 : ab_at mX9_unweave 83 (.getfield 51) 3 86 := ⟨by decide +kernel, rfl⟩
theorem iX9_unweave_86 : ab_at mX9_unweave 86 (.iload_n 1) 1 87 := ⟨by decide +kernel, rfl⟩
theorem iX9_unweave_87 : ab_at mX9_unweave 87 (.dup2) 1 88 := ⟨by decide +kernel, rfl⟩
theorem iX9_unweave_88 : ab_at mX9_unweave 88 (.iaload) 1 89 := ⟨by decide +kernel, rfl⟩
theorem iX9_unweave_89 : ab_at mX9_unweave 89 (.iload 4) 2 91 := ⟨by decide +kernel, rfl⟩
theorem iX9_unweave_91 : ab_at mX9_unweave 91 (.isub) 1 92 := ⟨by decide +kernel, rfl⟩
theorem iX9_unweave_92 : ab_at mX9_unweave 92 (.iastore) 1 93 := ⟨by decide +kernel, rfl⟩
theorem iX9_unweave_93 : ab_at mX9_unweave 93 (.iload 4) 2 95 := ⟨by decide +kernel, rfl⟩
theorem iX9_unweave_95 : ab_at mX9_unweave 95 (.ireturn) 1 96 := ⟨by decide +kernel, rfl⟩
theorem iX9_manyWoven_0 : ab_at mX9_manyWoven 0 (.iconst 0) 1 1 := ⟨by decide +kernel, rfl⟩
theorem iX9_manyWoven_1 : ab_at mX9_manyWoven 1 (.istore_n 1) 1 2 := ⟨by decide +kernel, rfl⟩
theorem iX9_manyWoven_2 : ab_at mX9_manyWoven 2 (.iconst 0) 1 3 := ⟨by decide +kernel, rfl⟩
theorem iX9_manyWoven_3 : ab_at mX9_manyWoven 3 (.istore_n 2) 1 4 := ⟨by decide +kernel, rfl⟩
theorem iX9_manyWoven_4 : ab_at mX9_manyWoven 4 (.iload_n 2) 1 5 := ⟨by decide +kernel, rfl⟩
theorem iX9_manyWoven_5 : ab_at mX9_manyWoven 5 (.aload_n 0) 1 6 := ⟨by decide +kernel, rfl⟩
theorem iX9_manyWoven_6 : ab_at mX9_manyWoven 6 (.getfield 13) 3 9 := ⟨by decide +kernel, rfl⟩
theorem iX9_manyWoven_9 : ab_bc mX9_manyWoven 9 .ge 12 58 := ⟨49, by decide +kernel, rfl, by decide⟩
theorem iX9_manyWoven_12 : ab_at mX9_manyWoven 12 (.aload_n 0) 1 13 := ⟨by decide +kernel, rfl⟩
theorem iX9_manyWoven_13 : ab_at mX9_manyWoven 13 (.getfield 115) 3 16 := ⟨by decide +kernel, rfl⟩
theorem iX9_manyWoven_16 : ab_bi mX9_manyWoven 16 .le 19 58 := ⟨42, by decide +kernel, rfl, by decide⟩
theorem iX9_manyWoven_19 : ab_at mX9_manyWoven 19 (.iconst 0) 1 20 := ⟨by decide +kernel, rfl⟩
theorem iX9_manyWoven_20 : ab_at mX9_manyWoven 20 (.istore_n 3) 1 21 := ⟨by decide +kernel, rfl⟩
theorem iX9_manyWoven_21 : ab_at mX9_manyWoven 21 (.iload_n 3) 1 22 := ⟨by decide +kernel, rfl⟩
theorem iX9_manyWoven_22 : ab_at mX9_manyWoven 22 (.aload_n 0) 1 23 := ⟨by decide +kernel, rfl⟩
theorem iX9_manyWoven_23 : ab_at mX9_manyWoven 23 (.getfield 7) 3 26 := ⟨by decide +kernel, rfl⟩
theorem iX9_manyWoven_26 : ab_bc mX9_manyWoven 26 .ge 29 52 := ⟨26, by decide +kernel, rfl, by decide⟩
theorem iX9_manyWoven_29 : ab_at mX9_manyWoven 29 (.iload_n 1) 1 30 := ⟨by decide +kernel, rfl⟩
theorem iX9_manyWoven_30 : ab_at mX9_manyWoven 30 (.aload_n 0) 1 31 := ⟨by decide +kernel, rfl⟩
theorem iX9_manyWoven_31 : ab_at mX9_manyWoven 31 (.iload_n 3) 1 32 := ⟨by decide +kernel, rfl⟩
theorem iX9_manyWoven_32 : ab_at mX9_manyWoven 32 (.iload_n 2) 1 33 := ⟨by decide +kernel, rfl⟩
theorem iX9_manyWoven_33 : ab_at mX9_manyWoven 33 (.invokevirtual 217) 3 36 := ⟨by decide +kernel, rfl⟩
theorem iX9_manyWoven_36 : ab_bi mX9_manyWoven 36 .eq 39 43 := ⟨7, by decide +kernel, rfl, by decide⟩
theorem iX9_manyWoven_39 : ab_at mX9_manyWoven 39 (.iconst 1) 1 40 := ⟨by decide +kernel, rfl⟩
theorem iX9_manyWoven_40 : ab_bg mX9_manyWoven 40 44 := ⟨4, by decide +kernel, by decide⟩
theorem iX9_manyWoven_43 : ab_at mX9_manyWoven 43 (.iconst 0) 1 44 := ⟨by decide +kernel, rfl⟩
theorem iX9_manyWoven_44 : ab_at mX9_manyWoven 44 (.iadd) 1 45 := ⟨by decide +kernel, rfl⟩
theorem iX9_manyWoven_45 : ab_at mX9_manyWoven 45 (.istore_n 1) 1 46 := ⟨by decide +kernel, rfl⟩
theorem iX9_manyWoven_46 : ab_at mX9_manyWoven 46 (.iinc 3 1) 3 49 := ⟨by decide +kernel, rfl⟩
theorem iX9_manyWoven_49 : ab_bg mX9_manyWoven 49 21 := ⟨-28, by decide +kernel, by decide⟩
theorem iX9_manyWoven_52 : ab_at mX9_manyWoven 52 (.iinc 2 1) 3 55 := ⟨by decide +kernel, rfl⟩
theorem iX9_manyWoven_55 : ab_bg mX9_manyWoven 55 4 := ⟨-51, by decide +kernel, by decide⟩
theorem iX9_manyWoven_58 : ab_at mX9_manyWoven 58 (.iload_n 1) 1 59 := ⟨by decide +kernel, rfl⟩
theorem iX9_manyWoven_59 : ab_at mX9_manyWoven 59 (.ireturn) 1 60 := ⟨by decide +kernel, rfl⟩
theorem iX9_manyFaces_0 : ab_at mX9_manyFaces 0 (.iconst 0) 1 1 := ⟨by decide +kernel, rfl⟩
theorem iX9_manyFaces_1 : ab_at mX9_manyFaces 1 (.istore_n 1) 1 2 := ⟨by decide +kernel, rfl⟩
theorem iX9_manyFaces_2 : ab_at mX9_manyFaces 2 (.iconst 0) 1 3 := ⟨by decide +kernel, rfl⟩
theorem iX9_manyFaces_3 : ab_at mX9_manyFaces 3 (.istore_n 2) 1 4 := ⟨by decide +kernel, rfl⟩
theorem iX9_manyFaces_4 : ab_at mX9_manyFaces 4 (.iload_n 2) 1 5 := ⟨by decide +kernel, rfl⟩
theorem iX9_manyFaces_5 : ab_at mX9_manyFaces 5 (.bipush 120) 2 7 := ⟨by decide +kernel, rfl⟩
theorem iX9_manyFaces_7 : ab_bc mX9_manyFaces 7 .ge 10 33 := ⟨26, by decide +kernel, rfl, by decide⟩
theorem iX9_manyFaces_10 : ab_at mX9_manyFaces 10 (.iload_n 1) 1 11 := ⟨by decide +kernel, rfl⟩
theorem iX9_manyFaces_11 : ab_at mX9_manyFaces 11 (.aload_n 0) 1 12 := ⟨by decide +kernel, rfl⟩
theorem iX9_manyFaces_12 : ab_at mX9_manyFaces 12 (.getfield 20) 3 15 := ⟨by decide +kernel, rfl⟩
theorem iX9_manyFaces_15 : ab_at mX9_manyFaces 15 (.iload_n 2) 1 16 := ⟨by decide +kernel, rfl⟩
theorem iX9_manyFaces_16 : ab_at mX9_manyFaces 16 (.baload) 1 17 := ⟨by decide +kernel, rfl⟩
theorem iX9_manyFaces_17 : ab_bi mX9_manyFaces 17 .eq 20 24 := ⟨7, by decide +kernel, rfl, by decide⟩
theorem iX9_manyFaces_20 : ab_at mX9_manyFaces 20 (.iconst 1) 1 21 := ⟨by decide +kernel, rfl⟩
theorem iX9_manyFaces_21 : ab_bg mX9_manyFaces 21 25 := ⟨4, by decide +kernel, by decide⟩
theorem iX9_manyFaces_24 : ab_at mX9_manyFaces 24 (.iconst 0) 1 25 := ⟨by decide +kernel, rfl⟩
theorem iX9_manyFaces_25 : ab_at mX9_manyFaces 25 (.iadd) 1 26 := ⟨by decide +kernel, rfl⟩
theorem iX9_manyFaces_26 : ab_at mX9_manyFaces 26 (.istore_n 1) 1 27 := ⟨by decide +kernel, rfl⟩
theorem iX9_manyFaces_27 : ab_at mX9_manyFaces 27 (.iinc 2 1) 3 30 := ⟨by decide +kernel, rfl⟩
theorem iX9_manyFaces_30 : ab_bg mX9_manyFaces 30 4 := ⟨-26, by decide +kernel, by decide⟩
theorem iX9_manyFaces_33 : ab_at mX9_manyFaces 33 (.iload_n 1) 1 34 := ⟨by decide +kernel, rfl⟩
theorem iX9_manyFaces_34 : ab_at mX9_manyFaces 34 (.ireturn) 1 35 := ⟨by decide +kernel, rfl⟩
theorem iX9_many_0 : ab_at mX9_many 0 (.iload_n 1) 1 1 := ⟨by decide +kernel, rfl⟩
theorem iX9_many_1 : decode mX9_many.2.1 1 = .ok (.tableswitch 111 0 8 #[51, 56, 61, 70, 75, 80, 85, 90, 106], 51) := by decide +kernel
theorem iX9_many_52 : ab_at mX9_many 52 (.aload_n 0) 1 53 := ⟨by decide +kernel, rfl⟩
theorem iX9_many_53 : ab_at mX9_many 53 (.getfield 7) 3 56 := ⟨by decide +kernel, rfl⟩
theorem iX9_many_56 : ab_at mX9_many 56 (.ireturn) 1 57 := ⟨by decide +kernel, rfl⟩
theorem iX9_many_57 : ab_at mX9_many 57 (.aload_n 0) 1 58 := ⟨by decide +kernel, rfl⟩
theorem iX9_many_58 : ab_at mX9_many 58 (.getfield 13) 3 61 := ⟨by decide +kernel, rfl⟩
theorem iX9_many_61 : ab_at mX9_many 61 (.ireturn) 1 62 := ⟨by decide +kernel, rfl⟩
theorem iX9_many_62 : ab_at mX9_many 62 (.aload_n 0) 1 63 := ⟨by decide +kernel, rfl⟩
theorem iX9_many_63 : ab_at mX9_many 63 (.invokevirtual 149) 3 66 := ⟨by decide +kernel, rfl⟩
theorem iX9_many_66 : ab_at mX9_many 66 (.aload_n 0) 1 67 := ⟨by decide +kernel, rfl⟩
theorem iX9_many_67 : ab_at mX9_many 67 (.getfield 143) 3 70 := ⟨by decide +kernel, rfl⟩
theorem iX9_many_70 : ab_at mX9_many 70 (.ireturn) 1 71 := ⟨by decide +kernel, rfl⟩
theorem iX9_many_71 : ab_at mX9_many 71 (.aload_n 0) 1 72 := ⟨by decide +kernel, rfl⟩
theorem iX9_many_72 : ab_at mX9_many 72 (.getfield 152) 3 75 := ⟨by decide +kernel, rfl⟩
theorem iX9_many_75 : ab_at mX9_many 75 (.ireturn) 1 76 := ⟨by decide +kernel, rfl⟩
theorem iX9_many_76 : ab_at mX9_many 76 (.aload_n 0) 1 77 := ⟨by decide +kernel, rfl⟩
theorem iX9_many_77 : ab_at mX9_many 77 (.getfield 174) 3 80 := ⟨by decide +kernel, rfl⟩
theorem iX9_many_80 : ab_at mX9_many 80 (.ireturn) 1 81 := ⟨by decide +kernel, rfl⟩
theorem iX9_many_81 : ab_at mX9_many 81 (.aload_n 0) 1 82 := ⟨by decide +kernel, rfl⟩
theorem iX9_many_82 : ab_at mX9_many 82 (.getfield 115) 3 85 := ⟨by decide +kernel, rfl⟩
theorem iX9_many_85 : ab_at mX9_many 85 (.ireturn) 1 86 := ⟨by decide +kernel, rfl⟩
theorem iX9_many_86 : ab_at mX9_many 86 (.aload_n 0) 1 87 := ⟨by decide +kernel, rfl⟩
theorem iX9_many_87 : ab_at mX9_many 87 (.invokevirtual 220) 3 90 := ⟨by decide +kernel, rfl⟩
theorem iX9_many_90 : ab_at mX9_many 90 (.ireturn) 1 91 := ⟨by decide +kernel, rfl⟩
theorem iX9_many_91 : ab_at mX9_many 91 (.aload_n 0) 1 92 := ⟨by decide +kernel, rfl⟩
theorem iX9_many_92 : ab_at mX9_many 92 (.getfield 115) 3 95 := ⟨by decide +kernel, rfl⟩
theorem iX9_many_95 : ab_bi mX9_many 95 .ne 98 102 := ⟨7, by decide +kernel, rfl, by decide⟩
theorem iX9_many_98 : ab_at mX9_many 98 (.iconst 0) 1 99 := ⟨by decide +kernel, rfl⟩
theorem iX9_many_99 : ab_bg mX9_many 99 106 := ⟨7, by decide +kernel, by decide⟩
theorem iX9_many_102 : ab_at mX9_many 102 (.aload_n 0) 1 103 := ⟨by decide +kernel, rfl⟩
theorem iX9_many_103 : ab_at mX9_many 103 (.getfield 202) 3 106 := ⟨by decide +kernel, rfl⟩
theorem iX9_many_106 : ab_at mX9_many 106 (.ireturn) 1 107 := ⟨by decide +kernel, rfl⟩
theorem iX9_many_107 : ab_at mX9_many 107 (.aload_n 0) 1 108 := ⟨by decide +kernel, rfl⟩
theorem iX9_many_108 : ab_at mX9_many 108 (.invokevirtual 224) 3 111 := ⟨by decide +kernel, rfl⟩
theorem iX9_many_111 : ab_at mX9_many 111 (.ireturn) 1 112 := ⟨by decide +kernel, rfl⟩
theorem iX9_many_112 : ab_at mX9_many 112 (.iconst (-1)) 1 113 := ⟨by decide +kernel, rfl⟩
theorem iX9_many_113 : ab_at mX9_many 113 (.ireturn) 1 114 := ⟨by decide +kernel, rfl⟩
theorem iX9_keep_0 : ab_at mX9_keep 0 (.aload_n 0) 1 1 := ⟨by decide +kernel, rfl⟩
theorem iX9_keep_1 : ab_at mX9_keep 1 (.iconst 1) 1 2 := ⟨by decide +kernel, rfl⟩
theorem iX9_keep_2 : ab_at mX9_keep 2 (.putfield 227) 3 5 := ⟨by decide +kernel, rfl⟩
theorem iX9_keep_5 : ab_at mX9_keep 5 (.aload_n 0) 1 6 := ⟨by decide +kernel, rfl⟩
theorem iX9_keep_6 : ab_at mX9_keep 6 (.getfield 54) 3 9 := ⟨by decide +kernel, rfl⟩
theorem iX9_keep_9 : ab_at mX9_keep 9 (.iconst 0) 1 10 := ⟨by decide +kernel, rfl⟩
theorem iX9_keep_10 : ab_at mX9_keep 10 (.aload_n 0) 1 11 := ⟨by decide +kernel, rfl⟩
theorem iX9_keep_11 : ab_at mX9_keep 11 (.getfield 7) 3 14 := ⟨by decide +kernel, rfl⟩
theorem iX9_keep_14 : ab_at mX9_keep 14 (.iastore) 1 15 := ⟨by decide +kernel, rfl⟩
theorem iX9_keep_15 : ab_at mX9_keep 15 (.aload_n 0) 1 16 := ⟨by decide +kernel, rfl⟩
theorem iX9_keep_16 : ab_at mX9_keep 16 (.getfield 54) 3 19 := ⟨by decide +kernel, rfl⟩
theorem iX9_keep_19 : ab_at mX9_keep 19 (.iconst 1) 1 20 := ⟨by decide +kernel, rfl⟩
theorem iX9_keep_20 : ab_at mX9_keep 20 (.aload_n 0) 1 21 := ⟨by decide +kernel, rfl⟩
theorem iX9_keep_21 : ab_at mX9_keep 21 (.getfield 13) 3 24 := ⟨by decide +kernel, rfl⟩
theorem iX9_keep_24 : ab_at mX9_keep 24 (.iastore) 1 25 := ⟨by decide +kernel, rfl⟩
theorem iX9_keep_25 : ab_at mX9_keep 25 (.aload_n 0) 1 26 := ⟨by decide +kernel, rfl⟩
theorem iX9_keep_26 : ab_at mX9_keep 26 (.getfield 54) 3 29 := ⟨by decide +kernel, rfl⟩
theorem iX9_keep_29 : ab_at mX9_keep 29 (.iconst 2) 1 30 := ⟨by decide +kernel, rfl⟩
theorem iX9_keep_30 : ab_at mX9_keep 30 (.aload_n 0) 1 31 := ⟨by decide +kernel, rfl⟩
theorem iX9_keep_31 : ab_at mX9_keep 31 (.getfield 152) 3 34 := ⟨by decide +kernel, rfl⟩
theorem iX9_keep_34 : ab_at mX9_keep 34 (.iastore) 1 35 := ⟨by decide +kernel, rfl⟩
theorem iX9_keep_35 : ab_at mX9_keep 35 (.aload_n 0) 1 36 := ⟨by decide +kernel, rfl⟩
theorem iX9_keep_36 : ab_at mX9_keep 36 (.getfield 54) 3 39 := ⟨by decide +kernel, rfl⟩
theorem iX9_keep_39 : ab_at mX9_keep 39 (.iconst 3) 1 40 := ⟨by decide +kernel, rfl⟩
theorem iX9_keep_40 : ab_at mX9_keep 40 (.aload_n 0) 1 41 := ⟨by decide +kernel, rfl⟩
theorem iX9_keep_41 : ab_at mX9_keep 41 (.getfield 174) 3 44 := ⟨by decide +kernel, rfl⟩
theorem iX9_keep_44 : ab_at mX9_keep 44 (.iastore) 1 45 := ⟨by decide +kernel, rfl⟩
theorem iX9_keep_45 : ab_at mX9_keep 45 (.aload_n 0) 1 46 := ⟨by decide +kernel, rfl⟩
theorem iX9_keep_46 : ab_at mX9_keep 46 (.getfield 54) 3 49 := ⟨by decide +kernel, rfl⟩
theorem iX9_keep_49 : ab_at mX9_keep 49 (.iconst 4) 1 50 := ⟨by decide +kernel, rfl⟩
theorem iX9_keep_50 : ab_at mX9_keep 50 (.aload_n 0) 1 51 := ⟨by decide +kernel, rfl⟩
theorem iX9_keep_51 : ab_at mX9_keep 51 (.getfield 115) 3 54 := ⟨by decide +kernel, rfl⟩
theorem iX9_keep_54 : ab_at mX9_keep 54 (.iastore) 1 55 := ⟨by decide +kernel, rfl⟩
theorem iX9_keep_55 : ab_at mX9_keep 55 (.aload_n 0) 1 56 := ⟨by decide +kernel, rfl⟩
theorem iX9_keep_56 : ab_at mX9_keep 56 (.getfield 54) 3 59 := ⟨by decide +kernel, rfl⟩
theorem iX9_keep_59 : ab_at mX9_keep 59 (.iconst 5) 1 60 := ⟨by decide +kernel, rfl⟩
theorem iX9_keep_60 : ab_at mX9_keep 60 (.aload_n 0) 1 61 := ⟨by decide +kernel, rfl⟩
theorem iX9_keep_61 : ab_at mX9_keep 61 (.getfield 202) 3 64 := ⟨by decide +kernel, rfl⟩
theorem iX9_keep_64 : ab_at mX9_keep 64 (.iastore) 1 65 := ⟨by decide +kernel, rfl⟩
theorem iX9_keep_65 : ab_at mX9_keep 65 (.iconst 0) 1 66 := ⟨by decide +kernel, rfl⟩
theorem iX9_keep_66 : ab_at mX9_keep 66 (.istore_n 1) 1 67 := ⟨by decide +kernel, rfl⟩
theorem iX9_keep_67 : ab_at mX9_keep 67 (.iload_n 1) 1 68 := ⟨by decide +kernel, rfl⟩
theorem iX9_keep_68 : ab_at mX9_keep 68 (.bipush 120) 2 70 := ⟨by decide +kernel, rfl⟩
theorem iX9_keep_70 : ab_bc mX9_keep 70 .ge 73 90 := ⟨20, by decide +kernel, rfl, by decide⟩
theorem iX9_keep_73 : ab_at mX9_keep 73 (.aload_n 0) 1 74 := ⟨by decide +kernel, rfl⟩
theorem iX9_keep_74 : ab_at mX9_keep 74 (.getfield 57) 3 77 := ⟨by decide +kernel, rfl⟩
theorem iX9_keep_77 : ab_at mX9_keep 77 (.iload_n 1) 1 78 := ⟨by decide +kernel, rfl⟩
theorem iX9_keep_78 : ab_at mX9_keep 78 (.aload_n 0) 1 79 := ⟨by decide +kernel, rfl⟩
theorem iX9_keep_79 : ab_at mX9_keep 79 (.iload_n 1) 1 80 := ⟨by decide +kernel, rfl⟩
theorem iX9_keep_80 : ab_at mX9_keep 80 (.invokevirtual 126) 3 83 := ⟨by decide +kernel, rfl⟩
theorem iX9_keep_83 : ab_at mX9_keep 83 (.iastore) 1 84 := ⟨by decide +kernel, rfl⟩
theorem iX9_keep_84 : ab_at mX9_keep 84 (.iinc 1 1) 3 87 := ⟨by decide +kernel, rfl⟩
theorem iX9_keep_87 : ab_bg mX9_keep 87 67 := ⟨-20, by decide +kernel, by decide⟩
theorem iX9_keep_90 : ab_at mX9_keep 90 (.iconst 0) 1 91 := ⟨by decide +kernel, rfl⟩
theorem iX9_keep_91 : ab_at mX9_keep 91 (.istore_n 1) 1 92 := ⟨by decide +kernel, rfl⟩
theorem iX9_keep_92 : ab_at mX9_keep 92 (.iload_n 1) 1 93 := ⟨by decide +kernel, rfl⟩
theorem iX9_keep_93 : ab_at mX9_keep 93 (.bipush 12) 2 95 := ⟨by decide +kernel, rfl⟩
theorem iX9_keep_95 : ab_bc mX9_keep 95 .ge 98 131 := ⟨36, by decide +kernel, rfl, by decide⟩
theorem iX9_keep_98 : ab_at mX9_keep 98 (.aload_n 0) 1 99 := ⟨by decide +kernel, rfl⟩
theorem iX9_keep_99 : ab_at mX9_keep 99 (.getfield 60) 3 102 := ⟨by decide +kernel, rfl⟩
theorem iX9_keep_102 : ab_at mX9_keep 102 (.iload_n 1) 1 103 := ⟨by decide +kernel, rfl⟩
theorem iX9_keep_103 : ab_at mX9_keep 103 (.aload_n 0) 1 104 := ⟨by decide +kernel, rfl⟩
theorem iX9_keep_104 : ab_at mX9_keep 104 (.getfield 24) 3 107 := ⟨by decide +kernel, rfl⟩
theorem iX9_keep_107 : ab_at mX9_keep 107 (.iload_n 1) 1 108 := ⟨by decide +kernel, rfl⟩
theorem iX9_keep_108 : ab_at mX9_keep 108 (.iaload) 1 109 := ⟨by decide +kernel, rfl⟩
theorem iX9_keep_109 : ab_at mX9_keep 109 (.iastore) 1 110 := ⟨by decide +kernel, rfl⟩
theorem iX9_keep_110 : ab_at mX9_keep 110 (.aload_n 0) 1 111 := ⟨by decide +kernel, rfl⟩
theorem iX9_keep_111 : ab_at mX9_keep 111 (.getfield 60) 3 114 := ⟨by decide +kernel, rfl⟩
theorem iX9_keep_114 : ab_at mX9_keep 114 (.bipush 12) 2 116 := ⟨by decide +kernel, rfl⟩
theorem iX9_keep_116 : ab_at mX9_keep 116 (.iload_n 1) 1 117 := ⟨by decide +kernel, rfl⟩
theorem iX9_keep_117 : ab_at mX9_keep 117 (.iadd) 1 118 := ⟨by decide +kernel, rfl⟩
theorem iX9_keep_118 : ab_at mX9_keep 118 (.aload_n 0) 1 119 := ⟨by decide +kernel, rfl⟩
theorem iX9_keep_119 : ab_at mX9_keep 119 (.getfield 27) 3 122 := ⟨by decide +kernel, rfl⟩
theorem iX9_keep_122 : ab_at mX9_keep 122 (.iload_n 1) 1 123 := ⟨by decide +kernel, rfl⟩
theorem iX9_keep_123 : ab_at mX9_keep 123 (.iaload) 1 124 := ⟨by decide +kernel, rfl⟩
theorem iX9_keep_124 : ab_at mX9_keep 124 (.iastore) 1 125 := ⟨by decide +kernel, rfl⟩
theorem iX9_keep_125 : ab_at mX9_keep 125 (.iinc 1 1) 3 128 := ⟨by decide +kernel, rfl⟩
theorem iX9_keep_128 : ab_bg mX9_keep 128 92 := ⟨-36, by decide +kernel, by decide⟩
theorem iX9_keep_131 : ab_at mX9_keep 131 (.iconst 0) 1 132 := ⟨by decide +kernel, rfl⟩
theorem iX9_keep_132 : ab_at mX9_keep 132 (.istore_n 1) 1 133 := ⟨by decide +kernel, rfl⟩
theorem iX9_keep_133 : ab_at mX9_keep 133 (.iload_n 1) 1 134 := ⟨by decide +kernel, rfl⟩
theorem iX9_keep_134 : ab_at mX9_keep 134 (.iconst 4) 1 135 := ⟨by decide +kernel, rfl⟩
theorem iX9_keep_135 : ab_bc mX9_keep 135 .ge 138 234 := ⟨99, by decide +kernel, rfl, by decide⟩
theorem iX9_keep_138 : ab_at mX9_keep 138 (.aload_n 0) 1 139 := ⟨by decide +kernel, rfl⟩
theorem iX9_keep_139 : ab_at mX9_keep 139 (.getfield 63) 3 142 := ⟨by decide +kernel, rfl⟩
theorem iX9_keep_142 : ab_at mX9_keep 142 (.iload_n 1) 1 143 := ⟨by decide +kernel, rfl⟩
theorem iX9_keep_143 : ab_at mX9_keep 143 (.aload_n 0) 1 144 := ⟨by decide +kernel, rfl⟩
theorem iX9_keep_144 : ab_at mX9_keep 144 (.getfield 30) 3 147 := ⟨by decide +kernel, rfl⟩
theorem iX9_keep_147 : ab_at mX9_keep 147 (.iload_n 1) 1 148 := ⟨by decide +kernel, rfl⟩
theorem iX9_keep_148 : ab_at mX9_keep 148 (.iaload) 1 149 := ⟨by decide +kernel, rfl⟩
theorem iX9_keep_149 : ab_at mX9_keep 149 (.iastore) 1 150 := ⟨by decide +kernel, rfl⟩
theorem iX9_keep_150 : ab_at mX9_keep 150 (.aload_n 0) 1 151 := ⟨by decide +kernel, rfl⟩
theorem iX9_keep_151 : ab_at mX9_keep 151 (.getfield 63) 3 154 := ⟨by decide +kernel, rfl⟩
theorem iX9_keep_154 : ab_at mX9_keep 154 (.iconst 4) 1 155 := ⟨by decide +kernel, rfl⟩
theorem iX9_keep_155 : ab_at mX9_keep 155 (.iload_n 1) 1 156 := ⟨by decide +kernel, rfl⟩
theorem iX9_keep_156 : ab_at mX9_keep 156 (.iadd) 1 157 := ⟨by decide +kernel, rfl⟩
theorem iX9_keep_157 : ab_at mX9_keep 157 (.aload_n 0) 1 158 := ⟨by decide +kernel, rfl⟩
theorem iX9_keep_158 : ab_at mX9_keep 158 (.getfield 33) 3 161 := ⟨by decide +kernel, rfl⟩
theorem iX9_keep_161 : ab_at mX9_keep 161 (.iload_n 1) 1 162 := ⟨by decide +kernel, rfl⟩
theorem iX9_keep_162 : ab_at mX9_keep 162 (.baload) 1 163 := ⟨by decide +kernel, rfl⟩
theorem iX9_keep_163 : ab_bi mX9_keep 163 .eq 166 170 := ⟨7, by decide +kernel, rfl, by decide⟩
theorem iX9_keep_166 : ab_at mX9_keep 166 (.iconst 1) 1 167 := ⟨by decide +kernel, rfl⟩
theorem iX9_keep_167 : ab_bg mX9_keep 167 171 := ⟨4, by decide +kernel, by decide⟩
theorem iX9_keep_170 : ab_at mX9_keep 170 (.iconst 0) 1 171 := ⟨by decide +kernel, rfl⟩
theorem iX9_keep_171 : ab_at mX9_keep 171 (.iastore) 1 172 := ⟨by decide +kernel, rfl⟩
theorem iX9_keep_172 : ab_at mX9_keep 172 (.aload_n 0) 1 173 := ⟨by decide +kernel, rfl⟩
theorem iX9_keep_173 : ab_at mX9_keep 173 (.getfield 66) 3 176 := ⟨by decide +kernel, rfl⟩
theorem iX9_keep_176 : ab_at mX9_keep 176 (.iload_n 1) 1 177 := ⟨by decide +kernel, rfl⟩
theorem iX9_keep_177 : ab_at mX9_keep 177 (.aload_n 0) 1 178 := ⟨by decide +kernel, rfl⟩
theorem iX9_keep_178 : ab_at mX9_keep 178 (.getfield 42) 3 181 := ⟨by decide +kernel, rfl⟩
theorem iX9_keep_181 : ab_at mX9_keep 181 (.iload_n 1) 1 182 := ⟨by decide +kernel, rfl⟩
theorem iX9_keep_182 : ab_at mX9_keep 182 (.iaload) 1 183 := ⟨by decide +kernel, rfl⟩
theorem iX9_keep_183 : ab_at mX9_keep 183 (.iastore) 1 184 := ⟨by decide +kernel, rfl⟩
theorem iX9_keep_184 : ab_at mX9_keep 184 (.aload_n 0) 1 185 := ⟨by decide +kernel, rfl⟩
theorem iX9_keep_185 : ab_at mX9_keep 185 (.getfield 66) 3 188 := ⟨by decide +kernel, rfl⟩
theorem iX9_keep_188 : ab_at mX9_keep 188 (.iconst 4) 1 189 := ⟨by decide +kernel, rfl⟩
theorem iX9_keep_189 : ab_at mX9_keep 189 (.iload_n 1) 1 190 := ⟨by decide +kernel, rfl⟩
theorem iX9_keep_190 : ab_at mX9_keep 190 (.iadd) 1 191 := ⟨by decide +kernel, rfl⟩
theorem iX9_keep_191 : ab_at mX9_keep 191 (.aload_n 0) 1 192 := ⟨by decide +kernel, rfl⟩
theorem iX9_keep_192 : ab_at mX9_keep 192 (.getfield 45) 3 195 := ⟨by decide +kernel, rfl⟩
theorem iX9_keep_195 : ab_at mX9_keep 195 (.iload_n 1) 1 196 := ⟨by decide +kernel, rfl⟩
theorem iX9_keep_196 : ab_at mX9_keep 196 (.iaload) 1 197 := ⟨by decide +kernel, rfl⟩
theorem iX9_keep_197 : ab_at mX9_keep 197 (.iastore) 1 198 := ⟨by decide +kernel, rfl⟩
theorem iX9_keep_198 : ab_at mX9_keep 198 (.aload_n 0) 1 199 := ⟨by decide +kernel, rfl⟩
theorem iX9_keep_199 : ab_at mX9_keep 199 (.getfield 66) 3 202 := ⟨by decide +kernel, rfl⟩
theorem iX9_keep_202 : ab_at mX9_keep 202 (.bipush 8) 2 204 := ⟨by decide +kernel, rfl⟩
theorem iX9_keep_204 : ab_at mX9_keep 204 (.iload_n 1) 1 205 := ⟨by decide +kernel, rfl⟩
theorem iX9_keep_205 : ab_at mX9_keep 205 (.iadd) 1 206 := ⟨by decide +kernel, rfl⟩
theorem iX9_keep_206 : ab_at mX9_keep 206 (.aload_n 0) 1 207 := ⟨by decide +kernel, rfl⟩
theorem iX9_keep_207 : ab_at mX9_keep 207 (.getfield 48) 3 210 := ⟨by decide +kernel, rfl⟩
theorem iX9_keep_210 : ab_at mX9_keep 210 (.iload_n 1) 1 211 := ⟨by decide +kernel, rfl⟩
theorem iX9_keep_211 : ab_at mX9_keep 211 (.iaload) 1 212 := ⟨by decide +kernel, rfl⟩
theorem iX9_keep_212 : ab_at mX9_keep 212 (.iastore) 1 213 := ⟨by decide +kernel, rfl⟩
theorem iX9_keep_213 : ab_at mX9_keep 213 (.aload_n 0) 1 214 := ⟨by decide +kernel, rfl⟩
theorem iX9_keep_214 : ab_at mX9_keep 214 (.getfield 66) 3 217 := ⟨by decide +kernel, rfl⟩
theorem iX9_keep_217 : ab_at mX9_keep 217 (.bipush 12) 2 219 := ⟨by decide +kernel, rfl⟩
theorem iX9_keep_219 : ab_at mX9_keep 219 (.iload_n 1) 1 220 := ⟨by decide +kernel, rfl⟩
theorem iX9_keep_220 : ab_at mX9_keep 220 (.iadd) 1 221 := ⟨by decide +kernel, rfl⟩
theorem iX9_keep_221 : ab_at mX9_keep 221 (.aload_n 0) 1 222 := ⟨by decide +kernel, rfl⟩
theorem iX9_keep_222 : ab_at mX9_keep 222 (.getfield 51) 3 225 := ⟨by decide +kernel, rfl⟩
theorem iX9_keep_225 : ab_at mX9_keep 225 (.iload_n 1) 1 226 := ⟨by decide +kernel, rfl⟩
theorem iX9_keep_226 : ab_at mX9_keep 226 (.iaload) 1 227 := ⟨by decide +kernel, rfl⟩
theorem iX9_keep_227 : ab_at mX9_keep 227 (.iastore) 1 228 := ⟨by decide +kernel, rfl⟩
theorem iX9_keep_228 : ab_at mX9_keep 228 (.iinc 1 1) 3 231 := ⟨by decide +kernel, rfl⟩
theorem iX9_keep_231 : ab_bg mX9_keep 231 133 := ⟨-98, by decide +kernel, by decide⟩
theorem iX9_keep_234 : ab_at mX9_keep 234 (.iconst 1) 1 235 := ⟨by decide +kernel, rfl⟩
theorem iX9_keep_235 : ab_at mX9_keep 235 (.ireturn) 1 236 := ⟨by decide +kernel, rfl⟩
theorem iX9_back_0 : ab_at mX9_back 0 (.aload_n 0) 1 1 := ⟨by decide +kernel, rfl⟩
theorem iX9_back_1 : ab_at mX9_back 1 (.getfield 227) 3 4 := ⟨by decide +kernel, rfl⟩
theorem iX9_back_4 : ab_bi mX9_back 4 .ne 7 10 := ⟨6, by decide +kernel, rfl, by decide⟩
theorem iX9_back_7 : ab_at mX9_back 7 (.bipush (-4)) 2 9 := ⟨by decide +kernel, rfl⟩
theorem iX9_back_9 : ab_at mX9_back 9 (.ireturn) 1 10 := ⟨by decide +kernel, rfl⟩
theorem iX9_back_10 : ab_at mX9_back 10 (.aload_n 0) 1 11 := ⟨by decide +kernel, rfl⟩
theorem iX9_back_11 : ab_at mX9_back 11 (.aload_n 0) 1 12 := ⟨by decide +kernel, rfl⟩
theorem iX9_back_12 : ab_at mX9_back 12 (.getfield 54) 3 15 := ⟨by decide +kernel, rfl⟩
theorem iX9_back_15 : ab_at mX9_back 15 (.iconst 0) 1 16 := ⟨by decide +kernel, rfl⟩
theorem iX9_back_16 : ab_at mX9_back 16 (.iaload) 1 17 := ⟨by decide +kernel, rfl⟩
theorem iX9_back_17 : ab_at mX9_back 17 (.putfield 7) 3 20 := ⟨by decide +kernel, rfl⟩
theorem iX9_back_20 : ab_at mX9_back 20 (.aload_n 0) 1 21 := ⟨by decide +kernel, rfl⟩
theorem iX9_back_21 : ab_at mX9_back 21 (.aload_n 0) 1 22 := ⟨by decide +kernel, rfl⟩
theorem iX9_back_22 : ab_at mX9_back 22 (.getfield 54) 3 25 := ⟨by decide +kernel, rfl⟩
theorem iX9_back_25 : ab_at mX9_back 25 (.iconst 1) 1 26 := ⟨by decide +kernel, rfl⟩
theorem iX9_back_26 : ab_at mX9_back 26 (.iaload) 1 27 := ⟨by decide +kernel, rfl⟩
theorem iX9_back_27 : ab_at mX9_back 27 (.putfield 13) 3 30 := ⟨by decide +kernel, rfl⟩
theorem iX9_back_30 : ab_at mX9_back 30 (.aload_n 0) 1 31 := ⟨by decide +kernel, rfl⟩
theorem iX9_back_31 : ab_at mX9_back 31 (.aload_n 0) 1 32 := ⟨by decide +kernel, rfl⟩
theorem iX9_back_32 : ab_at mX9_back 32 (.getfield 54) 3 35 := ⟨by decide +kernel, rfl⟩
theorem iX9_back_35 : ab_at mX9_back 35 (.iconst 2) 1 36 := ⟨by decide +kernel, rfl⟩
theorem iX9_back_36 : ab_at mX9_back 36 (.iaload) 1 37 := ⟨by decide +kernel, rfl⟩
theorem iX9_back_37 : ab_at mX9_back 37 (.putfield 152) 3 40 := ⟨by decide +kernel, rfl⟩
theorem iX9_back_40 : ab_at mX9_back 40 (.aload_n 0) 1 41 := ⟨by decide +kernel, rfl⟩
theorem iX9_back_41 : ab_at mX9_back 41 (.aload_n 0) 1 42 := ⟨by decide +kernel, rfl⟩
theorem iX9_back_42 : ab_at mX9_back 42 (.getfield 54) 3 45 := ⟨by decide +kernel, rfl⟩
theorem iX9_back_45 : ab_at mX9_back 45 (.iconst 3) 1 46 := ⟨by decide +kernel, rfl⟩
theorem iX9_back_46 : ab_at mX9_back 46 (.iaload) 1 47 := ⟨by decide +kernel, rfl⟩
theorem iX9_back_47 : ab_at mX9_back 47 (.putfield 174) 3 50 := ⟨by decide +kernel, rfl⟩
theorem iX9_back_50 : ab_at mX9_back 50 (.aload_n 0) 1 51 := ⟨by decide +kernel, rfl⟩
theorem iX9_back_51 : ab_at mX9_back 51 (.aload_n 0) 1 52 := ⟨by decide +kernel, rfl⟩
theorem iX9_back_52 : ab_at mX9_back 52 (.getfield 54) 3 55 := ⟨by decide +kernel, rfl⟩
theorem iX9_back_55 : ab_at mX9_back 55 (.iconst 4) 1 56 := ⟨by decide +kernel, rfl⟩
theorem iX9_back_56 : ab_at mX9_back 56 (.iaload) 1 57 := ⟨by decide +kernel, rfl⟩
theorem iX9_back_57 : ab_at mX9_back 57 (.putfield 115) 3 60 := ⟨by decide +kernel, rfl⟩
theorem iX9_back_60 : ab_at mX9_back 60 (.aload_n 0) 1 61 := ⟨by decide +kernel, rfl⟩
theorem iX9_back_61 : ab_at mX9_back 61 (.aload_n 0) 1 62 := ⟨by decide +kernel, rfl⟩
theorem iX9_back_62 : ab_at mX9_back 62 (.getfield 54) 3 65 := ⟨by decide +kernel, rfl⟩
theorem iX9_back_65 : ab_at mX9_back 65 (.iconst 5) 1 66 := ⟨by decide +kernel, rfl⟩
theorem iX9_back_66 : ab_at mX9_back 66 (.iaload) 1 67 := ⟨by decide +kernel, rfl⟩
theorem iX9_back_67 : ab_at mX9_back 67 (.putfield 202) 3 70 := ⟨by decide +kernel, rfl⟩
theorem iX9_back_70 : ab_at mX9_back 70 (.iconst 0) 1 71 := ⟨by decide +kernel, rfl⟩
theorem iX9_back_71 : ab_at mX9_back 71 (.istore_n 1) 1 72 := ⟨by decide +kernel, rfl⟩
theorem iX9_back_72 : ab_at mX9_back 72 (.iload_n 1) 1 73 := ⟨by decide +kernel, rfl⟩
theorem iX9_back_73 : ab_at mX9_back 73 (.bipush 120) 2 75 := ⟨by decide +kernel, rfl⟩
theorem iX9_back_75 : ab_bc mX9_back 75 .ge 78 121 := ⟨46, by decide +kernel, rfl, by decide⟩
theorem iX9_back_78 : ab_at mX9_back 78 (.aload_n 0) 1 79 := ⟨by decide +kernel, rfl⟩
theorem iX9_back_79 : ab_at mX9_back 79 (.getfield 16) 3 82 := ⟨by decide +kernel, rfl⟩
theorem iX9_back_82 : ab_at mX9_back 82 (.iload_n 1) 1 83 := ⟨by decide +kernel, rfl⟩
theorem iX9_back_83 : ab_at mX9_back 83 (.aload_n 0) 1 84 := ⟨by decide +kernel, rfl⟩
theorem iX9_back_84 : ab_at mX9_back 84 (.getfield 57) 3 87 := ⟨by decide +kernel, rfl⟩
theorem iX9_back_87 : ab_at mX9_back 87 (.iload_n 1) 1 88 := ⟨by decide +kernel, rfl⟩
theorem iX9_back_88 : ab_at mX9_back 88 (.iaload) 1 89 := ⟨by decide +kernel, rfl⟩
theorem iX9_back_89 : ab_at mX9_back 89 (.bipush 8) 2 91 := ⟨by decide +kernel, rfl⟩
theorem iX9_back_91 : ab_at mX9_back 91 (.irem) 1 92 := ⟨by decide +kernel, rfl⟩
theorem iX9_back_92 : ab_at mX9_back 92 (.iastore) 1 93 := ⟨by decide +kernel, rfl⟩
theorem iX9_back_93 : ab_at mX9_back 93 (.aload_n 0) 1 94 := ⟨by decide +kernel, rfl⟩
theorem iX9_back_94 : ab_at mX9_back 94 (.getfield 20) 3 97 := ⟨by decide +kernel, rfl⟩
theorem iX9_back_97 : ab_at mX9_back 97 (.iload_n 1) 1 98 := ⟨by decide +kernel, rfl⟩
theorem iX9_back_98 : ab_at mX9_back 98 (.aload_n 0) 1 99 := ⟨by decide +kernel, rfl⟩
theorem iX9_back_99 : ab_at mX9_back 99 (.getfield 57) 3 102 := ⟨by decide +kernel, rfl⟩
theorem iX9_back_102 : ab_at mX9_back 102 (.iload_n 1) 1 103 := ⟨by decide +kernel, rfl⟩
theorem iX9_back_103 : ab_at mX9_back 103 (.iaload) 1 104 := ⟨by decide +kernel, rfl⟩
theorem iX9_back_104 : ab_at mX9_back 104 (.bipush 7) 2 106 := ⟨by decide +kernel, rfl⟩
theorem iX9_back_106 : ab_bc mX9_back 106 .le 109 113 := ⟨7, by decide +kernel, rfl, by decide⟩
theorem iX9_back_109 : ab_at mX9_back 109 (.iconst 1) 1 110 := ⟨by decide +kernel, rfl⟩
theorem iX9_back_110 : ab_bg mX9_back 110 114 := ⟨4, by decide +kernel, by decide⟩
theorem iX9_back_113 : ab_at mX9_back 113 (.iconst 0) 1 114 := ⟨by decide +kernel, rfl⟩
theorem iX9_back_114 : ab_at mX9_back 114 (.bastore) 1 115 := ⟨by decide +kernel, rfl⟩
theorem iX9_back_115 : ab_at mX9_back 115 (.iinc 1 1) 3 118 := ⟨by decide +kernel, rfl⟩
theorem iX9_back_118 : ab_bg mX9_back 118 72 := ⟨-46, by decide +kernel, by decide⟩
theorem iX9_back_121 : ab_at mX9_back 121 (.iconst 0) 1 122 := ⟨by decide +kernel, rfl⟩
theorem iX9_back_122 : ab_at mX9_back 122 (.istore_n 1) 1 123 := ⟨by decide +kernel, rfl⟩
theorem iX9_back_123 : ab_at mX9_back 123 (.iload_n 1) 1 124 := ⟨by decide +kernel, rfl⟩
theorem iX9_back_124 : ab_at mX9_back 124 (.bipush 12) 2 126 := ⟨by decide +kernel, rfl⟩
theorem iX9_back_126 : ab_bc mX9_back 126 .ge 129 162 := ⟨36, by decide +kernel, rfl, by decide⟩
theorem iX9_back_129 : ab_at mX9_back 129 (.aload_n 0) 1 130 := ⟨by decide +kernel, rfl⟩
theorem iX9_back_130 : ab_at mX9_back 130 (.getfield 24) 3 133 := ⟨by decide +kernel, rfl⟩
theorem iX9_back_133 : ab_at mX9_back 133 (.iload_n 1) 1 134 := ⟨by decide +kernel, rfl⟩
theorem iX9_back_134 : ab_at mX9_back 134 (.aload_n 0) 1 135 := ⟨by decide +kernel, rfl⟩
theorem iX9_back_135 : ab_at mX9_back 135 (.getfield 60) 3 138 := ⟨by decide +kernel, rfl⟩
theorem iX9_back_138 : ab_at mX9_back 138 (.iload_n 1) 1 139 := ⟨by decide +kernel, rfl⟩
theorem iX9_back_139 : ab_at mX9_back 139 (.iaload) 1 140 := ⟨by decide +kernel, rfl⟩
theorem iX9_back_140 : ab_at mX9_back 140 (.iastore) 1 141 := ⟨by decide +kernel, rfl⟩
theorem iX9_back_141 : ab_at mX9_back 141 (.aload_n 0) 1 142 := ⟨by decide +kernel, rfl⟩
theorem iX9_back_142 : ab_at mX9_back 142 (.getfield 27) 3 145 := ⟨by decide +kernel, rfl⟩
theorem iX9_back_145 : ab_at mX9_back 145 (.iload_n 1) 1 146 := ⟨by decide +kernel, rfl⟩
theorem iX9_back_146 : ab_at mX9_back 146 (.aload_n 0) 1 147 := ⟨by decide +kernel, rfl⟩
theorem iX9_back_147 : ab_at mX9_back 147 (.getfield 60) 3 150 := ⟨by decide +kernel, rfl⟩
theorem iX9_back_150 : ab_at mX9_back 150 (.bipush 12) 2 152 := ⟨by decide +kernel, rfl⟩
theorem iX9_back_152 : ab_at mX9_back 152 (.iload_n 1) 1 153 := ⟨by decide +kernel, rfl⟩
theorem iX9_back_153 : ab_at mX9_back 153 (.iadd) 1 154 := ⟨by decide +kernel, rfl⟩
theorem iX9_back_154 : ab_at mX9_back 154 (.iaload) 1 155 := ⟨by decide +kernel, rfl⟩
theorem iX9_back_155 : ab_at mX9_back 155 (.iastore) 1 156 := ⟨by decide +kernel, rfl⟩
theorem iX9_back_156 : ab_at mX9_back 156 (.iinc 1 1) 3 159 := ⟨by decide +kernel, rfl⟩
theorem iX9_back_159 : ab_bg mX9_back 159 123 := ⟨-36, by decide +kernel, by decide⟩
theorem iX9_back_162 : ab_at mX9_back 162 (.iconst 0) 1 163 := ⟨by decide +kernel, rfl⟩
theorem iX9_back_163 : ab_at mX9_back 163 (.istore_n 1) 1 164 := ⟨by decide +kernel, rfl⟩
theorem iX9_back_164 : ab_at mX9_back 164 (.iload_n 1) 1 165 := ⟨by decide +kernel, rfl⟩
theorem iX9_back_165 : ab_at mX9_back 165 (.iconst 4) 1 166 := ⟨by decide +kernel, rfl⟩
theorem iX9_back_166 : ab_bc mX9_back 166 .ge 169 266 := ⟨100, by decide +kernel, rfl, by decide⟩
theorem iX9_back_169 : ab_at mX9_back 169 (.aload_n 0) 1 170 := ⟨by decide +kernel, rfl⟩
theorem iX9_back_170 : ab_at mX9_back 170 (.getfield 30) 3 173 := ⟨by decide +kernel, rfl⟩
theorem iX9_back_173 : ab_at mX9_back 173 (.iload_n 1) 1 174 := ⟨by decide +kernel, rfl⟩
theorem iX9_back_174 : ab_at mX9_back 174 (.aload_n 0) 1 175 := ⟨by decide +kernel, rfl⟩
theorem iX9_back_175 : ab_at mX9_back 175 (.getfield 63) 3 178 := ⟨by decide +kernel, rfl⟩
theorem iX9_back_178 : ab_at mX9_back 178 (.iload_n 1) 1 179 := ⟨by decide +kernel, rfl⟩
theorem iX9_back_179 : ab_at mX9_back 179 (.iaload) 1 180 := ⟨by decide +kernel, rfl⟩
theorem iX9_back_180 : ab_at mX9_back 180 (.iastore) 1 181 := ⟨by decide +kernel, rfl⟩
theorem iX9_back_181 : ab_at mX9_back 181 (.aload_n 0) 1 182 := ⟨by decide +kernel, rfl⟩
theorem iX9_back_182 : ab_at mX9_back 182 (.getfield 33) 3 185 := ⟨by decide +kernel, rfl⟩
theorem iX9_back_185 : ab_at mX9_back 185 (.iload_n 1) 1 186 := ⟨by decide +kernel, rfl⟩
theorem iX9_back_186 : ab_at mX9_back 186 (.aload_n 0) 1 187 := ⟨by decide +kernel, rfl⟩
theorem iX9_back_187 : ab_at mX9_back 187 (.getfield 63) 3 190 := ⟨by decide +kernel, rfl⟩
theorem iX9_back_190 : ab_at mX9_back 190 (.iconst 4) 1 191 := ⟨by decide +kernel, rfl⟩
theorem iX9_back_191 : ab_at mX9_back 191 (.iload_n 1) 1 192 := ⟨by decide +kernel, rfl⟩
theorem iX9_back_192 : ab_at mX9_back 192 (.iadd) 1 193 := ⟨by decide +kernel, rfl⟩
theorem iX9_back_193 : ab_at mX9_back 193 (.iaload) 1 194 := ⟨by decide +kernel, rfl⟩
theorem iX9_back_194 : ab_at mX9_back 194 (.iconst 1) 1 195 := ⟨by decide +kernel, rfl⟩
theorem iX9_back_195 : ab_bc mX9_back 195 .ne 198 202 := ⟨7, by decide +kernel, rfl, by decide⟩
theorem iX9_back_198 : ab_at mX9_back 198 (.iconst 1) 1 199 := ⟨by decide +kernel, rfl⟩
theorem iX9_back_199 : ab_bg mX9_back 199 203 := ⟨4, by decide +kernel, by decide⟩
theorem iX9_back_202 : ab_at mX9_back 202 (.iconst 0) 1 203 := ⟨by decide +kernel, rfl⟩
theorem iX9_back_203 : ab_at mX9_back 203 (.bastore) 1 204 := ⟨by decide +kernel, rfl⟩
theorem iX9_back_204 : ab_at mX9_back 204 (.aload_n 0) 1 205 := ⟨by decide +kernel, rfl⟩
theorem iX9_back_205 : ab_at mX9_back 205 (.getfield 42) 3 208 := ⟨by decide +kernel, rfl⟩
theorem iX9_back_208 : ab_at mX9_back 208 (.iload_n 1) 1 209 := ⟨by decide +kernel, rfl⟩
theorem iX9_back_209 : ab_at mX9_back 209 (.aload_n 0) 1 210 := ⟨by decide +kernel, rfl⟩
theorem iX9_back_210 : ab_at mX9_back 210 (.getfield 66) 3 213 := ⟨by decide +kernel, rfl⟩
theorem iX9_back_213 : ab_at mX9_back 213 (.iload_n 1) 1 214 := ⟨by decide +kernel, rfl⟩
theorem iX9_back_214 : ab_at mX9_back 214 (.iaload) 1 215 := ⟨by decide +kernel, rfl⟩
theorem iX9_back_215 : ab_at mX9_back 215 (.iastore) 1 216 := ⟨by decide +kernel, rfl⟩
theorem iX9_back_216 : ab_at mX9_back 216 (.aload_n 0) 1 217 := ⟨by decide +kernel, rfl⟩
theorem iX9_back_217 : ab_at mX9_back 217 (.getfield 45) 3 220 := ⟨by decide +kernel, rfl⟩
theorem iX9_back_220 : ab_at mX9_back 220 (.iload_n 1) 1 221 := ⟨by decide +kernel, rfl⟩
theorem iX9_back_221 : ab_at mX9_back 221 (.aload_n 0) 1 222 := ⟨by decide +kernel, rfl⟩
theorem iX9_back_222 : ab_at mX9_back 222 (.getfield 66) 3 225 := ⟨by decide +kernel, rfl⟩
theorem iX9_back_225 : ab_at mX9_back 225 (.iconst 4) 1 226 := ⟨by decide +kernel, rfl⟩
theorem iX9_back_226 : ab_at mX9_back 226 (.iload_n 1) 1 227 := ⟨by decide +kernel, rfl⟩
theorem iX9_back_227 : ab_at mX9_back 227 (.iadd) 1 228 := ⟨by decide +kernel, rfl⟩
theorem iX9_back_228 : ab_at mX9_back 228 (.iaload) 1 229 := ⟨by decide +kernel, rfl⟩
theorem iX9_back_229 : ab_at mX9_back 229 (.iastore) 1 230 := ⟨by decide +kernel, rfl⟩
theorem iX9_back_230 : ab_at mX9_back 230 (.aload_n 0) 1 231 := ⟨by decide +kernel, rfl⟩
theorem iX9_back_231 : ab_at mX9_back 231 (.getfield 48) 3 234 := ⟨by decide +kernel, rfl⟩
theorem iX9_back_234 : ab_at mX9_back 234 (.iload_n 1) 1 235 := ⟨by decide +kernel, rfl⟩
theorem iX9_back_235 : ab_at mX9_back 235 (.aload_n 0) 1 236 := ⟨by decide +kernel, rfl⟩
theorem iX9_back_236 : ab_at mX9_back 236 (.getfield 66) 3 239 := ⟨by decide +kernel, rfl⟩
theorem iX9_back_239 : ab_at mX9_back 239 (.bipush 8) 2 241 := ⟨by decide +kernel, rfl⟩
theorem iX9_back_241 : ab_at mX9_back 241 (.iload_n 1) 1 242 := ⟨by decide +kernel, rfl⟩
theorem iX9_back_242 : ab_at mX9_back 242 (.iadd) 1 243 := ⟨by decide +kernel, rfl⟩
theorem iX9_back_243 : ab_at mX9_back 243 (.iaload) 1 244 := ⟨by decide +kernel, rfl⟩
theorem iX9_back_244 : ab_at mX9_back 244 (.iastore) 1 245 := ⟨by decide +kernel, rfl⟩
theorem iX9_back_245 : ab_at mX9_back 245 (.aload_n 0) 1 246 := ⟨by decide +kernel, rfl⟩
theorem iX9_back_246 : ab_at mX9_back 246 (.getfield 51) 3 249 := ⟨by decide +kernel, rfl⟩
theorem iX9_back_249 : ab_at mX9_back 249 (.iload_n 1) 1 250 := ⟨by decide +kernel, rfl⟩
theorem iX9_back_250 : ab_at mX9_back 250 (.aload_n 0) 1 251 := ⟨by decide +kernel, rfl⟩
theorem iX9_back_251 : ab_at mX9_back 251 (.getfield 66) 3 254 := ⟨by decide +kernel, rfl⟩
theorem iX9_back_254 : ab_at mX9_back 254 (.bipush 12) 2 256 := ⟨by decide +kernel, rfl⟩
theorem iX9_back_256 : ab_at mX9_back 256 (.iload_n 1) 1 257 := ⟨by decide +kernel, rfl⟩
theorem iX9_back_257 : ab_at mX9_back 257 (.iadd) 1 258 := ⟨by decide +kernel, rfl⟩
theorem iX9_back_258 : ab_at mX9_back 258 (.iaload) 1 259 := ⟨by decide +kernel, rfl⟩
theorem iX9_back_259 : ab_at mX9_back 259 (.iastore) 1 260 := ⟨by decide +kernel, rfl⟩
theorem iX9_back_260 : ab_at mX9_back 260 (.iinc 1 1) 3 263 := ⟨by decide +kernel, rfl⟩
theorem iX9_back_263 : ab_bg mX9_back 263 164 := ⟨-99, by decide +kernel, by decide⟩
theorem iX9_back_266 : ab_at mX9_back 266 (.iconst 1) 1 267 := ⟨by decide +kernel, rfl⟩
theorem iX9_back_267 : ab_at mX9_back 267 (.ireturn) 1 268 := ⟨by decide +kernel, rfl⟩
end
section
theorem iL_law_0 : ab_at mL_law 0 (.new 7) 3 3 := ⟨by decide +kernel, rfl⟩
theorem iL_law_3 : ab_at mL_law 3 (.dup) 1 4 := ⟨by decide +kernel, rfl⟩
theorem iL_law_4 : ab_at mL_law 4 (.invokespecial 9) 3 7 := ⟨by decide +kernel, rfl⟩
theorem iL_law_7 : ab_at mL_law 7 (.astore_n 1) 1 8 := ⟨by decide +kernel, rfl⟩
theorem iL_law_8 : ab_at mL_law 8 (.new 10) 3 11 := ⟨by decide +kernel, rfl⟩
theorem iL_law_11 : ab_at mL_law 11 (.dup) 1 12 := ⟨by decide +kernel, rfl⟩
theorem iL_law_12 : ab_at mL_law 12 (.invokespecial 12) 3 15 := ⟨by decide +kernel, rfl⟩
theorem iL_law_15 : ab_at mL_law 15 (.astore_n 2) 1 16 := ⟨by decide +kernel, rfl⟩
theorem iL_law_16 : ab_at mL_law 16 (.iconst 0) 1 17 := ⟨by decide +kernel, rfl⟩
theorem iL_law_17 : ab_at mL_law 17 (.istore_n 3) 1 18 := ⟨by decide +kernel, rfl⟩
theorem iL_law_18 : ab_at mL_law 18 (.iload_n 3) 1 19 := ⟨by decide +kernel, rfl⟩
theorem iL_law_19 : ab_at mL_law 19 (.aload_n 0) 1 20 := ⟨by decide +kernel, rfl⟩
theorem iL_law_20 : ab_at mL_law 20 (.arraylength) 1 21 := ⟨by decide +kernel, rfl⟩
theorem iL_law_21 : ab_at mL_law 21 (.bipush 6) 2 23 := ⟨by decide +kernel, rfl⟩
theorem iL_law_23 : ab_at mL_law 23 (.isub) 1 24 := ⟨by decide +kernel, rfl⟩
theorem iL_law_24 : ab_bc mL_law 24 .gt 27 968 := ⟨944, by decide +kernel, rfl, by decide⟩
theorem iL_law_27 : ab_at mL_law 27 (.aload_n 0) 1 28 := ⟨by decide +kernel, rfl⟩
theorem iL_law_28 : ab_at mL_law 28 (.iload_n 3) 1 29 := ⟨by decide +kernel, rfl⟩
theorem iL_law_29 : ab_at mL_law 29 (.iaload) 1 30 := ⟨by decide +kernel, rfl⟩
theorem iL_law_30 : ab_at mL_law 30 (.bipush 31) 2 32 := ⟨by decide +kernel, rfl⟩
theorem iL_law_32 : ab_at mL_law 32 (.iand) 1 33 := ⟨by decide +kernel, rfl⟩
theorem iL_law_33 : decode mL_law.2.1 33 = .ok (.tableswitch 929 0 25 #[119, 152, 215, 274, 307, 340, 373, 396, 429, 462, 495, 528, 561, 584, 617, 666, 699, 722, 745, 758, 781, 814, 847, 880, 903, 916], 119) := by decide +kernel
theorem iL_law_152 : ab_at mL_law 152 (.aload_n 1) 1 153 := ⟨by decide +kernel, rfl⟩
theorem iL_law_153 : ab_at mL_law 153 (.aload_n 0) 1 154 := ⟨by decide +kernel, rfl⟩
theorem iL_law_154 : ab_at mL_law 154 (.iload_n 3) 1 155 := ⟨by decide +kernel, rfl⟩
theorem iL_law_155 : ab_at mL_law 155 (.iconst 1) 1 156 := ⟨by decide +kernel, rfl⟩
theorem iL_law_156 : ab_at mL_law 156 (.iadd) 1 157 := ⟨by decide +kernel, rfl⟩
theorem iL_law_157 : ab_at mL_law 157 (.iaload) 1 158 := ⟨by decide +kernel, rfl⟩
theorem iL_law_158 : ab_at mL_law 158 (.aload_n 0) 1 159 := ⟨by decide +kernel, rfl⟩
theorem iL_law_159 : ab_at mL_law 159 (.iload_n 3) 1 160 := ⟨by decide +kernel, rfl⟩
theorem iL_law_160 : ab_at mL_law 160 (.iconst 2) 1 161 := ⟨by decide +kernel, rfl⟩
theorem iL_law_161 : ab_at mL_law 161 (.iadd) 1 162 := ⟨by decide +kernel, rfl⟩
theorem iL_law_162 : ab_at mL_law 162 (.iaload) 1 163 := ⟨by decide +kernel, rfl⟩
theorem iL_law_163 : ab_at mL_law 163 (.invokevirtual 13) 3 166 := ⟨by decide +kernel, rfl⟩
theorem iL_law_166 : ab_at mL_law 166 (.aload_n 2) 1 167 := ⟨by decide +kernel, rfl⟩
theorem iL_law_167 : ab_at mL_law 167 (.aload_n 0) 1 168 := ⟨by decide +kernel, rfl⟩
theorem iL_law_168 : ab_at mL_law 168 (.iload_n 3) 1 169 := ⟨by decide +kernel, rfl⟩
theorem iL_law_169 : ab_at mL_law 169 (.iconst 1) 1 170 := ⟨by decide +kernel, rfl⟩
theorem iL_law_170 : ab_at mL_law 170 (.iadd) 1 171 := ⟨by decide +kernel, rfl⟩
theorem iL_law_171 : ab_at mL_law 171 (.iaload) 1 172 := ⟨by decide +kernel, rfl⟩
theorem iL_law_172 : ab_at mL_law 172 (.aload_n 0) 1 173 := ⟨by decide +kernel, rfl⟩
theorem iL_law_173 : ab_at mL_law 173 (.iload_n 3) 1 174 := ⟨by decide +kernel, rfl⟩
theorem iL_law_174 : ab_at mL_law 174 (.iconst 2) 1 175 := ⟨by decide +kernel, rfl⟩
theorem iL_law_175 : ab_at mL_law 175 (.iadd) 1 176 := ⟨by decide +kernel, rfl⟩
theorem iL_law_176 : ab_at mL_law 176 (.iaload) 1 177 := ⟨by decide +kernel, rfl⟩
theorem iL_law_177 : ab_at mL_law 177 (.invokevirtual 17) 3 180 := ⟨by decide +kernel, rfl⟩
theorem iL_law_180 : ab_bc mL_law 180 .eq 183 962 := ⟨782, by decide +kernel, rfl, by decide⟩
theorem iL_law_183 : ab_at mL_law 183 (.iconst 0) 1 184 := ⟨by decide +kernel, rfl⟩
theorem iL_law_184 : ab_at mL_law 184 (.ireturn) 1 185 := ⟨by decide +kernel, rfl⟩
theorem iL_law_185 : ab_at mL_law 185 (.aload_n 1) 1 186 := ⟨by decide +kernel, rfl⟩
theorem iL_law_186 : ab_at mL_law 186 (.aload_n 0) 1 187 := ⟨by decide +kernel, rfl⟩
theorem iL_law_187 : ab_at mL_law 187 (.iload_n 3) 1 188 := ⟨by decide +kernel, rfl⟩
theorem iL_law_188 : ab_at mL_law 188 (.iconst 1) 1 189 := ⟨by decide +kernel, rfl⟩
theorem iL_law_189 : ab_at mL_law 189 (.iadd) 1 190 := ⟨by decide +kernel, rfl⟩
theorem iL_law_190 : ab_at mL_law 190 (.iaload) 1 191 := ⟨by decide +kernel, rfl⟩
theorem iL_law_191 : ab_at mL_law 191 (.aload_n 0) 1 192 := ⟨by decide +kernel, rfl⟩
theorem iL_law_192 : ab_at mL_law 192 (.iload_n 3) 1 193 := ⟨by decide +kernel, rfl⟩
theorem iL_law_193 : ab_at mL_law 193 (.iconst 2) 1 194 := ⟨by decide +kernel, rfl⟩
theorem iL_law_194 : ab_at mL_law 194 (.iadd) 1 195 := ⟨by decide +kernel, rfl⟩
theorem iL_law_195 : ab_at mL_law 195 (.iaload) 1 196 := ⟨by decide +kernel, rfl⟩
theorem iL_law_196 : ab_at mL_law 196 (.aload_n 0) 1 197 := ⟨by decide +kernel, rfl⟩
theorem iL_law_197 : ab_at mL_law 197 (.iload_n 3) 1 198 := ⟨by decide +kernel, rfl⟩
theorem iL_law_198 : ab_at mL_law 198 (.iconst 3) 1 199 := ⟨by decide +kernel, rfl⟩
theorem iL_law_199 : ab_at mL_law 199 (.iadd) 1 200 := ⟨by decide +kernel, rfl⟩
theorem iL_law_200 : ab_at mL_law 200 (.iaload) 1 201 := ⟨by decide +kernel, rfl⟩
theorem iL_law_201 : ab_at mL_law 201 (.aload_n 0) 1 202 := ⟨by decide +kernel, rfl⟩
theorem iL_law_202 : ab_at mL_law 202 (.iload_n 3) 1 203 := ⟨by decide +kernel, rfl⟩
theorem iL_law_203 : ab_at mL_law 203 (.iconst 4) 1 204 := ⟨by decide +kernel, rfl⟩
theorem iL_law_204 : ab_at mL_law 204 (.iadd) 1 205 := ⟨by decide +kernel, rfl⟩
theorem iL_law_205 : ab_at mL_law 205 (.iaload) 1 206 := ⟨by decide +kernel, rfl⟩
theorem iL_law_206 : ab_at mL_law 206 (.aload_n 0) 1 207 := ⟨by decide +kernel, rfl⟩
theorem iL_law_207 : ab_at mL_law 207 (.iload_n 3) 1 208 := ⟨by decide +kernel, rfl⟩
theorem iL_law_208 : ab_at mL_law 208 (.iconst 5) 1 209 := ⟨by decide +kernel, rfl⟩
theorem iL_law_209 : ab_at mL_law 209 (.iadd) 1 210 := ⟨by decide +kernel, rfl⟩
theorem iL_law_210 : ab_at mL_law 210 (.iaload) 1 211 := ⟨by decide +kernel, rfl⟩
theorem iL_law_211 : ab_at mL_law 211 (.invokevirtual 18) 3 214 := ⟨by decide +kernel, rfl⟩
theorem iL_law_214 : ab_at mL_law 214 (.aload_n 2) 1 215 := ⟨by decide +kernel, rfl⟩
theorem iL_law_215 : ab_at mL_law 215 (.aload_n 0) 1 216 := ⟨by decide +kernel, rfl⟩
theorem iL_law_216 : ab_at mL_law 216 (.iload_n 3) 1 217 := ⟨by decide +kernel, rfl⟩
theorem iL_law_217 : ab_at mL_law 217 (.iconst 1) 1 218 := ⟨by decide +kernel, rfl⟩
theorem iL_law_218 : ab_at mL_law 218 (.iadd) 1 219 := ⟨by decide +kernel, rfl⟩
theorem iL_law_219 : ab_at mL_law 219 (.iaload) 1 220 := ⟨by decide +kernel, rfl⟩
theorem iL_law_220 : ab_at mL_law 220 (.aload_n 0) 1 221 := ⟨by decide +kernel, rfl⟩
theorem iL_law_221 : ab_at mL_law 221 (.iload_n 3) 1 222 := ⟨by decide +kernel, rfl⟩
theorem iL_law_222 : ab_at mL_law 222 (.iconst 2) 1 223 := ⟨by decide +kernel, rfl⟩
theorem iL_law_223 : ab_at mL_law 223 (.iadd) 1 224 := ⟨by decide +kernel, rfl⟩
theorem iL_law_224 : ab_at mL_law 224 (.iaload) 1 225 := ⟨by decide +kernel, rfl⟩
theorem iL_law_225 : ab_at mL_law 225 (.aload_n 0) 1 226 := ⟨by decide +kernel, rfl⟩
theorem iL_law_226 : ab_at mL_law 226 (.iload_n 3) 1 227 := ⟨by decide +kernel, rfl⟩
theorem iL_law_227 : ab_at mL_law 227 (.iconst 3) 1 228 := ⟨by decide +kernel, rfl⟩
theorem iL_law_228 : ab_at mL_law 228 (.iadd) 1 229 := ⟨by decide +kernel, rfl⟩
theorem iL_law_229 : ab_at mL_law 229 (.iaload) 1 230 := ⟨by decide +kernel, rfl⟩
theorem iL_law_230 : ab_at mL_law 230 (.aload_n 0) 1 231 := ⟨by decide +kernel, rfl⟩
theorem iL_law_231 : ab_at mL_law 231 (.iload_n 3) 1 232 := ⟨by decide +kernel, rfl⟩
theorem iL_law_232 : ab_at mL_law 232 (.iconst 4) 1 233 := ⟨by decide +kernel, rfl⟩
theorem iL_law_233 : ab_at mL_law 233 (.iadd) 1 234 := ⟨by decide +kernel, rfl⟩
theorem iL_law_234 : ab_at mL_law 234 (.iaload) 1 235 := ⟨by decide +kernel, rfl⟩
theorem iL_law_235 : ab_at mL_law 235 (.aload_n 0) 1 236 := ⟨by decide +kernel, rfl⟩
theorem iL_law_236 : ab_at mL_law 236 (.iload_n 3) 1 237 := ⟨by decide +kernel, rfl⟩
theorem iL_law_237 : ab_at mL_law 237 (.iconst 5) 1 238 := ⟨by decide +kernel, rfl⟩
theorem iL_law_238 : ab_at mL_law 238 (.iadd) 1 239 := ⟨by decide +kernel, rfl⟩
theorem iL_law_239 : ab_at mL_law 239 (.iaload) 1 240 := ⟨by decide +kernel, rfl⟩
theorem iL_law_240 : ab_at mL_law 240 (.invokevirtual 22) 3 243 := ⟨by decide +kernel, rfl⟩
theorem iL_law_243 : ab_bc mL_law 243 .eq 246 962 := ⟨719, by decide +kernel, rfl, by decide⟩
theorem iL_law_246 : ab_at mL_law 246 (.iconst 0) 1 247 := ⟨by decide +kernel, rfl⟩
theorem iL_law_247 : ab_at mL_law 247 (.ireturn) 1 248 := ⟨by decide +kernel, rfl⟩
theorem iL_law_248 : ab_at mL_law 248 (.aload_n 1) 1 249 := ⟨by decide +kernel, rfl⟩
theorem iL_law_249 : ab_at mL_law 249 (.aload_n 0) 1 250 := ⟨by decide +kernel, rfl⟩
theorem iL_law_250 : ab_at mL_law 250 (.iload_n 3) 1 251 := ⟨by decide +kernel, rfl⟩
theorem iL_law_251 : ab_at mL_law 251 (.iconst 1) 1 252 := ⟨by decide +kernel, rfl⟩
theorem iL_law_252 : ab_at mL_law 252 (.iadd) 1 253 := ⟨by decide +kernel, rfl⟩
theorem iL_law_253 : ab_at mL_law 253 (.iaload) 1 254 := ⟨by decide +kernel, rfl⟩
theorem iL_law_254 : ab_at mL_law 254 (.aload_n 0) 1 255 := ⟨by decide +kernel, rfl⟩
theorem iL_law_255 : ab_at mL_law 255 (.iload_n 3) 1 256 := ⟨by decide +kernel, rfl⟩
theorem iL_law_256 : ab_at mL_law 256 (.iconst 2) 1 257 := ⟨by decide +kernel, rfl⟩
theorem iL_law_257 : ab_at mL_law 257 (.iadd) 1 258 := ⟨by decide +kernel, rfl⟩
theorem iL_law_258 : ab_at mL_law 258 (.iaload) 1 259 := ⟨by decide +kernel, rfl⟩
theorem iL_law_259 : ab_at mL_law 259 (.aload_n 0) 1 260 := ⟨by decide +kernel, rfl⟩
theorem iL_law_260 : ab_at mL_law 260 (.iload_n 3) 1 261 := ⟨by decide +kernel, rfl⟩
theorem iL_law_261 : ab_at mL_law 261 (.iconst 3) 1 262 := ⟨by decide +kernel, rfl⟩
theorem iL_law_262 : ab_at mL_law 262 (.iadd) 1 263 := ⟨by decide +kernel, rfl⟩
theorem iL_law_263 : ab_at mL_law 263 (.iaload) 1 264 := ⟨by decide +kernel, rfl⟩
theorem iL_law_264 : ab_bi mL_law 264 .eq 267 271 := ⟨7, by decide +kernel, rfl, by decide⟩
theorem iL_law_267 : ab_at mL_law 267 (.iconst 1) 1 268 := ⟨by decide +kernel, rfl⟩
theorem iL_law_268 : ab_bg mL_law 268 272 := ⟨4, by decide +kernel, by decide⟩
theorem iL_law_271 : ab_at mL_law 271 (.iconst 0) 1 272 := ⟨by decide +kernel, rfl⟩
theorem iL_law_272 : ab_at mL_law 272 (.invokevirtual 23) 3 275 := ⟨by decide +kernel, rfl⟩
theorem iL_law_275 : ab_at mL_law 275 (.aload_n 2) 1 276 := ⟨by decide +kernel, rfl⟩
theorem iL_law_276 : ab_at mL_law 276 (.aload_n 0) 1 277 := ⟨by decide +kernel, rfl⟩
theorem iL_law_277 : ab_at mL_law 277 (.iload_n 3) 1 278 := ⟨by decide +kernel, rfl⟩
theorem iL_law_278 : ab_at mL_law 278 (.iconst 1) 1 279 := ⟨by decide +kernel, rfl⟩
theorem iL_law_279 : ab_at mL_law 279 (.iadd) 1 280 := ⟨by decide +kernel, rfl⟩
theorem iL_law_280 : ab_at mL_law 280 (.iaload) 1 281 := ⟨by decide +kernel, rfl⟩
theorem iL_law_281 : ab_at mL_law 281 (.aload_n 0) 1 282 := ⟨by decide +kernel, rfl⟩
theorem iL_law_282 : ab_at mL_law 282 (.iload_n 3) 1 283 := ⟨by decide +kernel, rfl⟩
theorem iL_law_283 : ab_at mL_law 283 (.iconst 2) 1 284 := ⟨by decide +kernel, rfl⟩
theorem iL_law_284 : ab_at mL_law 284 (.iadd) 1 285 := ⟨by decide +kernel, rfl⟩
theorem iL_law_285 : ab_at mL_law 285 (.iaload) 1 286 := ⟨by decide +kernel, rfl⟩
theorem iL_law_286 : ab_at mL_law 286 (.aload_n 0) 1 287 := ⟨by decide +kernel, rfl⟩
theorem iL_law_287 : ab_at mL_law 287 (.iload_n 3) 1 288 := ⟨by decide +kernel, rfl⟩
theorem iL_law_288 : ab_at mL_law 288 (.iconst 3) 1 289 := ⟨by decide +kernel, rfl⟩
theorem iL_law_289 : ab_at mL_law 289 (.iadd) 1 290 := ⟨by decide +kernel, rfl⟩
theorem iL_law_290 : ab_at mL_law 290 (.iaload) 1 291 := ⟨by decide +kernel, rfl⟩
theorem iL_law_291 : ab_bi mL_law 291 .eq 294 298 := ⟨7, by decide +kernel, rfl, by decide⟩
theorem iL_law_294 : ab_at mL_law 294 (.iconst 1) 1 295 := ⟨by decide +kernel, rfl⟩
theorem iL_law_295 : ab_bg mL_law 295 299 := ⟨4, by decide +kernel, by decide⟩
theorem iL_law_298 : ab_at mL_law 298 (.iconst 0) 1 299 := ⟨by decide +kernel, rfl⟩
theorem iL_law_299 : ab_at mL_law 299 (.invokevirtual 27) 3 302 := ⟨by decide +kernel, rfl⟩
theorem iL_law_302 : ab_bc mL_law 302 .eq 305 962 := ⟨660, by decide +kernel, rfl, by decide⟩
theorem iL_law_305 : ab_at mL_law 305 (.iconst 0) 1 306 := ⟨by decide +kernel, rfl⟩
theorem iL_law_306 : ab_at mL_law 306 (.ireturn) 1 307 := ⟨by decide +kernel, rfl⟩
theorem iL_law_307 : ab_at mL_law 307 (.aload_n 1) 1 308 := ⟨by decide +kernel, rfl⟩
theorem iL_law_308 : ab_at mL_law 308 (.aload_n 0) 1 309 := ⟨by decide +kernel, rfl⟩
theorem iL_law_309 : ab_at mL_law 309 (.iload_n 3) 1 310 := ⟨by decide +kernel, rfl⟩
theorem iL_law_310 : ab_at mL_law 310 (.iconst 1) 1 311 := ⟨by decide +kernel, rfl⟩
theorem iL_law_311 : ab_at mL_law 311 (.iadd) 1 312 := ⟨by decide +kernel, rfl⟩
theorem iL_law_312 : ab_at mL_law 312 (.iaload) 1 313 := ⟨by decide +kernel, rfl⟩
theorem iL_law_313 : ab_at mL_law 313 (.aload_n 0) 1 314 := ⟨by decide +kernel, rfl⟩
theorem iL_law_314 : ab_at mL_law 314 (.iload_n 3) 1 315 := ⟨by decide +kernel, rfl⟩
theorem iL_law_315 : ab_at mL_law 315 (.iconst 2) 1 316 := ⟨by decide +kernel, rfl⟩
theorem iL_law_316 : ab_at mL_law 316 (.iadd) 1 317 := ⟨by decide +kernel, rfl⟩
theorem iL_law_317 : ab_at mL_law 317 (.iaload) 1 318 := ⟨by decide +kernel, rfl⟩
theorem iL_law_318 : ab_at mL_law 318 (.invokevirtual 28) 3 321 := ⟨by decide +kernel, rfl⟩
theorem iL_law_321 : ab_at mL_law 321 (.aload_n 2) 1 322 := ⟨by decide +kernel, rfl⟩
theorem iL_law_322 : ab_at mL_law 322 (.aload_n 0) 1 323 := ⟨by decide +kernel, rfl⟩
theorem iL_law_323 : ab_at mL_law 323 (.iload_n 3) 1 324 := ⟨by decide +kernel, rfl⟩
theorem iL_law_324 : ab_at mL_law 324 (.iconst 1) 1 325 := ⟨by decide +kernel, rfl⟩
theorem iL_law_325 : ab_at mL_law 325 (.iadd) 1 326 := ⟨by decide +kernel, rfl⟩
theorem iL_law_326 : ab_at mL_law 326 (.iaload) 1 327 := ⟨by decide +kernel, rfl⟩
theorem iL_law_327 : ab_at mL_law 327 (.aload_n 0) 1 328 := ⟨by decide +kernel, rfl⟩
theorem iL_law_328 : ab_at mL_law 328 (.iload_n 3) 1 329 := ⟨by decide +kernel, rfl⟩
theorem iL_law_329 : ab_at mL_law 329 (.iconst 2) 1 330 := ⟨by decide +kernel, rfl⟩
theorem iL_law_330 : ab_at mL_law 330 (.iadd) 1 331 := ⟨by decide +kernel, rfl⟩
theorem iL_law_331 : ab_at mL_law 331 (.iaload) 1 332 := ⟨by decide +kernel, rfl⟩
theorem iL_law_332 : ab_at mL_law 332 (.invokevirtual 31) 3 335 := ⟨by decide +kernel, rfl⟩
theorem iL_law_335 : ab_bc mL_law 335 .eq 338 962 := ⟨627, by decide +kernel, rfl, by decide⟩
theorem iL_law_338 : ab_at mL_law 338 (.iconst 0) 1 339 := ⟨by decide +kernel, rfl⟩
theorem iL_law_339 : ab_at mL_law 339 (.ireturn) 1 340 := ⟨by decide +kernel, rfl⟩
theorem iL_law_340 : ab_at mL_law 340 (.aload_n 1) 1 341 := ⟨by decide +kernel, rfl⟩
theorem iL_law_341 : ab_at mL_law 341 (.aload_n 0) 1 342 := ⟨by decide +kernel, rfl⟩
theorem iL_law_342 : ab_at mL_law 342 (.iload_n 3) 1 343 := ⟨by decide +kernel, rfl⟩
theorem iL_law_343 : ab_at mL_law 343 (.iconst 1) 1 344 := ⟨by decide +kernel, rfl⟩
theorem iL_law_344 : ab_at mL_law 344 (.iadd) 1 345 := ⟨by decide +kernel, rfl⟩
theorem iL_law_345 : ab_at mL_law 345 (.iaload) 1 346 := ⟨by decide +kernel, rfl⟩
theorem iL_law_346 : ab_at mL_law 346 (.aload_n 0) 1 347 := ⟨by decide +kernel, rfl⟩
theorem iL_law_347 : ab_at mL_law 347 (.iload_n 3) 1 348 := ⟨by decide +kernel, rfl⟩
theorem iL_law_348 : ab_at mL_law 348 (.iconst 2) 1 349 := ⟨by decide +kernel, rfl⟩
theorem iL_law_349 : ab_at mL_law 349 (.iadd) 1 350 := ⟨by decide +kernel, rfl⟩
theorem iL_law_350 : ab_at mL_law 350 (.iaload) 1 351 := ⟨by decide +kernel, rfl⟩
theorem iL_law_351 : ab_at mL_law 351 (.invokevirtual 32) 3 354 := ⟨by decide +kernel, rfl⟩
theorem iL_law_354 : ab_at mL_law 354 (.aload_n 2) 1 355 := ⟨by decide +kernel, rfl⟩
theorem iL_law_355 : ab_at mL_law 355 (.aload_n 0) 1 356 := ⟨by decide +kernel, rfl⟩
theorem iL_law_356 : ab_at mL_law 356 (.iload_n 3) 1 357 := ⟨by decide +kernel, rfl⟩
theorem iL_law_357 : ab_at mL_law 357 (.iconst 1) 1 358 := ⟨by decide +kernel, rfl⟩
theorem iL_law_358 : ab_at mL_law 358 (.iadd) 1 359 := ⟨by decide +kernel, rfl⟩
theorem iL_law_359 : ab_at mL_law 359 (.iaload) 1 360 := ⟨by decide +kernel, rfl⟩
theorem iL_law_360 : ab_at mL_law 360 (.aload_n 0) 1 361 := ⟨by decide +kernel, rfl⟩
theorem iL_law_361 : ab_at mL_law 361 (.iload_n 3) 1 362 := ⟨by decide +kernel, rfl⟩
theorem iL_law_362 : ab_at mL_law 362 (.iconst 2) 1 363 := ⟨by decide +kernel, rfl⟩
theorem iL_law_363 : ab_at mL_law 363 (.iadd) 1 364 := ⟨by decide +kernel, rfl⟩
theorem iL_law_364 : ab_at mL_law 364 (.iaload) 1 365 := ⟨by decide +kernel, rfl⟩
theorem iL_law_365 : ab_at mL_law 365 (.invokevirtual 35) 3 368 := ⟨by decide +kernel, rfl⟩
theorem iL_law_368 : ab_bc mL_law 368 .eq 371 962 := ⟨594, by decide +kernel, rfl, by decide⟩
theorem iL_law_371 : ab_at mL_law 371 (.iconst 0) 1 372 := ⟨by decide +kernel, rfl⟩
theorem iL_law_372 : ab_at mL_law 372 (.ireturn) 1 373 := ⟨by decide +kernel, rfl⟩
theorem iL_law_373 : ab_at mL_law 373 (.aload_n 1) 1 374 := ⟨by decide +kernel, rfl⟩
theorem iL_law_374 : ab_at mL_law 374 (.aload_n 0) 1 375 := ⟨by decide +kernel, rfl⟩
theorem iL_law_375 : ab_at mL_law 375 (.iload_n 3) 1 376 := ⟨by decide +kernel, rfl⟩
theorem iL_law_376 : ab_at mL_law 376 (.iconst 1) 1 377 := ⟨by decide +kernel, rfl⟩
theorem iL_law_377 : ab_at mL_law 377 (.iadd) 1 378 := ⟨by decide +kernel, rfl⟩
theorem iL_law_378 : ab_at mL_law 378 (.iaload) 1 379 := ⟨by decide +kernel, rfl⟩
theorem iL_law_379 : ab_at mL_law 379 (.aload_n 0) 1 380 := ⟨by decide +kernel, rfl⟩
theorem iL_law_380 : ab_at mL_law 380 (.iload_n 3) 1 381 := ⟨by decide +kernel, rfl⟩
theorem iL_law_381 : ab_at mL_law 381 (.iconst 2) 1 382 := ⟨by decide +kernel, rfl⟩
theorem iL_law_382 : ab_at mL_law 382 (.iadd) 1 383 := ⟨by decide +kernel, rfl⟩
theorem iL_law_383 : ab_at mL_law 383 (.iaload) 1 384 := ⟨by decide +kernel, rfl⟩
theorem iL_law_384 : ab_at mL_law 384 (.invokevirtual 36) 3 387 := ⟨by decide +kernel, rfl⟩
theorem iL_law_387 : ab_at mL_law 387 (.aload_n 2) 1 388 := ⟨by decide +kernel, rfl⟩
theorem iL_law_388 : ab_at mL_law 388 (.aload_n 0) 1 389 := ⟨by decide +kernel, rfl⟩
theorem iL_law_389 : ab_at mL_law 389 (.iload_n 3) 1 390 := ⟨by decide +kernel, rfl⟩
theorem iL_law_390 : ab_at mL_law 390 (.iconst 1) 1 391 := ⟨by decide +kernel, rfl⟩
theorem iL_law_391 : ab_at mL_law 391 (.iadd) 1 392 := ⟨by decide +kernel, rfl⟩
theorem iL_law_392 : ab_at mL_law 392 (.iaload) 1 393 := ⟨by decide +kernel, rfl⟩
theorem iL_law_393 : ab_at mL_law 393 (.aload_n 0) 1 394 := ⟨by decide +kernel, rfl⟩
theorem iL_law_394 : ab_at mL_law 394 (.iload_n 3) 1 395 := ⟨by decide +kernel, rfl⟩
theorem iL_law_395 : ab_at mL_law 395 (.iconst 2) 1 396 := ⟨by decide +kernel, rfl⟩
theorem iL_law_396 : ab_at mL_law 396 (.iadd) 1 397 := ⟨by decide +kernel, rfl⟩
theorem iL_law_397 : ab_at mL_law 397 (.iaload) 1 398 := ⟨by decide +kernel, rfl⟩
theorem iL_law_398 : ab_at mL_law 398 (.invokevirtual 39) 3 401 := ⟨by decide +kernel, rfl⟩
theorem iL_law_401 : ab_bc mL_law 401 .eq 404 962 := ⟨561, by decide +kernel, rfl, by decide⟩
theorem iL_law_404 : ab_at mL_law 404 (.iconst 0) 1 405 := ⟨by decide +kernel, rfl⟩
theorem iL_law_405 : ab_at mL_law 405 (.ireturn) 1 406 := ⟨by decide +kernel, rfl⟩
theorem iL_law_406 : ab_at mL_law 406 (.aload_n 1) 1 407 := ⟨by decide +kernel, rfl⟩
theorem iL_law_407 : ab_at mL_law 407 (.aload_n 0) 1 408 := ⟨by decide +kernel, rfl⟩
theorem iL_law_408 : ab_at mL_law 408 (.iload_n 3) 1 409 := ⟨by decide +kernel, rfl⟩
theorem iL_law_409 : ab_at mL_law 409 (.iconst 1) 1 410 := ⟨by decide +kernel, rfl⟩
theorem iL_law_410 : ab_at mL_law 410 (.iadd) 1 411 := ⟨by decide +kernel, rfl⟩
theorem iL_law_411 : ab_at mL_law 411 (.iaload) 1 412 := ⟨by decide +kernel, rfl⟩
theorem iL_law_412 : ab_at mL_law 412 (.invokevirtual 40) 3 415 := ⟨by decide +kernel, rfl⟩
theorem iL_law_415 : ab_at mL_law 415 (.aload_n 2) 1 416 := ⟨by decide +kernel, rfl⟩
theorem iL_law_416 : ab_at mL_law 416 (.aload_n 0) 1 417 := ⟨by decide +kernel, rfl⟩
theorem iL_law_417 : ab_at mL_law 417 (.iload_n 3) 1 418 := ⟨by decide +kernel, rfl⟩
theorem iL_law_418 : ab_at mL_law 418 (.iconst 1) 1 419 := ⟨by decide +kernel, rfl⟩
theorem iL_law_419 : ab_at mL_law 419 (.iadd) 1 420 := ⟨by decide +kernel, rfl⟩
theorem iL_law_420 : ab_at mL_law 420 (.iaload) 1 421 := ⟨by decide +kernel, rfl⟩
theorem iL_law_421 : ab_at mL_law 421 (.invokevirtual 44) 3 424 := ⟨by decide +kernel, rfl⟩
theorem iL_law_424 : ab_bc mL_law 424 .eq 427 962 := ⟨538, by decide +kernel, rfl, by decide⟩
theorem iL_law_427 : ab_at mL_law 427 (.iconst 0) 1 428 := ⟨by decide +kernel, rfl⟩
theorem iL_law_428 : ab_at mL_law 428 (.ireturn) 1 429 := ⟨by decide +kernel, rfl⟩
theorem iL_law_429 : ab_at mL_law 429 (.aload_n 1) 1 430 := ⟨by decide +kernel, rfl⟩
theorem iL_law_430 : ab_at mL_law 430 (.aload_n 0) 1 431 := ⟨by decide +kernel, rfl⟩
theorem iL_law_431 : ab_at mL_law 431 (.iload_n 3) 1 432 := ⟨by decide +kernel, rfl⟩
theorem iL_law_432 : ab_at mL_law 432 (.iconst 1) 1 433 := ⟨by decide +kernel, rfl⟩
theorem iL_law_433 : ab_at mL_law 433 (.iadd) 1 434 := ⟨by decide +kernel, rfl⟩
theorem iL_law_434 : ab_at mL_law 434 (.iaload) 1 435 := ⟨by decide +kernel, rfl⟩
theorem iL_law_435 : ab_at mL_law 435 (.aload_n 0) 1 436 := ⟨by decide +kernel, rfl⟩
theorem iL_law_436 : ab_at mL_law 436 (.iload_n 3) 1 437 := ⟨by decide +kernel, rfl⟩
theorem iL_law_437 : ab_at mL_law 437 (.iconst 2) 1 438 := ⟨by decide +kernel, rfl⟩
theorem iL_law_438 : ab_at mL_law 438 (.iadd) 1 439 := ⟨by decide +kernel, rfl⟩
theorem iL_law_439 : ab_at mL_law 439 (.iaload) 1 440 := ⟨by decide +kernel, rfl⟩
theorem iL_law_440 : ab_at mL_law 440 (.invokevirtual 45) 3 443 := ⟨by decide +kernel, rfl⟩
theorem iL_law_443 : ab_at mL_law 443 (.aload_n 2) 1 444 := ⟨by decide +kernel, rfl⟩
theorem iL_law_444 : ab_at mL_law 444 (.aload_n 0) 1 445 := ⟨by decide +kernel, rfl⟩
theorem iL_law_445 : ab_at mL_law 445 (.iload_n 3) 1 446 := ⟨by decide +kernel, rfl⟩
theorem iL_law_446 : ab_at mL_law 446 (.iconst 1) 1 447 := ⟨by decide +kernel, rfl⟩
theorem iL_law_447 : ab_at mL_law 447 (.iadd) 1 448 := ⟨by decide +kernel, rfl⟩
theorem iL_law_448 : ab_at mL_law 448 (.iaload) 1 449 := ⟨by decide +kernel, rfl⟩
theorem iL_law_449 : ab_at mL_law 449 (.aload_n 0) 1 450 := ⟨by decide +kernel, rfl⟩
theorem iL_law_450 : ab_at mL_law 450 (.iload_n 3) 1 451 := ⟨by decide +kernel, rfl⟩
theorem iL_law_451 : ab_at mL_law 451 (.iconst 2) 1 452 := ⟨by decide +kernel, rfl⟩
theorem iL_law_452 : ab_at mL_law 452 (.iadd) 1 453 := ⟨by decide +kernel, rfl⟩
theorem iL_law_453 : ab_at mL_law 453 (.iaload) 1 454 := ⟨by decide +kernel, rfl⟩
theorem iL_law_454 : ab_at mL_law 454 (.invokevirtual 48) 3 457 := ⟨by decide +kernel, rfl⟩
theorem iL_law_457 : ab_bc mL_law 457 .eq 460 962 := ⟨505, by decide +kernel, rfl, by decide⟩
theorem iL_law_460 : ab_at mL_law 460 (.iconst 0) 1 461 := ⟨by decide +kernel, rfl⟩
theorem iL_law_461 : ab_at mL_law 461 (.ireturn) 1 462 := ⟨by decide +kernel, rfl⟩
theorem iL_law_462 : ab_at mL_law 462 (.aload_n 1) 1 463 := ⟨by decide +kernel, rfl⟩
theorem iL_law_463 : ab_at mL_law 463 (.aload_n 0) 1 464 := ⟨by decide +kernel, rfl⟩
theorem iL_law_464 : ab_at mL_law 464 (.iload_n 3) 1 465 := ⟨by decide +kernel, rfl⟩
theorem iL_law_465 : ab_at mL_law 465 (.iconst 1) 1 466 := ⟨by decide +kernel, rfl⟩
theorem iL_law_466 : ab_at mL_law 466 (.iadd) 1 467 := ⟨by decide +kernel, rfl⟩
theorem iL_law_467 : ab_at mL_law 467 (.iaload) 1 468 := ⟨by decide +kernel, rfl⟩
theorem iL_law_468 : ab_at mL_law 468 (.aload_n 0) 1 469 := ⟨by decide +kernel, rfl⟩
theorem iL_law_469 : ab_at mL_law 469 (.iload_n 3) 1 470 := ⟨by decide +kernel, rfl⟩
theorem iL_law_470 : ab_at mL_law 470 (.iconst 2) 1 471 := ⟨by decide +kernel, rfl⟩
theorem iL_law_471 : ab_at mL_law 471 (.iadd) 1 472 := ⟨by decide +kernel, rfl⟩
theorem iL_law_472 : ab_at mL_law 472 (.iaload) 1 473 := ⟨by decide +kernel, rfl⟩
theorem iL_law_473 : ab_at mL_law 473 (.invokevirtual 49) 3 476 := ⟨by decide +kernel, rfl⟩
theorem iL_law_476 : ab_at mL_law 476 (.aload_n 2) 1 477 := ⟨by decide +kernel, rfl⟩
theorem iL_law_477 : ab_at mL_law 477 (.aload_n 0) 1 478 := ⟨by decide +kernel, rfl⟩
theorem iL_law_478 : ab_at mL_law 478 (.iload_n 3) 1 479 := ⟨by decide +kernel, rfl⟩
theorem iL_law_479 : ab_at mL_law 479 (.iconst 1) 1 480 := ⟨by decide +kernel, rfl⟩
theorem iL_law_480 : ab_at mL_law 480 (.iadd) 1 481 := ⟨by decide +kernel, rfl⟩
theorem iL_law_481 : ab_at mL_law 481 (.iaload) 1 482 := ⟨by decide +kernel, rfl⟩
theorem iL_law_482 : ab_at mL_law 482 (.aload_n 0) 1 483 := ⟨by decide +kernel, rfl⟩
theorem iL_law_483 : ab_at mL_law 483 (.iload_n 3) 1 484 := ⟨by decide +kernel, rfl⟩
theorem iL_law_484 : ab_at mL_law 484 (.iconst 2) 1 485 := ⟨by decide +kernel, rfl⟩
theorem iL_law_485 : ab_at mL_law 485 (.iadd) 1 486 := ⟨by decide +kernel, rfl⟩
theorem iL_law_486 : ab_at mL_law 486 (.iaload) 1 487 := ⟨by decide +kernel, rfl⟩
theorem iL_law_487 : ab_at mL_law 487 (.invokevirtual 52) 3 490 := ⟨by decide +kernel, rfl⟩
theorem iL_law_490 : ab_bc mL_law 490 .eq 493 962 := ⟨472, by decide +kernel, rfl, by decide⟩
theorem iL_law_493 : ab_at mL_law 493 (.iconst 0) 1 494 := ⟨by decide +kernel, rfl⟩
theorem iL_law_494 : ab_at mL_law 494 (.ireturn) 1 495 := ⟨by decide +kernel, rfl⟩
theorem iL_law_495 : ab_at mL_law 495 (.aload_n 1) 1 496 := ⟨by decide +kernel, rfl⟩
theorem iL_law_496 : ab_at mL_law 496 (.aload_n 0) 1 497 := ⟨by decide +kernel, rfl⟩
theorem iL_law_497 : ab_at mL_law 497 (.iload_n 3) 1 498 := ⟨by decide +kernel, rfl⟩
theorem iL_law_498 : ab_at mL_law 498 (.iconst 1) 1 499 := ⟨by decide +kernel, rfl⟩
theorem iL_law_499 : ab_at mL_law 499 (.iadd) 1 500 := ⟨by decide +kernel, rfl⟩
theorem iL_law_500 : ab_at mL_law 500 (.iaload) 1 501 := ⟨by decide +kernel, rfl⟩
theorem iL_law_501 : ab_at mL_law 501 (.aload_n 0) 1 502 := ⟨by decide +kernel, rfl⟩
theorem iL_law_502 : ab_at mL_law 502 (.iload_n 3) 1 503 := ⟨by decide +kernel, rfl⟩
theorem iL_law_503 : ab_at mL_law 503 (.iconst 2) 1 504 := ⟨by decide +kernel, rfl⟩
theorem iL_law_504 : ab_at mL_law 504 (.iadd) 1 505 := ⟨by decide +kernel, rfl⟩
theorem iL_law_505 : ab_at mL_law 505 (.iaload) 1 506 := ⟨by decide +kernel, rfl⟩
theorem iL_law_506 : ab_at mL_law 506 (.invokevirtual 53) 3 509 := ⟨by decide +kernel, rfl⟩
theorem iL_law_509 : ab_at mL_law 509 (.aload_n 2) 1 510 := ⟨by decide +kernel, rfl⟩
theorem iL_law_510 : ab_at mL_law 510 (.aload_n 0) 1 511 := ⟨by decide +kernel, rfl⟩
theorem iL_law_511 : ab_at mL_law 511 (.iload_n 3) 1 512 := ⟨by decide +kernel, rfl⟩
theorem iL_law_512 : ab_at mL_law 512 (.iconst 1) 1 513 := ⟨by decide +kernel, rfl⟩
theorem iL_law_513 : ab_at mL_law 513 (.iadd) 1 514 := ⟨by decide +kernel, rfl⟩
theorem iL_law_514 : ab_at mL_law 514 (.iaload) 1 515 := ⟨by decide +kernel, rfl⟩
theorem iL_law_515 : ab_at mL_law 515 (.aload_n 0) 1 516 := ⟨by decide +kernel, rfl⟩
theorem iL_law_516 : ab_at mL_law 516 (.iload_n 3) 1 517 := ⟨by decide +kernel, rfl⟩
theorem iL_law_517 : ab_at mL_law 517 (.iconst 2) 1 518 := ⟨by decide +kernel, rfl⟩
theorem iL_law_518 : ab_at mL_law 518 (.iadd) 1 519 := ⟨by decide +kernel, rfl⟩
theorem iL_law_519 : ab_at mL_law 519 (.iaload) 1 520 := ⟨by decide +kernel, rfl⟩
theorem iL_law_520 : ab_at mL_law 520 (.invokevirtual 56) 3 523 := ⟨by decide +kernel, rfl⟩
theorem iL_law_523 : ab_bc mL_law 523 .eq 526 962 := ⟨439, by decide +kernel, rfl, by decide⟩
theorem iL_law_526 : ab_at mL_law 526 (.iconst 0) 1 527 := ⟨by decide +kernel, rfl⟩
theorem iL_law_527 : ab_at mL_law 527 (.ireturn) 1 528 := ⟨by decide +kernel, rfl⟩
theorem iL_law_528 : ab_at mL_law 528 (.aload_n 1) 1 529 := ⟨by decide +kernel, rfl⟩
theorem iL_law_529 : ab_at mL_law 529 (.aload_n 0) 1 530 := ⟨by decide +kernel, rfl⟩
theorem iL_law_530 : ab_at mL_law 530 (.iload_n 3) 1 531 := ⟨by decide +kernel, rfl⟩
theorem iL_law_531 : ab_at mL_law 531 (.iconst 1) 1 532 := ⟨by decide +kernel, rfl⟩
theorem iL_law_532 : ab_at mL_law 532 (.iadd) 1 533 := ⟨by decide +kernel, rfl⟩
theorem iL_law_533 : ab_at mL_law 533 (.iaload) 1 534 := ⟨by decide +kernel, rfl⟩
theorem iL_law_534 : ab_at mL_law 534 (.aload_n 0) 1 535 := ⟨by decide +kernel, rfl⟩
theorem iL_law_535 : ab_at mL_law 535 (.iload_n 3) 1 536 := ⟨by decide +kernel, rfl⟩
theorem iL_law_536 : ab_at mL_law 536 (.iconst 2) 1 537 := ⟨by decide +kernel, rfl⟩
theorem iL_law_537 : ab_at mL_law 537 (.iadd) 1 538 := ⟨by decide +kernel, rfl⟩
theorem iL_law_538 : ab_at mL_law 538 (.iaload) 1 539 := ⟨by decide +kernel, rfl⟩
theorem iL_law_539 : ab_at mL_law 539 (.invokevirtual 57) 3 542 := ⟨by decide +kernel, rfl⟩
theorem iL_law_542 : ab_at mL_law 542 (.aload_n 2) 1 543 := ⟨by decide +kernel, rfl⟩
theorem iL_law_543 : ab_at mL_law 543 (.aload_n 0) 1 544 := ⟨by decide +kernel, rfl⟩
theorem iL_law_544 : ab_at mL_law 544 (.iload_n 3) 1 545 := ⟨by decide +kernel, rfl⟩
theorem iL_law_545 : ab_at mL_law 545 (.iconst 1) 1 546 := ⟨by decide +kernel, rfl⟩
theorem iL_law_546 : ab_at mL_law 546 (.iadd) 1 547 := ⟨by decide +kernel, rfl⟩
theorem iL_law_547 : ab_at mL_law 547 (.iaload) 1 548 := ⟨by decide +kernel, rfl⟩
theorem iL_law_548 : ab_at mL_law 548 (.aload_n 0) 1 549 := ⟨by decide +kernel, rfl⟩
theorem iL_law_549 : ab_at mL_law 549 (.iload_n 3) 1 550 := ⟨by decide +kernel, rfl⟩
theorem iL_law_550 : ab_at mL_law 550 (.iconst 2) 1 551 := ⟨by decide +kernel, rfl⟩
theorem iL_law_551 : ab_at mL_law 551 (.iadd) 1 552 := ⟨by decide +kernel, rfl⟩
theorem iL_law_552 : ab_at mL_law 552 (.iaload) 1 553 := ⟨by decide +kernel, rfl⟩
theorem iL_law_553 : ab_at mL_law 553 (.invokevirtual 60) 3 556 := ⟨by decide +kernel, rfl⟩
theorem iL_law_556 : ab_bc mL_law 556 .eq 559 962 := ⟨406, by decide +kernel, rfl, by decide⟩
theorem iL_law_559 : ab_at mL_law 559 (.iconst 0) 1 560 := ⟨by decide +kernel, rfl⟩
theorem iL_law_560 : ab_at mL_law 560 (.ireturn) 1 561 := ⟨by decide +kernel, rfl⟩
theorem iL_law_561 : ab_at mL_law 561 (.aload_n 1) 1 562 := ⟨by decide +kernel, rfl⟩
theorem iL_law_562 : ab_at mL_law 562 (.aload_n 0) 1 563 := ⟨by decide +kernel, rfl⟩
theorem iL_law_563 : ab_at mL_law 563 (.iload_n 3) 1 564 := ⟨by decide +kernel, rfl⟩
theorem iL_law_564 : ab_at mL_law 564 (.iconst 1) 1 565 := ⟨by decide +kernel, rfl⟩
theorem iL_law_565 : ab_at mL_law 565 (.iadd) 1 566 := ⟨by decide +kernel, rfl⟩
theorem iL_law_566 : ab_at mL_law 566 (.iaload) 1 567 := ⟨by decide +kernel, rfl⟩
theorem iL_law_567 : ab_at mL_law 567 (.aload_n 0) 1 568 := ⟨by decide +kernel, rfl⟩
theorem iL_law_568 : ab_at mL_law 568 (.iload_n 3) 1 569 := ⟨by decide +kernel, rfl⟩
theorem iL_law_569 : ab_at mL_law 569 (.iconst 2) 1 570 := ⟨by decide +kernel, rfl⟩
theorem iL_law_570 : ab_at mL_law 570 (.iadd) 1 571 := ⟨by decide +kernel, rfl⟩
theorem iL_law_571 : ab_at mL_law 571 (.iaload) 1 572 := ⟨by decide +kernel, rfl⟩
theorem iL_law_572 : ab_at mL_law 572 (.invokevirtual 61) 3 575 := ⟨by decide +kernel, rfl⟩
theorem iL_law_575 : ab_at mL_law 575 (.aload_n 2) 1 576 := ⟨by decide +kernel, rfl⟩
theorem iL_law_576 : ab_at mL_law 576 (.aload_n 0) 1 577 := ⟨by decide +kernel, rfl⟩
theorem iL_law_577 : ab_at mL_law 577 (.iload_n 3) 1 578 := ⟨by decide +kernel, rfl⟩
theorem iL_law_578 : ab_at mL_law 578 (.iconst 1) 1 579 := ⟨by decide +kernel, rfl⟩
theorem iL_law_579 : ab_at mL_law 579 (.iadd) 1 580 := ⟨by decide +kernel, rfl⟩
theorem iL_law_580 : ab_at mL_law 580 (.iaload) 1 581 := ⟨by decide +kernel, rfl⟩
theorem iL_law_581 : ab_at mL_law 581 (.aload_n 0) 1 582 := ⟨by decide +kernel, rfl⟩
theorem iL_law_582 : ab_at mL_law 582 (.iload_n 3) 1 583 := ⟨by decide +kernel, rfl⟩
theorem iL_law_583 : ab_at mL_law 583 (.iconst 2) 1 584 := ⟨by decide +kernel, rfl⟩
theorem iL_law_584 : ab_at mL_law 584 (.iadd) 1 585 := ⟨by decide +kernel, rfl⟩
theorem iL_law_585 : ab_at mL_law 585 (.iaload) 1 586 := ⟨by decide +kernel, rfl⟩
theorem iL_law_586 : ab_at mL_law 586 (.invokevirtual 64) 3 589 := ⟨by decide +kernel, rfl⟩
theorem iL_law_589 : ab_bc mL_law 589 .eq 592 962 := ⟨373, by decide +kernel, rfl, by decide⟩
theorem iL_law_592 : ab_at mL_law 592 (.iconst 0) 1 593 := ⟨by decide +kernel, rfl⟩
theorem iL_law_593 : ab_at mL_law 593 (.ireturn) 1 594 := ⟨by decide +kernel, rfl⟩
theorem iL_law_594 : ab_at mL_law 594 (.aload_n 1) 1 595 := ⟨by decide +kernel, rfl⟩
theorem iL_law_595 : ab_at mL_law 595 (.aload_n 0) 1 596 := ⟨by decide +kernel, rfl⟩
theorem iL_law_596 : ab_at mL_law 596 (.iload_n 3) 1 597 := ⟨by decide +kernel, rfl⟩
theorem iL_law_597 : ab_at mL_law 597 (.iconst 1) 1 598 := ⟨by decide +kernel, rfl⟩
theorem iL_law_598 : ab_at mL_law 598 (.iadd) 1 599 := ⟨by decide +kernel, rfl⟩
theorem iL_law_599 : ab_at mL_law 599 (.iaload) 1 600 := ⟨by decide +kernel, rfl⟩
theorem iL_law_600 : ab_at mL_law 600 (.invokevirtual 65) 3 603 := ⟨by decide +kernel, rfl⟩
theorem iL_law_603 : ab_at mL_law 603 (.aload_n 2) 1 604 := ⟨by decide +kernel, rfl⟩
theorem iL_law_604 : ab_at mL_law 604 (.aload_n 0) 1 605 := ⟨by decide +kernel, rfl⟩
theorem iL_law_605 : ab_at mL_law 605 (.iload_n 3) 1 606 := ⟨by decide +kernel, rfl⟩
theorem iL_law_606 : ab_at mL_law 606 (.iconst 1) 1 607 := ⟨by decide +kernel, rfl⟩
theorem iL_law_607 : ab_at mL_law 607 (.iadd) 1 608 := ⟨by decide +kernel, rfl⟩
theorem iL_law_608 : ab_at mL_law 608 (.iaload) 1 609 := ⟨by decide +kernel, rfl⟩
theorem iL_law_609 : ab_at mL_law 609 (.invokevirtual 68) 3 612 := ⟨by decide +kernel, rfl⟩
theorem iL_law_612 : ab_bc mL_law 612 .eq 615 962 := ⟨350, by decide +kernel, rfl, by decide⟩
theorem iL_law_615 : ab_at mL_law 615 (.iconst 0) 1 616 := ⟨by decide +kernel, rfl⟩
theorem iL_law_616 : ab_at mL_law 616 (.ireturn) 1 617 := ⟨by decide +kernel, rfl⟩
theorem iL_law_617 : ab_at mL_law 617 (.aload_n 1) 1 618 := ⟨by decide +kernel, rfl⟩
theorem iL_law_618 : ab_at mL_law 618 (.aload_n 0) 1 619 := ⟨by decide +kernel, rfl⟩
theorem iL_law_619 : ab_at mL_law 619 (.iload_n 3) 1 620 := ⟨by decide +kernel, rfl⟩
theorem iL_law_620 : ab_at mL_law 620 (.iconst 1) 1 621 := ⟨by decide +kernel, rfl⟩
theorem iL_law_621 : ab_at mL_law 621 (.iadd) 1 622 := ⟨by decide +kernel, rfl⟩
theorem iL_law_622 : ab_at mL_law 622 (.iaload) 1 623 := ⟨by decide +kernel, rfl⟩
theorem iL_law_623 : ab_at mL_law 623 (.aload_n 0) 1 624 := ⟨by decide +kernel, rfl⟩
theorem iL_law_624 : ab_at mL_law 624 (.iload_n 3) 1 625 := ⟨by decide +kernel, rfl⟩
theorem iL_law_625 : ab_at mL_law 625 (.iconst 2) 1 626 := ⟨by decide +kernel, rfl⟩
theorem iL_law_626 : ab_at mL_law 626 (.iadd) 1 627 := ⟨by decide +kernel, rfl⟩
theorem iL_law_627 : ab_at mL_law 627 (.iaload) 1 628 := ⟨by decide +kernel, rfl⟩
theorem iL_law_628 : ab_at mL_law 628 (.invokevirtual 69) 3 631 := ⟨by decide +kernel, rfl⟩
theorem iL_law_631 : ab_at mL_law 631 (.aload_n 2) 1 632 := ⟨by decide +kernel, rfl⟩
theorem iL_law_632 : ab_at mL_law 632 (.aload_n 0) 1 633 := ⟨by decide +kernel, rfl⟩
theorem iL_law_633 : ab_at mL_law 633 (.iload_n 3) 1 634 := ⟨by decide +kernel, rfl⟩
theorem iL_law_634 : ab_at mL_law 634 (.iconst 1) 1 635 := ⟨by decide +kernel, rfl⟩
theorem iL_law_635 : ab_at mL_law 635 (.iadd) 1 636 := ⟨by decide +kernel, rfl⟩
theorem iL_law_636 : ab_at mL_law 636 (.iaload) 1 637 := ⟨by decide +kernel, rfl⟩
theorem iL_law_637 : ab_at mL_law 637 (.aload_n 0) 1 638 := ⟨by decide +kernel, rfl⟩
theorem iL_law_638 : ab_at mL_law 638 (.iload_n 3) 1 639 := ⟨by decide +kernel, rfl⟩
theorem iL_law_639 : ab_at mL_law 639 (.iconst 2) 1 640 := ⟨by decide +kernel, rfl⟩
theorem iL_law_640 : ab_at mL_law 640 (.iadd) 1 641 := ⟨by decide +kernel, rfl⟩
theorem iL_law_641 : ab_at mL_law 641 (.iaload) 1 642 := ⟨by decide +kernel, rfl⟩
theorem iL_law_642 : ab_at mL_law 642 (.invokevirtual 72) 3 645 := ⟨by decide +kernel, rfl⟩
theorem iL_law_645 : ab_bc mL_law 645 .eq 648 962 := ⟨317, by decide +kernel, rfl, by decide⟩
theorem iL_law_648 : ab_at mL_law 648 (.iconst 0) 1 649 := ⟨by decide +kernel, rfl⟩
theorem iL_law_649 : ab_at mL_law 649 (.ireturn) 1 650 := ⟨by decide +kernel, rfl⟩
theorem iL_law_650 : ab_at mL_law 650 (.aload_n 1) 1 651 := ⟨by decide +kernel, rfl⟩
theorem iL_law_651 : ab_at mL_law 651 (.aload_n 0) 1 652 := ⟨by decide +kernel, rfl⟩
theorem iL_law_652 : ab_at mL_law 652 (.iload_n 3) 1 653 := ⟨by decide +kernel, rfl⟩
theorem iL_law_653 : ab_at mL_law 653 (.iconst 1) 1 654 := ⟨by decide +kernel, rfl⟩
theorem iL_law_654 : ab_at mL_law 654 (.iadd) 1 655 := ⟨by decide +kernel, rfl⟩
theorem iL_law_655 : ab_at mL_law 655 (.iaload) 1 656 := ⟨by decide +kernel, rfl⟩
theorem iL_law_656 : ab_at mL_law 656 (.aload_n 0) 1 657 := ⟨by decide +kernel, rfl⟩
theorem iL_law_657 : ab_at mL_law 657 (.iload_n 3) 1 658 := ⟨by decide +kernel, rfl⟩
theorem iL_law_658 : ab_at mL_law 658 (.iconst 2) 1 659 := ⟨by decide +kernel, rfl⟩
theorem iL_law_659 : ab_at mL_law 659 (.iadd) 1 660 := ⟨by decide +kernel, rfl⟩
theorem iL_law_660 : ab_at mL_law 660 (.iaload) 1 661 := ⟨by decide +kernel, rfl⟩
theorem iL_law_661 : ab_bi mL_law 661 .eq 664 668 := ⟨7, by decide +kernel, rfl, by decide⟩
theorem iL_law_664 : ab_at mL_law 664 (.iconst 1) 1 665 := ⟨by decide +kernel, rfl⟩
theorem iL_law_665 : ab_bg mL_law 665 669 := ⟨4, by decide +kernel, by decide⟩
theorem iL_law_668 : ab_at mL_law 668 (.iconst 0) 1 669 := ⟨by decide +kernel, rfl⟩
theorem iL_law_669 : ab_at mL_law 669 (.invokevirtual 73) 3 672 := ⟨by decide +kernel, rfl⟩
theorem iL_law_672 : ab_at mL_law 672 (.aload_n 2) 1 673 := ⟨by decide +kernel, rfl⟩
theorem iL_law_673 : ab_at mL_law 673 (.aload_n 0) 1 674 := ⟨by decide +kernel, rfl⟩
theorem iL_law_674 : ab_at mL_law 674 (.iload_n 3) 1 675 := ⟨by decide +kernel, rfl⟩
theorem iL_law_675 : ab_at mL_law 675 (.iconst 1) 1 676 := ⟨by decide +kernel, rfl⟩
theorem iL_law_676 : ab_at mL_law 676 (.iadd) 1 677 := ⟨by decide +kernel, rfl⟩
theorem iL_law_677 : ab_at mL_law 677 (.iaload) 1 678 := ⟨by decide +kernel, rfl⟩
theorem iL_law_678 : ab_at mL_law 678 (.aload_n 0) 1 679 := ⟨by decide +kernel, rfl⟩
theorem iL_law_679 : ab_at mL_law 679 (.iload_n 3) 1 680 := ⟨by decide +kernel, rfl⟩
theorem iL_law_680 : ab_at mL_law 680 (.iconst 2) 1 681 := ⟨by decide +kernel, rfl⟩
theorem iL_law_681 : ab_at mL_law 681 (.iadd) 1 682 := ⟨by decide +kernel, rfl⟩
theorem iL_law_682 : ab_at mL_law 682 (.iaload) 1 683 := ⟨by decide +kernel, rfl⟩
theorem iL_law_683 : ab_bi mL_law 683 .eq 686 690 := ⟨7, by decide +kernel, rfl, by decide⟩
theorem iL_law_686 : ab_at mL_law 686 (.iconst 1) 1 687 := ⟨by decide +kernel, rfl⟩
theorem iL_law_687 : ab_bg mL_law 687 691 := ⟨4, by decide +kernel, by decide⟩
theorem iL_law_690 : ab_at mL_law 690 (.iconst 0) 1 691 := ⟨by decide +kernel, rfl⟩
theorem iL_law_691 : ab_at mL_law 691 (.invokevirtual 77) 3 694 := ⟨by decide +kernel, rfl⟩
theorem iL_law_694 : ab_bc mL_law 694 .eq 697 962 := ⟨268, by decide +kernel, rfl, by decide⟩
theorem iL_law_697 : ab_at mL_law 697 (.iconst 0) 1 698 := ⟨by decide +kernel, rfl⟩
theorem iL_law_698 : ab_at mL_law 698 (.ireturn) 1 699 := ⟨by decide +kernel, rfl⟩
theorem iL_law_699 : ab_at mL_law 699 (.aload_n 1) 1 700 := ⟨by decide +kernel, rfl⟩
theorem iL_law_700 : ab_at mL_law 700 (.aload_n 0) 1 701 := ⟨by decide +kernel, rfl⟩
theorem iL_law_701 : ab_at mL_law 701 (.iload_n 3) 1 702 := ⟨by decide +kernel, rfl⟩
theorem iL_law_702 : ab_at mL_law 702 (.iconst 1) 1 703 := ⟨by decide +kernel, rfl⟩
theorem iL_law_703 : ab_at mL_law 703 (.iadd) 1 704 := ⟨by decide +kernel, rfl⟩
theorem iL_law_704 : ab_at mL_law 704 (.iaload) 1 705 := ⟨by decide +kernel, rfl⟩
theorem iL_law_705 : ab_at mL_law 705 (.aload_n 0) 1 706 := ⟨by decide +kernel, rfl⟩
theorem iL_law_706 : ab_at mL_law 706 (.iload_n 3) 1 707 := ⟨by decide +kernel, rfl⟩
theorem iL_law_707 : ab_at mL_law 707 (.iconst 2) 1 708 := ⟨by decide +kernel, rfl⟩
theorem iL_law_708 : ab_at mL_law 708 (.iadd) 1 709 := ⟨by decide +kernel, rfl⟩
theorem iL_law_709 : ab_at mL_law 709 (.iaload) 1 710 := ⟨by decide +kernel, rfl⟩
theorem iL_law_710 : ab_at mL_law 710 (.invokevirtual 78) 3 713 := ⟨by decide +kernel, rfl⟩
theorem iL_law_713 : ab_at mL_law 713 (.aload_n 2) 1 714 := ⟨by decide +kernel, rfl⟩
theorem iL_law_714 : ab_at mL_law 714 (.aload_n 0) 1 715 := ⟨by decide +kernel, rfl⟩
theorem iL_law_715 : ab_at mL_law 715 (.iload_n 3) 1 716 := ⟨by decide +kernel, rfl⟩
theorem iL_law_716 : ab_at mL_law 716 (.iconst 1) 1 717 := ⟨by decide +kernel, rfl⟩
theorem iL_law_717 : ab_at mL_law 717 (.iadd) 1 718 := ⟨by decide +kernel, rfl⟩
theorem iL_law_718 : ab_at mL_law 718 (.iaload) 1 719 := ⟨by decide +kernel, rfl⟩
theorem iL_law_719 : ab_at mL_law 719 (.aload_n 0) 1 720 := ⟨by decide +kernel, rfl⟩
theorem iL_law_720 : ab_at mL_law 720 (.iload_n 3) 1 721 := ⟨by decide +kernel, rfl⟩
theorem iL_law_721 : ab_at mL_law 721 (.iconst 2) 1 722 := ⟨by decide +kernel, rfl⟩
theorem iL_law_722 : ab_at mL_law 722 (.iadd) 1 723 := ⟨by decide +kernel, rfl⟩
theorem iL_law_723 : ab_at mL_law 723 (.iaload) 1 724 := ⟨by decide +kernel, rfl⟩
theorem iL_law_724 : ab_at mL_law 724 (.invokevirtual 81) 3 727 := ⟨by decide +kernel, rfl⟩
theorem iL_law_727 : ab_bc mL_law 727 .eq 730 962 := ⟨235, by decide +kernel, rfl, by decide⟩
theorem iL_law_730 : ab_at mL_law 730 (.iconst 0) 1 731 := ⟨by decide +kernel, rfl⟩
theorem iL_law_731 : ab_at mL_law 731 (.ireturn) 1 732 := ⟨by decide +kernel, rfl⟩
theorem iL_law_732 : ab_at mL_law 732 (.aload_n 1) 1 733 := ⟨by decide +kernel, rfl⟩
theorem iL_law_733 : ab_at mL_law 733 (.aload_n 0) 1 734 := ⟨by decide +kernel, rfl⟩
theorem iL_law_734 : ab_at mL_law 734 (.iload_n 3) 1 735 := ⟨by decide +kernel, rfl⟩
theorem iL_law_735 : ab_at mL_law 735 (.iconst 1) 1 736 := ⟨by decide +kernel, rfl⟩
theorem iL_law_736 : ab_at mL_law 736 (.iadd) 1 737 := ⟨by decide +kernel, rfl⟩
theorem iL_law_737 : ab_at mL_law 737 (.iaload) 1 738 := ⟨by decide +kernel, rfl⟩
theorem iL_law_738 : ab_at mL_law 738 (.invokevirtual 82) 3 741 := ⟨by decide +kernel, rfl⟩
theorem iL_law_741 : ab_at mL_law 741 (.aload_n 2) 1 742 := ⟨by decide +kernel, rfl⟩
theorem iL_law_742 : ab_at mL_law 742 (.aload_n 0) 1 743 := ⟨by decide +kernel, rfl⟩
theorem iL_law_743 : ab_at mL_law 743 (.iload_n 3) 1 744 := ⟨by decide +kernel, rfl⟩
theorem iL_law_744 : ab_at mL_law 744 (.iconst 1) 1 745 := ⟨by decide +kernel, rfl⟩
theorem iL_law_745 : ab_at mL_law 745 (.iadd) 1 746 := ⟨by decide +kernel, rfl⟩
theorem iL_law_746 : ab_at mL_law 746 (.iaload) 1 747 := ⟨by decide +kernel, rfl⟩
theorem iL_law_747 : ab_at mL_law 747 (.invokevirtual 85) 3 750 := ⟨by decide +kernel, rfl⟩
theorem iL_law_750 : ab_bc mL_law 750 .eq 753 962 := ⟨212, by decide +kernel, rfl, by decide⟩
theorem iL_law_753 : ab_at mL_law 753 (.iconst 0) 1 754 := ⟨by decide +kernel, rfl⟩
theorem iL_law_754 : ab_at mL_law 754 (.ireturn) 1 755 := ⟨by decide +kernel, rfl⟩
theorem iL_law_755 : ab_at mL_law 755 (.aload_n 1) 1 756 := ⟨by decide +kernel, rfl⟩
theorem iL_law_756 : ab_at mL_law 756 (.aload_n 0) 1 757 := ⟨by decide +kernel, rfl⟩
theorem iL_law_757 : ab_at mL_law 757 (.iload_n 3) 1 758 := ⟨by decide +kernel, rfl⟩
theorem iL_law_758 : ab_at mL_law 758 (.iconst 1) 1 759 := ⟨by decide +kernel, rfl⟩
theorem iL_law_759 : ab_at mL_law 759 (.iadd) 1 760 := ⟨by decide +kernel, rfl⟩
theorem iL_law_760 : ab_at mL_law 760 (.iaload) 1 761 := ⟨by decide +kernel, rfl⟩
theorem iL_law_761 : ab_at mL_law 761 (.invokevirtual 86) 3 764 := ⟨by decide +kernel, rfl⟩
theorem iL_law_764 : ab_at mL_law 764 (.aload_n 2) 1 765 := ⟨by decide +kernel, rfl⟩
theorem iL_law_765 : ab_at mL_law 765 (.aload_n 0) 1 766 := ⟨by decide +kernel, rfl⟩
theorem iL_law_766 : ab_at mL_law 766 (.iload_n 3) 1 767 := ⟨by decide +kernel, rfl⟩
theorem iL_law_767 : ab_at mL_law 767 (.iconst 1) 1 768 := ⟨by decide +kernel, rfl⟩
theorem iL_law_768 : ab_at mL_law 768 (.iadd) 1 769 := ⟨by decide +kernel, rfl⟩
theorem iL_law_769 : ab_at mL_law 769 (.iaload) 1 770 := ⟨by decide +kernel, rfl⟩
theorem iL_law_770 : ab_at mL_law 770 (.invokevirtual 89) 3 773 := ⟨by decide +kernel, rfl⟩
theorem iL_law_773 : ab_bc mL_law 773 .eq 776 962 := ⟨189, by decide +kernel, rfl, by decide⟩
theorem iL_law_776 : ab_at mL_law 776 (.iconst 0) 1 777 := ⟨by decide +kernel, rfl⟩
theorem iL_law_777 : ab_at mL_law 777 (.ireturn) 1 778 := ⟨by decide +kernel, rfl⟩
theorem iL_law_778 : ab_at mL_law 778 (.aload_n 1) 1 779 := ⟨by decide +kernel, rfl⟩
theorem iL_law_779 : ab_at mL_law 779 (.invokevirtual 90) 3 782 := ⟨by decide +kernel, rfl⟩
theorem iL_law_782 : ab_at mL_law 782 (.aload_n 2) 1 783 := ⟨by decide +kernel, rfl⟩
theorem iL_law_783 : ab_at mL_law 783 (.invokevirtual 94) 3 786 := ⟨by decide +kernel, rfl⟩
theorem iL_law_786 : ab_bc mL_law 786 .eq 789 962 := ⟨176, by decide +kernel, rfl, by decide⟩
theorem iL_law_789 : ab_at mL_law 789 (.iconst 0) 1 790 := ⟨by decide +kernel, rfl⟩
theorem iL_law_790 : ab_at mL_law 790 (.ireturn) 1 791 := ⟨by decide +kernel, rfl⟩
theorem iL_law_791 : ab_at mL_law 791 (.aload_n 1) 1 792 := ⟨by decide +kernel, rfl⟩
theorem iL_law_792 : ab_at mL_law 792 (.aload_n 0) 1 793 := ⟨by decide +kernel, rfl⟩
theorem iL_law_793 : ab_at mL_law 793 (.iload_n 3) 1 794 := ⟨by decide +kernel, rfl⟩
theorem iL_law_794 : ab_at mL_law 794 (.iconst 1) 1 795 := ⟨by decide +kernel, rfl⟩
theorem iL_law_795 : ab_at mL_law 795 (.iadd) 1 796 := ⟨by decide +kernel, rfl⟩
theorem iL_law_796 : ab_at mL_law 796 (.iaload) 1 797 := ⟨by decide +kernel, rfl⟩
theorem iL_law_797 : ab_at mL_law 797 (.invokevirtual 95) 3 800 := ⟨by decide +kernel, rfl⟩
theorem iL_law_800 : ab_at mL_law 800 (.aload_n 2) 1 801 := ⟨by decide +kernel, rfl⟩
theorem iL_law_801 : ab_at mL_law 801 (.aload_n 0) 1 802 := ⟨by decide +kernel, rfl⟩
theorem iL_law_802 : ab_at mL_law 802 (.iload_n 3) 1 803 := ⟨by decide +kernel, rfl⟩
theorem iL_law_803 : ab_at mL_law 803 (.iconst 1) 1 804 := ⟨by decide +kernel, rfl⟩
theorem iL_law_804 : ab_at mL_law 804 (.iadd) 1 805 := ⟨by decide +kernel, rfl⟩
theorem iL_law_805 : ab_at mL_law 805 (.iaload) 1 806 := ⟨by decide +kernel, rfl⟩
theorem iL_law_806 : ab_at mL_law 806 (.invokevirtual 98) 3 809 := ⟨by decide +kernel, rfl⟩
theorem iL_law_809 : ab_bc mL_law 809 .eq 812 962 := ⟨153, by decide +kernel, rfl, by decide⟩
theorem iL_law_812 : ab_at mL_law 812 (.iconst 0) 1 813 := ⟨by decide +kernel, rfl⟩
theorem iL_law_813 : ab_at mL_law 813 (.ireturn) 1 814 := ⟨by decide +kernel, rfl⟩
theorem iL_law_814 : ab_at mL_law 814 (.aload_n 1) 1 815 := ⟨by decide +kernel, rfl⟩
theorem iL_law_815 : ab_at mL_law 815 (.aload_n 0) 1 816 := ⟨by decide +kernel, rfl⟩
theorem iL_law_816 : ab_at mL_law 816 (.iload_n 3) 1 817 := ⟨by decide +kernel, rfl⟩
theorem iL_law_817 : ab_at mL_law 817 (.iconst 1) 1 818 := ⟨by decide +kernel, rfl⟩
theorem iL_law_818 : ab_at mL_law 818 (.iadd) 1 819 := ⟨by decide +kernel, rfl⟩
theorem iL_law_819 : ab_at mL_law 819 (.iaload) 1 820 := ⟨by decide +kernel, rfl⟩
theorem iL_law_820 : ab_at mL_law 820 (.aload_n 0) 1 821 := ⟨by decide +kernel, rfl⟩
theorem iL_law_821 : ab_at mL_law 821 (.iload_n 3) 1 822 := ⟨by decide +kernel, rfl⟩
theorem iL_law_822 : ab_at mL_law 822 (.iconst 2) 1 823 := ⟨by decide +kernel, rfl⟩
theorem iL_law_823 : ab_at mL_law 823 (.iadd) 1 824 := ⟨by decide +kernel, rfl⟩
theorem iL_law_824 : ab_at mL_law 824 (.iaload) 1 825 := ⟨by decide +kernel, rfl⟩
theorem iL_law_825 : ab_at mL_law 825 (.invokevirtual 99) 3 828 := ⟨by decide +kernel, rfl⟩
theorem iL_law_828 : ab_at mL_law 828 (.aload_n 2) 1 829 := ⟨by decide +kernel, rfl⟩
theorem iL_law_829 : ab_at mL_law 829 (.aload_n 0) 1 830 := ⟨by decide +kernel, rfl⟩
theorem iL_law_830 : ab_at mL_law 830 (.iload_n 3) 1 831 := ⟨by decide +kernel, rfl⟩
theorem iL_law_831 : ab_at mL_law 831 (.iconst 1) 1 832 := ⟨by decide +kernel, rfl⟩
theorem iL_law_832 : ab_at mL_law 832 (.iadd) 1 833 := ⟨by decide +kernel, rfl⟩
theorem iL_law_833 : ab_at mL_law 833 (.iaload) 1 834 := ⟨by decide +kernel, rfl⟩
theorem iL_law_834 : ab_at mL_law 834 (.aload_n 0) 1 835 := ⟨by decide +kernel, rfl⟩
theorem iL_law_835 : ab_at mL_law 835 (.iload_n 3) 1 836 := ⟨by decide +kernel, rfl⟩
theorem iL_law_836 : ab_at mL_law 836 (.iconst 2) 1 837 := ⟨by decide +kernel, rfl⟩
theorem iL_law_837 : ab_at mL_law 837 (.iadd) 1 838 := ⟨by decide +kernel, rfl⟩
theorem iL_law_838 : ab_at mL_law 838 (.iaload) 1 839 := ⟨by decide +kernel, rfl⟩
theorem iL_law_839 : ab_at mL_law 839 (.invokevirtual 102) 3 842 := ⟨by decide +kernel, rfl⟩
theorem iL_law_842 : ab_bc mL_law 842 .eq 845 962 := ⟨120, by decide +kernel, rfl, by decide⟩
theorem iL_law_845 : ab_at mL_law 845 (.iconst 0) 1 846 := ⟨by decide +kernel, rfl⟩
theorem iL_law_846 : ab_at mL_law 846 (.ireturn) 1 847 := ⟨by decide +kernel, rfl⟩
theorem iL_law_847 : ab_at mL_law 847 (.aload_n 1) 1 848 := ⟨by decide +kernel, rfl⟩
theorem iL_law_848 : ab_at mL_law 848 (.aload_n 0) 1 849 := ⟨by decide +kernel, rfl⟩
theorem iL_law_849 : ab_at mL_law 849 (.iload_n 3) 1 850 := ⟨by decide +kernel, rfl⟩
theorem iL_law_850 : ab_at mL_law 850 (.iconst 1) 1 851 := ⟨by decide +kernel, rfl⟩
theorem iL_law_851 : ab_at mL_law 851 (.iadd) 1 852 := ⟨by decide +kernel, rfl⟩
theorem iL_law_852 : ab_at mL_law 852 (.iaload) 1 853 := ⟨by decide +kernel, rfl⟩
theorem iL_law_853 : ab_at mL_law 853 (.aload_n 0) 1 854 := ⟨by decide +kernel, rfl⟩
theorem iL_law_854 : ab_at mL_law 854 (.iload_n 3) 1 855 := ⟨by decide +kernel, rfl⟩
theorem iL_law_855 : ab_at mL_law 855 (.iconst 2) 1 856 := ⟨by decide +kernel, rfl⟩
theorem iL_law_856 : ab_at mL_law 856 (.iadd) 1 857 := ⟨by decide +kernel, rfl⟩
theorem iL_law_857 : ab_at mL_law 857 (.iaload) 1 858 := ⟨by decide +kernel, rfl⟩
theorem iL_law_858 : ab_at mL_law 858 (.invokevirtual 103) 3 861 := ⟨by decide +kernel, rfl⟩
theorem iL_law_861 : ab_at mL_law 861 (.aload_n 2) 1 862 := ⟨by decide +kernel, rfl⟩
theorem iL_law_862 : ab_at mL_law 862 (.aload_n 0) 1 863 := ⟨by decide +kernel, rfl⟩
theorem iL_law_863 : ab_at mL_law 863 (.iload_n 3) 1 864 := ⟨by decide +kernel, rfl⟩
theorem iL_law_864 : ab_at mL_law 864 (.iconst 1) 1 865 := ⟨by decide +kernel, rfl⟩
theorem iL_law_865 : ab_at mL_law 865 (.iadd) 1 866 := ⟨by decide +kernel, rfl⟩
theorem iL_law_866 : ab_at mL_law 866 (.iaload) 1 867 := ⟨by decide +kernel, rfl⟩
theorem iL_law_867 : ab_at mL_law 867 (.aload_n 0) 1 868 := ⟨by decide +kernel, rfl⟩
theorem iL_law_868 : ab_at mL_law 868 (.iload_n 3) 1 869 := ⟨by decide +kernel, rfl⟩
theorem iL_law_869 : ab_at mL_law 869 (.iconst 2) 1 870 := ⟨by decide +kernel, rfl⟩
theorem iL_law_870 : ab_at mL_law 870 (.iadd) 1 871 := ⟨by decide +kernel, rfl⟩
theorem iL_law_871 : ab_at mL_law 871 (.iaload) 1 872 := ⟨by decide +kernel, rfl⟩
theorem iL_law_872 : ab_at mL_law 872 (.invokevirtual 106) 3 875 := ⟨by decide +kernel, rfl⟩
theorem iL_law_875 : ab_bc mL_law 875 .eq 878 962 := ⟨87, by decide +kernel, rfl, by decide⟩
theorem iL_law_878 : ab_at mL_law 878 (.iconst 0) 1 879 := ⟨by decide +kernel, rfl⟩
theorem iL_law_879 : ab_at mL_law 879 (.ireturn) 1 880 := ⟨by decide +kernel, rfl⟩
theorem iL_law_880 : ab_at mL_law 880 (.aload_n 1) 1 881 := ⟨by decide +kernel, rfl⟩
theorem iL_law_881 : ab_at mL_law 881 (.aload_n 0) 1 882 := ⟨by decide +kernel, rfl⟩
theorem iL_law_882 : ab_at mL_law 882 (.iload_n 3) 1 883 := ⟨by decide +kernel, rfl⟩
theorem iL_law_883 : ab_at mL_law 883 (.iconst 1) 1 884 := ⟨by decide +kernel, rfl⟩
theorem iL_law_884 : ab_at mL_law 884 (.iadd) 1 885 := ⟨by decide +kernel, rfl⟩
theorem iL_law_885 : ab_at mL_law 885 (.iaload) 1 886 := ⟨by decide +kernel, rfl⟩
theorem iL_law_886 : ab_at mL_law 886 (.aload_n 0) 1 887 := ⟨by decide +kernel, rfl⟩
theorem iL_law_887 : ab_at mL_law 887 (.iload_n 3) 1 888 := ⟨by decide +kernel, rfl⟩
theorem iL_law_888 : ab_at mL_law 888 (.iconst 2) 1 889 := ⟨by decide +kernel, rfl⟩
theorem iL_law_889 : ab_at mL_law 889 (.iadd) 1 890 := ⟨by decide +kernel, rfl⟩
theorem iL_law_890 : ab_at mL_law 890 (.iaload) 1 891 := ⟨by decide +kernel, rfl⟩
theorem iL_law_891 : ab_at mL_law 891 (.invokevirtual 107) 3 894 := ⟨by decide +kernel, rfl⟩
theorem iL_law_894 : ab_at mL_law 894 (.aload_n 2) 1 895 := ⟨by decide +kernel, rfl⟩
theorem iL_law_895 : ab_at mL_law 895 (.aload_n 0) 1 896 := ⟨by decide +kernel, rfl⟩
theorem iL_law_896 : ab_at mL_law 896 (.iload_n 3) 1 897 := ⟨by decide +kernel, rfl⟩
theorem iL_law_897 : ab_at mL_law 897 (.iconst 1) 1 898 := ⟨by decide +kernel, rfl⟩
theorem iL_law_898 : ab_at mL_law 898 (.iadd) 1 899 := ⟨by decide +kernel, rfl⟩
theorem iL_law_899 : ab_at mL_law 899 (.iaload) 1 900 := ⟨by decide +kernel, rfl⟩
theorem iL_law_900 : ab_at mL_law 900 (.aload_n 0) 1 901 := ⟨by decide +kernel, rfl⟩
theorem iL_law_901 : ab_at mL_law 901 (.iload_n 3) 1 902 := ⟨by decide +kernel, rfl⟩
theorem iL_law_902 : ab_at mL_law 902 (.iconst 2) 1 903 := ⟨by decide +kernel, rfl⟩
theorem iL_law_903 : ab_at mL_law 903 (.iadd) 1 904 := ⟨by decide +kernel, rfl⟩
theorem iL_law_904 : ab_at mL_law 904 (.iaload) 1 905 := ⟨by decide +kernel, rfl⟩
theorem iL_law_905 : ab_at mL_law 905 (.invokevirtual 110) 3 908 := ⟨by decide +kernel, rfl⟩
theorem iL_law_908 : ab_bc mL_law 908 .eq 911 962 := ⟨54, by decide +kernel, rfl, by decide⟩
theorem iL_law_911 : ab_at mL_law 911 (.iconst 0) 1 912 := ⟨by decide +kernel, rfl⟩
theorem iL_law_912 : ab_at mL_law 912 (.ireturn) 1 913 := ⟨by decide +kernel, rfl⟩
theorem iL_law_913 : ab_at mL_law 913 (.aload_n 1) 1 914 := ⟨by decide +kernel, rfl⟩
theorem iL_law_914 : ab_at mL_law 914 (.aload_n 0) 1 915 := ⟨by decide +kernel, rfl⟩
theorem iL_law_915 : ab_at mL_law 915 (.iload_n 3) 1 916 := ⟨by decide +kernel, rfl⟩
theorem iL_law_916 : ab_at mL_law 916 (.iconst 1) 1 917 := ⟨by decide +kernel, rfl⟩
theorem iL_law_917 : ab_at mL_law 917 (.iadd) 1 918 := ⟨by decide +kernel, rfl⟩
theorem iL_law_918 : ab_at mL_law 918 (.iaload) 1 919 := ⟨by decide +kernel, rfl⟩
theorem iL_law_919 : ab_at mL_law 919 (.invokevirtual 111) 3 922 := ⟨by decide +kernel, rfl⟩
theorem iL_law_922 : ab_at mL_law 922 (.aload_n 2) 1 923 := ⟨by decide +kernel, rfl⟩
theorem iL_law_923 : ab_at mL_law 923 (.aload_n 0) 1 924 := ⟨by decide +kernel, rfl⟩
theorem iL_law_924 : ab_at mL_law 924 (.iload_n 3) 1 925 := ⟨by decide +kernel, rfl⟩
theorem iL_law_925 : ab_at mL_law 925 (.iconst 1) 1 926 := ⟨by decide +kernel, rfl⟩
theorem iL_law_926 : ab_at mL_law 926 (.iadd) 1 927 := ⟨by decide +kernel, rfl⟩
theorem iL_law_927 : ab_at mL_law 927 (.iaload) 1 928 := ⟨by decide +kernel, rfl⟩
theorem iL_law_928 : ab_at mL_law 928 (.invokevirtual 114) 3 931 := ⟨by decide +kernel, rfl⟩
theorem iL_law_931 : ab_bc mL_law 931 .eq 934 962 := ⟨31, by decide +kernel, rfl, by decide⟩
theorem iL_law_934 : ab_at mL_law 934 (.iconst 0) 1 935 := ⟨by decide +kernel, rfl⟩
theorem iL_law_935 : ab_at mL_law 935 (.ireturn) 1 936 := ⟨by decide +kernel, rfl⟩
theorem iL_law_936 : ab_at mL_law 936 (.aload_n 1) 1 937 := ⟨by decide +kernel, rfl⟩
theorem iL_law_937 : ab_at mL_law 937 (.invokevirtual 115) 3 940 := ⟨by decide +kernel, rfl⟩
theorem iL_law_940 : ab_at mL_law 940 (.aload_n 2) 1 941 := ⟨by decide +kernel, rfl⟩
theorem iL_law_941 : ab_at mL_law 941 (.invokevirtual 118) 3 944 := ⟨by decide +kernel, rfl⟩
theorem iL_law_944 : ab_bc mL_law 944 .eq 947 962 := ⟨18, by decide +kernel, rfl, by decide⟩
theorem iL_law_947 : ab_at mL_law 947 (.iconst 0) 1 948 := ⟨by decide +kernel, rfl⟩
theorem iL_law_948 : ab_at mL_law 948 (.ireturn) 1 949 := ⟨by decide +kernel, rfl⟩
theorem iL_law_949 : ab_at mL_law 949 (.aload_n 1) 1 950 := ⟨by decide +kernel, rfl⟩
theorem iL_law_950 : ab_at mL_law 950 (.invokevirtual 119) 3 953 := ⟨by decide +kernel, rfl⟩
theorem iL_law_953 : ab_at mL_law 953 (.aload_n 2) 1 954 := ⟨by decide +kernel, rfl⟩
theorem iL_law_954 : ab_at mL_law 954 (.invokevirtual 122) 3 957 := ⟨by decide +kernel, rfl⟩
theorem iL_law_957 : ab_bc mL_law 957 .eq 960 962 := ⟨5, by decide +kernel, rfl, by decide⟩
theorem iL_law_960 : ab_at mL_law 960 (.iconst 0) 1 961 := ⟨by decide +kernel, rfl⟩
theorem iL_law_961 : ab_at mL_law 961 (.ireturn) 1 962 := ⟨by decide +kernel, rfl⟩
theorem iL_law_962 : ab_at mL_law 962 (.iinc 3 6) 3 965 := ⟨by decide +kernel, rfl⟩
theorem iL_law_965 : ab_bg mL_law 965 18 := ⟨-947, by decide +kernel, by decide⟩
theorem iL_law_968 : ab_at mL_law 968 (.iconst 1) 1 969 := ⟨by decide +kernel, rfl⟩
theorem iL_law_969 : ab_at mL_law 969 (.ireturn) 1 970 := ⟨by decide +kernel, rfl⟩
end
section
/-! ===== small methods ===== -/
theorem bt_7 {v : Int} (h : 0 ≤ v ∧ v < 16) : ab_b (fun a b => a &&& b) v 7 = v % 8 := by
  obtain ⟨h0, h1⟩ := h
  have : v = 0 ∨ v = 1 ∨ v = 2 ∨ v = 3 ∨ v = 4 ∨ v = 5 ∨ v = 6 ∨ v = 7 ∨ v = 8 ∨ v = 9 ∨ v = 10 ∨ v = 11 ∨ v = 12 ∨ v = 13 ∨ v = 14 ∨ v = 15 := by omega
  rcases this with rfl | rfl | rfl | rfl | rfl | rfl | rfl | rfl | rfl | rfl | rfl | rfl | rfl | rfl | rfl | rfl <;> decide
theorem bt_8 {v : Int} (h : 0 ≤ v ∧ v < 16) : ab_b (fun a b => a &&& b) v 8 = 8 * (v / 8) := by
  obtain ⟨h0, h1⟩ := h
  have : v = 0 ∨ v = 1 ∨ v = 2 ∨ v = 3 ∨ v = 4 ∨ v = 5 ∨ v = 6 ∨ v = 7 ∨ v = 8 ∨ v = 9 ∨ v = 10 ∨ v = 11 ∨ v = 12 ∨ v = 13 ∨ v = 14 ∨ v = 15 := by omega
  rcases this with rfl | rfl | rfl | rfl | rfl | rfl | rfl | rfl | rfl | rfl | rfl | rfl | rfl | rfl | rfl | rfl <;> decide
theorem bt_x {v : Int} (h : 0 ≤ v ∧ v < 16) : ab_b (fun a b => a ^^^ b) v 8 = v % 8 + 8 * (1 - v / 8) := by
  obtain ⟨h0, h1⟩ := h
  have : v = 0 ∨ v = 1 ∨ v = 2 ∨ v = 3 ∨ v = 4 ∨ v = 5 ∨ v = 6 ∨ v = 7 ∨ v = 8 ∨ v = 9 ∨ v = 10 ∨ v = 11 ∨ v = 12 ∨ v = 13 ∨ v = 14 ∨ v = 15 := by omega
  rcases this with rfl | rfl | rfl | rfl | rfl | rfl | rfl | rfl | rfl | rfl | rfl | rfl | rfl | rfl | rfl | rfl <;> decide
theorem bt_o {f v : Int} (hf : f = 0 ∨ f = 1) (h : 0 ≤ v ∧ v < 8) : ab_b (fun a b => a ||| b) (8 * f) v = 8 * f + v := by
  obtain ⟨h0, h1⟩ := h
  have : v = 0 ∨ v = 1 ∨ v = 2 ∨ v = 3 ∨ v = 4 ∨ v = 5 ∨ v = 6 ∨ v = 7 := by omega
  rcases hf with rfl | rfl <;> rcases this with rfl | rfl | rfl | rfl | rfl | rfl | rfl | rfl <;> decide
theorem c_X8_isFromTo (L : Nat) (M : ab_Me) (x a b : Int) : cF L 1 mX8_isFromTo [.inl x, .inl a, .inl b] M (if a ≤ x ∧ x ≤ b then 1 else 0) := by
  refine cF_of rfl ?_
  change wp _ _ _ 0 [some (.inl x), some (.inl a), some (.inl b)] [] _ _
  refine wp_il0 iX8_isFromTo_0 ?_
  refine wp_il1 iX8_isFromTo_1 ?_
  refine wp_clt iX8_isFromTo_2 (fun c_2 => ?_) (fun c_2 => ?_)
  · refine wp_ic iX8_isFromTo_14 (by decide) ?_
    refine wp_retb iX8_isFromTo_15 rfl (by decide) ?_
    (simp; omega)
  · refine wp_il0 iX8_isFromTo_5 ?_
    refine wp_il2 iX8_isFromTo_6 ?_
    refine wp_cgt iX8_isFromTo_7 (fun c_7 => ?_) (fun c_7 => ?_)
    · refine wp_ic iX8_isFromTo_14 (by decide) ?_
      refine wp_retb iX8_isFromTo_15 rfl (by decide) ?_
      (simp; omega)
    · refine wp_ic iX8_isFromTo_10 (by decide) ?_
      refine wp_goto iX8_isFromTo_11 ?_
      refine wp_retb iX8_isFromTo_15 rfl (by decide) ?_
      (simp; omega)
theorem c_X8_isBelow (L : Nat) (M : ab_Me) (x a : Int) : cF L 1 mX8_isBelow [.inl x, .inl a] M (if 0 ≤ x ∧ x < a then 1 else 0) := by
  refine cF_of rfl ?_
  change wp _ _ _ 0 [some (.inl x), some (.inl a)] [] _ _
  refine wp_il0 iX8_isBelow_0 ?_
  refine wp_zlt iX8_isBelow_1 (fun c_1 => ?_) (fun c_1 => ?_)
  · refine wp_ic iX8_isBelow_13 (by decide) ?_
    refine wp_retb iX8_isBelow_14 rfl (by decide) ?_
    (simp; omega)
  · refine wp_il0 iX8_isBelow_4 ?_
    refine wp_il1 iX8_isBelow_5 ?_
    refine wp_cge iX8_isBelow_6 (fun c_6 => ?_) (fun c_6 => ?_)
    · refine wp_ic iX8_isBelow_13 (by decide) ?_
      refine wp_retb iX8_isBelow_14 rfl (by decide) ?_
      (simp; omega)
    · refine wp_ic iX8_isBelow_9 (by decide) ?_
      refine wp_goto iX8_isBelow_10 ?_
      refine wp_retb iX8_isBelow_14 rfl (by decide) ?_
      (simp; omega)
end
section
/-! ===== THE CARTOON of the class: cell 3, its squares cell 4 ===== -/
def sm (g : Nat → Int) : Nat → Int
  | 0 => 0
  | n + 1 => sm g n + g n
theorem sm_up (g : Nat → Int) {i : Int} (h : 0 ≤ i) : sm g (i + 1).toNat = sm g i.toNat + g i.toNat := by
  rw [show (i + 1).toNat = i.toNat + 1 by omega]
  rfl
theorem sm_bd (g : Nat → Int) (b : Int) (h : ∀ k, 0 ≤ g k ∧ g k ≤ b) (n : Nat) : 0 ≤ sm g n ∧ sm g n ≤ b * n := by
  induction n with
  | zero => simp [sm]
  | succ n ih =>
    have h1 := h n
    have e : b * ((n + 1 : Nat) : Int) = b * n + b := by rw [Int.natCast_add, Int.mul_add]; simp
    simp only [sm]
    rw [e]
    omega
def hB (M : ab_Me) : Prop := 1 ≤ M 3 0 ∧ M 3 0 ≤ 12 ∧ 1 ≤ M 3 1 ∧ M 3 1 ≤ 10 ∧ ∀ k, 0 ≤ M 4 k ∧ M 4 k < 16
section Board
variable (L : Nat) (M : ab_Me)
theorem c_X8_isColour (x : Int) : cF L 2 mX8_isColour [.inl x] M (if 0 ≤ x ∧ x < 8 then 1 else 0) := by
  refine cF_of rfl ?_
  change wp _ _ _ 0 [some (.inl x)] [] _ _
  refine wp_il0 iX8_isColour_0 ?_
  refine wp_bp iX8_isColour_1 (by decide) ?_
  refine wp_s2f iX8_isColour_3 ml_8_132 rfl rfl rfl (c_X8_isBelow _ _ _ _) ?_
  refine wp_retb iX8_isColour_6 rfl (by split <;> simp) ?_
  exact ⟨rfl, rfl⟩
theorem c_X8_isOnBoard (s n b : Int) (hb : 0 ≤ b ∧ b < 1000) (hs : s < 2147483648) : cF L 1 mX8_isOnBoard [.inl s, .inl n, .inl b] M (if 0 ≤ s ∧ 1 ≤ n ∧ n ≤ b - s then 1 else 0) := by
  refine cF_of rfl ?_
  change wp _ _ _ 0 [some (.inl s), some (.inl n), some (.inl b)] [] _ _
  refine wp_il0 iX8_isOnBoard_0 ?_
  refine wp_zlt iX8_isOnBoard_1 (fun c_1 => ?_) (fun c_1 => ?_)
  · refine wp_ic iX8_isOnBoard_20 (by decide) ?_
    refine wp_retb iX8_isOnBoard_21 rfl (by decide) ?_
    (simp; omega)
  · refine wp_il1 iX8_isOnBoard_4 ?_
    refine wp_ic iX8_isOnBoard_5 (by decide) ?_
    refine wp_clt iX8_isOnBoard_6 (fun c_6 => ?_) (fun c_6 => ?_)
    · refine wp_ic iX8_isOnBoard_20 (by decide) ?_
      refine wp_retb iX8_isOnBoard_21 rfl (by decide) ?_
      (simp; omega)
    · refine wp_il1 iX8_isOnBoard_9 ?_
      refine wp_il2 iX8_isOnBoard_10 ?_
      refine wp_il0 iX8_isOnBoard_11 ?_
      refine wp_sub iX8_isOnBoard_12 (by omega) ?_
      refine wp_cgt iX8_isOnBoard_13 (fun c_13 => ?_) (fun c_13 => ?_)
      · refine wp_ic iX8_isOnBoard_20 (by decide) ?_
        refine wp_retb iX8_isOnBoard_21 rfl (by decide) ?_
        (simp; omega)
      · refine wp_ic iX8_isOnBoard_16 (by decide) ?_
        refine wp_goto iX8_isOnBoard_17 ?_
        refine wp_retb iX8_isOnBoard_21 rfl (by decide) ?_
        (simp; omega)
theorem c_X8_cellOf (x y : Int) (h : (-1000000 ≤ x ∧ x ≤ 1000000) ∧ -1000000 ≤ y ∧ y ≤ 1000000) : cF L 1 mX8_cellOf [.inl x, .inl y] M (12 * y + x) := by
  refine cF_of rfl ?_
  change wp _ _ _ 0 [some (.inl x), some (.inl y)] [] _ _
  refine wp_il1 iX8_cellOf_0 ?_
  refine wp_bp iX8_cellOf_1 (by decide) ?_
  refine wp_mul iX8_cellOf_3 (by omega) ?_
  refine wp_il0 iX8_cellOf_4 ?_
  refine wp_add iX8_cellOf_5 (by omega) ?_
  refine wp_ret iX8_cellOf_6 rfl ?_
  (exact ⟨by rw [show y * 12 + x = 12 * y + x by omega], rfl⟩)
theorem c_X0_hasSquare (x y : Int) : cF L 2 mX0_hasSquare [.inr 3, .inl x, .inl y] M (if (0 ≤ x ∧ x < M 3 0) ∧ 0 ≤ y ∧ y < M 3 1 then 1 else 0) := by
  refine cF_of rfl ?_
  change wp _ _ _ 0 [some (.inr 3), some (.inl x), some (.inl y)] [] _ _
  refine wp_il1 iX0_hasSquare_0 ?_
  refine wp_al0 iX0_hasSquare_1 ?_
  refine wp_gI iX0_hasSquare_2 fi_0_9 rfl ?_
  refine wp_n2f iX0_hasSquare_5 ml_0_34 rfl rfl rfl (c_X8_isBelow _ _ _ _) ?_
  refine wp_beq iX0_hasSquare_8 (fun c_8 => ?_) (fun c_8 => ?_)
  · refine wp_ic iX0_hasSquare_26 (by decide) ?_
    refine wp_retb iX0_hasSquare_27 rfl (by decide) ?_
    (simp; omega)
  · refine wp_il2 iX0_hasSquare_11 ?_
    refine wp_al0 iX0_hasSquare_12 ?_
    refine wp_gI iX0_hasSquare_13 fi_0_15 rfl ?_
    refine wp_n2f iX0_hasSquare_16 ml_0_34 rfl rfl rfl (c_X8_isBelow _ _ _ _) ?_
    refine wp_beq iX0_hasSquare_19 (fun c_19 => ?_) (fun c_19 => ?_)
    · refine wp_ic iX0_hasSquare_26 (by decide) ?_
      refine wp_retb iX0_hasSquare_27 rfl (by decide) ?_
      (simp; omega)
    · refine wp_ic iX0_hasSquare_22 (by decide) ?_
      refine wp_goto iX0_hasSquare_23 ?_
      refine wp_retb iX0_hasSquare_27 rfl (by decide) ?_
      (simp; omega)
theorem c_X0_cellOfCartoon (x y : Int) (hC : 0 ≤ M 3 0 ∧ M 3 0 ≤ 12) (hx : -100 ≤ x ∧ x ≤ 100) (hy : -100 ≤ y ∧ y ≤ 100) : cF L 2 mX0_cellOfCartoon [.inr 3, .inl x, .inl y] M (12 * y + (M 3 0 - 1 - x)) := by
  refine cF_of rfl ?_
  change wp _ _ _ 0 [some (.inr 3), some (.inl x), some (.inl y)] [] _ _
  refine wp_al0 iX0_cellOfCartoon_0 ?_
  refine wp_gI iX0_cellOfCartoon_1 fi_0_9 rfl ?_
  refine wp_ic iX0_cellOfCartoon_4 (by decide) ?_
  refine wp_sub iX0_cellOfCartoon_5 (by omega) ?_
  refine wp_il1 iX0_cellOfCartoon_6 ?_
  refine wp_sub iX0_cellOfCartoon_7 (by omega) ?_
  refine wp_il2 iX0_cellOfCartoon_8 ?_
  refine wp_n2f iX0_cellOfCartoon_9 ml_0_38 rfl rfl rfl (c_X8_cellOf _ _ _ _ (by omega)) ?_
  refine wp_ret iX0_cellOfCartoon_12 rfl ?_
  (exact ⟨rfl, rfl⟩)
theorem c_X0_colourAt (k : Int) (hk : 0 ≤ k ∧ k < 120) (hv : 0 ≤ M 4 k.toNat ∧ M 4 k.toNat < 16) : cF L 1 mX0_colourAt [.inr 3, .inl k] M (M 4 k.toNat % 8) := by
  refine cF_of rfl ?_
  change wp _ _ _ 0 [some (.inr 3), some (.inl k)] [] _ _
  refine wp_al0 iX0_colourAt_0 ?_
  refine wp_gR iX0_colourAt_1 fr_0_18 rfl rfl rfl ?_
  refine wp_il1 iX0_colourAt_4 ?_
  refine wp_ia iX0_colourAt_5 rfl (by omega) ?_
  refine wp_bp iX0_colourAt_6 (by decide) ?_
  refine wp_and iX0_colourAt_8 (bt_7 hv) ?_
  refine wp_ret iX0_colourAt_9 rfl ?_
  (exact ⟨rfl, rfl⟩)
theorem c_X0_hasFace (k : Int) (hk : 0 ≤ k ∧ k < 120) (hv : 0 ≤ M 4 k.toNat ∧ M 4 k.toNat < 16) : cF L 1 mX0_hasFace [.inr 3, .inl k] M (if 8 ≤ M 4 k.toNat then 1 else 0) := by
  refine cF_of rfl ?_
  change wp _ _ _ 0 [some (.inr 3), some (.inl k)] [] _ _
  refine wp_al0 iX0_hasFace_0 ?_
  refine wp_gR iX0_hasFace_1 fr_0_18 rfl rfl rfl ?_
  refine wp_il1 iX0_hasFace_4 ?_
  refine wp_ia iX0_hasFace_5 rfl (by omega) ?_
  refine wp_bp iX0_hasFace_6 (by decide) ?_
  refine wp_and iX0_hasFace_8 (bt_8 hv) ?_
  refine wp_zeq iX0_hasFace_9 (fun c_9 => ?_) (fun c_9 => ?_)
  · refine wp_ic iX0_hasFace_16 (by decide) ?_
    refine wp_retb iX0_hasFace_17 rfl (by decide) ?_
    (simp; omega)
  · refine wp_ic iX0_hasFace_12 (by decide) ?_
    refine wp_goto iX0_hasFace_13 ?_
    refine wp_retb iX0_hasFace_17 rfl (by decide) ?_
    (simp; omega)
theorem c_X0_workAt (k : Int) (hk : 0 ≤ k ∧ k < 120) (hv : 0 ≤ M 4 k.toNat ∧ M 4 k.toNat < 16) : cF L 2 mX0_workAt [.inr 3, .inl k] M (if 8 ≤ M 4 k.toNat then 3 else 1) := by
  refine cF_of rfl ?_
  change wp _ _ _ 0 [some (.inr 3), some (.inl k)] [] _ _
  refine wp_al0 iX0_workAt_0 ?_
  refine wp_il1 iX0_workAt_1 ?_
  refine wp_v1f iX0_workAt_2 ml_0_42 rfl rfl rfl rfl (c_X0_hasFace L M k hk hv) ?_
  refine wp_beq iX0_workAt_5 (fun c_5 => ?_) (fun c_5 => ?_)
  · refine wp_ic iX0_workAt_12 (by decide) ?_
    refine wp_ret iX0_workAt_13 rfl ?_
    (simp; omega)
  · refine wp_ic iX0_workAt_8 (by decide) ?_
    refine wp_goto iX0_workAt_9 ?_
    refine wp_ret iX0_workAt_13 rfl ?_
    (simp; omega)
theorem c_X0_dip (k x : Int) (hk : 0 ≤ k ∧ k < 120) (hx : 0 ≤ x ∧ x < 8) (hv : 0 ≤ M 4 k.toNat ∧ M 4 k.toNat < 16) : cV L 1 mX0_dip [.inr 3, .inl k, .inl x] M (ab_up M 4 k.toNat (8 * (M 4 k.toNat / 8) + x)) := by
  refine cV_of rfl ?_
  change wp _ _ _ 0 [some (.inr 3), some (.inl k), some (.inl x)] [] _ _
  refine wp_al0 iX0_dip_0 ?_
  refine wp_gR iX0_dip_1 fr_0_18 rfl rfl rfl ?_
  refine wp_il1 iX0_dip_4 ?_
  refine wp_al0 iX0_dip_5 ?_
  refine wp_gR iX0_dip_6 fr_0_18 rfl rfl rfl ?_
  refine wp_il1 iX0_dip_9 ?_
  refine wp_ia iX0_dip_10 rfl (by omega) ?_
  refine wp_bp iX0_dip_11 (by decide) ?_
  refine wp_and iX0_dip_13 (bt_8 hv) ?_
  refine wp_il2 iX0_dip_14 ?_
  refine wp_or iX0_dip_15 (bt_o (by omega) hx) ?_
  refine wp_is iX0_dip_16 rfl rfl (by omega) ?_
  refine wp_retv iX0_dip_17 rfl ?_
  (exact ⟨rfl, rfl⟩)
theorem c_X0_turnFace (k : Int) (hk : 0 ≤ k ∧ k < 120) (hv : 0 ≤ M 4 k.toNat ∧ M 4 k.toNat < 16) : cV L 1 mX0_turnFace [.inr 3, .inl k] M (ab_up M 4 k.toNat (M 4 k.toNat % 8 + 8 * (1 - M 4 k.toNat / 8))) := by
  refine cV_of rfl ?_
  change wp _ _ _ 0 [some (.inr 3), some (.inl k)] [] _ _
  refine wp_al0 iX0_turnFace_0 ?_
  refine wp_gR iX0_turnFace_1 fr_0_18 rfl rfl rfl ?_
  refine wp_il1 iX0_turnFace_4 ?_
  refine wp_dup2 iX0_turnFace_5 ?_
  refine wp_ia iX0_turnFace_6 rfl (by omega) ?_
  refine wp_bp iX0_turnFace_7 (by decide) ?_
  refine wp_xor iX0_turnFace_9 (bt_x hv) ?_
  refine wp_is iX0_turnFace_10 rfl rfl (by omega) ?_
  refine wp_retv iX0_turnFace_11 rfl ?_
  (exact ⟨rfl, rfl⟩)
def fcW (M : ab_Me) (w : Int) : Nat → Int := fun p => M 4 (12 * (p : Int) + w).toNat / 8
theorem fcW_bd (hM : hB M) (w : Int) (k : Nat) : 0 ≤ fcW M w k ∧ fcW M w k ≤ 1 := by
  have := hM.2.2.2.2 (12 * (k : Int) + w).toNat
  unfold fcW
  omega
theorem c_X0_facesOfWarp (hM : hB M) (w : Int) (hw : 0 ≤ w ∧ w < 12) : cF L 2 mX0_facesOfWarp [.inr 3, .inl w] M (sm (fcW M w) (M 3 1).toNat) := by
  obtain ⟨h1, h2, h3, h4, h5⟩ := id hM
  refine cF_of rfl ?_
  change wp _ _ _ 0 [some (.inr 3), some (.inl w), none, none] [] _ _
  refine wp_ic iX0_facesOfWarp_0 (by decide) ?_
  refine wp_is2 iX0_facesOfWarp_1 ?_
  refine wp_ic iX0_facesOfWarp_2 (by decide) ?_
  refine wp_is3 iX0_facesOfWarp_3 ?_
  have key : ∀ (n : Nat) (i acc : Int), (M 3 1 - i).toNat = n → 0 ≤ i → i ≤ M 3 1 → acc = sm (fcW M w) i.toNat → wp L 1 mX0_facesOfWarp 4 [some (.inr 3), some (.inl w), some (.inl acc), some (.inl i)] [] M (fun r M1 => r = some (.inl (sm (fcW M w) (M 3 1).toNat)) ∧ M1 = M) := by
    intro n
    induction n using Nat.strongRecOn with
    | ind n ih =>
      intro i acc hn hi0 hi1 hacc
      have hb := sm_bd (fcW M w) 1 (fcW_bd M hM w) i.toNat
      have hv := h5 (12 * i + w).toNat
      have hs := sm_up (fcW M w) hi0
      have hf : fcW M w i.toNat = M 4 (12 * i + w).toNat / 8 := by unfold fcW; rw [show ((i.toNat : Nat) : Int) = i by omega]
      refine wp_il3 iX0_facesOfWarp_4 ?_
      refine wp_al0 iX0_facesOfWarp_5 ?_
      refine wp_gI iX0_facesOfWarp_6 fi_0_15 rfl ?_
      refine wp_cge iX0_facesOfWarp_9 (fun c_9 => ?_) (fun c_9 => ?_)
      · refine wp_il2 iX0_facesOfWarp_33 ?_
        refine wp_ret iX0_facesOfWarp_34 rfl ?_
        (exact ⟨by rw [hacc, show i = M 3 1 by omega], rfl⟩)
      · refine wp_al0 iX0_facesOfWarp_12 ?_
        refine wp_il1 iX0_facesOfWarp_13 ?_
        refine wp_il3 iX0_facesOfWarp_14 ?_
        refine wp_n2f iX0_facesOfWarp_15 ml_0_38 rfl rfl rfl (c_X8_cellOf _ _ _ _ (by omega)) ?_
        refine wp_v1f iX0_facesOfWarp_18 ml_0_42 rfl rfl rfl rfl (c_X0_hasFace L M (12 * i + w) (by omega) hv) ?_
        refine wp_beq iX0_facesOfWarp_21 (fun c_21 => ?_) (fun c_21 => ?_)
        · refine wp_ii3 iX0_facesOfWarp_27 (by omega) ?_
          refine wp_goto iX0_facesOfWarp_30 ?_
          exact ih _ (by omega) (i + 1) acc rfl (by omega) (by omega) (by rw [hs, hf, hacc]; omega)
        · refine wp_ii2 iX0_facesOfWarp_24 (by omega) ?_
          refine wp_ii3 iX0_facesOfWarp_27 (by omega) ?_
          refine wp_goto iX0_facesOfWarp_30 ?_
          exact ih _ (by omega) (i + 1) (acc + 1) rfl (by omega) (by omega) (by rw [hs, hf, hacc]; omega)
  exact key _ 0 0 rfl (by omega) (by omega) rfl
theorem c_X0_workOfWarp (hM : hB M) (w : Int) (hw : 0 ≤ w ∧ w < 12) : cF L 3 mX0_workOfWarp [.inr 3, .inl w] M (M 3 1 + 2 * sm (fcW M w) (M 3 1).toNat) := by
  obtain ⟨h1, h2, h3, h4, h5⟩ := id hM
  have hb := sm_bd (fcW M w) 1 (fcW_bd M hM w) (M 3 1).toNat
  refine cF_of rfl ?_
  change wp _ _ _ 0 [some (.inr 3), some (.inl w)] [] _ _
  refine wp_al0 iX0_workOfWarp_0 ?_
  refine wp_gI iX0_workOfWarp_1 fi_0_15 rfl ?_
  refine wp_ic iX0_workOfWarp_4 (by decide) ?_
  refine wp_al0 iX0_workOfWarp_5 ?_
  refine wp_il1 iX0_workOfWarp_6 ?_
  refine wp_v1f iX0_workOfWarp_7 ml_0_46 rfl rfl rfl rfl (c_X0_facesOfWarp L M hM w hw) ?_
  refine wp_mul iX0_workOfWarp_10 (by omega) ?_
  refine wp_add iX0_workOfWarp_11 (by omega) ?_
  refine wp_ret iX0_workOfWarp_12 rfl ?_
  (exact ⟨rfl, rfl⟩)
def ul (M : ab_Me) (w p : Int) : Prop := ¬ M 4 (12 * p + w).toNat % 8 = M 4 (12 * p + (w + 1)).toNat % 8
theorem c_X0_isSlitAt (hM : hB M) (w p : Int) (hw : 0 ≤ w ∧ w < 11) (hp : 0 ≤ p ∧ p < 10) : cF L 2 mX0_isSlitAt [.inr 3, .inl w, .inl p] M (if ¬ M 4 (12 * p + w).toNat % 8 = M 4 (12 * p + (w + 1)).toNat % 8 then 1 else 0) := by
  obtain ⟨h1, h2, h3, h4, h5⟩ := id hM
  refine cF_of rfl ?_
  change wp _ _ _ 0 [some (.inr 3), some (.inl w), some (.inl p)] [] _ _
  refine wp_al0 iX0_isSlitAt_0 ?_
  refine wp_il1 iX0_isSlitAt_1 ?_
  refine wp_il2 iX0_isSlitAt_2 ?_
  refine wp_n2f iX0_isSlitAt_3 ml_0_38 rfl rfl rfl (c_X8_cellOf _ _ _ _ (by omega)) ?_
  refine wp_v1f iX0_isSlitAt_6 ml_0_50 rfl rfl rfl rfl (c_X0_colourAt L M (12 * p + w) (by omega) (h5 _)) ?_
  refine wp_al0 iX0_isSlitAt_9 ?_
  refine wp_il1 iX0_isSlitAt_10 ?_
  refine wp_ic iX0_isSlitAt_11 (by decide) ?_
  refine wp_add iX0_isSlitAt_12 (by omega) ?_
  refine wp_il2 iX0_isSlitAt_13 ?_
  refine wp_n2f iX0_isSlitAt_14 ml_0_38 rfl rfl rfl (c_X8_cellOf _ _ _ _ (by omega)) ?_
  refine wp_v1f iX0_isSlitAt_17 ml_0_50 rfl rfl rfl rfl (c_X0_colourAt L M (12 * p + (w + 1)) (by omega) (h5 _)) ?_
  refine wp_ceq iX0_isSlitAt_20 (fun c_20 => ?_) (fun c_20 => ?_)
  · refine wp_ic iX0_isSlitAt_27 (by decide) ?_
    refine wp_retb iX0_isSlitAt_28 rfl (by decide) ?_
    (simp [*])
  · refine wp_ic iX0_isSlitAt_23 (by decide) ?_
    refine wp_goto iX0_isSlitAt_24 ?_
    refine wp_retb iX0_isSlitAt_28 rfl (by decide) ?_
    (simp [*])
end Board
end
section
/-! ===== SLITS: words for both sides, and the class's methods ===== -/
def it (f : Int → Nat → Int) (a : Int) : Nat → Int
  | 0 => a
  | n + 1 => f (it f a n) n
theorem it_up (f : Int → Nat → Int) (a : Int) {i : Int} (h : 0 ≤ i) : it f a (i + 1).toNat = f (it f a i.toNat) i.toNat := by
  rw [show (i + 1).toNat = i.toNat + 1 by omega]
  rfl
theorem toNat_cast {i : Int} (h : 0 ≤ i) : ((i.toNat : Nat) : Int) = i := by omega
def uC (col : Nat → Int) (w : Int) (p : Nat) : Bool := decide (¬ col (12 * (p : Int) + w).toNat = col (12 * (p : Int) + (w + 1)).toNat)
def rl (u : Nat → Bool) : Nat → Nat → Int
  | 0, _ => 0
  | n + 1, p => if u p = true then rl u n (p + 1) + 1 else 0
theorem rl_bd (u : Nat → Bool) : ∀ n p, 0 ≤ rl u n p ∧ rl u n p ≤ n
  | 0, p => by simp [rl]
  | n + 1, p => by
    have := rl_bd u n (p + 1)
    simp only [rl]
    split <;> omega
def sf (u : Nat → Bool) (R p : Nat) : Int := if 0 < p ∧ u (p - 1) = true then 0 else rl u (R - p) p
theorem sf_bd (u : Nat → Bool) (R p : Nat) : 0 ≤ sf u R p ∧ sf u R p ≤ R := by
  have := rl_bd u (R - p) p
  unfold sf
  split <;> omega
theorem rl_no {u : Nat → Bool} {n p : Nat} (h : n = 0 ∨ ¬ u p = true) : rl u n p = 0 := by
  cases n with
  | zero => rfl
  | succ n =>
    rcases h with h | h
    · omega
    · simp [rl, h]
theorem rl_yes {u : Nat → Bool} {n p : Nat} (h : u p = true) : rl u (n + 1) p = rl u n (p + 1) + 1 := by simp [rl, h]
def stp (what S n told : Int) : Int := if what = 3 then (if told < n then n else told) else if what = 0 then told + (if 0 < n then 1 else 0) else if what = 1 then told + (if S < n then 1 else 0) else told + (if S < n then n else 0)
def slr (what S : Int) (R : Nat) (col : Nat → Int) (a : Int) (w : Nat) : Int := it (fun b p => stp what S (sf (uC col w) R p) b) a R
def sls (what S : Int) (C R : Nat) (col : Nat → Int) : Int := it (slr what S R col) 0 (C - 1)
def cX (M : ab_Me) : Nat → Int := fun k => M 4 k % 8
section SlX
variable (L : Nat) (M : ab_Me)
theorem c_X0_isSlit (hM : hB M) (w p : Int) (hw : 0 ≤ w ∧ w < 11) (hp : 0 ≤ p ∧ p < 10) : cF L 2 mX0_isSlitAt [.inr 3, .inl w, .inl p] M (if uC (cX M) w p.toNat = true then 1 else 0) := by
  have h := c_X0_isSlitAt L M hM w p hw hp
  have e : (if ¬ M 4 (12 * p + w).toNat % 8 = M 4 (12 * p + (w + 1)).toNat % 8 then (1 : Int) else 0) = (if uC (cX M) w p.toNat = true then 1 else 0) := by
    unfold uC cX
    rw [toNat_cast hp.1]
    simp only [decide_eq_true_eq]
  rw [e] at h
  exact h
theorem c_X0_lengthOfSlitFrom (hM : hB M) (w p : Int) (hw : 0 ≤ w ∧ w < 11) (hp : 0 ≤ p ∧ p < M 3 1) : cF L 3 mX0_lengthOfSlitFrom [.inr 3, .inl w, .inl p] M (sf (uC (cX M) w) (M 3 1).toNat p.toNat) := by
  obtain ⟨h1, h2, h3, h4, h5⟩ := id hM
  refine cF_of rfl ?_
  change wp _ _ _ 0 [some (.inr 3), some (.inl w), some (.inl p), none] [] _ _
  have key : ∀ (n : Nat) (i : Int), (M 3 1 - i).toNat = n → p ≤ i → i ≤ M 3 1 → rl (uC (cX M) w) ((M 3 1).toNat - p.toNat) p.toNat = (i - p) + rl (uC (cX M) w) n i.toNat → sf (uC (cX M) w) (M 3 1).toNat p.toNat = rl (uC (cX M) w) ((M 3 1).toNat - p.toNat) p.toNat → wp L 2 mX0_lengthOfSlitFrom 19 [some (.inr 3), some (.inl w), some (.inl p), some (.inl i)] [] M (fun r M1 => r = some (.inl (sf (uC (cX M) w) (M 3 1).toNat p.toNat)) ∧ M1 = M) := by
    intro n
    induction n with
    | zero =>
      intro i hn hi0 hi1 hrl hsf
      refine wp_il3 iX0_lengthOfSlitFrom_19 ?_
      refine wp_al0 iX0_lengthOfSlitFrom_20 ?_
      refine wp_gI iX0_lengthOfSlitFrom_21 fi_0_15 rfl ?_
      refine wp_cge iX0_lengthOfSlitFrom_24 (fun c_24 => ?_) (fun c_24 => ?_)
      · refine wp_il3 iX0_lengthOfSlitFrom_42 ?_
        refine wp_il2 iX0_lengthOfSlitFrom_43 ?_
        refine wp_sub iX0_lengthOfSlitFrom_44 (by omega) ?_
        refine wp_ret iX0_lengthOfSlitFrom_45 rfl ?_
        (exact ⟨by rw [hsf, hrl]; simp [rl], rfl⟩)
      · refine wp_al0 iX0_lengthOfSlitFrom_27 ?_
        refine wp_il1 iX0_lengthOfSlitFrom_28 ?_
        refine wp_il3 iX0_lengthOfSlitFrom_29 ?_
        refine wp_v2f iX0_lengthOfSlitFrom_30 ml_0_53 rfl rfl rfl rfl (c_X0_isSlit L M hM w i hw (by omega)) ?_
        refine wp_beq iX0_lengthOfSlitFrom_33 (fun c_33 => ?_) (fun c_33 => ?_)
        · refine wp_il3 iX0_lengthOfSlitFrom_42 ?_
          refine wp_il2 iX0_lengthOfSlitFrom_43 ?_
          refine wp_sub iX0_lengthOfSlitFrom_44 (by omega) ?_
          refine wp_ret iX0_lengthOfSlitFrom_45 rfl ?_
          (exact ⟨by rw [hsf, hrl]; simp [rl], rfl⟩)
        · refine wp_ii3 iX0_lengthOfSlitFrom_36 (by omega) ?_
          refine wp_goto iX0_lengthOfSlitFrom_39 ?_
          exact absurd hn (by omega)
    | succ n ih =>
      intro i hn hi0 hi1 hrl hsf
      refine wp_il3 iX0_lengthOfSlitFrom_19 ?_
      refine wp_al0 iX0_lengthOfSlitFrom_20 ?_
      refine wp_gI iX0_lengthOfSlitFrom_21 fi_0_15 rfl ?_
      refine wp_cge iX0_lengthOfSlitFrom_24 (fun c_24 => ?_) (fun c_24 => ?_)
      · refine wp_il3 iX0_lengthOfSlitFrom_42 ?_
        refine wp_il2 iX0_lengthOfSlitFrom_43 ?_
        refine wp_sub iX0_lengthOfSlitFrom_44 (by omega) ?_
        refine wp_ret iX0_lengthOfSlitFrom_45 rfl ?_
        (first | (exact ⟨by rw [hsf, hrl, rl_no (Or.inr (by assumption))]; simp, rfl⟩) | omega)
      · refine wp_al0 iX0_lengthOfSlitFrom_27 ?_
        refine wp_il1 iX0_lengthOfSlitFrom_28 ?_
        refine wp_il3 iX0_lengthOfSlitFrom_29 ?_
        refine wp_v2f iX0_lengthOfSlitFrom_30 ml_0_53 rfl rfl rfl rfl (c_X0_isSlit L M hM w i hw (by omega)) ?_
        refine wp_beq iX0_lengthOfSlitFrom_33 (fun c_33 => ?_) (fun c_33 => ?_)
        · refine wp_il3 iX0_lengthOfSlitFrom_42 ?_
          refine wp_il2 iX0_lengthOfSlitFrom_43 ?_
          refine wp_sub iX0_lengthOfSlitFrom_44 (by omega) ?_
          refine wp_ret iX0_lengthOfSlitFrom_45 rfl ?_
          (first | (exact ⟨by rw [hsf, hrl, rl_no (Or.inr (by assumption))]; simp, rfl⟩) | omega)
        · refine wp_ii3 iX0_lengthOfSlitFrom_36 (by omega) ?_
          refine wp_goto iX0_lengthOfSlitFrom_39 ?_
          exact ih (i + 1) (by omega) (by omega) (by omega) (by rw [hrl, rl_yes (by assumption), show (i + 1).toNat = i.toNat + 1 by omega]; omega) hsf
  refine wp_il2 iX0_lengthOfSlitFrom_0 ?_
  refine wp_zle iX0_lengthOfSlitFrom_1 (fun c_1 => ?_) (fun c_1 => ?_)
  · refine wp_il2 iX0_lengthOfSlitFrom_17 ?_
    refine wp_is3 iX0_lengthOfSlitFrom_18 ?_
    exact key _ p rfl (by omega) (by omega) (by rw [show (M 3 1 - p).toNat = (M 3 1).toNat - p.toNat by omega]; omega) (by unfold sf; rw [if_neg (by omega)])
  · refine wp_al0 iX0_lengthOfSlitFrom_4 ?_
    refine wp_il1 iX0_lengthOfSlitFrom_5 ?_
    refine wp_il2 iX0_lengthOfSlitFrom_6 ?_
    refine wp_ic iX0_lengthOfSlitFrom_7 (by decide) ?_
    refine wp_sub iX0_lengthOfSlitFrom_8 (by omega) ?_
    refine wp_v2f iX0_lengthOfSlitFrom_9 ml_0_53 rfl rfl rfl rfl (c_X0_isSlit L M hM w (p - 1) hw (by omega)) ?_
    refine wp_beq iX0_lengthOfSlitFrom_12 (fun c_12 => ?_) (fun c_12 => ?_)
    · refine wp_il2 iX0_lengthOfSlitFrom_17 ?_
      refine wp_is3 iX0_lengthOfSlitFrom_18 ?_
      exact key _ p rfl (by omega) (by omega) (by rw [show (M 3 1 - p).toNat = (M 3 1).toNat - p.toNat by omega]; omega) (by unfold sf; rw [if_neg (fun q => by rw [show p.toNat - 1 = (p - 1).toNat by omega] at q; exact absurd q.2 (by assumption))])
    · refine wp_ic iX0_lengthOfSlitFrom_15 (by decide) ?_
      refine wp_ret iX0_lengthOfSlitFrom_16 rfl ?_
      (exact ⟨by unfold sf; rw [if_pos ⟨by omega, by rw [show p.toNat - 1 = (p - 1).toNat by omega]; assumption⟩], rfl⟩)
def bk (u : Nat → Bool) : Nat → Nat
  | 0 => 0
  | p + 1 => if u p = true then bk u p else p + 1
theorem bk_le (u : Nat → Bool) : ∀ p, bk u p ≤ p
  | 0 => Nat.le_refl 0
  | p + 1 => by
    have := bk_le u p
    simp only [bk]
    split <;> omega
theorem bk_at (u : Nat → Bool) : ∀ p, bk u p = 0 ∨ ¬ u (bk u p - 1) = true
  | 0 => Or.inl rfl
  | p + 1 => by
    have := bk_at u p
    by_cases h : u p = true
    · simpa only [bk, h, if_true] using this
    · right
      simp only [bk, h, if_false]
      simpa using h
def slt (u : Nat → Bool) (R p : Nat) : Int := if u p = true then sf u R (bk u p) else 0
theorem c_X0_slitLength (hM : hB M) (w p : Int) (hw : 0 ≤ w ∧ w < 11) (hp : 0 ≤ p ∧ p < M 3 1) : cF L 4 mX0_slitLength [.inr 3, .inl w, .inl p] M (slt (uC (cX M) w) (M 3 1).toNat p.toNat) := by
  obtain ⟨h1, h2, h3, h4, h5⟩ := id hM
  refine cF_of rfl ?_
  change wp _ _ _ 0 [some (.inr 3), some (.inl w), some (.inl p), none] [] _ _
  refine wp_il2 iX0_slitLength_0 ?_
  refine wp_is3 iX0_slitLength_1 ?_
  have key : ∀ (n : Nat) (i : Int), i.toNat = n → 0 ≤ i → i ≤ p → slt (uC (cX M) w) (M 3 1).toNat p.toNat = (if uC (cX M) w i.toNat = true then sf (uC (cX M) w) (M 3 1).toNat (bk (uC (cX M) w) i.toNat) else sf (uC (cX M) w) (M 3 1).toNat i.toNat) → wp L 3 mX0_slitLength 2 [some (.inr 3), some (.inl w), some (.inl p), some (.inl i)] [] M (fun r M1 => r = some (.inl (slt (uC (cX M) w) (M 3 1).toNat p.toNat)) ∧ M1 = M) := by
    intro n
    induction n with
    | zero =>
      intro i hn hi0 hi1 hs
      rw [hn] at hs
      refine wp_il3 iX0_slitLength_2 ?_
      refine wp_zle iX0_slitLength_3 (fun c_3 => ?_) (fun c_3 => ?_)
      · refine wp_al0 iX0_slitLength_32 ?_
        refine wp_il1 iX0_slitLength_33 ?_
        refine wp_il3 iX0_slitLength_34 ?_
        refine wp_v2f iX0_slitLength_35 ml_0_56 rfl rfl rfl rfl (c_X0_lengthOfSlitFrom L M hM w i hw (by omega)) ?_
        refine wp_ret iX0_slitLength_38 rfl ?_
        (exact ⟨by rw [hs, hn]; split <;> rfl, rfl⟩)
      · refine wp_al0 iX0_slitLength_6 ?_
        refine wp_il1 iX0_slitLength_7 ?_
        refine wp_il3 iX0_slitLength_8 ?_
        refine wp_v2f iX0_slitLength_9 ml_0_53 rfl rfl rfl rfl (c_X0_isSlit L M hM w i hw (by omega)) ?_
        refine wp_beq iX0_slitLength_12 (fun c_12 => ?_) (fun c_12 => ?_)
        · refine wp_al0 iX0_slitLength_32 ?_
          refine wp_il1 iX0_slitLength_33 ?_
          refine wp_il3 iX0_slitLength_34 ?_
          refine wp_v2f iX0_slitLength_35 ml_0_56 rfl rfl rfl rfl (c_X0_lengthOfSlitFrom L M hM w i hw (by omega)) ?_
          refine wp_ret iX0_slitLength_38 rfl ?_
          (exact ⟨by rw [hs, hn]; split <;> rfl, rfl⟩)
        · refine wp_al0 iX0_slitLength_15 ?_
          refine wp_il1 iX0_slitLength_16 ?_
          refine wp_il3 iX0_slitLength_17 ?_
          refine wp_ic iX0_slitLength_18 (by decide) ?_
          refine wp_sub iX0_slitLength_19 (by omega) ?_
          refine wp_v2f iX0_slitLength_20 ml_0_53 rfl rfl rfl rfl (c_X0_isSlit L M hM w (i - 1) hw (by omega)) ?_
          refine wp_beq iX0_slitLength_23 (fun c_23 => ?_) (fun c_23 => ?_)
          · refine wp_al0 iX0_slitLength_32 ?_
            refine wp_il1 iX0_slitLength_33 ?_
            refine wp_il3 iX0_slitLength_34 ?_
            refine wp_v2f iX0_slitLength_35 ml_0_56 rfl rfl rfl rfl (c_X0_lengthOfSlitFrom L M hM w i hw (by omega)) ?_
            refine wp_ret iX0_slitLength_38 rfl ?_
            (exact ⟨by rw [hs, hn]; split <;> rfl, rfl⟩)
          · refine wp_ii3 iX0_slitLength_26 (by omega) ?_
            refine wp_goto iX0_slitLength_29 ?_
            exact absurd hn (by omega)
    | succ n ih =>
      intro i hn hi0 hi1 hs
      have hb : bk (uC (cX M) w) i.toNat = if uC (cX M) w (i - 1).toNat = true then bk (uC (cX M) w) (i - 1).toNat else i.toNat := by
        rw [show i.toNat = (i - 1).toNat + 1 by omega]
        rfl
      refine wp_il3 iX0_slitLength_2 ?_
      refine wp_zle iX0_slitLength_3 (fun c_3 => ?_) (fun c_3 => ?_)
      · refine wp_al0 iX0_slitLength_32 ?_
        refine wp_il1 iX0_slitLength_33 ?_
        refine wp_il3 iX0_slitLength_34 ?_
        refine wp_v2f iX0_slitLength_35 ml_0_56 rfl rfl rfl rfl (c_X0_lengthOfSlitFrom L M hM w i hw (by omega)) ?_
        refine wp_ret iX0_slitLength_38 rfl ?_
        (first | (exact absurd hn (by omega)) | (exact ⟨by rw [hs, if_neg c_12], rfl⟩) | (exact ⟨by rw [hs, if_pos c_12, hb, if_neg c_23], rfl⟩))
      · refine wp_al0 iX0_slitLength_6 ?_
        refine wp_il1 iX0_slitLength_7 ?_
        refine wp_il3 iX0_slitLength_8 ?_
        refine wp_v2f iX0_slitLength_9 ml_0_53 rfl rfl rfl rfl (c_X0_isSlit L M hM w i hw (by omega)) ?_
        refine wp_beq iX0_slitLength_12 (fun c_12 => ?_) (fun c_12 => ?_)
        · refine wp_al0 iX0_slitLength_32 ?_
          refine wp_il1 iX0_slitLength_33 ?_
          refine wp_il3 iX0_slitLength_34 ?_
          refine wp_v2f iX0_slitLength_35 ml_0_56 rfl rfl rfl rfl (c_X0_lengthOfSlitFrom L M hM w i hw (by omega)) ?_
          refine wp_ret iX0_slitLength_38 rfl ?_
          (first | (exact absurd hn (by omega)) | (exact ⟨by rw [hs, if_neg c_12], rfl⟩) | (exact ⟨by rw [hs, if_pos c_12, hb, if_neg c_23], rfl⟩))
        · refine wp_al0 iX0_slitLength_15 ?_
          refine wp_il1 iX0_slitLength_16 ?_
          refine wp_il3 iX0_slitLength_17 ?_
          refine wp_ic iX0_slitLength_18 (by decide) ?_
          refine wp_sub iX0_slitLength_19 (by omega) ?_
          refine wp_v2f iX0_slitLength_20 ml_0_53 rfl rfl rfl rfl (c_X0_isSlit L M hM w (i - 1) hw (by omega)) ?_
          refine wp_beq iX0_slitLength_23 (fun c_23 => ?_) (fun c_23 => ?_)
          · refine wp_al0 iX0_slitLength_32 ?_
            refine wp_il1 iX0_slitLength_33 ?_
            refine wp_il3 iX0_slitLength_34 ?_
            refine wp_v2f iX0_slitLength_35 ml_0_56 rfl rfl rfl rfl (c_X0_lengthOfSlitFrom L M hM w i hw (by omega)) ?_
            refine wp_ret iX0_slitLength_38 rfl ?_
            (first | (exact absurd hn (by omega)) | (exact ⟨by rw [hs, if_neg c_12], rfl⟩) | (exact ⟨by rw [hs, if_pos c_12, hb, if_neg c_23], rfl⟩))
          · refine wp_ii3 iX0_slitLength_26 (by omega) ?_
            refine wp_goto iX0_slitLength_29 ?_
            exact ih (i - 1) (by omega) (by omega) (by omega) (by rw [hs, if_pos c_12, hb, if_pos c_23, if_pos c_23])
  refine key _ p rfl (by omega) (by omega) ?_
  unfold slt
  by_cases hu : uC (cX M) w p.toNat = true
  · simp only [hu, if_true]
  · simp only [hu, if_false]
    unfold sf
    split
    · simp
    · rw [rl_no (Or.inr hu)]
      simp
theorem c_X8_addSlit (what told n : Int) (hw : 0 ≤ what ∧ what ≤ 3) (ht : 0 ≤ told ∧ told < 100000) (hn : 0 ≤ n ∧ n < 1000) : cF L 1 mX8_addSlit [.inr 1, .inl what, .inl told, .inl n] M (stp what (M 1 3) n told) := by
  refine cF_of rfl ?_
  change wp _ _ _ 0 [some (.inr 1), some (.inl what), some (.inl told), some (.inl n), none] [] _ _
  refine wp_il1 iX8_addSlit_0 ?_
  refine wp_ic iX8_addSlit_1 (by decide) ?_
  refine wp_cne iX8_addSlit_2 (fun c_2 => ?_) (fun c_2 => ?_)
  · refine wp_il3 iX8_addSlit_11 ?_
    refine wp_il1 iX8_addSlit_12 ?_
    refine wp_zne iX8_addSlit_13 (fun c_13 => ?_) (fun c_13 => ?_)
    · refine wp_al0 iX8_addSlit_20 ?_
      refine wp_gI iX8_addSlit_21 fi_8_23 rfl ?_
      refine wp_cle iX8_addSlit_24 (fun c_24 => ?_) (fun c_24 => ?_)
      · refine wp_ic iX8_addSlit_31 (by decide) ?_
        refine wp_is4 iX8_addSlit_32 ?_
        refine wp_il4 iX8_addSlit_34 ?_
        refine wp_zeq iX8_addSlit_36 (fun c_36 => ?_) (fun c_36 => ?_)
        · refine wp_il2 iX8_addSlit_54 ?_
          refine wp_ret iX8_addSlit_55 rfl ?_
          (refine ⟨?_, rfl⟩; unfold stp; congr 2; repeat' split) <;> omega
        · refine wp_il2 iX8_addSlit_39 ?_
          refine wp_il1 iX8_addSlit_40 ?_
          refine wp_ic iX8_addSlit_41 (by decide) ?_
          refine wp_cne iX8_addSlit_42 (fun c_42 => ?_) (fun c_42 => ?_)
          · refine wp_ic iX8_addSlit_49 (by decide) ?_
            refine wp_add iX8_addSlit_50 (by omega) ?_
            refine wp_goto iX8_addSlit_51 ?_
            refine wp_ret iX8_addSlit_55 rfl ?_
            (refine ⟨?_, rfl⟩; unfold stp; congr 2; repeat' split) <;> omega
          · refine wp_il3 iX8_addSlit_45 ?_
            refine wp_goto iX8_addSlit_46 ?_
            refine wp_add iX8_addSlit_50 (by omega) ?_
            refine wp_goto iX8_addSlit_51 ?_
            refine wp_ret iX8_addSlit_55 rfl ?_
            (refine ⟨?_, rfl⟩; unfold stp; congr 2; repeat' split) <;> omega
      · refine wp_ic iX8_addSlit_27 (by decide) ?_
        refine wp_goto iX8_addSlit_28 ?_
        refine wp_is4 iX8_addSlit_32 ?_
        refine wp_il4 iX8_addSlit_34 ?_
        refine wp_zeq iX8_addSlit_36 (fun c_36 => ?_) (fun c_36 => ?_)
        · refine wp_il2 iX8_addSlit_54 ?_
          refine wp_ret iX8_addSlit_55 rfl ?_
          (refine ⟨?_, rfl⟩; unfold stp; congr 2; repeat' split) <;> omega
        · refine wp_il2 iX8_addSlit_39 ?_
          refine wp_il1 iX8_addSlit_40 ?_
          refine wp_ic iX8_addSlit_41 (by decide) ?_
          refine wp_cne iX8_addSlit_42 (fun c_42 => ?_) (fun c_42 => ?_)
          · refine wp_ic iX8_addSlit_49 (by decide) ?_
            refine wp_add iX8_addSlit_50 (by omega) ?_
            refine wp_goto iX8_addSlit_51 ?_
            refine wp_ret iX8_addSlit_55 rfl ?_
            (refine ⟨?_, rfl⟩; unfold stp; congr 2; repeat' split) <;> omega
          · refine wp_il3 iX8_addSlit_45 ?_
            refine wp_goto iX8_addSlit_46 ?_
            refine wp_add iX8_addSlit_50 (by omega) ?_
            refine wp_goto iX8_addSlit_51 ?_
            refine wp_ret iX8_addSlit_55 rfl ?_
            (refine ⟨?_, rfl⟩; unfold stp; congr 2; repeat' split) <;> omega
    · refine wp_ic iX8_addSlit_16 (by decide) ?_
      refine wp_goto iX8_addSlit_17 ?_
      refine wp_cle iX8_addSlit_24 (fun c_24 => ?_) (fun c_24 => ?_)
      · refine wp_ic iX8_addSlit_31 (by decide) ?_
        refine wp_is4 iX8_addSlit_32 ?_
        refine wp_il4 iX8_addSlit_34 ?_
        refine wp_zeq iX8_addSlit_36 (fun c_36 => ?_) (fun c_36 => ?_)
        · refine wp_il2 iX8_addSlit_54 ?_
          refine wp_ret iX8_addSlit_55 rfl ?_
          (refine ⟨?_, rfl⟩; unfold stp; congr 2; repeat' split) <;> omega
        · refine wp_il2 iX8_addSlit_39 ?_
          refine wp_il1 iX8_addSlit_40 ?_
          refine wp_ic iX8_addSlit_41 (by decide) ?_
          refine wp_cne iX8_addSlit_42 (fun c_42 => ?_) (fun c_42 => ?_)
          · refine wp_ic iX8_addSlit_49 (by decide) ?_
            refine wp_add iX8_addSlit_50 (by omega) ?_
            refine wp_goto iX8_addSlit_51 ?_
            refine wp_ret iX8_addSlit_55 rfl ?_
            (refine ⟨?_, rfl⟩; unfold stp; congr 2; repeat' split) <;> omega
          · refine wp_il3 iX8_addSlit_45 ?_
            refine wp_goto iX8_addSlit_46 ?_
            refine wp_add iX8_addSlit_50 (by omega) ?_
            refine wp_goto iX8_addSlit_51 ?_
            refine wp_ret iX8_addSlit_55 rfl ?_
            (refine ⟨?_, rfl⟩; unfold stp; congr 2; repeat' split) <;> omega
      · refine wp_ic iX8_addSlit_27 (by decide) ?_
        refine wp_goto iX8_addSlit_28 ?_
        refine wp_is4 iX8_addSlit_32 ?_
        refine wp_il4 iX8_addSlit_34 ?_
        refine wp_zeq iX8_addSlit_36 (fun c_36 => ?_) (fun c_36 => ?_)
        · refine wp_il2 iX8_addSlit_54 ?_
          refine wp_ret iX8_addSlit_55 rfl ?_
          (refine ⟨?_, rfl⟩; unfold stp; congr 2; repeat' split) <;> omega
        · refine wp_il2 iX8_addSlit_39 ?_
          refine wp_il1 iX8_addSlit_40 ?_
          refine wp_ic iX8_addSlit_41 (by decide) ?_
          refine wp_cne iX8_addSlit_42 (fun c_42 => ?_) (fun c_42 => ?_)
          · refine wp_ic iX8_addSlit_49 (by decide) ?_
            refine wp_add iX8_addSlit_50 (by omega) ?_
            refine wp_goto iX8_addSlit_51 ?_
            refine wp_ret iX8_addSlit_55 rfl ?_
            (refine ⟨?_, rfl⟩; unfold stp; congr 2; repeat' split) <;> omega
          · refine wp_il3 iX8_addSlit_45 ?_
            refine wp_goto iX8_addSlit_46 ?_
            refine wp_add iX8_addSlit_50 (by omega) ?_
            refine wp_goto iX8_addSlit_51 ?_
            refine wp_ret iX8_addSlit_55 rfl ?_
            (refine ⟨?_, rfl⟩; unfold stp; congr 2; repeat' split) <;> omega
  · refine wp_il2 iX8_addSlit_5 ?_
    refine wp_il3 iX8_addSlit_6 ?_
    refine wp_mx iX8_addSlit_7 ml_8_264 rfl ?_
    refine wp_ret iX8_addSlit_10 rfl ?_
    (refine ⟨?_, rfl⟩; unfold stp; congr 2; repeat' split) <;> omega
end SlX
end
section
/-! ===== the class's calls on THE CARTOON ===== -/
section CartX
variable (L : Nat) (M : ab_Me)
theorem fill_up (M : ab_Me) (a : Nat) (x : Int) (i : Int) (h : 0 ≤ i) : ab_up (ab_rw M a (fun k => if (k : Int) < i then x else M a k)) a i.toNat x = ab_rw M a (fun k => if (k : Int) < i + 1 then x else M a k) := by
  funext b
  by_cases hb : b = a
  · subst hb
    rw [ab_up_self, ab_rw_self, ab_rw_self]
    funext k
    unfold ab_u1
    by_cases hk : k = i.toNat
    · rw [if_pos hk, if_pos (by omega)]
    · rw [if_neg hk]
      show (if (k : Int) < i then x else M b k) = _
      by_cases h2 : (k : Int) < i
      · rw [if_pos h2, if_pos (by omega)]
      · rw [if_neg h2, if_neg (by omega)]
  · rw [ab_up_ne _ _ _ hb, ab_rw_ne _ _ hb, ab_rw_ne _ _ hb]
theorem fill_0 (M : ab_Me) (a : Nat) (x : Int) : ab_rw M a (fun k => if (k : Int) < 0 then x else M a k) = M := by
  funext b
  by_cases hb : b = a
  · subst hb
    rw [ab_rw_self]
    funext k
    rw [if_neg (by omega)]
  · rw [ab_rw_ne _ _ hb]
theorem c_fill (a n : Nat) (x : Int) (h1 : Nat.ble 1 a = true) (ha : (LAY L)[a]? = some (.inr (0, n))) (hn : n < 100000) : cV L 1 mJ7_fill_53178 [.inr a, .inl x] M (ab_rw M a (fun k => if (k : Int) < n then x else M a k)) := by
  refine cV_of rfl ?_
  change wp _ _ _ 0 [some (.inr a), some (.inl x), none, none] [] _ _
  refine wp_ic iJ7_fill_53178_0 (by decide) ?_
  refine wp_is2 iJ7_fill_53178_1 ?_
  refine wp_al0 iJ7_fill_53178_2 ?_
  refine wp_al iJ7_fill_53178_3 ha (Or.inr (by decide)) (by omega) ?_
  refine wp_is3 iJ7_fill_53178_4 ?_
  have key : ∀ (j : Nat) (i : Int), ((n : Int) - i).toNat = j → 0 ≤ i → i ≤ n → wp L 0 mJ7_fill_53178 5 [some (.inr a), some (.inl x), some (.inl i), some (.inl (n : Int))] [] (ab_rw M a (fun k => if (k : Int) < i then x else M a k)) (fun r M1 => r = none ∧ M1 = ab_rw M a (fun k => if (k : Int) < n then x else M a k)) := by
    intro j
    induction j using Nat.strongRecOn with
    | ind j ih =>
      intro i hj h0 hi
      refine wp_il2 iJ7_fill_53178_5 ?_
      refine wp_il3 iJ7_fill_53178_6 ?_
      refine wp_cge iJ7_fill_53178_7 (fun c_7 => ?_) (fun c_7 => ?_)
      · refine wp_retv iJ7_fill_53178_20 rfl ?_
        exact ⟨rfl, by rw [show i = (n : Int) by omega]⟩
      · refine wp_al0 iJ7_fill_53178_10 ?_
        refine wp_il2 iJ7_fill_53178_11 ?_
        refine wp_il1 iJ7_fill_53178_12 ?_
        refine wp_is iJ7_fill_53178_13 h1 ha (by omega) ?_
        rw [fill_up M a x i h0]
        refine wp_ii2 iJ7_fill_53178_14 (by omega) ?_
        refine wp_goto iJ7_fill_53178_17 ?_
        exact ih _ (by omega) (i + 1) rfl (by omega) (by omega)
  have k0 := key _ 0 rfl (by omega) (by omega)
  rw [fill_0] at k0
  exact k0
theorem c_X3_takeDown : cV L 1 mX3_takeDown [.inr 11] M (ab_up (ab_up M 11 0 0) 11 1 0) := by
  refine cV_of rfl ?_
  change wp _ _ _ 0 [some (.inr 11)] [] _ _
  refine wp_al0 iX3_takeDown_0 ?_
  refine wp_ic iX3_takeDown_1 (by decide) ?_
  refine wp_pI iX3_takeDown_2 fp_3_9 rfl ?_
  refine wp_al0 iX3_takeDown_5 ?_
  refine wp_ic iX3_takeDown_6 (by decide) ?_
  refine wp_pI iX3_takeDown_7 fp_3_15 rfl ?_
  refine wp_retv iX3_takeDown_10 rfl ?_
  (exact ⟨rfl, rfl⟩)
/-- the memory behind renew -/
def mRen (M : ab_Me) (x y : Int) : ab_Me := ab_rw (ab_up (ab_up M 3 0 x) 3 1 y) 4 (fun k => if (k : Int) < 120 then 0 else M 4 k)
theorem c_X0_renew (x y : Int) : cV L 2 mX0_renew [.inr 3, .inl x, .inl y] M (mRen M x y) := by
  refine cV_of rfl ?_
  change wp _ _ _ 0 [some (.inr 3), some (.inl x), some (.inl y)] [] _ _
  refine wp_al0 iX0_renew_0 ?_
  refine wp_il1 iX0_renew_1 ?_
  refine wp_pI iX0_renew_2 fp_0_9 rfl ?_
  refine wp_al0 iX0_renew_5 ?_
  refine wp_il2 iX0_renew_6 ?_
  refine wp_pI iX0_renew_7 fp_0_15 rfl ?_
  refine wp_al0 iX0_renew_10 ?_
  refine wp_gR iX0_renew_11 fr_0_18 rfl rfl rfl ?_
  refine wp_ic iX0_renew_14 (by decide) ?_
  refine wp_s2v iX0_renew_15 ml_0_22 rfl rfl rfl (c_fill L _ 4 120 0 rfl rfl (by decide)) ?_
  refine wp_retv iX0_renew_18 rfl ?_
  (exact ⟨rfl, rfl⟩)
def mDn (M : ab_Me) : ab_Me := ab_up (ab_up M 11 0 0) 11 1 0
theorem c_X8_size (x y : Int) : cG L 3 mX8_size [.inr 1, .inl x, .inl y] M (if (1 ≤ x ∧ x ≤ 12) ∧ 1 ≤ y ∧ y ≤ 10 then x * y else -1) (if (1 ≤ x ∧ x ≤ 12) ∧ 1 ≤ y ∧ y ≤ 10 then mDn (mRen M x y) else M) := by
  have hm : (1 ≤ x ∧ x ≤ 12) ∧ 1 ≤ y ∧ y ≤ 10 → -2147483648 ≤ x * y ∧ x * y < 2147483648 := by
    intro h
    have h1 : x * y ≤ 12 * 10 := Int.mul_le_mul (by omega) (by omega) (by omega) (by omega)
    have h2 : 0 ≤ x * y := Int.mul_nonneg (by omega) (by omega)
    omega
  refine cG_of rfl ?_
  change wp _ _ _ 0 [some (.inr 1), some (.inl x), some (.inl y)] [] _ _
  refine wp_il1 iX8_size_0 ?_
  refine wp_ic iX8_size_1 (by decide) ?_
  refine wp_bp iX8_size_2 (by decide) ?_
  refine wp_s3f iX8_size_4 ml_8_51 rfl rfl rfl (c_X8_isFromTo _ _ _ _ _) ?_
  refine wp_beq iX8_size_7 (fun c_7 => ?_) (fun c_7 => ?_)
  · refine wp_ic iX8_size_20 (by decide) ?_
    refine wp_ret iX8_size_21 rfl ?_
    (first | (rw [if_neg (by omega), if_neg (by omega)]; exact ⟨rfl, rfl⟩) | (rw [if_pos (by omega), if_pos (by omega)]; exact ⟨rfl, rfl⟩))
  · refine wp_il2 iX8_size_10 ?_
    refine wp_ic iX8_size_11 (by decide) ?_
    refine wp_bp iX8_size_12 (by decide) ?_
    refine wp_s3f iX8_size_14 ml_8_51 rfl rfl rfl (c_X8_isFromTo _ _ _ _ _) ?_
    refine wp_bne iX8_size_17 (fun c_17 => ?_) (fun c_17 => ?_)
    · refine wp_al0 iX8_size_22 ?_
      refine wp_gR iX8_size_23 fr_8_10 rfl rfl rfl ?_
      refine wp_gR iX8_size_26 fr_8_55 rfl rfl rfl ?_
      refine wp_il1 iX8_size_29 ?_
      refine wp_il2 iX8_size_30 ?_
      refine wp_v2v iX8_size_31 ml_8_59 rfl rfl rfl rfl (c_X0_renew _ _ _ _) ?_
      refine wp_al0 iX8_size_34 ?_
      refine wp_gR iX8_size_35 fr_8_10 rfl rfl rfl ?_
      refine wp_gR iX8_size_38 fr_8_65 rfl rfl rfl ?_
      refine wp_v0v iX8_size_41 ml_8_69 rfl rfl rfl rfl (c_X3_takeDown _ _) ?_
      refine wp_il1 iX8_size_44 ?_
      refine wp_il2 iX8_size_45 ?_
      refine wp_mul iX8_size_46 (hm (by omega)) ?_
      refine wp_ret iX8_size_47 rfl ?_
      (first | (rw [if_neg (by omega), if_neg (by omega)]; exact ⟨rfl, rfl⟩) | (rw [if_pos (by omega), if_pos (by omega)]; exact ⟨rfl, rfl⟩))
    · refine wp_ic iX8_size_20 (by decide) ?_
      refine wp_ret iX8_size_21 rfl ?_
      (first | (rw [if_neg (by omega), if_neg (by omega)]; exact ⟨rfl, rfl⟩) | (rw [if_pos (by omega), if_pos (by omega)]; exact ⟨rfl, rfl⟩))
theorem c_X8_cartoon (hM : hB M) (x y : Int) : cF L 3 mX8_cartoon [.inr 1, .inl x, .inl y] M (if (0 ≤ x ∧ x < M 3 0) ∧ 0 ≤ y ∧ y < M 3 1 then M 4 (12 * y + (M 3 0 - 1 - x)).toNat else -1) := by
  obtain ⟨h1, h2, h3, h4, h5⟩ := id hM
  refine cF_of rfl ?_
  change wp _ _ _ 0 [some (.inr 1), some (.inl x), some (.inl y), none] [] _ _
  refine wp_al0 iX8_cartoon_0 ?_
  refine wp_gR iX8_cartoon_1 fr_8_10 rfl rfl rfl ?_
  refine wp_gR iX8_cartoon_4 fr_8_55 rfl rfl rfl ?_
  refine wp_as3 iX8_cartoon_7 ?_
  refine wp_al3 iX8_cartoon_8 ?_
  refine wp_il1 iX8_cartoon_9 ?_
  refine wp_il2 iX8_cartoon_10 ?_
  refine wp_v2f iX8_cartoon_11 ml_8_94 rfl rfl rfl rfl (c_X0_hasSquare _ _ _ _) ?_
  refine wp_beq iX8_cartoon_14 (fun c_14 => ?_) (fun c_14 => ?_)
  · refine wp_ic iX8_cartoon_31 (by decide) ?_
    refine wp_ret iX8_cartoon_32 rfl ?_
    (first | (rw [if_neg (by omega)]; exact ⟨rfl, rfl⟩) | (rw [if_pos (by omega)]; exact ⟨rfl, rfl⟩))
  · refine wp_al3 iX8_cartoon_17 ?_
    refine wp_gR iX8_cartoon_18 fr_8_105 rfl rfl rfl ?_
    refine wp_al3 iX8_cartoon_21 ?_
    refine wp_il1 iX8_cartoon_22 ?_
    refine wp_il2 iX8_cartoon_23 ?_
    refine wp_v2f iX8_cartoon_24 ml_8_87 rfl rfl rfl rfl (c_X0_cellOfCartoon _ _ _ _ (by omega) (by omega) (by omega)) ?_
    refine wp_ia iX8_cartoon_27 rfl (by omega) ?_
    refine wp_goto iX8_cartoon_28 ?_
    refine wp_ret iX8_cartoon_32 rfl ?_
    (first | (rw [if_neg (by omega)]; exact ⟨rfl, rfl⟩) | (rw [if_pos (by omega)]; exact ⟨rfl, rfl⟩))
theorem c_X8_loom (hM : hB M) (x y : Int) : cF L 3 mX8_loom [.inr 1, .inl x, .inl y] M (if (0 ≤ x ∧ x < M 3 0) ∧ 0 ≤ y ∧ y < M 3 1 then M 4 (12 * y + x).toNat else -1) := by
  obtain ⟨h1, h2, h3, h4, h5⟩ := id hM
  refine cF_of rfl ?_
  change wp _ _ _ 0 [some (.inr 1), some (.inl x), some (.inl y), none] [] _ _
  refine wp_al0 iX8_loom_0 ?_
  refine wp_gR iX8_loom_1 fr_8_10 rfl rfl rfl ?_
  refine wp_gR iX8_loom_4 fr_8_55 rfl rfl rfl ?_
  refine wp_as3 iX8_loom_7 ?_
  refine wp_al3 iX8_loom_8 ?_
  refine wp_il1 iX8_loom_9 ?_
  refine wp_il2 iX8_loom_10 ?_
  refine wp_v2f iX8_loom_11 ml_8_94 rfl rfl rfl rfl (c_X0_hasSquare _ _ _ _) ?_
  refine wp_beq iX8_loom_14 (fun c_14 => ?_) (fun c_14 => ?_)
  · refine wp_ic iX8_loom_30 (by decide) ?_
    refine wp_ret iX8_loom_31 rfl ?_
    (first | (rw [if_neg (by omega)]; exact ⟨rfl, rfl⟩) | (rw [if_pos (by omega)]; exact ⟨rfl, rfl⟩))
  · refine wp_al3 iX8_loom_17 ?_
    refine wp_gR iX8_loom_18 fr_8_105 rfl rfl rfl ?_
    refine wp_il1 iX8_loom_21 ?_
    refine wp_il2 iX8_loom_22 ?_
    refine wp_s2f iX8_loom_23 ml_8_109 rfl rfl rfl (c_X8_cellOf _ _ _ _ (by omega)) ?_
    refine wp_ia iX8_loom_26 rfl (by omega) ?_
    refine wp_goto iX8_loom_27 ?_
    refine wp_ret iX8_loom_31 rfl ?_
    (first | (rw [if_neg (by omega)]; exact ⟨rfl, rfl⟩) | (rw [if_pos (by omega)]; exact ⟨rfl, rfl⟩))
theorem c_X8_rule (x y : Int) : cG L 2 mX8_rule [.inr 1, .inl x, .inl y] M (if x = 0 ∧ 0 ≤ y ∧ y ≤ 10 then M 1 3 else if x = 1 ∧ 1 ≤ y ∧ y ≤ 10 then M 1 4 else -1) (if x = 0 ∧ 0 ≤ y ∧ y ≤ 10 then ab_up M 1 3 y else if x = 1 ∧ 1 ≤ y ∧ y ≤ 10 then ab_up M 1 4 y else M) := by
  refine cG_of rfl ?_
  change wp _ _ _ 0 [some (.inr 1), some (.inl x), some (.inl y), none] [] _ _
  refine wp_il1 iX8_rule_0 ?_
  refine wp_zne iX8_rule_1 (fun c_1 => ?_) (fun c_1 => ?_)
  · refine wp_il1 iX8_rule_26 ?_
    refine wp_ic iX8_rule_27 (by decide) ?_
    refine wp_cne iX8_rule_28 (fun c_28 => ?_) (fun c_28 => ?_)
    · refine wp_ic iX8_rule_53 (by decide) ?_
      refine wp_ret iX8_rule_54 rfl ?_
      (refine ⟨?_, ?_⟩ <;> (repeat' split) <;> first | rfl | (exfalso; omega))
    · refine wp_il2 iX8_rule_31 ?_
      refine wp_ic iX8_rule_32 (by decide) ?_
      refine wp_bp iX8_rule_33 (by decide) ?_
      refine wp_s3f iX8_rule_35 ml_8_51 rfl rfl rfl (c_X8_isFromTo _ _ _ _ _) ?_
      refine wp_beq iX8_rule_38 (fun c_38 => ?_) (fun c_38 => ?_)
      · refine wp_ic iX8_rule_53 (by decide) ?_
        refine wp_ret iX8_rule_54 rfl ?_
        (refine ⟨?_, ?_⟩ <;> (repeat' split) <;> first | rfl | (exfalso; omega))
      · refine wp_al0 iX8_rule_41 ?_
        refine wp_gI iX8_rule_42 fi_8_27 rfl ?_
        refine wp_is3 iX8_rule_45 ?_
        refine wp_al0 iX8_rule_46 ?_
        refine wp_il2 iX8_rule_47 ?_
        refine wp_pI iX8_rule_48 fp_8_27 rfl ?_
        refine wp_il3 iX8_rule_51 ?_
        refine wp_ret iX8_rule_52 rfl ?_
        (refine ⟨?_, ?_⟩ <;> (repeat' split) <;> first | rfl | (exfalso; omega))
  · refine wp_il2 iX8_rule_4 ?_
    refine wp_ic iX8_rule_5 (by decide) ?_
    refine wp_bp iX8_rule_6 (by decide) ?_
    refine wp_s3f iX8_rule_8 ml_8_51 rfl rfl rfl (c_X8_isFromTo _ _ _ _ _) ?_
    refine wp_beq iX8_rule_11 (fun c_11 => ?_) (fun c_11 => ?_)
    · refine wp_il1 iX8_rule_26 ?_
      refine wp_ic iX8_rule_27 (by decide) ?_
      refine wp_cne iX8_rule_28 (fun c_28 => ?_) (fun c_28 => ?_)
      · refine wp_ic iX8_rule_53 (by decide) ?_
        refine wp_ret iX8_rule_54 rfl ?_
        (refine ⟨?_, ?_⟩ <;> (repeat' split) <;> first | rfl | (exfalso; omega))
      · refine wp_il2 iX8_rule_31 ?_
        refine wp_ic iX8_rule_32 (by decide) ?_
        refine wp_bp iX8_rule_33 (by decide) ?_
        refine wp_s3f iX8_rule_35 ml_8_51 rfl rfl rfl (c_X8_isFromTo _ _ _ _ _) ?_
        refine wp_beq iX8_rule_38 (fun c_38 => ?_) (fun c_38 => ?_)
        · refine wp_ic iX8_rule_53 (by decide) ?_
          refine wp_ret iX8_rule_54 rfl ?_
          (refine ⟨?_, ?_⟩ <;> (repeat' split) <;> first | rfl | (exfalso; omega))
        · refine wp_al0 iX8_rule_41 ?_
          refine wp_gI iX8_rule_42 fi_8_27 rfl ?_
          refine wp_is3 iX8_rule_45 ?_
          refine wp_al0 iX8_rule_46 ?_
          refine wp_il2 iX8_rule_47 ?_
          refine wp_pI iX8_rule_48 fp_8_27 rfl ?_
          refine wp_il3 iX8_rule_51 ?_
          refine wp_ret iX8_rule_52 rfl ?_
          (refine ⟨?_, ?_⟩ <;> (repeat' split) <;> first | rfl | (exfalso; omega))
    · refine wp_al0 iX8_rule_14 ?_
      refine wp_gI iX8_rule_15 fi_8_23 rfl ?_
      refine wp_is3 iX8_rule_18 ?_
      refine wp_al0 iX8_rule_19 ?_
      refine wp_il2 iX8_rule_20 ?_
      refine wp_pI iX8_rule_21 fp_8_23 rfl ?_
      refine wp_il3 iX8_rule_24 ?_
      refine wp_ret iX8_rule_25 rfl ?_
      (refine ⟨?_, ?_⟩ <;> (repeat' split) <;> first | rfl | (exfalso; omega))
theorem c_X8_slit (hM : hB M) (x y : Int) : cF L 5 mX8_slit [.inr 1, .inl x, .inl y] M (if (0 ≤ x ∧ x < M 3 0 - 1) ∧ 0 ≤ y ∧ y < M 3 1 then slt (uC (cX M) x) (M 3 1).toNat y.toNat else -1) := by
  obtain ⟨h1, h2, h3, h4, h5⟩ := id hM
  refine cF_of rfl ?_
  change wp _ _ _ 0 [some (.inr 1), some (.inl x), some (.inl y), none] [] _ _
  refine wp_al0 iX8_slit_0 ?_
  refine wp_gR iX8_slit_1 fr_8_10 rfl rfl rfl ?_
  refine wp_gR iX8_slit_4 fr_8_55 rfl rfl rfl ?_
  refine wp_as3 iX8_slit_7 ?_
  refine wp_al3 iX8_slit_8 ?_
  refine wp_il1 iX8_slit_9 ?_
  refine wp_il2 iX8_slit_10 ?_
  refine wp_v2f iX8_slit_11 ml_8_94 rfl rfl rfl rfl (c_X0_hasSquare _ _ _ _) ?_
  refine wp_beq iX8_slit_14 (fun c_14 => ?_) (fun c_14 => ?_)
  · refine wp_ic iX8_slit_27 (by decide) ?_
    refine wp_ret iX8_slit_28 rfl ?_
    (first | (rw [if_neg (by omega)]; exact ⟨rfl, rfl⟩) | (rw [if_pos (by omega)]; exact ⟨rfl, rfl⟩))
  · refine wp_il1 iX8_slit_17 ?_
    refine wp_al3 iX8_slit_18 ?_
    refine wp_gI iX8_slit_19 fi_8_74 rfl ?_
    refine wp_ic iX8_slit_22 (by decide) ?_
    refine wp_sub iX8_slit_23 (by omega) ?_
    refine wp_cne iX8_slit_24 (fun c_24 => ?_) (fun c_24 => ?_)
    · refine wp_al3 iX8_slit_29 ?_
      refine wp_il1 iX8_slit_30 ?_
      refine wp_il2 iX8_slit_31 ?_
      refine wp_v2f iX8_slit_32 ml_8_119 rfl rfl rfl rfl (c_X0_slitLength L M hM x y (by omega) (by omega)) ?_
      refine wp_ret iX8_slit_35 rfl ?_
      (first | (rw [if_neg (by omega)]; exact ⟨rfl, rfl⟩) | (rw [if_pos (by omega)]; exact ⟨rfl, rfl⟩))
    · refine wp_ic iX8_slit_27 (by decide) ?_
      refine wp_ret iX8_slit_28 rfl ?_
      (first | (rw [if_neg (by omega)]; exact ⟨rfl, rfl⟩) | (rw [if_pos (by omega)]; exact ⟨rfl, rfl⟩))
theorem c_X8_face (hM : hB M) (x y z : Int) (hz : z = 0 ∨ z = 1) : cG L 3 mX8_face [.inr 1, .inl x, .inl y, .inl z] M
    (if (0 ≤ x ∧ x < M 3 0) ∧ 0 ≤ y ∧ y < M 3 1 then (if M 4 (12 * y + (M 3 0 - 1 - x)).toNat / 8 = z then 0 else 1) else -1)
    (if (0 ≤ x ∧ x < M 3 0) ∧ 0 ≤ y ∧ y < M 3 1 then (if M 4 (12 * y + (M 3 0 - 1 - x)).toNat / 8 = z then M else mDn (ab_up M 4 (12 * y + (M 3 0 - 1 - x)).toNat (M 4 (12 * y + (M 3 0 - 1 - x)).toNat % 8 + 8 * (1 - M 4 (12 * y + (M 3 0 - 1 - x)).toNat / 8)))) else M) := by
  obtain ⟨h1, h2, h3, h4, h5⟩ := id hM
  have hv := h5 (12 * y + (M 3 0 - 1 - x)).toNat
  refine cG_of rfl ?_
  change wp _ _ _ 0 [some (.inr 1), some (.inl x), some (.inl y), some (.inl z), none, none] [] _ _
  refine wp_al0 iX8_face_0 ?_
  refine wp_gR iX8_face_1 fr_8_10 rfl rfl rfl ?_
  refine wp_gR iX8_face_4 fr_8_55 rfl rfl rfl ?_
  refine wp_as4 iX8_face_7 ?_
  refine wp_al4 iX8_face_9 ?_
  refine wp_il1 iX8_face_11 ?_
  refine wp_il2 iX8_face_12 ?_
  refine wp_v2f iX8_face_13 ml_8_94 rfl rfl rfl rfl (c_X0_hasSquare _ _ _ _) ?_
  refine wp_bne iX8_face_16 (fun c_16 => ?_) (fun c_16 => ?_)
  · rw [if_pos c_16, if_pos c_16]
    refine wp_al4 iX8_face_21 ?_
    refine wp_il1 iX8_face_23 ?_
    refine wp_il2 iX8_face_24 ?_
    refine wp_v2f iX8_face_25 ml_8_87 rfl rfl rfl rfl (c_X0_cellOfCartoon _ _ _ _ (by omega) (by omega) (by omega)) ?_
    refine wp_is5 iX8_face_28 ?_
    refine wp_al4 iX8_face_30 ?_
    refine wp_il5 iX8_face_32 ?_
    refine wp_v1f iX8_face_34 ml_8_98 rfl rfl rfl rfl (c_X0_hasFace L M (12 * y + (M 3 0 - 1 - x)) (by omega) hv) ?_
    refine wp_il3 iX8_face_37 ?_
    have e : (if 8 ≤ M 4 (12 * y + (M 3 0 - 1 - x)).toNat then (1 : Int) else 0) = M 4 (12 * y + (M 3 0 - 1 - x)).toNat / 8 := by split <;> omega
    rw [e]
    refine wp_cne iX8_face_38 (fun c_38 => ?_) (fun c_38 => ?_)
    · refine wp_al4 iX8_face_43 ?_
      refine wp_il5 iX8_face_45 ?_
      refine wp_v1v iX8_face_47 ml_8_101 rfl rfl rfl rfl (c_X0_turnFace L M (12 * y + (M 3 0 - 1 - x)) (by omega) hv) ?_
      refine wp_al0 iX8_face_50 ?_
      refine wp_gR iX8_face_51 fr_8_10 rfl rfl rfl ?_
      refine wp_gR iX8_face_54 fr_8_65 rfl rfl rfl ?_
      refine wp_v0v iX8_face_57 ml_8_69 rfl rfl rfl rfl (c_X3_takeDown _ _) ?_
      refine wp_ic iX8_face_60 (by decide) ?_
      refine wp_ret iX8_face_61 rfl ?_
      (first | (rw [if_pos (by assumption), if_pos (by assumption)]; exact ⟨rfl, rfl⟩) | (rw [if_neg (by assumption), if_neg (by assumption)]; exact ⟨rfl, rfl⟩))
    · refine wp_ic iX8_face_41 (by decide) ?_
      refine wp_ret iX8_face_42 rfl ?_
      (first | (rw [if_pos (by assumption), if_pos (by assumption)]; exact ⟨rfl, rfl⟩) | (rw [if_neg (by assumption), if_neg (by assumption)]; exact ⟨rfl, rfl⟩))
  · rw [if_neg c_16, if_neg c_16]
    refine wp_ic iX8_face_19 (by decide) ?_
    refine wp_ret iX8_face_20 rfl ?_
    (exact ⟨rfl, rfl⟩)
theorem stp_bd {what S n t : Int} (hn : 0 ≤ n ∧ n ≤ 10) (b : Int) (hb : 10 ≤ b) (ht : 0 ≤ t ∧ t ≤ b) : 0 ≤ stp what S n t ∧ stp what S n t ≤ b + 10 := by
  unfold stp
  repeat' split
  all_goals omega
theorem c_X8_slits (hM : hB M) (what : Int) : cF L 4 mX8_slits [.inr 1, .inl what] M (if 0 ≤ what ∧ what ≤ 3 then sls what (M 1 3) (M 3 0).toNat (M 3 1).toNat (cX M) else -1) := by
  obtain ⟨h1, h2, h3, h4, h5⟩ := id hM
  refine cF_of rfl ?_
  change wp _ _ _ 0 [some (.inr 1), some (.inl what), none, none, none, none] [] _ _
  refine wp_il1 iX8_slits_0 ?_
  refine wp_ic iX8_slits_1 (by decide) ?_
  refine wp_ic iX8_slits_2 (by decide) ?_
  refine wp_s3f iX8_slits_3 ml_8_51 rfl rfl rfl (c_X8_isFromTo _ _ _ _ _) ?_
  refine wp_bne iX8_slits_6 (fun c_6 => ?_) (fun c_6 => ?_)
  · rw [if_pos c_6]
    refine wp_al0 iX8_slits_11 ?_
    refine wp_gR iX8_slits_12 fr_8_10 rfl rfl rfl ?_
    refine wp_gR iX8_slits_15 fr_8_55 rfl rfl rfl ?_
    refine wp_as2 iX8_slits_18 ?_
    refine wp_ic iX8_slits_19 (by decide) ?_
    refine wp_is3 iX8_slits_20 ?_
    refine wp_ic iX8_slits_21 (by decide) ?_
    refine wp_is4 iX8_slits_22 ?_
    have key : ∀ (n : Nat) (w t : Int), (M 3 0 - 1 - w).toNat = n → 0 ≤ w → w ≤ M 3 0 - 1 → t = it (slr what (M 1 3) (M 3 1).toNat (cX M)) 0 w.toNat → (0 ≤ t ∧ t ≤ 10 + 100 * w) → ∀ v5 : Option ab_V, wp L 3 mX8_slits 24 [some (.inr 1), some (.inl what), some (.inr 3), some (.inl t), some (.inl w), v5] [] M (fun r M1 => r = some (.inl (sls what (M 1 3) (M 3 0).toNat (M 3 1).toNat (cX M))) ∧ M1 = M) := by
      intro n
      induction n using Nat.strongRecOn with
      | ind n ih =>
        intro w t hn hw0 hw1 ht htb v5
        refine wp_il4 iX8_slits_24 ?_
        refine wp_al2 iX8_slits_26 ?_
        refine wp_gI iX8_slits_27 fi_8_74 rfl ?_
        refine wp_ic iX8_slits_30 (by decide) ?_
        refine wp_sub iX8_slits_31 (by omega) ?_
        refine wp_cge iX8_slits_32 (fun c_32 => ?_) (fun c_32 => ?_)
        · refine wp_il3 iX8_slits_74 ?_
          refine wp_ret iX8_slits_75 rfl ?_
          exact ⟨by rw [ht, show w = M 3 0 - 1 by omega]; unfold sls; rw [show (M 3 0 - 1).toNat = (M 3 0).toNat - 1 by omega], rfl⟩
        · refine wp_ic iX8_slits_35 (by decide) ?_
          refine wp_is5 iX8_slits_36 ?_
          have key2 : ∀ (j : Nat) (p u : Int), (M 3 1 - p).toNat = j → 0 ≤ p → p ≤ M 3 1 → u = it (fun b q => stp what (M 1 3) (sf (uC (cX M) ((w.toNat : Nat) : Int)) (M 3 1).toNat q) b) t p.toNat → (0 ≤ u ∧ u ≤ 10 + 100 * w + 10 * p) → wp L 3 mX8_slits 38 [some (.inr 1), some (.inl what), some (.inr 3), some (.inl u), some (.inl w), some (.inl p)] [] M (fun r M1 => r = some (.inl (sls what (M 1 3) (M 3 0).toNat (M 3 1).toNat (cX M))) ∧ M1 = M) := by
            intro j
            induction j using Nat.strongRecOn with
            | ind j ih2 =>
              intro p u hj hp0 hp1 hu hub
              have hsf := sf_bd (uC (cX M) w) (M 3 1).toNat p.toNat
              refine wp_il5 iX8_slits_38 ?_
              refine wp_al2 iX8_slits_40 ?_
              refine wp_gI iX8_slits_41 fi_8_80 rfl ?_
              refine wp_cge iX8_slits_44 (fun c_44 => ?_) (fun c_44 => ?_)
              · refine wp_ii4 iX8_slits_68 (by omega) ?_
                refine wp_goto iX8_slits_71 ?_
                refine ih _ (by omega) (w + 1) u rfl (by omega) (by omega) ?_ (by omega) _
                rw [it_up _ _ hw0, ← ht, hu, show p = M 3 1 by omega]
                rfl
              · have hst := stp_bd (what := what) (S := M 1 3) (n := sf (uC (cX M) w) (M 3 1).toNat p.toNat) (t := u) (by omega) (10 + 100 * w + 10 * p) (by omega) hub
                refine wp_al0 iX8_slits_47 ?_
                refine wp_il1 iX8_slits_48 ?_
                refine wp_il3 iX8_slits_49 ?_
                refine wp_al2 iX8_slits_50 ?_
                refine wp_il4 iX8_slits_51 ?_
                refine wp_il5 iX8_slits_53 ?_
                refine wp_v2f iX8_slits_55 ml_8_112 rfl rfl rfl rfl (c_X0_lengthOfSlitFrom L M hM w p (by omega) (by omega)) ?_
                refine wp_v3f iX8_slits_58 ml_8_115 rfl rfl rfl rfl (c_X8_addSlit L M what u _ c_6 (by omega) (by omega)) ?_
                refine wp_is3 iX8_slits_61 ?_
                refine wp_ii5 iX8_slits_62 (by omega) ?_
                refine wp_goto iX8_slits_65 ?_
                refine ih2 _ (by omega) (p + 1) _ rfl (by omega) (by omega) ?_ (by omega)
                rw [it_up _ _ hp0, ← hu, toNat_cast hw0]
          exact key2 _ 0 t rfl (by omega) (by omega) rfl (by omega)
    exact key _ 0 0 rfl (by omega) (by omega) rfl (by omega) _
  · rw [if_neg c_6]
    refine wp_ic iX8_slits_9 (by decide) ?_
    refine wp_ret iX8_slits_10 rfl ?_
    (exact ⟨rfl, rfl⟩)
end CartX
end
section
/-! ===== paint of the class; FACES counted ===== -/
def inR (C c r w row col : Int) (k : Nat) : Prop := c ≤ C - 1 - (k : Int) % 12 ∧ C - 1 - (k : Int) % 12 < c + w ∧ r ≤ (k : Int) / 12 ∧ ((k : Int) / 12 < row ∨ ((k : Int) / 12 = row ∧ C - 1 - (k : Int) % 12 < col))
theorem inR_iff (C c r w row col : Int) (k : Nat) : inR C c r w row col k ↔ (c ≤ C - 1 - (k : Int) % 12 ∧ C - 1 - (k : Int) % 12 < c + w ∧ r ≤ (k : Int) / 12 ∧ ((k : Int) / 12 < row ∨ ((k : Int) / 12 = row ∧ C - 1 - (k : Int) % 12 < col))) := Iff.rfl
def inB (C c r w row col : Int) (k : Nat) : Bool := decide (c ≤ C - 1 - (k : Int) % 12) && decide (C - 1 - (k : Int) % 12 < c + w) && decide (r ≤ (k : Int) / 12) && (decide ((k : Int) / 12 < row) || (decide ((k : Int) / 12 = row) && decide (C - 1 - (k : Int) % 12 < col)))
theorem inB_iff (C c r w row col : Int) (k : Nat) : inB C c r w row col k = true ↔ inR C c r w row col k := by
  simp [inB, inR, and_assoc]
def fX (f : Nat → Int) (C c r w x row col : Int) : Nat → Int := fun k => if inB C c r w row col k = true then 8 * (f k / 8) + x else f k
theorem fX_congr {f : Nat → Int} {C c r w x row col row2 col2 : Int} (h : ∀ k, inR C c r w row col k ↔ inR C c r w row2 col2 k) : fX f C c r w x row col = fX f C c r w x row2 col2 := by
  funext k
  unfold fX
  by_cases hk : inB C c r w row col k = true
  · rw [if_pos hk, if_pos ((inB_iff _ _ _ _ _ _ _).mpr ((h k).mp ((inB_iff _ _ _ _ _ _ _).mp hk)))]
  · rw [if_neg hk, if_neg (fun q => hk ((inB_iff _ _ _ _ _ _ _).mpr ((h k).mpr ((inB_iff _ _ _ _ _ _ _).mp q))))]
theorem fX_up {f : Nat → Int} {C c r w x row col : Int} (hC : 1 ≤ C ∧ C ≤ 12) (hc : 0 ≤ c) (hcol : c ≤ col ∧ col < c + w ∧ col < C) (hr : 0 ≤ r ∧ r ≤ row) : ab_u1 (fX f C c r w x row col) (12 * row + (C - 1 - col)).toNat (8 * (fX f C c r w x row col (12 * row + (C - 1 - col)).toNat / 8) + x) = fX f C c r w x row (col + 1) := by
  have h0 : fX f C c r w x row col (12 * row + (C - 1 - col)).toNat = f (12 * row + (C - 1 - col)).toNat := by
    unfold fX
    rw [if_neg]
    intro q
    have q := (inB_iff _ _ _ _ _ _ _).mp q
    unfold inR at q
    omega
  rw [h0]
  funext k
  unfold ab_u1
  by_cases hk : k = (12 * row + (C - 1 - col)).toNat
  · rw [if_pos hk]
    unfold fX
    rw [if_pos ((inB_iff _ _ _ _ _ _ _).mpr (by unfold inR; omega)), hk]
  · rw [if_neg hk]
    unfold fX
    by_cases hz : inB C c r w row col k = true
    · have z := (inB_iff _ _ _ _ _ _ _).mp hz
      rw [if_pos hz, if_pos ((inB_iff _ _ _ _ _ _ _).mpr (by unfold inR at z ⊢; omega))]
    · rw [if_neg hz, if_neg (fun q => hz ((inB_iff _ _ _ _ _ _ _).mpr (by
        have q := (inB_iff _ _ _ _ _ _ _).mp q
        unfold inR at q ⊢
        omega)))]
theorem fX_row {f : Nat → Int} {C c r w x row : Int} : fX f C c r w x row (c + w) = fX f C c r w x (row + 1) c := fX_congr (fun k => by unfold inR; omega)
theorem fX_0 {f : Nat → Int} {C c r w x : Int} : fX f C c r w x r c = f := by
  funext k
  unfold fX
  rw [if_neg]
  intro q
  have q := (inB_iff _ _ _ _ _ _ _).mp q
  unfold inR at q
  omega
theorem fX_bd {f : Nat → Int} {C c r w x row col : Int} (hf : ∀ k, 0 ≤ f k ∧ f k < 16) (hx : 0 ≤ x ∧ x < 8) (k : Nat) : 0 ≤ fX f C c r w x row col k ∧ fX f C c r w x row col k < 16 := by
  have := hf k
  unfold fX
  split <;> omega
theorem rw_rw (M : ab_Me) (a : Nat) (f g : Nat → Int) : ab_rw (ab_rw M a f) a g = ab_rw M a g := by
  funext b
  by_cases hb : b = a
  · subst hb; rw [ab_rw_self, ab_rw_self]
  · rw [ab_rw_ne _ _ hb, ab_rw_ne _ _ hb, ab_rw_ne _ _ hb]
theorem up_rw (M : ab_Me) (a k : Nat) (z : Int) : ab_up M a k z = ab_rw M a (ab_u1 (M a) k z) := rfl
theorem rw_self (M : ab_Me) (a : Nat) : ab_rw M a (M a) = M := by
  funext b
  by_cases hb : b = a
  · subst hb; rw [ab_rw_self]
  · rw [ab_rw_ne _ _ hb]
section PaintX
variable (L : Nat) (M : ab_Me)
theorem c_X8_paint (hM : hB M) (c r w h x : Int) (hc : c < 2147483648) (hr : r < 2147483648) : cG L 3 mX8_paint [.inr 1, .inl c, .inl r, .inl w, .inl h, .inl x] M
    (if (0 ≤ c ∧ 1 ≤ w ∧ w ≤ M 3 0 - c) ∧ (0 ≤ r ∧ 1 ≤ h ∧ h ≤ M 3 1 - r) ∧ 0 ≤ x ∧ x < 8 then w * h else -1)
    (if (0 ≤ c ∧ 1 ≤ w ∧ w ≤ M 3 0 - c) ∧ (0 ≤ r ∧ 1 ≤ h ∧ h ≤ M 3 1 - r) ∧ 0 ≤ x ∧ x < 8 then mDn (ab_rw M 4 (fX (M 4) (M 3 0) c r w x (r + h) c)) else M) := by
  obtain ⟨h1, h2, h3, h4, h5⟩ := id hM
  by_cases hq : (0 ≤ c ∧ 1 ≤ w ∧ w ≤ M 3 0 - c) ∧ (0 ≤ r ∧ 1 ≤ h ∧ h ≤ M 3 1 - r) ∧ 0 ≤ x ∧ x < 8
  · rw [if_pos hq, if_pos hq]
    obtain ⟨⟨hc0, hw1, hwC⟩, ⟨hr0, hh1, hhR⟩, hx0, hx1⟩ := hq
    refine cG_of rfl ?_
    change wp _ _ _ 0 [some (.inr 1), some (.inl c), some (.inl r), some (.inl w), some (.inl h), some (.inl x), none, none, none] [] _ _
    have hm : -2147483648 ≤ w * h ∧ w * h < 2147483648 := by
      have g1 : w * h ≤ 12 * 10 := Int.mul_le_mul (by omega) (by omega) (by omega) (by omega)
      have g2 : 0 ≤ w * h := Int.mul_nonneg (by omega) (by omega)
      omega
    have key : ∀ (n : Nat) (row : Int), (r + h - row).toNat = n → r ≤ row → row ≤ r + h → ∀ v8 : Option ab_V, wp L 2 mX8_paint 49 [some (.inr 1), some (.inl c), some (.inl r), some (.inl w), some (.inl h), some (.inl x), some (.inr 3), some (.inl row), v8] [] (ab_rw M 4 (fX (M 4) (M 3 0) c r w x row c)) (fun r0 M2 => r0 = some (.inl (w * h)) ∧ M2 = mDn (ab_rw M 4 (fX (M 4) (M 3 0) c r w x (r + h) c))) := by
      intro n
      induction n using Nat.strongRecOn with
      | ind n ih =>
        intro row hn hrow0 hrow1 v8
        refine wp_il7 iX8_paint_49 ?_
        refine wp_il2 iX8_paint_51 ?_
        refine wp_il4 iX8_paint_52 ?_
        refine wp_add iX8_paint_54 (by omega) ?_
        refine wp_cge iX8_paint_55 (fun c_55 => ?_) (fun c_55 => ?_)
        · rw [show row = r + h by omega]
          refine wp_al0 iX8_paint_97 ?_
          refine wp_gR iX8_paint_98 fr_8_10 rfl rfl rfl ?_
          refine wp_gR iX8_paint_101 fr_8_65 rfl rfl rfl ?_
          refine wp_v0v iX8_paint_104 ml_8_69 rfl rfl rfl rfl (c_X3_takeDown _ _) ?_
          refine wp_il3 iX8_paint_107 ?_
          refine wp_il4 iX8_paint_108 ?_
          refine wp_mul iX8_paint_110 hm ?_
          refine wp_ret iX8_paint_111 rfl ?_
          exact ⟨rfl, rfl⟩
        · refine wp_il1 iX8_paint_58 ?_
          refine wp_is8 iX8_paint_59 ?_
          have key2 : ∀ (j : Nat) (col : Int), (c + w - col).toNat = j → c ≤ col → col ≤ c + w → wp L 2 mX8_paint 61 [some (.inr 1), some (.inl c), some (.inl r), some (.inl w), some (.inl h), some (.inl x), some (.inr 3), some (.inl row), some (.inl col)] [] (ab_rw M 4 (fX (M 4) (M 3 0) c r w x row col)) (fun r0 M2 => r0 = some (.inl (w * h)) ∧ M2 = mDn (ab_rw M 4 (fX (M 4) (M 3 0) c r w x (r + h) c))) := by
            intro j
            induction j using Nat.strongRecOn with
            | ind j ih2 =>
              intro col hj hcol0 hcol1
              refine wp_il8 iX8_paint_61 ?_
              refine wp_il1 iX8_paint_63 ?_
              refine wp_il3 iX8_paint_64 ?_
              refine wp_add iX8_paint_65 (by omega) ?_
              refine wp_cge iX8_paint_66 (fun c_66 => ?_) (fun c_66 => ?_)
              · refine wp_ii7 iX8_paint_91 (by omega) ?_
                refine wp_goto iX8_paint_94 ?_
                rw [show col = c + w by omega, fX_row]
                exact ih _ (by omega) (row + 1) rfl (by omega) (by omega) _
              · have hcl : cF L 2 mX0_cellOfCartoon [.inr 3, .inl col, .inl row] (ab_rw M 4 (fX (M 4) (M 3 0) c r w x row col)) (12 * row + (M 3 0 - 1 - col)) := c_X0_cellOfCartoon L (ab_rw M 4 (fX (M 4) (M 3 0) c r w x row col)) col row (by show 0 ≤ M 3 0 ∧ M 3 0 ≤ 12; omega) (by omega) (by omega)
                have hdp := c_X0_dip L (ab_rw M 4 (fX (M 4) (M 3 0) c r w x row col)) (12 * row + (M 3 0 - 1 - col)) x (by omega) ⟨hx0, hx1⟩ (by rw [ab_rw_self]; exact fX_bd h5 ⟨hx0, hx1⟩ _)
                refine wp_al6 iX8_paint_69 ?_
                refine wp_al6 iX8_paint_71 ?_
                refine wp_il8 iX8_paint_73 ?_
                refine wp_il7 iX8_paint_75 ?_
                refine wp_v2f iX8_paint_77 ml_8_87 rfl rfl rfl rfl (hcl) ?_
                refine wp_il5 iX8_paint_80 ?_
                refine wp_v2v iX8_paint_82 ml_8_91 rfl rfl rfl rfl (hdp) ?_
                rw [up_rw, rw_rw, ab_rw_self, fX_up ⟨h1, h2⟩ hc0 ⟨hcol0, by omega, by omega⟩ ⟨hr0, hrow0⟩]
                refine wp_ii8 iX8_paint_85 (by omega) ?_
                refine wp_goto iX8_paint_88 ?_
                exact ih2 _ (by omega) (col + 1) rfl (by omega) (by omega)
          exact key2 _ c rfl (by omega) (by omega)
    have k0 := key _ r rfl (by omega) (by omega) none
    rw [fX_0, rw_self] at k0
    refine wp_al0 iX8_paint_0 ?_
    refine wp_gR iX8_paint_1 fr_8_10 rfl rfl rfl ?_
    refine wp_gR iX8_paint_4 fr_8_55 rfl rfl rfl ?_
    refine wp_as6 iX8_paint_7 ?_
    refine wp_il1 iX8_paint_9 ?_
    refine wp_il3 iX8_paint_10 ?_
    refine wp_al6 iX8_paint_11 ?_
    refine wp_gI iX8_paint_13 fi_8_74 rfl ?_
    refine wp_s3f iX8_paint_16 ml_8_77 rfl rfl rfl (c_X8_isOnBoard L M c w (M 3 0) (by omega) hc) ?_
    refine wp_beq iX8_paint_19 (fun c_19 => ?_) (fun c_19 => ?_)
    · refine wp_ic iX8_paint_44 (by decide) ?_
      refine wp_ret iX8_paint_45 rfl ?_
      (exfalso; omega)
    · refine wp_il2 iX8_paint_22 ?_
      refine wp_il4 iX8_paint_23 ?_
      refine wp_al6 iX8_paint_25 ?_
      refine wp_gI iX8_paint_27 fi_8_80 rfl ?_
      refine wp_s3f iX8_paint_30 ml_8_77 rfl rfl rfl (c_X8_isOnBoard L M r h (M 3 1) (by omega) hr) ?_
      refine wp_beq iX8_paint_33 (fun c_33 => ?_) (fun c_33 => ?_)
      · refine wp_ic iX8_paint_44 (by decide) ?_
        refine wp_ret iX8_paint_45 rfl ?_
        (exfalso; omega)
      · refine wp_il5 iX8_paint_36 ?_
        refine wp_s1f iX8_paint_38 ml_8_83 rfl rfl rfl (c_X8_isColour _ _ _) ?_
        refine wp_bne iX8_paint_41 (fun c_41 => ?_) (fun c_41 => ?_)
        · refine wp_il2 iX8_paint_46 ?_
          refine wp_is7 iX8_paint_47 ?_
          exact k0
        · refine wp_ic iX8_paint_44 (by decide) ?_
          refine wp_ret iX8_paint_45 rfl ?_
          (exfalso; omega)
  · rw [if_neg hq, if_neg hq]
    refine cG_of rfl ?_
    change wp _ _ _ 0 [some (.inr 1), some (.inl c), some (.inl r), some (.inl w), some (.inl h), some (.inl x), none, none, none] [] _ _
    refine wp_al0 iX8_paint_0 ?_
    refine wp_gR iX8_paint_1 fr_8_10 rfl rfl rfl ?_
    refine wp_gR iX8_paint_4 fr_8_55 rfl rfl rfl ?_
    refine wp_as6 iX8_paint_7 ?_
    refine wp_il1 iX8_paint_9 ?_
    refine wp_il3 iX8_paint_10 ?_
    refine wp_al6 iX8_paint_11 ?_
    refine wp_gI iX8_paint_13 fi_8_74 rfl ?_
    refine wp_s3f iX8_paint_16 ml_8_77 rfl rfl rfl (c_X8_isOnBoard L M c w (M 3 0) (by omega) hc) ?_
    refine wp_beq iX8_paint_19 (fun c_19 => ?_) (fun c_19 => ?_)
    · refine wp_ic iX8_paint_44 (by decide) ?_
      refine wp_ret iX8_paint_45 rfl ?_
      (exact ⟨rfl, rfl⟩)
    · refine wp_il2 iX8_paint_22 ?_
      refine wp_il4 iX8_paint_23 ?_
      refine wp_al6 iX8_paint_25 ?_
      refine wp_gI iX8_paint_27 fi_8_80 rfl ?_
      refine wp_s3f iX8_paint_30 ml_8_77 rfl rfl rfl (c_X8_isOnBoard L M r h (M 3 1) (by omega) hr) ?_
      refine wp_beq iX8_paint_33 (fun c_33 => ?_) (fun c_33 => ?_)
      · refine wp_ic iX8_paint_44 (by decide) ?_
        refine wp_ret iX8_paint_45 rfl ?_
        (exact ⟨rfl, rfl⟩)
      · refine wp_il5 iX8_paint_36 ?_
        refine wp_s1f iX8_paint_38 ml_8_83 rfl rfl rfl (c_X8_isColour _ _ _) ?_
        refine wp_bne iX8_paint_41 (fun c_41 => ?_) (fun c_41 => ?_)
        · exact absurd ⟨‹_›, ‹_›, ‹_›⟩ hq
        · refine wp_ic iX8_paint_44 (by decide) ?_
          refine wp_ret iX8_paint_45 rfl ?_
          (exact ⟨rfl, rfl⟩)
theorem c_X0_countFaces (hM : hB M) : cF L 3 mX0_countFaces [.inr 3] M (sm (fun w => sm (fcW M w) (M 3 1).toNat) (M 3 0).toNat) := by
  obtain ⟨h1, h2, h3, h4, h5⟩ := id hM
  refine cF_of rfl ?_
  change wp _ _ _ 0 [some (.inr 3), none, none] [] _ _
  refine wp_ic iX0_countFaces_0 (by decide) ?_
  refine wp_is1 iX0_countFaces_1 ?_
  refine wp_ic iX0_countFaces_2 (by decide) ?_
  refine wp_is2 iX0_countFaces_3 ?_
  have hb10 : ∀ w : Nat, 0 ≤ sm (fcW M w) (M 3 1).toNat ∧ sm (fcW M w) (M 3 1).toNat ≤ 10 := fun w => by
    have := sm_bd (fcW M w) 1 (fcW_bd M hM w) (M 3 1).toNat
    omega
  have key : ∀ (n : Nat) (w acc : Int), (M 3 0 - w).toNat = n → 0 ≤ w → w ≤ M 3 0 → acc = sm (fun w => sm (fcW M w) (M 3 1).toNat) w.toNat → wp L 2 mX0_countFaces 4 [some (.inr 3), some (.inl acc), some (.inl w)] [] M (fun r M1 => r = some (.inl (sm (fun w => sm (fcW M w) (M 3 1).toNat) (M 3 0).toNat)) ∧ M1 = M) := by
    intro n
    induction n using Nat.strongRecOn with
    | ind n ih =>
      intro w acc hn hw0 hw1 hacc
      have hb := sm_bd (fun w : Nat => sm (fcW M w) (M 3 1).toNat) 10 hb10 w.toNat
      have hb2 := hb10 w.toNat
      rw [toNat_cast hw0] at hb2
      have hs := sm_up (fun w : Nat => sm (fcW M w) (M 3 1).toNat) hw0
      simp only [toNat_cast hw0] at hs
      refine wp_il2 iX0_countFaces_4 ?_
      refine wp_al0 iX0_countFaces_5 ?_
      refine wp_gI iX0_countFaces_6 fi_0_9 rfl ?_
      refine wp_cge iX0_countFaces_9 (fun c_9 => ?_) (fun c_9 => ?_)
      · refine wp_il1 iX0_countFaces_26 ?_
        refine wp_ret iX0_countFaces_27 rfl ?_
        (exact ⟨by rw [hacc, show w = M 3 0 by omega], rfl⟩)
      · refine wp_il1 iX0_countFaces_12 ?_
        refine wp_al0 iX0_countFaces_13 ?_
        refine wp_il2 iX0_countFaces_14 ?_
        refine wp_v1f iX0_countFaces_15 ml_0_46 rfl rfl rfl rfl (c_X0_facesOfWarp L M hM w (by omega)) ?_
        refine wp_add iX0_countFaces_18 (by omega) ?_
        refine wp_is1 iX0_countFaces_19 ?_
        refine wp_ii2 iX0_countFaces_20 (by omega) ?_
        refine wp_goto iX0_countFaces_23 ?_
        exact ih _ (by omega) (w + 1) _ rfl (by omega) (by omega) (by rw [hs, hacc])
  exact key _ 0 0 rfl (by omega) (by omega) rfl
end PaintX
end
