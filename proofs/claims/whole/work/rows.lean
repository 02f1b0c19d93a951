section
-- ===== PART A: goes FIRST, ahead of the names: the tables' words, and 'selects' of the private methods out of them =====
/-- a private method of a class that the tables say can be made, by its rows of tables_1 -/
def lw_okq (q : MethodName × Nat) : Prop := (q.1.cls ≠ "java/lang/invoke/MethodHandle" ∧ q.1.cls ≠ "java/lang/invoke/VarHandle") ∧ Cond.instantiable q.1.cls q.2 ∈ tables_1 ∧ Cond.privateMethod q.1 ∈ tables_1 ∧ Cond.instanceMethod q.1 ∈ tables_1
theorem lw_p0 : lw_okq (⟨"BlockBells$Line", "shuntToLoop", "(LBlockBells$Train;)I"⟩, 8) := ⟨⟨by decide +kernel, by decide +kernel⟩, List.mem_of_getElem? (i := 20) (by decide +kernel), List.mem_of_getElem? (i := 361) (by decide +kernel), List.mem_of_getElem? (i := 362) (by decide +kernel)⟩
theorem lw_p1 : lw_okq (⟨"BlockBells$Line", "shuntBack", "(LBlockBells$Train;)I"⟩, 8) := ⟨⟨by decide +kernel, by decide +kernel⟩, List.mem_of_getElem? (i := 20) (by decide +kernel), List.mem_of_getElem? (i := 373) (by decide +kernel), List.mem_of_getElem? (i := 374) (by decide +kernel)⟩
theorem lw_p2 : lw_okq (⟨"BlockBells$Line", "ringRear", "(LBlockBells$Block;I)I"⟩, 8) := ⟨⟨by decide +kernel, by decide +kernel⟩, List.mem_of_getElem? (i := 20) (by decide +kernel), List.mem_of_getElem? (i := 416) (by decide +kernel), List.mem_of_getElem? (i := 417) (by decide +kernel)⟩
theorem lw_p3 : lw_okq (⟨"BlockBells$Line", "isTokenReady", "(LBlockBells$Block;)Z"⟩, 8) := ⟨⟨by decide +kernel, by decide +kernel⟩, List.mem_of_getElem? (i := 20) (by decide +kernel), List.mem_of_getElem? (i := 445) (by decide +kernel), List.mem_of_getElem? (i := 446) (by decide +kernel)⟩
theorem lw_p4 : lw_okq (⟨"BlockBells$Section", "addTokens", "(II)V"⟩, 6) := ⟨⟨by decide +kernel, by decide +kernel⟩, List.mem_of_getElem? (i := 29) (by decide +kernel), List.mem_of_getElem? (i := 466) (by decide +kernel), List.mem_of_getElem? (i := 467) (by decide +kernel)⟩
theorem lw_p5 : lw_okq (⟨"BlockBells$Line", "ringAhead", "(LBlockBells$Block;I)I"⟩, 8) := ⟨⟨by decide +kernel, by decide +kernel⟩, List.mem_of_getElem? (i := 20) (by decide +kernel), List.mem_of_getElem? (i := 470) (by decide +kernel), List.mem_of_getElem? (i := 471) (by decide +kernel)⟩
theorem lw_p6 : lw_okq (⟨"BlockBells$Register", "oldest", "()I"⟩, 2) := ⟨⟨by decide +kernel, by decide +kernel⟩, List.mem_of_getElem? (i := 142) (by decide +kernel), List.mem_of_getElem? (i := 591) (by decide +kernel), List.mem_of_getElem? (i := 592) (by decide +kernel)⟩
theorem lw_p7 : lw_okq (⟨"BlockBells$Line", "clearSections", "()V"⟩, 8) := ⟨⟨by decide +kernel, by decide +kernel⟩, List.mem_of_getElem? (i := 20) (by decide +kernel), List.mem_of_getElem? (i := 612) (by decide +kernel), List.mem_of_getElem? (i := 613) (by decide +kernel)⟩
theorem lw_p8 : lw_okq (⟨"BlockBells$Line", "leaveAll", "()I"⟩, 8) := ⟨⟨by decide +kernel, by decide +kernel⟩, List.mem_of_getElem? (i := 20) (by decide +kernel), List.mem_of_getElem? (i := 619) (by decide +kernel), List.mem_of_getElem? (i := 620) (by decide +kernel)⟩
theorem lw_p9 : lw_okq (⟨"BlockBells$Line", "offerAll", "()V"⟩, 8) := ⟨⟨by decide +kernel, by decide +kernel⟩, List.mem_of_getElem? (i := 20) (by decide +kernel), List.mem_of_getElem? (i := 624) (by decide +kernel), List.mem_of_getElem? (i := 625) (by decide +kernel)⟩
theorem lw_p10 : lw_okq (⟨"BlockBells$Line", "answerAll", "()V"⟩, 8) := ⟨⟨by decide +kernel, by decide +kernel⟩, List.mem_of_getElem? (i := 20) (by decide +kernel), List.mem_of_getElem? (i := 629) (by decide +kernel), List.mem_of_getElem? (i := 630) (by decide +kernel)⟩
theorem lw_p11 : lw_okq (⟨"BlockBells$Line", "departAll", "()V"⟩, 8) := ⟨⟨by decide +kernel, by decide +kernel⟩, List.mem_of_getElem? (i := 20) (by decide +kernel), List.mem_of_getElem? (i := 635) (by decide +kernel), List.mem_of_getElem? (i := 636) (by decide +kernel)⟩
theorem lw_p12 : lw_okq (⟨"BlockBells$Pad", "readSign", "(I)V"⟩, 6) := ⟨⟨by decide +kernel, by decide +kernel⟩, List.mem_of_getElem? (i := 204) (by decide +kernel), List.mem_of_getElem? (i := 731) (by decide +kernel), List.mem_of_getElem? (i := 732) (by decide +kernel)⟩
theorem lw_p13 : lw_okq (⟨"BlockBells", "obey", "(III)I"⟩, 5) := ⟨⟨by decide +kernel, by decide +kernel⟩, List.mem_of_getElem? (i := 12) (by decide +kernel), List.mem_of_getElem? (i := 735) (by decide +kernel), List.mem_of_getElem? (i := 736) (by decide +kernel)⟩
theorem lw_p14 : lw_okq (⟨"BlockBellsModel", "lay", "(II)V"⟩, 10) := ⟨⟨by decide +kernel, by decide +kernel⟩, List.mem_of_getElem? (i := 770) (by decide +kernel), List.mem_of_getElem? (i := 776) (by decide +kernel), List.mem_of_getElem? (i := 777) (by decide +kernel)⟩
theorem lw_p15 : lw_okq (⟨"BlockBellsModel", "layBlocks", "()V"⟩, 10) := ⟨⟨by decide +kernel, by decide +kernel⟩, List.mem_of_getElem? (i := 770) (by decide +kernel), List.mem_of_getElem? (i := 780) (by decide +kernel), List.mem_of_getElem? (i := 781) (by decide +kernel)⟩
def lw_privs_1 : List (MethodName × Nat) := [(⟨"BlockBells$Line", "shuntToLoop", "(LBlockBells$Train;)I"⟩, 8), (⟨"BlockBells$Line", "shuntBack", "(LBlockBells$Train;)I"⟩, 8), (⟨"BlockBells$Line", "ringRear", "(LBlockBells$Block;I)I"⟩, 8), (⟨"BlockBells$Line", "isTokenReady", "(LBlockBells$Block;)Z"⟩, 8), (⟨"BlockBells$Section", "addTokens", "(II)V"⟩, 6), (⟨"BlockBells$Line", "ringAhead", "(LBlockBells$Block;I)I"⟩, 8), (⟨"BlockBells$Register", "oldest", "()I"⟩, 2), (⟨"BlockBells$Line", "clearSections", "()V"⟩, 8), (⟨"BlockBells$Line", "leaveAll", "()I"⟩, 8), (⟨"BlockBells$Line", "offerAll", "()V"⟩, 8), (⟨"BlockBells$Line", "answerAll", "()V"⟩, 8), (⟨"BlockBells$Line", "departAll", "()V"⟩, 8), (⟨"BlockBells$Pad", "readSign", "(I)V"⟩, 6), (⟨"BlockBells", "obey", "(III)I"⟩, 5), (⟨"BlockBellsModel", "lay", "(II)V"⟩, 10), (⟨"BlockBellsModel", "layBlocks", "()V"⟩, 10)]
theorem lw_r1 : ∀ q ∈ lw_privs_1, lw_okq q := List.forall_mem_cons.mpr ⟨lw_p0, List.forall_mem_cons.mpr ⟨lw_p1, List.forall_mem_cons.mpr ⟨lw_p2, List.forall_mem_cons.mpr ⟨lw_p3, List.forall_mem_cons.mpr ⟨lw_p4, List.forall_mem_cons.mpr ⟨lw_p5, List.forall_mem_cons.mpr ⟨lw_p6, List.forall_mem_cons.mpr ⟨lw_p7, List.forall_mem_cons.mpr ⟨lw_p8, List.forall_mem_cons.mpr ⟨lw_p9, List.forall_mem_cons.mpr ⟨lw_p10, List.forall_mem_cons.mpr ⟨lw_p11, List.forall_mem_cons.mpr ⟨lw_p12, List.forall_mem_cons.mpr ⟨lw_p13, List.forall_mem_cons.mpr ⟨lw_p14, List.forall_mem_cons.mpr ⟨lw_p15, fun _ h => absurd h List.not_mem_nil⟩⟩⟩⟩⟩⟩⟩⟩⟩⟩⟩⟩⟩⟩⟩⟩
theorem lw_p16 : lw_okq (⟨"BlockBellsModel", "isSection", "(I)Z"⟩, 10) := ⟨⟨by decide +kernel, by decide +kernel⟩, List.mem_of_getElem? (i := 770) (by decide +kernel), List.mem_of_getElem? (i := 826) (by decide +kernel), List.mem_of_getElem? (i := 827) (by decide +kernel)⟩
theorem lw_p17 : lw_okq (⟨"BlockBellsModel", "sections", "()I"⟩, 10) := ⟨⟨by decide +kernel, by decide +kernel⟩, List.mem_of_getElem? (i := 770) (by decide +kernel), List.mem_of_getElem? (i := 830) (by decide +kernel), List.mem_of_getElem? (i := 831) (by decide +kernel)⟩
theorem lw_p18 : lw_okq (⟨"BlockBellsModel", "many", "(III)I"⟩, 10) := ⟨⟨by decide +kernel, by decide +kernel⟩, List.mem_of_getElem? (i := 770) (by decide +kernel), List.mem_of_getElem? (i := 841) (by decide +kernel), List.mem_of_getElem? (i := 842) (by decide +kernel)⟩
theorem lw_p19 : lw_okq (⟨"BlockBellsModel", "ofTrain", "(II)I"⟩, 10) := ⟨⟨by decide +kernel, by decide +kernel⟩, List.mem_of_getElem? (i := 770) (by decide +kernel), List.mem_of_getElem? (i := 845) (by decide +kernel), List.mem_of_getElem? (i := 846) (by decide +kernel)⟩
theorem lw_p20 : lw_okq (⟨"BlockBellsModel", "isSingle", "(I)Z"⟩, 10) := ⟨⟨by decide +kernel, by decide +kernel⟩, List.mem_of_getElem? (i := 770) (by decide +kernel), List.mem_of_getElem? (i := 853) (by decide +kernel), List.mem_of_getElem? (i := 854) (by decide +kernel)⟩
theorem lw_p21 : lw_okq (⟨"BlockBellsModel", "isTokenOut", "(I)Z"⟩, 10) := ⟨⟨by decide +kernel, by decide +kernel⟩, List.mem_of_getElem? (i := 770) (by decide +kernel), List.mem_of_getElem? (i := 861) (by decide +kernel), List.mem_of_getElem? (i := 862) (by decide +kernel)⟩
theorem lw_p22 : lw_okq (⟨"BlockBellsModel", "ofBlock", "(III)I"⟩, 10) := ⟨⟨by decide +kernel, by decide +kernel⟩, List.mem_of_getElem? (i := 770) (by decide +kernel), List.mem_of_getElem? (i := 865) (by decide +kernel), List.mem_of_getElem? (i := 866) (by decide +kernel)⟩
theorem lw_p23 : lw_okq (⟨"BlockBellsModel", "isBlock", "(II)Z"⟩, 10) := ⟨⟨by decide +kernel, by decide +kernel⟩, List.mem_of_getElem? (i := 770) (by decide +kernel), List.mem_of_getElem? (i := 876) (by decide +kernel), List.mem_of_getElem? (i := 877) (by decide +kernel)⟩
theorem lw_p24 : lw_okq (⟨"BlockBellsModel", "firstBox", "(I)I"⟩, 10) := ⟨⟨by decide +kernel, by decide +kernel⟩, List.mem_of_getElem? (i := 770) (by decide +kernel), List.mem_of_getElem? (i := 884) (by decide +kernel), List.mem_of_getElem? (i := 885) (by decide +kernel)⟩
theorem lw_p25 : lw_okq (⟨"BlockBellsModel", "isFree", "(II)Z"⟩, 10) := ⟨⟨by decide +kernel, by decide +kernel⟩, List.mem_of_getElem? (i := 770) (by decide +kernel), List.mem_of_getElem? (i := 888) (by decide +kernel), List.mem_of_getElem? (i := 889) (by decide +kernel)⟩
theorem lw_p26 : lw_okq (⟨"BlockBellsModel", "add", "(II)I"⟩, 10) := ⟨⟨by decide +kernel, by decide +kernel⟩, List.mem_of_getElem? (i := 770) (by decide +kernel), List.mem_of_getElem? (i := 892) (by decide +kernel), List.mem_of_getElem? (i := 893) (by decide +kernel)⟩
theorem lw_p27 : lw_okq (⟨"BlockBellsModel", "layTrain", "(III)V"⟩, 10) := ⟨⟨by decide +kernel, by decide +kernel⟩, List.mem_of_getElem? (i := 770) (by decide +kernel), List.mem_of_getElem? (i := 896) (by decide +kernel), List.mem_of_getElem? (i := 897) (by decide +kernel)⟩
theorem lw_p28 : lw_okq (⟨"BlockBellsModel", "isTrain", "(I)Z"⟩, 10) := ⟨⟨by decide +kernel, by decide +kernel⟩, List.mem_of_getElem? (i := 770) (by decide +kernel), List.mem_of_getElem? (i := 904) (by decide +kernel), List.mem_of_getElem? (i := 905) (by decide +kernel)⟩
theorem lw_p29 : lw_okq (⟨"BlockBellsModel", "canGoIn", "(I)Z"⟩, 10) := ⟨⟨by decide +kernel, by decide +kernel⟩, List.mem_of_getElem? (i := 770) (by decide +kernel), List.mem_of_getElem? (i := 912) (by decide +kernel), List.mem_of_getElem? (i := 913) (by decide +kernel)⟩
theorem lw_p30 : lw_okq (⟨"BlockBellsModel", "isOffered", "(I)Z"⟩, 10) := ⟨⟨by decide +kernel, by decide +kernel⟩, List.mem_of_getElem? (i := 770) (by decide +kernel), List.mem_of_getElem? (i := 916) (by decide +kernel), List.mem_of_getElem? (i := 917) (by decide +kernel)⟩
theorem lw_p31 : lw_okq (⟨"BlockBellsModel", "nextSection", "(I)I"⟩, 10) := ⟨⟨by decide +kernel, by decide +kernel⟩, List.mem_of_getElem? (i := 770) (by decide +kernel), List.mem_of_getElem? (i := 920) (by decide +kernel), List.mem_of_getElem? (i := 921) (by decide +kernel)⟩
def lw_privs_2 : List (MethodName × Nat) := [(⟨"BlockBellsModel", "isSection", "(I)Z"⟩, 10), (⟨"BlockBellsModel", "sections", "()I"⟩, 10), (⟨"BlockBellsModel", "many", "(III)I"⟩, 10), (⟨"BlockBellsModel", "ofTrain", "(II)I"⟩, 10), (⟨"BlockBellsModel", "isSingle", "(I)Z"⟩, 10), (⟨"BlockBellsModel", "isTokenOut", "(I)Z"⟩, 10), (⟨"BlockBellsModel", "ofBlock", "(III)I"⟩, 10), (⟨"BlockBellsModel", "isBlock", "(II)Z"⟩, 10), (⟨"BlockBellsModel", "firstBox", "(I)I"⟩, 10), (⟨"BlockBellsModel", "isFree", "(II)Z"⟩, 10), (⟨"BlockBellsModel", "add", "(II)I"⟩, 10), (⟨"BlockBellsModel", "layTrain", "(III)V"⟩, 10), (⟨"BlockBellsModel", "isTrain", "(I)Z"⟩, 10), (⟨"BlockBellsModel", "canGoIn", "(I)Z"⟩, 10), (⟨"BlockBellsModel", "isOffered", "(I)Z"⟩, 10), (⟨"BlockBellsModel", "nextSection", "(I)I"⟩, 10)]
theorem lw_r2 : ∀ q ∈ lw_privs_2, lw_okq q := List.forall_mem_cons.mpr ⟨lw_p16, List.forall_mem_cons.mpr ⟨lw_p17, List.forall_mem_cons.mpr ⟨lw_p18, List.forall_mem_cons.mpr ⟨lw_p19, List.forall_mem_cons.mpr ⟨lw_p20, List.forall_mem_cons.mpr ⟨lw_p21, List.forall_mem_cons.mpr ⟨lw_p22, List.forall_mem_cons.mpr ⟨lw_p23, List.forall_mem_cons.mpr ⟨lw_p24, List.forall_mem_cons.mpr ⟨lw_p25, List.forall_mem_cons.mpr ⟨lw_p26, List.forall_mem_cons.mpr ⟨lw_p27, List.forall_mem_cons.mpr ⟨lw_p28, List.forall_mem_cons.mpr ⟨lw_p29, List.forall_mem_cons.mpr ⟨lw_p30, List.forall_mem_cons.mpr ⟨lw_p31, fun _ h => absurd h List.not_mem_nil⟩⟩⟩⟩⟩⟩⟩⟩⟩⟩⟩⟩⟩⟩⟩⟩
theorem lw_p32 : lw_okq (⟨"BlockBellsModel", "isClearFor", "(I)Z"⟩, 10) := ⟨⟨by decide +kernel, by decide +kernel⟩, List.mem_of_getElem? (i := 770) (by decide +kernel), List.mem_of_getElem? (i := 924) (by decide +kernel), List.mem_of_getElem? (i := 925) (by decide +kernel)⟩
theorem lw_p33 : lw_okq (⟨"BlockBellsModel", "isCalmBehind", "(I)Z"⟩, 10) := ⟨⟨by decide +kernel, by decide +kernel⟩, List.mem_of_getElem? (i := 770) (by decide +kernel), List.mem_of_getElem? (i := 928) (by decide +kernel), List.mem_of_getElem? (i := 929) (by decide +kernel)⟩
theorem lw_p34 : lw_okq (⟨"BlockBellsModel", "ring", "(IIII)I"⟩, 10) := ⟨⟨by decide +kernel, by decide +kernel⟩, List.mem_of_getElem? (i := 770) (by decide +kernel), List.mem_of_getElem? (i := 950) (by decide +kernel), List.mem_of_getElem? (i := 951) (by decide +kernel)⟩
theorem lw_p35 : lw_okq (⟨"BlockBellsModel", "canAccept", "(II)Z"⟩, 10) := ⟨⟨by decide +kernel, by decide +kernel⟩, List.mem_of_getElem? (i := 770) (by decide +kernel), List.mem_of_getElem? (i := 958) (by decide +kernel), List.mem_of_getElem? (i := 959) (by decide +kernel)⟩
theorem lw_p36 : lw_okq (⟨"BlockBellsModel", "unclear", "(II)V"⟩, 10) := ⟨⟨by decide +kernel, by decide +kernel⟩, List.mem_of_getElem? (i := 770) (by decide +kernel), List.mem_of_getElem? (i := 972) (by decide +kernel), List.mem_of_getElem? (i := 973) (by decide +kernel)⟩
theorem lw_p37 : lw_okq (⟨"BlockBellsModel", "isInside", "(II)Z"⟩, 10) := ⟨⟨by decide +kernel, by decide +kernel⟩, List.mem_of_getElem? (i := 770) (by decide +kernel), List.mem_of_getElem? (i := 984) (by decide +kernel), List.mem_of_getElem? (i := 985) (by decide +kernel)⟩
theorem lw_p38 : lw_okq (⟨"BlockBellsModel", "tick", "()V"⟩, 10) := ⟨⟨by decide +kernel, by decide +kernel⟩, List.mem_of_getElem? (i := 770) (by decide +kernel), List.mem_of_getElem? (i := 1009) (by decide +kernel), List.mem_of_getElem? (i := 1010) (by decide +kernel)⟩
theorem lw_p39 : lw_okq (⟨"BlockBellsModel", "trainsAt", "(I)I"⟩, 10) := ⟨⟨by decide +kernel, by decide +kernel⟩, List.mem_of_getElem? (i := 770) (by decide +kernel), List.mem_of_getElem? (i := 1025) (by decide +kernel), List.mem_of_getElem? (i := 1026) (by decide +kernel)⟩
theorem lw_p40 : lw_okq (⟨"BlockBellsModel", "workTick", "()V"⟩, 10) := ⟨⟨by decide +kernel, by decide +kernel⟩, List.mem_of_getElem? (i := 770) (by decide +kernel), List.mem_of_getElem? (i := 1029) (by decide +kernel), List.mem_of_getElem? (i := 1030) (by decide +kernel)⟩
theorem lw_p41 : lw_okq (⟨"BlockBellsModel", "workBlocks", "(I)V"⟩, 10) := ⟨⟨by decide +kernel, by decide +kernel⟩, List.mem_of_getElem? (i := 770) (by decide +kernel), List.mem_of_getElem? (i := 1033) (by decide +kernel), List.mem_of_getElem? (i := 1034) (by decide +kernel)⟩
theorem lw_p42 : lw_okq (⟨"BlockBellsModel", "workTrains", "(I)V"⟩, 10) := ⟨⟨by decide +kernel, by decide +kernel⟩, List.mem_of_getElem? (i := 770) (by decide +kernel), List.mem_of_getElem? (i := 1041) (by decide +kernel), List.mem_of_getElem? (i := 1042) (by decide +kernel)⟩
theorem lw_p43 : lw_okq (⟨"BlockBellsModel", "putAside", "()V"⟩, 10) := ⟨⟨by decide +kernel, by decide +kernel⟩, List.mem_of_getElem? (i := 770) (by decide +kernel), List.mem_of_getElem? (i := 1052) (by decide +kernel), List.mem_of_getElem? (i := 1053) (by decide +kernel)⟩
theorem lw_p44 : lw_okq (⟨"BlockBellsModel", "putBack", "()V"⟩, 10) := ⟨⟨by decide +kernel, by decide +kernel⟩, List.mem_of_getElem? (i := 770) (by decide +kernel), List.mem_of_getElem? (i := 1056) (by decide +kernel), List.mem_of_getElem? (i := 1057) (by decide +kernel)⟩
theorem lw_p45 : lw_okq (⟨"BlockBellsModel", "readOrder", "()V"⟩, 10) := ⟨⟨by decide +kernel, by decide +kernel⟩, List.mem_of_getElem? (i := 770) (by decide +kernel), List.mem_of_getElem? (i := 1076) (by decide +kernel), List.mem_of_getElem? (i := 1077) (by decide +kernel)⟩
theorem lw_p46 : lw_okq (⟨"BlockBellsModel", "nextSign", "()I"⟩, 10) := ⟨⟨by decide +kernel, by decide +kernel⟩, List.mem_of_getElem? (i := 770) (by decide +kernel), List.mem_of_getElem? (i := 1080) (by decide +kernel), List.mem_of_getElem? (i := 1081) (by decide +kernel)⟩
theorem lw_p47 : lw_okq (⟨"BlockBellsModel", "takeNumber", "(II)I"⟩, 10) := ⟨⟨by decide +kernel, by decide +kernel⟩, List.mem_of_getElem? (i := 770) (by decide +kernel), List.mem_of_getElem? (i := 1090) (by decide +kernel), List.mem_of_getElem? (i := 1091) (by decide +kernel)⟩
def lw_privs_3 : List (MethodName × Nat) := [(⟨"BlockBellsModel", "isClearFor", "(I)Z"⟩, 10), (⟨"BlockBellsModel", "isCalmBehind", "(I)Z"⟩, 10), (⟨"BlockBellsModel", "ring", "(IIII)I"⟩, 10), (⟨"BlockBellsModel", "canAccept", "(II)Z"⟩, 10), (⟨"BlockBellsModel", "unclear", "(II)V"⟩, 10), (⟨"BlockBellsModel", "isInside", "(II)Z"⟩, 10), (⟨"BlockBellsModel", "tick", "()V"⟩, 10), (⟨"BlockBellsModel", "trainsAt", "(I)I"⟩, 10), (⟨"BlockBellsModel", "workTick", "()V"⟩, 10), (⟨"BlockBellsModel", "workBlocks", "(I)V"⟩, 10), (⟨"BlockBellsModel", "workTrains", "(I)V"⟩, 10), (⟨"BlockBellsModel", "putAside", "()V"⟩, 10), (⟨"BlockBellsModel", "putBack", "()V"⟩, 10), (⟨"BlockBellsModel", "readOrder", "()V"⟩, 10), (⟨"BlockBellsModel", "nextSign", "()I"⟩, 10), (⟨"BlockBellsModel", "takeNumber", "(II)I"⟩, 10)]
theorem lw_r3 : ∀ q ∈ lw_privs_3, lw_okq q := List.forall_mem_cons.mpr ⟨lw_p32, List.forall_mem_cons.mpr ⟨lw_p33, List.forall_mem_cons.mpr ⟨lw_p34, List.forall_mem_cons.mpr ⟨lw_p35, List.forall_mem_cons.mpr ⟨lw_p36, List.forall_mem_cons.mpr ⟨lw_p37, List.forall_mem_cons.mpr ⟨lw_p38, List.forall_mem_cons.mpr ⟨lw_p39, List.forall_mem_cons.mpr ⟨lw_p40, List.forall_mem_cons.mpr ⟨lw_p41, List.forall_mem_cons.mpr ⟨lw_p42, List.forall_mem_cons.mpr ⟨lw_p43, List.forall_mem_cons.mpr ⟨lw_p44, List.forall_mem_cons.mpr ⟨lw_p45, List.forall_mem_cons.mpr ⟨lw_p46, List.forall_mem_cons.mpr ⟨lw_p47, fun _ h => absurd h List.not_mem_nil⟩⟩⟩⟩⟩⟩⟩⟩⟩⟩⟩⟩⟩⟩⟩⟩
theorem lw_p48 : lw_okq (⟨"BlockBellsModel", "takeSide", "()I"⟩, 10) := ⟨⟨by decide +kernel, by decide +kernel⟩, List.mem_of_getElem? (i := 770) (by decide +kernel), List.mem_of_getElem? (i := 1094) (by decide +kernel), List.mem_of_getElem? (i := 1095) (by decide +kernel)⟩
theorem lw_p49 : lw_okq (⟨"BlockBellsModel", "carryOutOne", "(III)I"⟩, 10) := ⟨⟨by decide +kernel, by decide +kernel⟩, List.mem_of_getElem? (i := 770) (by decide +kernel), List.mem_of_getElem? (i := 1103) (by decide +kernel), List.mem_of_getElem? (i := 1104) (by decide +kernel)⟩
theorem lw_p50 : lw_okq (⟨"BlockBellsModel", "blocksWith", "(I)I"⟩, 10) := ⟨⟨by decide +kernel, by decide +kernel⟩, List.mem_of_getElem? (i := 770) (by decide +kernel), List.mem_of_getElem? (i := 1114) (by decide +kernel), List.mem_of_getElem? (i := 1115) (by decide +kernel)⟩
def lw_privs_4 : List (MethodName × Nat) := [(⟨"BlockBellsModel", "takeSide", "()I"⟩, 10), (⟨"BlockBellsModel", "carryOutOne", "(III)I"⟩, 10), (⟨"BlockBellsModel", "blocksWith", "(I)I"⟩, 10)]
theorem lw_r4 : ∀ q ∈ lw_privs_4, lw_okq q := List.forall_mem_cons.mpr ⟨lw_p48, List.forall_mem_cons.mpr ⟨lw_p49, List.forall_mem_cons.mpr ⟨lw_p50, fun _ h => absurd h List.not_mem_nil⟩⟩⟩
def lw_privs : List (MethodName × Nat) := lw_privs_1 ++ (lw_privs_2 ++ (lw_privs_3 ++ (lw_privs_4)))
def lw_tbl : List Cond := k2_sels lw_privs ++ tables_1
theorem lw_privs_ok : ∀ q ∈ lw_privs, lw_okq q := by
  show ∀ q ∈ lw_privs_1 ++ (lw_privs_2 ++ (lw_privs_3 ++ (lw_privs_4))), lw_okq q
  exact List.forall_mem_append.mpr ⟨lw_r1, List.forall_mem_append.mpr ⟨lw_r2, List.forall_mem_append.mpr ⟨lw_r3, lw_r4⟩⟩⟩
/-! ===== BEGIN words of one list among another's, by their places ===== -/
theorem goodIn_r {big : List Cond} (ws : List Cond) (ps : List Nat) (hp : ws = ps.filterMap (fun i => big[i]?)) (h : ws.all goodWord = true) : GoodIn big ws := by
  intro w hw
  have h1 := List.all_eq_true.mp h w hw
  rw [hp] at hw
  obtain ⟨i, -, hi⟩ := List.mem_filterMap.mp hw
  have hm : w ∈ big := by first | exact List.mem_of_getElem? hi | exact List.getElem?_mem hi
  exact ⟨hm, good_of_word h1⟩
theorem goodIn_app {big a b : List Cond} (ha : GoodIn big a) (hb : GoodIn big b) : GoodIn big (a ++ b) := fun w h => (List.mem_append.mp h).elim (ha w) (hb w)
theorem goodIn_ca {big a b : List Cond} {c : Cond} (ha : GoodIn big (c :: a)) (hb : GoodIn big b) : GoodIn big (c :: (a ++ b)) := fun w h => (List.mem_cons.mp h).elim (fun e => ha w (List.mem_cons.mpr (Or.inl e))) (fun h => (List.mem_append.mp h).elim (fun h => ha w (List.mem_cons.mpr (Or.inr h))) (hb w))
theorem goodIn_sub {big ws : List Cond} (hm : ∀ w ∈ ws, w ∈ big) (h : ws.all goodWord = true) : GoodIn big ws := fun w hw => ⟨hm w hw, good_of_word (List.all_eq_true.mp h w hw)⟩
/-! ===== END ===== -/

/-! ===== BEGIN printed: names, fields, word lists, decode rows ===== -/
def RX0 : String := "BlockBells$Block"
def TX0 : u_T := fun k => match k with
  | 0 => ("BlockBells$Block", "section", "LBlockBells$Section;", true)
  | 1 => ("BlockBells$Block", "direction", "I", true)
  | 2 => ("BlockBells$Block", "state", "I", false)
  | 3 => ("BlockBells$Block", "offered", "I", false)
  | 4 => ("BlockBells$Block", "holder", "I", false)
  | 5 => ("BlockBells$Block", "part", "Z", false)
  | _ => ("BlockBells$Block", "engineTicks", "I", false)
def tyX0 : Nat → FieldType := fun k => match k with
  | 0 => .object "BlockBells$Section"
  | 1 => .int
  | 2 => .int
  | 3 => .int
  | 4 => .int
  | 5 => .boolean
  | _ => .int
abbrev wsX00 : List Cond := u_ws RX0 TX0 7
theorem nmX0 : ∀ a, a < 7 → ∀ b, b < 7 → a ≠ b → (TX0 a).2.1 ≠ (TX0 b).2.1 := by decide +kernel
theorem tyX0_ok : ∀ k, k < 7 → parseFieldDescriptor (TX0 k).2.2.1 = some (tyX0 k) := by decide +kernel
abbrev cX0_init : ByteArray := prog_2_method_1_code
def yX0_init : MethodName := ⟨RX0, "<init>", "(LBlockBells$Section;I)V"⟩
abbrev cX0_reset : ByteArray := prog_2_method_2_code
def yX0_reset : MethodName := ⟨RX0, "reset", "()V"⟩
abbrev cX0_copyFrom : ByteArray := prog_2_method_3_code
def yX0_copyFrom : MethodName := ⟨RX0, "copyFrom", "(LBlockBells$Block;)V"⟩
abbrev cX0_property : ByteArray := prog_2_method_4_code
def yX0_property : MethodName := ⟨RX0, "property", "(I)I"⟩
abbrev cX0_rearBox : ByteArray := prog_2_method_5_code
def yX0_rearBox : MethodName := ⟨RX0, "rearBox", "()I"⟩
abbrev cX0_boxAhead : ByteArray := prog_2_method_6_code
def yX0_boxAhead : MethodName := ⟨RX0, "boxAhead", "()I"⟩
abbrev cX0_rearEnd : ByteArray := prog_2_method_7_code
def yX0_rearEnd : MethodName := ⟨RX0, "rearEnd", "()I"⟩
abbrev cX0_endAhead : ByteArray := prog_2_method_8_code
def yX0_endAhead : MethodName := ⟨RX0, "endAhead", "()I"⟩
abbrev cX0_makeClear : ByteArray := prog_2_method_9_code
def yX0_makeClear : MethodName := ⟨RX0, "makeClear", "()V"⟩
abbrev cX0_takeBack : ByteArray := prog_2_method_10_code
def yX0_takeBack : MethodName := ⟨RX0, "takeBack", "(I)V"⟩
abbrev cX0_makeFree : ByteArray := prog_2_method_11_code
def yX0_makeFree : MethodName := ⟨RX0, "makeFree", "()V"⟩
abbrev cX0_letPass : ByteArray := prog_2_method_12_code
def yX0_letPass : MethodName := ⟨RX0, "letPass", "(I)V"⟩
def RX1 : String := "BlockBells$Line"
def TX1 : u_T := fun k => match k with
  | 0 => ("BlockBells$Line", "sections", "[LBlockBells$Section;", true)
  | 1 => ("BlockBells$Line", "blocks", "[LBlockBells$Block;", true)
  | 2 => ("BlockBells$Line", "trains", "[LBlockBells$Train;", true)
  | 3 => ("BlockBells$Line", "loops", "[I", true)
  | 4 => ("BlockBells$Line", "register", "LBlockBells$Register;", true)
  | 5 => ("BlockBells$Line", "boxes", "I", false)
  | 6 => ("BlockBells$Line", "appeared", "I", false)
  | _ => ("BlockBells$Line", "time", "I", false)
def tyX1 : Nat → FieldType := fun k => match k with
  | 0 => .array (.object "BlockBells$Section")
  | 1 => .array (.object "BlockBells$Block")
  | 2 => .array (.object "BlockBells$Train")
  | 3 => .array .int
  | 4 => .object "BlockBells$Register"
  | 5 => .int
  | 6 => .int
  | _ => .int
abbrev wsX10 : List Cond := u_ws RX1 TX1 8
theorem nmX1 : ∀ a, a < 8 → ∀ b, b < 8 → a ≠ b → (TX1 a).2.1 ≠ (TX1 b).2.1 := by decide +kernel
theorem tyX1_ok : ∀ k, k < 8 → parseFieldDescriptor (TX1 k).2.2.1 = some (tyX1 k) := by decide +kernel
abbrev cX1_init : ByteArray := prog_3_method_1_code
def yX1_init : MethodName := ⟨RX1, "<init>", "()V"⟩
abbrev cX1_layOut : ByteArray := prog_3_method_2_code
def yX1_layOut : MethodName := ⟨RX1, "layOut", "(II)V"⟩
abbrev cX1_clearTraffic : ByteArray := prog_3_method_3_code
def yX1_clearTraffic : MethodName := ⟨RX1, "clearTraffic", "()V"⟩
abbrev cX1_copyFrom : ByteArray := prog_3_method_4_code
def yX1_copyFrom : MethodName := ⟨RX1, "copyFrom", "(LBlockBells$Line;)V"⟩
abbrev cX1_hasBox : ByteArray := prog_3_method_5_code
def yX1_hasBox : MethodName := ⟨RX1, "hasBox", "(I)Z"⟩
abbrev cX1_sectionAt : ByteArray := prog_3_method_6_code
def yX1_sectionAt : MethodName := ⟨RX1, "sectionAt", "(I)LBlockBells$Section;"⟩
abbrev cX1_blockAt : ByteArray := prog_3_method_7_code
def yX1_blockAt : MethodName := ⟨RX1, "blockAt", "(II)LBlockBells$Block;"⟩
abbrev cX1_trainAt : ByteArray := prog_3_method_8_code
def yX1_trainAt : MethodName := ⟨RX1, "trainAt", "(I)LBlockBells$Train;"⟩
abbrev cX1_isGone : ByteArray := prog_3_method_9_code
def yX1_isGone : MethodName := ⟨RX1, "isGone", "(I)Z"⟩
abbrev cX1_blockCount : ByteArray := prog_3_method_10_code
def yX1_blockCount : MethodName := ⟨RX1, "blockCount", "()I"⟩
abbrev cX1_firstBox : ByteArray := prog_3_method_11_code
def yX1_firstBox : MethodName := ⟨RX1, "firstBox", "(I)I"⟩
abbrev cX1_lastBox : ByteArray := prog_3_method_12_code
def yX1_lastBox : MethodName := ⟨RX1, "lastBox", "(I)I"⟩
abbrev cX1_isLineFree : ByteArray := prog_3_method_13_code
def yX1_isLineFree : MethodName := ⟨RX1, "isLineFree", "(II)Z"⟩
abbrev cX1_trainsStanding : ByteArray := prog_3_method_14_code
def yX1_trainsStanding : MethodName := ⟨RX1, "trainsStanding", "(III)I"⟩
abbrev cX1_nextBlock : ByteArray := prog_3_method_15_code
def yX1_nextBlock : MethodName := ⟨RX1, "nextBlock", "(LBlockBells$Train;)LBlockBells$Block;"⟩
abbrev cX1_blockTo : ByteArray := prog_3_method_16_code
def yX1_blockTo : MethodName := ⟨RX1, "blockTo", "(II)LBlockBells$Block;"⟩
abbrev cX1_trainInside : ByteArray := prog_3_method_17_code
def yX1_trainInside : MethodName := ⟨RX1, "trainInside", "(LBlockBells$Block;)LBlockBells$Train;"⟩
abbrev cX1_trainsThatAre : ByteArray := prog_3_method_18_code
def yX1_trainsThatAre : MethodName := ⟨RX1, "trainsThatAre", "(I)I"⟩
abbrev cX1_blocksOtherThan : ByteArray := prog_3_method_19_code
def yX1_blocksOtherThan : MethodName := ⟨RX1, "blocksOtherThan", "(II)I"⟩
abbrev cX1_changeLoops : ByteArray := prog_3_method_20_code
def yX1_changeLoops : MethodName := ⟨RX1, "changeLoops", "(III)I"⟩
abbrev cX1_bringNew : ByteArray := prog_3_method_21_code
def yX1_bringNew : MethodName := ⟨RX1, "bringNew", "(II)I"⟩
abbrev cX1_bringSpare : ByteArray := prog_3_method_22_code
def yX1_bringSpare : MethodName := ⟨RX1, "bringSpare", "(II)V"⟩
abbrev cX1_shuntTrain : ByteArray := prog_3_method_23_code
def yX1_shuntTrain : MethodName := ⟨RX1, "shuntTrain", "(LBlockBells$Train;)I"⟩
abbrev cX1_shuntToLoop : ByteArray := prog_3_method_24_code
def yX1_shuntToLoop : MethodName := ⟨RX1, "shuntToLoop", "(LBlockBells$Train;)I"⟩
abbrev cX1_shuntBack : ByteArray := prog_3_method_25_code
def yX1_shuntBack : MethodName := ⟨RX1, "shuntBack", "(LBlockBells$Train;)I"⟩
abbrev cX1_letLeave : ByteArray := prog_3_method_26_code
def yX1_letLeave : MethodName := ⟨RX1, "letLeave", "(LBlockBells$Train;)I"⟩
abbrev cX1_divideTrain : ByteArray := prog_3_method_27_code
def yX1_divideTrain : MethodName := ⟨RX1, "divideTrain", "(LBlockBells$Train;)I"⟩
abbrev cX1_ringRear : ByteArray := prog_3_method_28_code
def yX1_ringRear : MethodName := ⟨RX1, "ringRear", "(LBlockBells$Block;I)I"⟩
abbrev cX1_ringAhead : ByteArray := prog_3_method_29_code
def yX1_ringAhead : MethodName := ⟨RX1, "ringAhead", "(LBlockBells$Block;I)I"⟩
abbrev cX1_offerTrain : ByteArray := prog_3_method_30_code
def yX1_offerTrain : MethodName := ⟨RX1, "offerTrain", "(LBlockBells$Train;)I"⟩
abbrev cX1_accept : ByteArray := prog_3_method_31_code
def yX1_accept : MethodName := ⟨RX1, "accept", "(LBlockBells$Block;)I"⟩
abbrev cX1_isTokenReady : ByteArray := prog_3_method_32_code
def yX1_isTokenReady : MethodName := ⟨RX1, "isTokenReady", "(LBlockBells$Block;)Z"⟩
abbrev cX1_refuse : ByteArray := prog_3_method_33_code
def yX1_refuse : MethodName := ⟨RX1, "refuse", "(LBlockBells$Block;)I"⟩
abbrev cX1_cancelBlock : ByteArray := prog_3_method_34_code
def yX1_cancelBlock : MethodName := ⟨RX1, "cancelBlock", "(LBlockBells$Block;)I"⟩
abbrev cX1_letDepart : ByteArray := prog_3_method_35_code
def yX1_letDepart : MethodName := ⟨RX1, "letDepart", "(LBlockBells$Train;)I"⟩
abbrev cX1_admitTrain : ByteArray := prog_3_method_36_code
def yX1_admitTrain : MethodName := ⟨RX1, "admitTrain", "(LBlockBells$Block;)I"⟩
abbrev cX1_reportOut : ByteArray := prog_3_method_37_code
def yX1_reportOut : MethodName := ⟨RX1, "reportOut", "(LBlockBells$Block;)I"⟩
abbrev cX1_sendEngine : ByteArray := prog_3_method_38_code
def yX1_sendEngine : MethodName := ⟨RX1, "sendEngine", "(LBlockBells$Block;)I"⟩
abbrev cX1_obstructBlock : ByteArray := prog_3_method_39_code
def yX1_obstructBlock : MethodName := ⟨RX1, "obstructBlock", "(LBlockBells$Block;)I"⟩
abbrev cX1_liftBlock : ByteArray := prog_3_method_40_code
def yX1_liftBlock : MethodName := ⟨RX1, "liftBlock", "(LBlockBells$Block;)I"⟩
abbrev cX1_letPass : ByteArray := prog_3_method_41_code
def yX1_letPass : MethodName := ⟨RX1, "letPass", "(I)V"⟩
abbrev cX1_workTick : ByteArray := prog_3_method_42_code
def yX1_workTick : MethodName := ⟨RX1, "workTick", "()I"⟩
abbrev cX1_clearSections : ByteArray := prog_3_method_43_code
def yX1_clearSections : MethodName := ⟨RX1, "clearSections", "()V"⟩
abbrev cX1_leaveAll : ByteArray := prog_3_method_44_code
def yX1_leaveAll : MethodName := ⟨RX1, "leaveAll", "()I"⟩
abbrev cX1_offerAll : ByteArray := prog_3_method_45_code
def yX1_offerAll : MethodName := ⟨RX1, "offerAll", "()V"⟩
abbrev cX1_answerAll : ByteArray := prog_3_method_46_code
def yX1_answerAll : MethodName := ⟨RX1, "answerAll", "()V"⟩
abbrev cX1_departAll : ByteArray := prog_3_method_47_code
def yX1_departAll : MethodName := ⟨RX1, "departAll", "()V"⟩
def RX2 : String := "BlockBells$Pad"
def TX2 : u_T := fun k => match k with
  | 0 => ("BlockBells$Pad", "signs", "[I", true)
  | 1 => ("BlockBells$Pad", "length", "I", false)
  | 2 => ("BlockBells$Pad", "at", "I", false)
  | 3 => ("BlockBells$Pad", "letter", "I", false)
  | 4 => ("BlockBells$Pad", "number", "I", false)
  | _ => ("BlockBells$Pad", "direction", "I", false)
def tyX2 : Nat → FieldType := fun k => match k with
  | 0 => .array .int
  | 1 => .int
  | 2 => .int
  | 3 => .int
  | 4 => .int
  | _ => .int
abbrev wsX20 : List Cond := u_ws RX2 TX2 6
theorem nmX2 : ∀ a, a < 6 → ∀ b, b < 6 → a ≠ b → (TX2 a).2.1 ≠ (TX2 b).2.1 := by decide +kernel
theorem tyX2_ok : ∀ k, k < 6 → parseFieldDescriptor (TX2 k).2.2.1 = some (tyX2 k) := by decide +kernel
abbrev cX2_init : ByteArray := prog_4_method_1_code
def yX2_init : MethodName := ⟨RX2, "<init>", "()V"⟩
abbrev cX2_append : ByteArray := prog_4_method_2_code
def yX2_append : MethodName := ⟨RX2, "append", "(I)I"⟩
abbrev cX2_empty : ByteArray := prog_4_method_3_code
def yX2_empty : MethodName := ⟨RX2, "empty", "()I"⟩
abbrev cX2_firstFault : ByteArray := prog_4_method_4_code
def yX2_firstFault : MethodName := ⟨RX2, "firstFault", "()I"⟩
abbrev cX2_after : ByteArray := prog_4_method_5_code
def yX2_after : MethodName := ⟨RX2, "after", "(II)I"⟩
abbrev cX2_afterLetter : ByteArray := prog_4_method_6_code
def yX2_afterLetter : MethodName := ⟨RX2, "afterLetter", "(I)I"⟩
abbrev cX2_afterOrder : ByteArray := prog_4_method_7_code
def yX2_afterOrder : MethodName := ⟨RX2, "afterOrder", "(I)I"⟩
abbrev cX2_isBetween : ByteArray := prog_4_method_8_code
def yX2_isBetween : MethodName := ⟨RX2, "isBetween", "(III)Z"⟩
abbrev cX2_rewind : ByteArray := prog_4_method_9_code
def yX2_rewind : MethodName := ⟨RX2, "rewind", "()V"⟩
abbrev cX2_readOrder : ByteArray := prog_4_method_10_code
def yX2_readOrder : MethodName := ⟨RX2, "readOrder", "()Z"⟩
abbrev cX2_readSign : ByteArray := prog_4_method_11_code
def yX2_readSign : MethodName := ⟨RX2, "readSign", "(I)V"⟩
def RX3 : String := "BlockBells$Register"
def TX3 : u_T := fun k => match k with
  | 0 => ("BlockBells$Register", "rows", "[I", true)
  | _ => ("BlockBells$Register", "total", "I", false)
def tyX3 : Nat → FieldType := fun k => match k with
  | 0 => .array .int
  | _ => .int
abbrev wsX30 : List Cond := u_ws RX3 TX3 2
theorem nmX3 : ∀ a, a < 2 → ∀ b, b < 2 → a ≠ b → (TX3 a).2.1 ≠ (TX3 b).2.1 := by decide +kernel
theorem tyX3_ok : ∀ k, k < 2 → parseFieldDescriptor (TX3 k).2.2.1 = some (tyX3 k) := by decide +kernel
abbrev cX3_init : ByteArray := prog_5_method_1_code
def yX3_init : MethodName := ⟨RX3, "<init>", "()V"⟩
abbrev cX3_copyFrom : ByteArray := prog_5_method_2_code
def yX3_copyFrom : MethodName := ⟨RX3, "copyFrom", "(LBlockBells$Register;)V"⟩
abbrev cX3_record : ByteArray := prog_5_method_3_code
def yX3_record : MethodName := ⟨RX3, "record", "(ILBlockBells$Block;II)V"⟩
abbrev cX3_property : ByteArray := prog_5_method_4_code
def yX3_property : MethodName := ⟨RX3, "property", "(II)I"⟩
abbrev cX3_countOf : ByteArray := prog_5_method_5_code
def yX3_countOf : MethodName := ⟨RX3, "countOf", "(II)I"⟩
abbrev cX3_oldest : ByteArray := prog_5_method_6_code
def yX3_oldest : MethodName := ⟨RX3, "oldest", "()I"⟩
abbrev cX3_rowOf : ByteArray := prog_5_method_7_code
def yX3_rowOf : MethodName := ⟨RX3, "rowOf", "(I)I"⟩
def RX4 : String := "BlockBells$Section"
def TX4 : u_T := fun k => match k with
  | 0 => ("BlockBells$Section", "number", "I", true)
  | 1 => ("BlockBells$Section", "single", "Z", false)
  | 2 => ("BlockBells$Section", "runningTime", "I", false)
  | 3 => ("BlockBells$Section", "lowerTokens", "I", false)
  | 4 => ("BlockBells$Section", "higherTokens", "I", false)
  | _ => ("BlockBells$Section", "tokenOut", "Z", false)
def tyX4 : Nat → FieldType := fun k => match k with
  | 0 => .int
  | 1 => .boolean
  | 2 => .int
  | 3 => .int
  | 4 => .int
  | _ => .boolean
abbrev wsX40 : List Cond := u_ws RX4 TX4 6
theorem nmX4 : ∀ a, a < 6 → ∀ b, b < 6 → a ≠ b → (TX4 a).2.1 ≠ (TX4 b).2.1 := by decide +kernel
theorem tyX4_ok : ∀ k, k < 6 → parseFieldDescriptor (TX4 k).2.2.1 = some (tyX4 k) := by decide +kernel
abbrev cX4_init : ByteArray := prog_6_method_1_code
def yX4_init : MethodName := ⟨RX4, "<init>", "(I)V"⟩
abbrev cX4_layOut : ByteArray := prog_6_method_2_code
def yX4_layOut : MethodName := ⟨RX4, "layOut", "(Z)V"⟩
abbrev cX4_copyFrom : ByteArray := prog_6_method_3_code
def yX4_copyFrom : MethodName := ⟨RX4, "copyFrom", "(LBlockBells$Section;)V"⟩
abbrev cX4_property : ByteArray := prog_6_method_4_code
def yX4_property : MethodName := ⟨RX4, "property", "(I)I"⟩
abbrev cX4_moveUp : ByteArray := prog_6_method_5_code
def yX4_moveUp : MethodName := ⟨RX4, "moveUp", "(I)I"⟩
abbrev cX4_hasToken : ByteArray := prog_6_method_6_code
def yX4_hasToken : MethodName := ⟨RX4, "hasToken", "(I)Z"⟩
abbrev cX4_takeToken : ByteArray := prog_6_method_7_code
def yX4_takeToken : MethodName := ⟨RX4, "takeToken", "(I)V"⟩
abbrev cX4_putToken : ByteArray := prog_6_method_8_code
def yX4_putToken : MethodName := ⟨RX4, "putToken", "(I)V"⟩
abbrev cX4_addTokens : ByteArray := prog_6_method_9_code
def yX4_addTokens : MethodName := ⟨RX4, "addTokens", "(II)V"⟩
def RX5 : String := "BlockBells$Train"
def TX5 : u_T := fun k => match k with
  | 0 => ("BlockBells$Train", "number", "I", true)
  | 1 => ("BlockBells$Train", "kind", "I", false)
  | 2 => ("BlockBells$Train", "direction", "I", false)
  | 3 => ("BlockBells$Train", "where", "I", false)
  | 4 => ("BlockBells$Train", "place", "I", false)
  | 5 => ("BlockBells$Train", "ticksLeft", "I", false)
  | 6 => ("BlockBells$Train", "whole", "Z", false)
  | 7 => ("BlockBells$Train", "appearedAt", "I", false)
  | _ => ("BlockBells$Train", "leftAt", "I", false)
def tyX5 : Nat → FieldType := fun k => match k with
  | 0 => .int
  | 1 => .int
  | 2 => .int
  | 3 => .int
  | 4 => .int
  | 5 => .int
  | 6 => .boolean
  | 7 => .int
  | _ => .int
abbrev wsX50 : List Cond := u_ws RX5 TX5 9
theorem nmX5 : ∀ a, a < 9 → ∀ b, b < 9 → a ≠ b → (TX5 a).2.1 ≠ (TX5 b).2.1 := by decide +kernel
theorem tyX5_ok : ∀ k, k < 9 → parseFieldDescriptor (TX5 k).2.2.1 = some (tyX5 k) := by decide +kernel
abbrev cX5_init : ByteArray := prog_7_method_1_code
def yX5_init : MethodName := ⟨RX5, "<init>", "(I)V"⟩
abbrev cX5_start : ByteArray := prog_7_method_2_code
def yX5_start : MethodName := ⟨RX5, "start", "(IIII)V"⟩
abbrev cX5_copyFrom : ByteArray := prog_7_method_3_code
def yX5_copyFrom : MethodName := ⟨RX5, "copyFrom", "(LBlockBells$Train;)V"⟩
abbrev cX5_property : ByteArray := prog_7_method_4_code
def yX5_property : MethodName := ⟨RX5, "property", "(I)I"⟩
abbrev cX5_stands : ByteArray := prog_7_method_5_code
def yX5_stands : MethodName := ⟨RX5, "stands", "(III)Z"⟩
abbrev cX5_standAt : ByteArray := prog_7_method_6_code
def yX5_standAt : MethodName := ⟨RX5, "standAt", "(II)V"⟩
abbrev cX5_enter : ByteArray := prog_7_method_7_code
def yX5_enter : MethodName := ⟨RX5, "enter", "(LBlockBells$Section;)V"⟩
abbrev cX5_go : ByteArray := prog_7_method_8_code
def yX5_go : MethodName := ⟨RX5, "go", "(I)V"⟩
abbrev cX5_letPass : ByteArray := prog_7_method_9_code
def yX5_letPass : MethodName := ⟨RX5, "letPass", "(I)V"⟩
def RX6 : String := "BlockBells"
def TX6 : u_T := fun k => match k with
  | 0 => ("BlockBells", "line", "LBlockBells$Line;", true)
  | 1 => ("BlockBells", "trial", "LBlockBells$Line;", true)
  | 2 => ("BlockBells", "slots", "[LBlockBells$Line;", true)
  | 3 => ("BlockBells", "saved", "[Z", true)
  | _ => ("BlockBells", "pad", "LBlockBells$Pad;", true)
def tyX6 : Nat → FieldType := fun k => match k with
  | 0 => .object "BlockBells$Line"
  | 1 => .object "BlockBells$Line"
  | 2 => .array (.object "BlockBells$Line")
  | 3 => .array .boolean
  | _ => .object "BlockBells$Pad"
abbrev wsX60 : List Cond := u_ws RX6 TX6 5
theorem nmX6 : ∀ a, a < 5 → ∀ b, b < 5 → a ≠ b → (TX6 a).2.1 ≠ (TX6 b).2.1 := by decide +kernel
theorem tyX6_ok : ∀ k, k < 5 → parseFieldDescriptor (TX6 k).2.2.1 = some (tyX6 k) := by decide +kernel
abbrev cX6_init : ByteArray := prog_1_method_1_code
def yX6_init : MethodName := ⟨RX6, "<init>", "()V"⟩
abbrev cX6_setUp : ByteArray := prog_1_method_2_code
def yX6_setUp : MethodName := ⟨RX6, "setUp", "(II)I"⟩
abbrev cX6_setTime : ByteArray := prog_1_method_3_code
def yX6_setTime : MethodName := ⟨RX6, "setTime", "(II)I"⟩
abbrev cX6_setLoops : ByteArray := prog_1_method_4_code
def yX6_setLoops : MethodName := ⟨RX6, "setLoops", "(III)I"⟩
abbrev cX6_moveTokens : ByteArray := prog_1_method_5_code
def yX6_moveTokens : MethodName := ⟨RX6, "moveTokens", "(II)I"⟩
abbrev cX6_section : ByteArray := prog_1_method_6_code
def yX6_section : MethodName := ⟨RX6, "section", "(II)I"⟩
abbrev cX6_block : ByteArray := prog_1_method_7_code
def yX6_block : MethodName := ⟨RX6, "block", "(III)I"⟩
abbrev cX6_appear : ByteArray := prog_1_method_8_code
def yX6_appear : MethodName := ⟨RX6, "appear", "(II)I"⟩
abbrev cX6_train : ByteArray := prog_1_method_9_code
def yX6_train : MethodName := ⟨RX6, "train", "(II)I"⟩
abbrev cX6_shunt : ByteArray := prog_1_method_10_code
def yX6_shunt : MethodName := ⟨RX6, "shunt", "(I)I"⟩
abbrev cX6_leave : ByteArray := prog_1_method_11_code
def yX6_leave : MethodName := ⟨RX6, "leave", "(I)I"⟩
abbrev cX6_divide : ByteArray := prog_1_method_12_code
def yX6_divide : MethodName := ⟨RX6, "divide", "(I)I"⟩
abbrev cX6_offer : ByteArray := prog_1_method_13_code
def yX6_offer : MethodName := ⟨RX6, "offer", "(I)I"⟩
abbrev cX6_answer : ByteArray := prog_1_method_14_code
def yX6_answer : MethodName := ⟨RX6, "answer", "(IIZ)I"⟩
abbrev cX6_cancel : ByteArray := prog_1_method_15_code
def yX6_cancel : MethodName := ⟨RX6, "cancel", "(II)I"⟩
abbrev cX6_depart : ByteArray := prog_1_method_16_code
def yX6_depart : MethodName := ⟨RX6, "depart", "(I)I"⟩
abbrev cX6_admit : ByteArray := prog_1_method_17_code
def yX6_admit : MethodName := ⟨RX6, "admit", "(II)I"⟩
abbrev cX6_out : ByteArray := prog_1_method_18_code
def yX6_out : MethodName := ⟨RX6, "out", "(II)I"⟩
abbrev cX6_assist : ByteArray := prog_1_method_19_code
def yX6_assist : MethodName := ⟨RX6, "assist", "(II)I"⟩
abbrev cX6_obstruct : ByteArray := prog_1_method_20_code
def yX6_obstruct : MethodName := ⟨RX6, "obstruct", "(II)I"⟩
abbrev cX6_lift : ByteArray := prog_1_method_21_code
def yX6_lift : MethodName := ⟨RX6, "lift", "(II)I"⟩
abbrev cX6_pass : ByteArray := prog_1_method_22_code
def yX6_pass : MethodName := ⟨RX6, "pass", "(I)I"⟩
abbrev cX6_signal : ByteArray := prog_1_method_23_code
def yX6_signal : MethodName := ⟨RX6, "signal", "(II)I"⟩
abbrev cX6_rung : ByteArray := prog_1_method_24_code
def yX6_rung : MethodName := ⟨RX6, "rung", "(II)I"⟩
abbrev cX6_work : ByteArray := prog_1_method_25_code
def yX6_work : MethodName := ⟨RX6, "work", "(I)I"⟩
abbrev cX6_forecast : ByteArray := prog_1_method_26_code
def yX6_forecast : MethodName := ⟨RX6, "forecast", "(II)I"⟩
abbrev cX6_capacity : ByteArray := prog_1_method_27_code
def yX6_capacity : MethodName := ⟨RX6, "capacity", "(III)I"⟩
abbrev cX6_say : ByteArray := prog_1_method_28_code
def yX6_say : MethodName := ⟨RX6, "say", "(I)I"⟩
abbrev cX6_wipe : ByteArray := prog_1_method_29_code
def yX6_wipe : MethodName := ⟨RX6, "wipe", "()I"⟩
abbrev cX6_fault : ByteArray := prog_1_method_30_code
def yX6_fault : MethodName := ⟨RX6, "fault", "()I"⟩
abbrev cX6_carryOut : ByteArray := prog_1_method_31_code
def yX6_carryOut : MethodName := ⟨RX6, "carryOut", "()I"⟩
abbrev cX6_obey : ByteArray := prog_1_method_32_code
def yX6_obey : MethodName := ⟨RX6, "obey", "(III)I"⟩
abbrev cX6_count : ByteArray := prog_1_method_33_code
def yX6_count : MethodName := ⟨RX6, "count", "(I)I"⟩
abbrev cX6_save : ByteArray := prog_1_method_34_code
def yX6_save : MethodName := ⟨RX6, "save", "(I)I"⟩
abbrev cX6_restore : ByteArray := prog_1_method_35_code
def yX6_restore : MethodName := ⟨RX6, "restore", "(I)I"⟩
abbrev cX6_isDirection : ByteArray := prog_1_method_36_code
def yX6_isDirection : MethodName := ⟨RX6, "isDirection", "(I)Z"⟩
abbrev cX6_isKind : ByteArray := prog_1_method_37_code
def yX6_isKind : MethodName := ⟨RX6, "isKind", "(I)Z"⟩
abbrev cX6_offerCode : ByteArray := prog_1_method_38_code
def yX6_offerCode : MethodName := ⟨RX6, "offerCode", "(I)I"⟩
def RX7 : String := "BlockBellsModel"
def TX7 : u_T := fun k => match k with
  | 0 => ("BlockBellsModel", "at", "[I", true)
  | 1 => ("BlockBellsModel", "aside", "[I", true)
  | 2 => ("BlockBellsModel", "slots", "[I", true)
  | 3 => ("BlockBellsModel", "isSaved", "[Z", true)
  | 4 => ("BlockBellsModel", "pad", "[I", true)
  | 5 => ("BlockBellsModel", "padMany", "I", false)
  | 6 => ("BlockBellsModel", "reading", "I", false)
  | 7 => ("BlockBellsModel", "isWrong", "Z", false)
  | 8 => ("BlockBellsModel", "orders", "[I", true)
  | _ => ("BlockBellsModel", "orderMany", "I", false)
def tyX7 : Nat → FieldType := fun k => match k with
  | 0 => .array .int
  | 1 => .array .int
  | 2 => .array .int
  | 3 => .array .boolean
  | 4 => .array .int
  | 5 => .int
  | 6 => .int
  | 7 => .boolean
  | 8 => .array .int
  | _ => .int
abbrev wsX70 : List Cond := u_ws RX7 TX7 10
theorem nmX7 : ∀ a, a < 10 → ∀ b, b < 10 → a ≠ b → (TX7 a).2.1 ≠ (TX7 b).2.1 := by decide +kernel
theorem tyX7_ok : ∀ k, k < 10 → parseFieldDescriptor (TX7 k).2.2.1 = some (tyX7 k) := by decide +kernel
abbrev cX7_init : ByteArray := prog_9_method_1_code
def yX7_init : MethodName := ⟨RX7, "<init>", "()V"⟩
abbrev cX7_in : ByteArray := prog_9_method_2_code
def yX7_in : MethodName := ⟨RX7, "in", "(III)Z"⟩
abbrev cX7_putAside : ByteArray := prog_9_method_3_code
def yX7_putAside : MethodName := ⟨RX7, "putAside", "()V"⟩
abbrev cX7_putBack : ByteArray := prog_9_method_4_code
def yX7_putBack : MethodName := ⟨RX7, "putBack", "()V"⟩
abbrev cX7_lay : ByteArray := prog_9_method_5_code
def yX7_lay : MethodName := ⟨RX7, "lay", "(II)V"⟩
abbrev cX7_layBlocks : ByteArray := prog_9_method_6_code
def yX7_layBlocks : MethodName := ⟨RX7, "layBlocks", "()V"⟩
abbrev cX7_sections : ByteArray := prog_9_method_7_code
def yX7_sections : MethodName := ⟨RX7, "sections", "()I"⟩
abbrev cX7_isSection : ByteArray := prog_9_method_8_code
def yX7_isSection : MethodName := ⟨RX7, "isSection", "(I)Z"⟩
abbrev cX7_isWay : ByteArray := prog_9_method_9_code
def yX7_isWay : MethodName := ⟨RX7, "isWay", "(I)Z"⟩
abbrev cX7_isBlock : ByteArray := prog_9_method_10_code
def yX7_isBlock : MethodName := ⟨RX7, "isBlock", "(II)Z"⟩
abbrev cX7_isTrain : ByteArray := prog_9_method_11_code
def yX7_isTrain : MethodName := ⟨RX7, "isTrain", "(I)Z"⟩
abbrev cX7_rear : ByteArray := prog_9_method_12_code
def yX7_rear : MethodName := ⟨RX7, "rear", "(II)I"⟩
abbrev cX7_ahead : ByteArray := prog_9_method_13_code
def yX7_ahead : MethodName := ⟨RX7, "ahead", "(II)I"⟩
abbrev cX7_place : ByteArray := prog_9_method_14_code
def yX7_place : MethodName := ⟨RX7, "place", "(III)I"⟩
abbrev cX7_ofBlock : ByteArray := prog_9_method_15_code
def yX7_ofBlock : MethodName := ⟨RX7, "ofBlock", "(III)I"⟩
abbrev cX7_ofTrain : ByteArray := prog_9_method_16_code
def yX7_ofTrain : MethodName := ⟨RX7, "ofTrain", "(II)I"⟩
abbrev cX7_layTrain : ByteArray := prog_9_method_17_code
def yX7_layTrain : MethodName := ⟨RX7, "layTrain", "(III)V"⟩
abbrev cX7_isSingle : ByteArray := prog_9_method_18_code
def yX7_isSingle : MethodName := ⟨RX7, "isSingle", "(I)Z"⟩
abbrev cX7_isTokenOut : ByteArray := prog_9_method_19_code
def yX7_isTokenOut : MethodName := ⟨RX7, "isTokenOut", "(I)Z"⟩
abbrev cX7_tokensAt : ByteArray := prog_9_method_20_code
def yX7_tokensAt : MethodName := ⟨RX7, "tokensAt", "(II)I"⟩
abbrev cX7_setUp : ByteArray := prog_9_method_21_code
def yX7_setUp : MethodName := ⟨RX7, "setUp", "(II)I"⟩
abbrev cX7_setTime : ByteArray := prog_9_method_22_code
def yX7_setTime : MethodName := ⟨RX7, "setTime", "(II)I"⟩
abbrev cX7_many : ByteArray := prog_9_method_23_code
def yX7_many : MethodName := ⟨RX7, "many", "(III)I"⟩
abbrev cX7_setLoops : ByteArray := prog_9_method_24_code
def yX7_setLoops : MethodName := ⟨RX7, "setLoops", "(III)I"⟩
abbrev cX7_moveTokens : ByteArray := prog_9_method_25_code
def yX7_moveTokens : MethodName := ⟨RX7, "moveTokens", "(II)I"⟩
abbrev cX7_section : ByteArray := prog_9_method_26_code
def yX7_section : MethodName := ⟨RX7, "section", "(II)I"⟩
abbrev cX7_block : ByteArray := prog_9_method_27_code
def yX7_block : MethodName := ⟨RX7, "block", "(III)I"⟩
abbrev cX7_firstBox : ByteArray := prog_9_method_28_code
def yX7_firstBox : MethodName := ⟨RX7, "firstBox", "(I)I"⟩
abbrev cX7_isFree : ByteArray := prog_9_method_29_code
def yX7_isFree : MethodName := ⟨RX7, "isFree", "(II)Z"⟩
abbrev cX7_add : ByteArray := prog_9_method_30_code
def yX7_add : MethodName := ⟨RX7, "add", "(II)I"⟩
abbrev cX7_appear : ByteArray := prog_9_method_31_code
def yX7_appear : MethodName := ⟨RX7, "appear", "(II)I"⟩
abbrev cX7_train : ByteArray := prog_9_method_32_code
def yX7_train : MethodName := ⟨RX7, "train", "(II)I"⟩
abbrev cX7_nextSection : ByteArray := prog_9_method_33_code
def yX7_nextSection : MethodName := ⟨RX7, "nextSection", "(I)I"⟩
abbrev cX7_isCalmBehind : ByteArray := prog_9_method_34_code
def yX7_isCalmBehind : MethodName := ⟨RX7, "isCalmBehind", "(I)Z"⟩
abbrev cX7_isOffered : ByteArray := prog_9_method_35_code
def yX7_isOffered : MethodName := ⟨RX7, "isOffered", "(I)Z"⟩
abbrev cX7_isClearFor : ByteArray := prog_9_method_36_code
def yX7_isClearFor : MethodName := ⟨RX7, "isClearFor", "(I)Z"⟩
abbrev cX7_canGoIn : ByteArray := prog_9_method_37_code
def yX7_canGoIn : MethodName := ⟨RX7, "canGoIn", "(I)Z"⟩
abbrev cX7_shunt : ByteArray := prog_9_method_38_code
def yX7_shunt : MethodName := ⟨RX7, "shunt", "(I)I"⟩
abbrev cX7_leave : ByteArray := prog_9_method_39_code
def yX7_leave : MethodName := ⟨RX7, "leave", "(I)I"⟩
abbrev cX7_divide : ByteArray := prog_9_method_40_code
def yX7_divide : MethodName := ⟨RX7, "divide", "(I)I"⟩
abbrev cX7_codeOf : ByteArray := prog_9_method_41_code
def yX7_codeOf : MethodName := ⟨RX7, "codeOf", "(I)I"⟩
abbrev cX7_ring : ByteArray := prog_9_method_42_code
def yX7_ring : MethodName := ⟨RX7, "ring", "(IIII)I"⟩
abbrev cX7_offer : ByteArray := prog_9_method_43_code
def yX7_offer : MethodName := ⟨RX7, "offer", "(I)I"⟩
abbrev cX7_canAccept : ByteArray := prog_9_method_44_code
def yX7_canAccept : MethodName := ⟨RX7, "canAccept", "(II)Z"⟩
abbrev cX7_answer : ByteArray := prog_9_method_45_code
def yX7_answer : MethodName := ⟨RX7, "answer", "(IIZ)I"⟩
abbrev cX7_unclear : ByteArray := prog_9_method_46_code
def yX7_unclear : MethodName := ⟨RX7, "unclear", "(II)V"⟩
abbrev cX7_cancel : ByteArray := prog_9_method_47_code
def yX7_cancel : MethodName := ⟨RX7, "cancel", "(II)I"⟩
abbrev cX7_depart : ByteArray := prog_9_method_48_code
def yX7_depart : MethodName := ⟨RX7, "depart", "(I)I"⟩
abbrev cX7_isInside : ByteArray := prog_9_method_49_code
def yX7_isInside : MethodName := ⟨RX7, "isInside", "(II)Z"⟩
abbrev cX7_admit : ByteArray := prog_9_method_50_code
def yX7_admit : MethodName := ⟨RX7, "admit", "(II)I"⟩
abbrev cX7_out : ByteArray := prog_9_method_51_code
def yX7_out : MethodName := ⟨RX7, "out", "(II)I"⟩
abbrev cX7_assist : ByteArray := prog_9_method_52_code
def yX7_assist : MethodName := ⟨RX7, "assist", "(II)I"⟩
abbrev cX7_obstruct : ByteArray := prog_9_method_53_code
def yX7_obstruct : MethodName := ⟨RX7, "obstruct", "(II)I"⟩
abbrev cX7_lift : ByteArray := prog_9_method_54_code
def yX7_lift : MethodName := ⟨RX7, "lift", "(II)I"⟩
abbrev cX7_tick : ByteArray := prog_9_method_55_code
def yX7_tick : MethodName := ⟨RX7, "tick", "()V"⟩
abbrev cX7_pass : ByteArray := prog_9_method_56_code
def yX7_pass : MethodName := ⟨RX7, "pass", "(I)I"⟩
abbrev cX7_signal : ByteArray := prog_9_method_57_code
def yX7_signal : MethodName := ⟨RX7, "signal", "(II)I"⟩
abbrev cX7_rung : ByteArray := prog_9_method_58_code
def yX7_rung : MethodName := ⟨RX7, "rung", "(II)I"⟩
abbrev cX7_workBlocks : ByteArray := prog_9_method_59_code
def yX7_workBlocks : MethodName := ⟨RX7, "workBlocks", "(I)V"⟩
abbrev cX7_workTrains : ByteArray := prog_9_method_60_code
def yX7_workTrains : MethodName := ⟨RX7, "workTrains", "(I)V"⟩
abbrev cX7_workTick : ByteArray := prog_9_method_61_code
def yX7_workTick : MethodName := ⟨RX7, "workTick", "()V"⟩
abbrev cX7_trainsAt : ByteArray := prog_9_method_62_code
def yX7_trainsAt : MethodName := ⟨RX7, "trainsAt", "(I)I"⟩
abbrev cX7_work : ByteArray := prog_9_method_63_code
def yX7_work : MethodName := ⟨RX7, "work", "(I)I"⟩
abbrev cX7_forecast : ByteArray := prog_9_method_64_code
def yX7_forecast : MethodName := ⟨RX7, "forecast", "(II)I"⟩
abbrev cX7_capacity : ByteArray := prog_9_method_65_code
def yX7_capacity : MethodName := ⟨RX7, "capacity", "(III)I"⟩
abbrev cX7_say : ByteArray := prog_9_method_66_code
def yX7_say : MethodName := ⟨RX7, "say", "(I)I"⟩
abbrev cX7_wipe : ByteArray := prog_9_method_67_code
def yX7_wipe : MethodName := ⟨RX7, "wipe", "()I"⟩
abbrev cX7_nextSign : ByteArray := prog_9_method_68_code
def yX7_nextSign : MethodName := ⟨RX7, "nextSign", "()I"⟩
abbrev cX7_takeNumber : ByteArray := prog_9_method_69_code
def yX7_takeNumber : MethodName := ⟨RX7, "takeNumber", "(II)I"⟩
abbrev cX7_takeSide : ByteArray := prog_9_method_70_code
def yX7_takeSide : MethodName := ⟨RX7, "takeSide", "()I"⟩
abbrev cX7_isForTrain : ByteArray := prog_9_method_71_code
def yX7_isForTrain : MethodName := ⟨RX7, "isForTrain", "(I)Z"⟩
abbrev cX7_isForBlock : ByteArray := prog_9_method_72_code
def yX7_isForBlock : MethodName := ⟨RX7, "isForBlock", "(I)Z"⟩
abbrev cX7_readOrder : ByteArray := prog_9_method_73_code
def yX7_readOrder : MethodName := ⟨RX7, "readOrder", "()V"⟩
abbrev cX7_fault : ByteArray := prog_9_method_74_code
def yX7_fault : MethodName := ⟨RX7, "fault", "()I"⟩
abbrev cX7_carryOutOne : ByteArray := prog_9_method_75_code
def yX7_carryOutOne : MethodName := ⟨RX7, "carryOutOne", "(III)I"⟩
abbrev cX7_carryOut : ByteArray := prog_9_method_76_code
def yX7_carryOut : MethodName := ⟨RX7, "carryOut", "()I"⟩
abbrev cX7_blocksWith : ByteArray := prog_9_method_77_code
def yX7_blocksWith : MethodName := ⟨RX7, "blocksWith", "(I)I"⟩
abbrev cX7_count : ByteArray := prog_9_method_78_code
def yX7_count : MethodName := ⟨RX7, "count", "(I)I"⟩
abbrev cX7_save : ByteArray := prog_9_method_79_code
def yX7_save : MethodName := ⟨RX7, "save", "(I)I"⟩
abbrev cX7_restore : ByteArray := prog_9_method_80_code
def yX7_restore : MethodName := ⟨RX7, "restore", "(I)I"⟩
def RJ9 : String := "java/lang/Math"
def TJ9 : u_T := fun k => match k with
  | _ => ("", "", "", false)
def tyJ9 : Nat → FieldType := fun k => match k with
  | _ => .int
abbrev wsJ90 : List Cond := u_ws RJ9 TJ9 0
theorem nmJ9 : ∀ a, a < 0 → ∀ b, b < 0 → a ≠ b → (TJ9 a).2.1 ≠ (TJ9 b).2.1 := by decide +kernel
theorem tyJ9_ok : ∀ k, k < 0 → parseFieldDescriptor (TJ9 k).2.2.1 = some (tyJ9 k) := by decide +kernel
abbrev cJ9_max_7cf53 : ByteArray := prog_10_method_65_code
def yJ9_max_7cf53 : MethodName := ⟨RJ9, "max", "(II)I"⟩
def RJ10 : String := "java/lang/System"
def TJ10 : u_T := fun k => match k with
  | _ => ("", "", "", false)
def tyJ10 : Nat → FieldType := fun k => match k with
  | _ => .int
abbrev wsJ100 : List Cond := u_ws RJ10 TJ10 0
theorem nmJ10 : ∀ a, a < 0 → ∀ b, b < 0 → a ≠ b → (TJ10 a).2.1 ≠ (TJ10 b).2.1 := by decide +kernel
theorem tyJ10_ok : ∀ k, k < 0 → parseFieldDescriptor (TJ10 k).2.2.1 = some (tyJ10 k) := by decide +kernel
def RL : String := "BlockBellsLaw"
abbrev cL_law : ByteArray := code
def yL_law : MethodName := ⟨RL, "law", "([I)Z"⟩
abbrev vwCl : List vw_C := [(RX0, TX0, 7), (RX1, TX1, 8), (RX2, TX2, 6), (RX3, TX3, 2), (RX4, TX4, 6), (RX5, TX5, 9), (RX6, TX6, 5), (RX7, TX7, 10)]
end
section
/-- the words that serve every method -/
def TB : List Cond := lw_tbl.filter goodWord
theorem tb_in : ∀ w ∈ TB, w ∈ lw_tbl := fun _ h => (List.mem_filter.mp h).1
theorem tb_ok : ∀ w ∈ TB, goodWord w = true := fun _ h => (List.mem_filter.mp h).2
theorem tb_T {w : Cond} (h : w ∈ tables_1) (g : goodWord w = true) : w ∈ TB := List.mem_filter.mpr ⟨List.mem_append_right _ h, g⟩
theorem tb_S {q : MethodName × Nat} (h : q ∈ lw_privs) (g : goodWord (Cond.selects q.1.cls q.1 q.1) = true) : Cond.selects q.1.cls q.1 q.1 ∈ TB := List.mem_filter.mpr ⟨List.mem_append_left _ (List.mem_map.mpr ⟨q, h, rfl⟩), g⟩
/-! The world: every object of both systems by a name (kind, line, number); all that changes is a whole number: G kind line number slot. -/
abbrev Gm : Type := Nat → Nat → Nat → Nat → Int32
def gm_up (G : Gm) (a b c k : Nat) (v : Int32) : Gm := fun a' b' c' k' => if a' = a ∧ b' = b ∧ c' = c ∧ k' = k then v else G a' b' c' k'
def gm_len (b c : Nat) : Nat := if b < 4 then (if c = 0 then 12 else 300) else if b = 4 then 60 else if c = 2 then 5724 else if c = 3 then 60 else if c = 4 then 180 else 2862
abbrev gm_Rf (f : Nat → Option Nat) : (Nat → Int32) ⊕ (Nat → Int64) ⊕ (Nat → UInt32) ⊕ (Nat → UInt64) ⊕ (Nat → Option Nat) := .inr (.inr (.inr (.inr f)))
/-- what a cell holds, of its own whole numbers g -/
def gm_cel (cy : Nat → ClassId) (ad : Nat → Nat → Nat → Nat) (g : Nat → Int32) (a b c : Nat) : va_E := match a with
  | 0 => .inr (0, [.ref (ad 4 b (c / 2)), .int (nI (c % 2)), .int (g 2), .int (g 3), .int (g 4), .int (g 5), .int (g 6)])
  | 1 => .inr (1, [.ref (ad 12 b 0), .ref (ad 10 b 0), .ref (ad 13 b 0), .ref (ad 8 b 0), .ref (ad 3 b 0), .int (g 5), .int (g 6), .int (g 7)])
  | 2 => .inr (2, [.ref (ad 8 4 0), .int (g 1), .int (g 2), .int (g 3), .int (g 4), .int (g 5)])
  | 3 => .inr (3, [.ref (ad 8 b 1), .int (g 1)])
  | 4 => .inr (4, [.int (nI c), .int (g 1), .int (g 2), .int (g 3), .int (g 4), .int (g 5)])
  | 5 => .inr (5, [.int (nI c), .int (g 1), .int (g 2), .int (g 3), .int (g 4), .int (g 5), .int (g 6), .int (g 7), .int (g 8)])
  | 6 => .inr (6, [.ref (ad 1 0 0), .ref (ad 1 1 0), .ref (ad 11 4 0), .ref (ad 9 4 0), .ref (ad 2 4 0)])
  | 7 => .inr (7, [.ref (ad 8 5 0), .ref (ad 8 5 1), .ref (ad 8 5 2), .ref (ad 9 5 0), .ref (ad 8 5 3), .int (g 5), .int (g 6), .int (g 7), .ref (ad 8 5 4), .int (g 9)])
  | 8 => .inl (cy 0, gm_len b c, .inl g)
  | 9 => .inl (cy 1, 2, .inl g)
  | 10 => .inl (cy 2, 10, gm_Rf (fun k => some (ad 0 b k)))
  | 11 => .inl (cy 3, 2, gm_Rf (fun k => some (ad 1 (k + 2) 0)))
  | 12 => .inl (cy 4, 5, gm_Rf (fun k => some (ad 4 b k)))
  | _ => .inl (cy 5, 12, gm_Rf (fun k => some (ad 5 b k)))
def gm_ids : List (Nat × Nat × Nat) := ((List.range 4).flatMap fun b => [(1, b, 0), (3, b, 0), (8, b, 0), (8, b, 1), (10, b, 0), (12, b, 0), (13, b, 0)] ++ (List.range 10).map (fun c => (0, b, c)) ++ (List.range 5).map (fun c => (4, b, c)) ++ (List.range 12).map (fun c => (5, b, c))) ++ [(2, 4, 0), (6, 4, 0), (8, 4, 0), (9, 4, 0), (11, 4, 0), (7, 5, 0), (8, 5, 0), (8, 5, 1), (8, 5, 2), (8, 5, 3), (8, 5, 4), (9, 5, 0)]
theorem gi_0 {b c : Nat} (h1 : b < 4) (h2 : c < 10) : (0, b, c) ∈ gm_ids := (by decide +kernel : ∀ b < 4, ∀ c < 10, (0, b, c) ∈ gm_ids) b h1 c h2
theorem gi_1 {b : Nat} (h1 : b < 4) : (1, b, 0) ∈ gm_ids := (by decide +kernel : ∀ b < 4, (1, b, 0) ∈ gm_ids) b h1
theorem gi_2 : (2, 4, 0) ∈ gm_ids := by decide +kernel
theorem gi_3 {b : Nat} (h1 : b < 4) : (3, b, 0) ∈ gm_ids := (by decide +kernel : ∀ b < 4, (3, b, 0) ∈ gm_ids) b h1
theorem gi_4 {b c : Nat} (h1 : b < 4) (h2 : c < 5) : (4, b, c) ∈ gm_ids := (by decide +kernel : ∀ b < 4, ∀ c < 5, (4, b, c) ∈ gm_ids) b h1 c h2
theorem gi_5 {b c : Nat} (h1 : b < 4) (h2 : c < 12) : (5, b, c) ∈ gm_ids := (by decide +kernel : ∀ b < 4, ∀ c < 12, (5, b, c) ∈ gm_ids) b h1 c h2
theorem gi_6 : (6, 4, 0) ∈ gm_ids := by decide +kernel
theorem gi_7 : (7, 5, 0) ∈ gm_ids := by decide +kernel
theorem gi_8 {b c : Nat} (h1 : b < 4) (h2 : c < 2) : (8, b, c) ∈ gm_ids := (by decide +kernel : ∀ b < 4, ∀ c < 2, (8, b, c) ∈ gm_ids) b h1 c h2
theorem gi_84 : (8, 4, 0) ∈ gm_ids := by decide +kernel
theorem gi_85 {c : Nat} (h2 : c < 5) : (8, 5, c) ∈ gm_ids := (by decide +kernel : ∀ c < 5, (8, 5, c) ∈ gm_ids) c h2
theorem gi_94 : (9, 4, 0) ∈ gm_ids := by decide +kernel
theorem gi_95 : (9, 5, 0) ∈ gm_ids := by decide +kernel
theorem gi_10 {b : Nat} (h1 : b < 4) : (10, b, 0) ∈ gm_ids := (by decide +kernel : ∀ b < 4, (10, b, 0) ∈ gm_ids) b h1
theorem gi_11 : (11, 4, 0) ∈ gm_ids := by decide +kernel
theorem gi_12 {b : Nat} (h1 : b < 4) : (12, b, 0) ∈ gm_ids := (by decide +kernel : ∀ b < 4, (12, b, 0) ∈ gm_ids) b h1
theorem gi_13 {b : Nat} (h1 : b < 4) : (13, b, 0) ∈ gm_ids := (by decide +kernel : ∀ b < 4, (13, b, 0) ∈ gm_ids) b h1
theorem gm_nd : ∀ i j : Nat, i < 148 → j < 148 → gm_ids[i]? = gm_ids[j]? → i = j := by
  intro i j hi hj h
  exact (by decide +kernel : ∀ i < 148, ∀ j < 148, gm_ids[i]? = gm_ids[j]? → i = j) i hi j hj h
theorem gm_ln : gm_ids.length = 148 := by decide +kernel
abbrev gm_Wd : Type := Launch × (Nat → ClassId) × (Nat → Nat → Nat) × (Nat → ClassId) × (Nat → Nat → Nat → Nat)
abbrev gm_D (w : gm_Wd) : va_G := (w.2.1, w.2.2.1)
abbrev gm_cy (w : gm_Wd) : Nat → ClassId := w.2.2.2.1
abbrev gm_ad (w : gm_Wd) : Nat → Nat → Nat → Nat := w.2.2.2.2
def gm_w (w : gm_Wd) (G : Gm) : va_W := gm_ids.map fun o => (gm_ad w o.1 o.2.1 o.2.2, gm_cel (gm_cy w) (gm_ad w) (G o.1 o.2.1 o.2.2) o.1 o.2.1 o.2.2)
theorem gm_at {a b c : Nat} (h : (a, b, c) ∈ gm_ids) : ∃ k : Nat, gm_ids[k]? = some (a, b, c) := List.getElem?_of_mem h
theorem gm_w_at (w : gm_Wd) (G : Gm) {a b c k : Nat} (h : gm_ids[k]? = some (a, b, c)) : (gm_w w G)[k]? = some (gm_ad w a b c, gm_cel (gm_cy w) (gm_ad w) (G a b c) a b c) := by
  unfold gm_w
  rw [List.getElem?_map, h]
  rfl
theorem gm_inj {i j : Nat} {o : Nat × Nat × Nat} (h1 : gm_ids[i]? = some o) (h2 : gm_ids[j]? = some o) : i = j := by
  have a1 := (List.getElem?_eq_some_iff.mp h1).1
  have a2 := (List.getElem?_eq_some_iff.mp h2).1
  rw [gm_ln] at a1 a2
  exact gm_nd i j a1 a2 (h1.trans h2.symm)
theorem gm_set (w : gm_Wd) {G G' : Gm} {a b c k : Nat} (h : gm_ids[k]? = some (a, b, c)) (hG : ∀ a' b' c', ¬ (a' = a ∧ b' = b ∧ c' = c) → G' a' b' c' = G a' b' c') : (gm_w w G).set k (gm_ad w a b c, gm_cel (gm_cy w) (gm_ad w) (G' a b c) a b c) = gm_w w G' := by
  apply List.ext_getElem?
  intro j
  rw [List.getElem?_set]
  by_cases hj : k = j
  · subst hj
    have hl : k < (gm_w w G).length := by
      unfold gm_w
      rw [List.length_map]
      exact (List.getElem?_eq_some_iff.mp h).1
    rw [if_pos rfl, if_pos hl, gm_w_at w G' h]
  · rw [if_neg hj]
    unfold gm_w
    rw [List.getElem?_map, List.getElem?_map]
    cases ho : gm_ids[j]? with
    | none => rfl
    | some o =>
      obtain ⟨a', b', c'⟩ := o
      have hne : ¬ (a' = a ∧ b' = b ∧ c' = c) := by
        rintro ⟨rfl, rfl, rfl⟩
        exact hj (gm_inj h ho)
      simp only [Option.map_some]
      rw [hG a' b' c' hne]
theorem gm_up_ne {G : Gm} {a b c k : Nat} {v : Int32} : ∀ a' b' c', ¬ (a' = a ∧ b' = b ∧ c' = c) → gm_up G a b c k v a' b' c' = G a' b' c' := by
  intro a' b' c' h
  funext k'
  unfold gm_up
  rw [if_neg]
  rintro ⟨h1, h2, h3, -⟩
  exact h ⟨h1, h2, h3⟩
theorem gm_up_at {G : Gm} {a b c k : Nat} {v : Int32} : gm_up G a b c k v a b c = upd (G a b c) k v := by
  funext k'
  simp [gm_up, upd]
def gm_A (w : gm_Wd) : Nat → Prop := fun q => ∃ a b c : Nat, (a, b, c) ∈ gm_ids ∧ q = gm_ad w a b c
def gm_J (w : gm_Wd) : Prop := ∀ a b c a' b' c' : Nat, (a, b, c) ∈ gm_ids → (a', b', c') ∈ gm_ids → gm_ad w a b c = gm_ad w a' b' c' → (a, b, c) = (a', b', c')
theorem gm_dis {w : gm_Wd} (hJ : gm_J w) (G : Gm) : va_D (gm_A w) (gm_w w G) := by
  have key : ∀ (i : Nat) (p : Nat × va_E), (gm_w w G)[i]? = some p → ∃ a b c, gm_ids[i]? = some (a, b, c) ∧ p.1 = gm_ad w a b c := by
    intro i p h
    unfold gm_w at h
    rw [List.getElem?_map] at h
    cases ho : gm_ids[i]? with
    | none => rw [ho] at h; cases h
    | some o =>
      obtain ⟨a, b, c⟩ := o
      rw [ho] at h
      exact ⟨a, b, c, rfl, by rw [← Option.some.inj h]⟩
  refine ⟨fun i j p q h1 h2 he => ?_, fun k q h => ?_⟩
  · obtain ⟨a, b, c, g1, e1⟩ := key i p h1
    obtain ⟨a', b', c', g2, e2⟩ := key j q h2
    have := hJ a b c a' b' c' (List.mem_of_getElem? g1) (List.mem_of_getElem? g2) (by rw [← e1, ← e2, he])
    rw [this] at g1
    exact gm_inj g1 g2
  · obtain ⟨a, b, c, g1, e1⟩ := key k q h
    exact ⟨a, b, c, List.mem_of_getElem? g1, e1⟩
def gm_tys (w : gm_Wd) : List (ClassId × FieldType) := [(gm_cy w 0, .int), (gm_cy w 1, .boolean), (gm_cy w 2, .object RX0), (gm_cy w 3, .object RX1), (gm_cy w 4, .object RX4), (gm_cy w 5, .object RX5)]
def gm_K (w : gm_Wd) (U : State) : Prop := va_K (gm_D w) vwCl (gm_tys w) U ∧ va_Nw (.methodLinkNest RX1 176 yX6_isDirection RX6) U ∧ va_Nw (.methodLinkNest RX1 213 yX6_offerCode RX6) U
theorem gm_K_warm {w : gm_Wd} {s U : State} (hW : s.WarmedH U.vm) (h : gm_K w s) : gm_K w U := ⟨va_K.moved hW.alike h.1, va_Nw.warmM hW h.2.1, va_Nw.warmM hW h.2.2⟩
theorem gm_K_same {w : gm_Wd} {s U : State} (hW : s.vm = U.vm) (h : gm_K w s) : gm_K w U := ⟨va_K.moved (hW ▸ Vm.Alike.refl s.vm) h.1, va_Nw.same rfl hW h.2.1, va_Nw.same rfl hW h.2.2⟩
abbrev gm_rm (rk : Nat) : Room := { frames := rk, cells := 0, slots := 0, locals := 36 * rk }
/-- A CONTRACT: with the world G the method answers r, and the world is G' -/
def gm_C (w : gm_Wd) (y : MethodName) (cc : ByteArray) (mL : Nat) (ret : Option FieldType) (rk : Nat) (av : List Value) (G : Gm) (r : Option Value) (G' : Gm) : Prop :=
  Met w.1 y (Cond.code y cc mL ret :: TB) (gm_rm rk) (va_Pc av (fun U => va_P (gm_D w) vwCl (gm_w w G) U.heap ∧ gm_K w U ∧ gm_J w))
    (fun _ st oc t => (oc = .returned r ∧ va_P (gm_D w) vwCl (gm_w w G') t.heap) ∧ va_F (gm_A w) st t) 0 0 (gm_A w)
theorem gm_in {y : MethodName} {cc : ByteArray} {mL : Nat} {ret : Option FieldType} (hy : Cond.code y cc mL ret ∈ TB) : GoodIn TB (Cond.code y cc mL ret :: TB) := by
  intro q hq
  have hm : q ∈ TB := by
    rcases List.mem_cons.mp hq with h | h
    · rw [h]; exact hy
    · exact h
  exact ⟨hm, good_of_word (tb_ok q hm)⟩
/-- where a walk stands: machine, frame, what is asked, what may change, the world's numbers -/
abbrev gm_Cx : Type := Program × Env × Room × State × MethodId × Array Value × List Frame × Method × Code × (State → Prop) × (Nat → Prop) × (Nat × Nat) × gm_Wd
abbrev cx_p (x : gm_Cx) : Program := x.1
abbrev cx_e (x : gm_Cx) : Env := x.2.1
abbrev cx_R (x : gm_Cx) : Room := x.2.2.1
abbrev cx_s (x : gm_Cx) : State := x.2.2.2.1
abbrev cx_m (x : gm_Cx) : MethodId := x.2.2.2.2.1
abbrev cx_args (x : gm_Cx) : Array Value := x.2.2.2.2.2.1
abbrev cx_below (x : gm_Cx) : List Frame := x.2.2.2.2.2.2.1
abbrev cx_meth (x : gm_Cx) : Method := x.2.2.2.2.2.2.2.1
abbrev cx_c (x : gm_Cx) : Code := x.2.2.2.2.2.2.2.2.1
abbrev cx_Q (x : gm_Cx) : State → Prop := x.2.2.2.2.2.2.2.2.2.1
abbrev cx_A (x : gm_Cx) : Nat → Prop := x.2.2.2.2.2.2.2.2.2.2.1
abbrev cx_k (x : gm_Cx) : Nat × Nat := x.2.2.2.2.2.2.2.2.2.2.2.1
abbrev cx_w (x : gm_Cx) : gm_Wd := x.2.2.2.2.2.2.2.2.2.2.2.2
/-- what holds of it, all the way -/
def gm_X (x : gm_Cx) (cc : ByteArray) (nL : Nat) (own : String) (ret : Option FieldType) (rk : Nat) : Prop :=
  (cx_p x).tables.exec = Jvm.exec ∧ (cx_c x).code = cc ∧ (cx_c x).maxLocals = nL ∧ (cx_s x).vm.findClass own = some (cx_m x).cls ∧ (∀ w ∈ TB, w.before (cx_args x) (cx_s x) = true) ∧ gm_K (cx_w x) (cx_s x) ∧ gm_J (cx_w x) ∧ (cx_meth x).sig.returnType = ret ∧ (cx_meth x).locks = false ∧ (∀ q, gm_A (cx_w x) q → cx_A x q) ∧ (rk ≤ (cx_R x).frames ∧ 36 * rk ≤ (cx_R x).locals ∧ (cx_k x).1 ≤ (cx_R x).cells ∧ (cx_k x).2 ≤ (cx_R x).slots)
/-- the machine, at pc with these locals and this stack, in the world G, comes to what is asked -/
def gm_V (x : gm_Cx) (G : Gm) (pc : Nat) (lv : List (Nat × Value)) (st : List Value) : Prop :=
  ∀ (H : Heap) (locs : List Loc) (ls : Array Slot), va_P (gm_D (cx_w x)) vwCl (gm_w (cx_w x) G) H → va_S (cx_A x) (cx_s x).heap H locs → lv_has ls (cx_c x).maxLocals lv → W (cx_p x) (cx_w x).1 (cx_e x) (cx_R x) (cx_s x) (cx_m x) (cx_args x) (cx_below x) (cx_meth x) (cx_c x) H locs (cx_k x).1 (cx_k x).2 (cx_Q x) (F0 (cx_m x) pc ls st)
end
section
section
variable {x : gm_Cx} {cc : ByteArray} {nL : Nat} {own : String} {ret : Option FieldType} {rk : Nat} {G : Gm} {pc : Nat} {lv : List (Nat × Value)} {st : List Value}
theorem gv_iconst (C : gm_X x cc nL own ret rk) {z : Int} (v : Int32) (hv : Int32.ofInt z = v) (d : decode cc pc = .ok (.iconst z, 1)) (n : Nat) (hn : pc + 1 = n) (k : gm_V x G n lv (.int v :: st)) : gm_V x G pc lv (st) := by
  subst hn
  exact fun H locs ls hP hS hl => lv_iconst C.1 C.2.1 d hv (k H locs ls hP hS hl)
theorem gv_bipush (C : gm_X x cc nL own ret rk) {z : Int} (v : Int32) (hv : (Int8.ofInt z).toInt32 = v) (d : decode cc pc = .ok (.bipush z, 2)) (n : Nat) (hn : pc + 2 = n) (k : gm_V x G n lv (.int v :: st)) : gm_V x G pc lv (st) := by
  subst hn
  exact fun H locs ls hP hS hl => lv_bipush C.1 C.2.1 d hv (k H locs ls hP hS hl)
theorem gv_sipush (C : gm_X x cc nL own ret rk) {z : Int} (v : Int32) (hv : (Int16.ofInt z).toInt32 = v) (d : decode cc pc = .ok (.sipush z, 3)) (n : Nat) (hn : pc + 3 = n) (k : gm_V x G n lv (.int v :: st)) : gm_V x G pc lv (st) := by
  subst hn
  exact fun H locs ls hP hS hl => lv_sipush C.1 C.2.1 d hv (k H locs ls hP hS hl)
theorem gv_ldc (C : gm_X x cc nL own ret rk) {z : Nat} (v : Int32) (hv : Cond.constant own z v ∈ TB) (d : decode cc pc = .ok (.ldc z, 2)) (n : Nat) (hn : pc + 2 = n) (k : gm_V x G n lv (.int v :: st)) : gm_V x G pc lv (st) := by
  subst hn
  exact fun H locs ls hP hS hl => lv_ldc C.1 C.2.1 C.2.2.2.1 (C.2.2.2.2.1 _ hv) d (k H locs ls hP hS hl)
theorem gv_iload_n (C : gm_X x cc nL own ret rk) {j : Fin 4} {i : Nat} {v : Int32} (hi : (j : Nat) = i) (q : Nat) (hq : lv[q]? = some (i, .int v)) (d : decode cc pc = .ok (.iload_n j, 1)) (n : Nat) (hn : pc + 1 = n) (k : gm_V x G n lv (.int v :: st)) : gm_V x G pc lv (st) := by
  subst hn
  exact fun H locs ls hP hS hl => lv_iload_n C.1 C.2.1 d hi (lv_at hl q hq) (k H locs ls hP hS hl)
theorem gv_iload (C : gm_X x cc nL own ret rk) {i : Nat} {v : Int32} (q : Nat) (hq : lv[q]? = some (i, .int v)) (d : decode cc pc = .ok (.iload i, 2)) (n : Nat) (hn : pc + 2 = n) (k : gm_V x G n lv (.int v :: st)) : gm_V x G pc lv (st) := by
  subst hn
  exact fun H locs ls hP hS hl => lv_iload C.1 C.2.1 d (lv_at hl q hq) (k H locs ls hP hS hl)
theorem gv_aload_n (C : gm_X x cc nL own ret rk) {j : Fin 4} {i : Nat} {v : Nat} (hi : (j : Nat) = i) (q : Nat) (hq : lv[q]? = some (i, .ref v)) (d : decode cc pc = .ok (.aload_n j, 1)) (n : Nat) (hn : pc + 1 = n) (k : gm_V x G n lv (.ref v :: st)) : gm_V x G pc lv (st) := by
  subst hn
  exact fun H locs ls hP hS hl => lv_aload_n C.1 C.2.1 d hi (lv_at hl q hq) (k H locs ls hP hS hl)
theorem gv_aload (C : gm_X x cc nL own ret rk) {i : Nat} {v : Nat} (q : Nat) (hq : lv[q]? = some (i, .ref v)) (d : decode cc pc = .ok (.aload i, 2)) (n : Nat) (hn : pc + 2 = n) (k : gm_V x G n lv (.ref v :: st)) : gm_V x G pc lv (st) := by
  subst hn
  exact fun H locs ls hP hS hl => lv_aload C.1 C.2.1 d (lv_at hl q hq) (k H locs ls hP hS hl)
theorem gv_aload_nN (C : gm_X x cc nL own ret rk) {j : Fin 4} {i : Nat} (hi : (j : Nat) = i) (q : Nat) (hq : lv[q]? = some (i, .null)) (d : decode cc pc = .ok (.aload_n j, 1)) (n : Nat) (hn : pc + 1 = n) (k : gm_V x G n lv (.null :: st)) : gm_V x G pc lv (st) := by
  subst hn
  exact fun H locs ls hP hS hl => lv_aload_nN C.1 C.2.1 d hi (lv_at hl q hq) (k H locs ls hP hS hl)
theorem gv_aloadN (C : gm_X x cc nL own ret rk) {i : Nat} (q : Nat) (hq : lv[q]? = some (i, .null)) (d : decode cc pc = .ok (.aload i, 2)) (n : Nat) (hn : pc + 2 = n) (k : gm_V x G n lv (.null :: st)) : gm_V x G pc lv (st) := by
  subst hn
  exact fun H locs ls hP hS hl => lv_aloadN C.1 C.2.1 d (lv_at hl q hq) (k H locs ls hP hS hl)
theorem gv_iadd (C : gm_X x cc nL own ret rk) {a b : Int32} (d : decode cc pc = .ok (.iadd, 1)) (n : Nat) (hn : pc + 1 = n) (k : gm_V x G n lv (.int (a + b) :: st)) : gm_V x G pc lv (.int b :: .int a :: st) := by
  subst hn
  exact fun H locs ls hP hS hl => lv_iadd C.1 C.2.1 d (k H locs ls hP hS hl)
theorem gv_isub (C : gm_X x cc nL own ret rk) {a b : Int32} (d : decode cc pc = .ok (.isub, 1)) (n : Nat) (hn : pc + 1 = n) (k : gm_V x G n lv (.int (a - b) :: st)) : gm_V x G pc lv (.int b :: .int a :: st) := by
  subst hn
  exact fun H locs ls hP hS hl => lv_isub C.1 C.2.1 d (k H locs ls hP hS hl)
theorem gv_imul (C : gm_X x cc nL own ret rk) {a b : Int32} (d : decode cc pc = .ok (.imul, 1)) (n : Nat) (hn : pc + 1 = n) (k : gm_V x G n lv (.int (a * b) :: st)) : gm_V x G pc lv (.int b :: .int a :: st) := by
  subst hn
  exact fun H locs ls hP hS hl => lv_imul C.1 C.2.1 d (k H locs ls hP hS hl)
theorem gv_iand (C : gm_X x cc nL own ret rk) {a b : Int32} (d : decode cc pc = .ok (.iand, 1)) (n : Nat) (hn : pc + 1 = n) (k : gm_V x G n lv (.int (a &&& b) :: st)) : gm_V x G pc lv (.int b :: .int a :: st) := by
  subst hn
  exact fun H locs ls hP hS hl => lv_iand C.1 C.2.1 d (k H locs ls hP hS hl)
theorem gv_ishl (C : gm_X x cc nL own ret rk) {a b : Int32} (d : decode cc pc = .ok (.ishl, 1)) (n : Nat) (hn : pc + 1 = n) (k : gm_V x G n lv (.int (a <<< (b &&& 31)) :: st)) : gm_V x G pc lv (.int b :: .int a :: st) := by
  subst hn
  exact fun H locs ls hP hS hl => lv_ishl C.1 C.2.1 d (k H locs ls hP hS hl)
theorem gv_ishr (C : gm_X x cc nL own ret rk) {a b : Int32} (d : decode cc pc = .ok (.ishr, 1)) (n : Nat) (hn : pc + 1 = n) (k : gm_V x G n lv (.int (a >>> (b &&& 31)) :: st)) : gm_V x G pc lv (.int b :: .int a :: st) := by
  subst hn
  exact fun H locs ls hP hS hl => lv_ishr C.1 C.2.1 d (k H locs ls hP hS hl)
theorem gv_irem (C : gm_X x cc nL own ret rk) {a b : Int32} (hb : ¬ b = 0) (d : decode cc pc = .ok (.irem, 1)) (n : Nat) (hn : pc + 1 = n) (k : gm_V x G n lv (.int (a - a / b * b) :: st)) : gm_V x G pc lv (.int b :: .int a :: st) := by
  subst hn
  exact fun H locs ls hP hS hl => lv_irem C.1 C.2.1 d hb (k H locs ls hP hS hl)
theorem gv_dup (C : gm_X x cc nL own ret rk) {v : Value} (hv : v.category = 1) (d : decode cc pc = .ok (.dup, 1)) (n : Nat) (hn : pc + 1 = n) (k : gm_V x G n lv (v :: v :: st)) : gm_V x G pc lv (v :: st) := by
  subst hn
  exact fun H locs ls hP hS hl => lv_dup C.1 C.2.1 d hv (k H locs ls hP hS hl)
theorem gv_pop (C : gm_X x cc nL own ret rk) {v : Value} (hv : v.category = 1) (d : decode cc pc = .ok (.pop, 1)) (n : Nat) (hn : pc + 1 = n) (k : gm_V x G n lv (st)) : gm_V x G pc lv (v :: st) := by
  subst hn
  exact fun H locs ls hP hS hl => lv_pop C.1 C.2.1 d hv (k H locs ls hP hS hl)
theorem gv_dup2 (C : gm_X x cc nL own ret rk) {v u : Value} (hv : v.category = 1) (hu : u.category = 1) (d : decode cc pc = .ok (.dup2, 1)) (n : Nat) (hn : pc + 1 = n) (k : gm_V x G n lv (v :: u :: v :: u :: st)) : gm_V x G pc lv (v :: u :: st) := by
  subst hn
  exact fun H locs ls hP hS hl => lv_dup2_11 C.1 C.2.1 d hv hu (k H locs ls hP hS hl)
theorem gv_null (C : gm_X x cc nL own ret rk)  (d : decode cc pc = .ok (.aconst_null, 1)) (n : Nat) (hn : pc + 1 = n) (k : gm_V x G n lv (.null :: st)) : gm_V x G pc lv (st) := by
  subst hn
  exact fun H locs ls hP hS hl => lv_null C.1 C.2.1 d (k H locs ls hP hS hl)
theorem gv_ifnull (C : gm_X x cc nL own ret rk) {o : Int} {v : Nat} (d : decode cc pc = .ok (.ifnull o, 3)) (n : Nat) (hn : pc + 3 = n) (k : gm_V x G n lv (st)) : gm_V x G pc lv (.ref v :: st) := by
  subst hn
  exact fun H locs ls hP hS hl => lv_ifnull C.1 C.2.1 d (k H locs ls hP hS hl)
theorem gv_ifnonnullN (C : gm_X x cc nL own ret rk) {o : Int} (d : decode cc pc = .ok (.ifnonnull o, 3)) (n : Nat) (hn : pc + 3 = n) (k : gm_V x G n lv (st)) : gm_V x G pc lv (.null :: st) := by
  subst hn
  exact fun H locs ls hP hS hl => lv_ifnonnullN C.1 C.2.1 d (k H locs ls hP hS hl)
theorem gv_istore_n (C : gm_X x cc nL own ret rk) {j : Fin 4} {i : Nat} {v : Int32} (hi : (j : Nat) = i) (lv' : List (Nat × Value)) (hi' : i < nL) (hlv : (i, Value.int v) :: lv.filter (fun q => !(q.1 == i) && !(q.1 + 1 == i && q.2.category == 2)) = lv') (d : decode cc pc = .ok (.istore_n j, 1)) (n : Nat) (hn : pc + 1 = n) (k : gm_V x G n lv' (st)) : gm_V x G pc lv (.int v :: st) := by
  subst hn
  exact fun H locs ls hP hS hl => lv_istore_n C.1 C.2.1 d hi hl (by rw [C.2.2.1]; exact hi') hlv (fun ls' hl' => k H locs ls' hP hS hl')
theorem gv_istore (C : gm_X x cc nL own ret rk) {i : Nat} {v : Int32} (lv' : List (Nat × Value)) (hi' : i < nL) (hlv : (i, Value.int v) :: lv.filter (fun q => !(q.1 == i) && !(q.1 + 1 == i && q.2.category == 2)) = lv') (d : decode cc pc = .ok (.istore i, 2)) (n : Nat) (hn : pc + 2 = n) (k : gm_V x G n lv' (st)) : gm_V x G pc lv (.int v :: st) := by
  subst hn
  exact fun H locs ls hP hS hl => lv_istore C.1 C.2.1 d hl (by rw [C.2.2.1]; exact hi') hlv (fun ls' hl' => k H locs ls' hP hS hl')
theorem gv_astore_n (C : gm_X x cc nL own ret rk) {j : Fin 4} {i : Nat} {v : Nat} (hi : (j : Nat) = i) (lv' : List (Nat × Value)) (hi' : i < nL) (hlv : (i, Value.ref v) :: lv.filter (fun q => !(q.1 == i) && !(q.1 + 1 == i && q.2.category == 2)) = lv') (d : decode cc pc = .ok (.astore_n j, 1)) (n : Nat) (hn : pc + 1 = n) (k : gm_V x G n lv' (st)) : gm_V x G pc lv (.ref v :: st) := by
  subst hn
  exact fun H locs ls hP hS hl => lv_astore_n C.1 C.2.1 d hi hl (by rw [C.2.2.1]; exact hi') hlv (fun ls' hl' => k H locs ls' hP hS hl')
theorem gv_astore (C : gm_X x cc nL own ret rk) {i : Nat} {v : Nat} (lv' : List (Nat × Value)) (hi' : i < nL) (hlv : (i, Value.ref v) :: lv.filter (fun q => !(q.1 == i) && !(q.1 + 1 == i && q.2.category == 2)) = lv') (d : decode cc pc = .ok (.astore i, 2)) (n : Nat) (hn : pc + 2 = n) (k : gm_V x G n lv' (st)) : gm_V x G pc lv (.ref v :: st) := by
  subst hn
  exact fun H locs ls hP hS hl => lv_astore C.1 C.2.1 d hl (by rw [C.2.2.1]; exact hi') hlv (fun ls' hl' => k H locs ls' hP hS hl')
theorem gv_astore_nN (C : gm_X x cc nL own ret rk) {j : Fin 4} {i : Nat} (hi : (j : Nat) = i) (lv' : List (Nat × Value)) (hi' : i < nL) (hlv : (i, Value.null) :: lv.filter (fun q => !(q.1 == i) && !(q.1 + 1 == i && q.2.category == 2)) = lv') (d : decode cc pc = .ok (.astore_n j, 1)) (n : Nat) (hn : pc + 1 = n) (k : gm_V x G n lv' (st)) : gm_V x G pc lv (.null :: st) := by
  subst hn
  exact fun H locs ls hP hS hl => lv_astore_nN C.1 C.2.1 d hi hl (by rw [C.2.2.1]; exact hi') hlv (fun ls' hl' => k H locs ls' hP hS hl')
theorem gv_astoreN (C : gm_X x cc nL own ret rk) {i : Nat} (lv' : List (Nat × Value)) (hi' : i < nL) (hlv : (i, Value.null) :: lv.filter (fun q => !(q.1 == i) && !(q.1 + 1 == i && q.2.category == 2)) = lv') (d : decode cc pc = .ok (.astore i, 2)) (n : Nat) (hn : pc + 2 = n) (k : gm_V x G n lv' (st)) : gm_V x G pc lv (.null :: st) := by
  subst hn
  exact fun H locs ls hP hS hl => lv_astoreN C.1 C.2.1 d hl (by rw [C.2.2.1]; exact hi') hlv (fun ls' hl' => k H locs ls' hP hS hl')
theorem gv_iinc (C : gm_X x cc nL own ret rk) {i : Nat} {z : Int} {v u : Int32} (q : Nat) (hq : lv[q]? = some (i, .int v)) (hu : v + Int32.ofInt z = u) (lv' : List (Nat × Value)) (hi' : i < nL) (hlv : (i, Value.int u) :: lv.filter (fun q => !(q.1 == i) && !(q.1 + 1 == i && q.2.category == 2)) = lv') (d : decode cc pc = .ok (.iinc i z, 3)) (n : Nat) (hn : pc + 3 = n) (k : gm_V x G n lv' (st)) : gm_V x G pc lv (st) := by
  subst hn
  exact fun H locs ls hP hS hl => lv_iinc C.1 C.2.1 d hl hq hu (by rw [C.2.2.1]; exact hi') hlv (fun ls' hl' => k H locs ls' hP hS hl')
theorem gv_if_eq (C : gm_X x cc nL own ret rk) {a : Int32} {o : Int} (d : decode cc pc = .ok (.ifCond .eq o, 3)) (t : Nat) (ht : (pc : Int) + o = (t : Int)) (n : Nat) (hn : pc + 3 = n) (kp : a = 0 → gm_V x G t lv st) (kn : ¬ a = 0 → gm_V x G n lv st) : gm_V x G pc lv (.int a :: st) := by
  subst hn
  exact fun H locs ls hP hS hl => lv_if_eq C.1 C.2.1 d ht (fun c => kp c H locs ls hP hS hl) (fun c => kn c H locs ls hP hS hl)
theorem gv_if_lt (C : gm_X x cc nL own ret rk) {a : Int32} {o : Int} (d : decode cc pc = .ok (.ifCond .lt o, 3)) (t : Nat) (ht : (pc : Int) + o = (t : Int)) (n : Nat) (hn : pc + 3 = n) (kp : a < 0 → gm_V x G t lv st) (kn : ¬ a < 0 → gm_V x G n lv st) : gm_V x G pc lv (.int a :: st) := by
  subst hn
  exact fun H locs ls hP hS hl => lv_if_lt C.1 C.2.1 d ht (fun c => kp c H locs ls hP hS hl) (fun c => kn c H locs ls hP hS hl)
theorem gv_if_ge (C : gm_X x cc nL own ret rk) {a : Int32} {o : Int} (d : decode cc pc = .ok (.ifCond .ge o, 3)) (t : Nat) (ht : (pc : Int) + o = (t : Int)) (n : Nat) (hn : pc + 3 = n) (kp : 0 ≤ a → gm_V x G t lv st) (kn : ¬ 0 ≤ a → gm_V x G n lv st) : gm_V x G pc lv (.int a :: st) := by
  subst hn
  exact fun H locs ls hP hS hl => lv_if_ge C.1 C.2.1 d ht (fun c => kp c H locs ls hP hS hl) (fun c => kn c H locs ls hP hS hl)
theorem gv_if_gt (C : gm_X x cc nL own ret rk) {a : Int32} {o : Int} (d : decode cc pc = .ok (.ifCond .gt o, 3)) (t : Nat) (ht : (pc : Int) + o = (t : Int)) (n : Nat) (hn : pc + 3 = n) (kp : 0 < a → gm_V x G t lv st) (kn : ¬ 0 < a → gm_V x G n lv st) : gm_V x G pc lv (.int a :: st) := by
  subst hn
  exact fun H locs ls hP hS hl => lv_if_gt C.1 C.2.1 d ht (fun c => kp c H locs ls hP hS hl) (fun c => kn c H locs ls hP hS hl)
theorem gv_if_le (C : gm_X x cc nL own ret rk) {a : Int32} {o : Int} (d : decode cc pc = .ok (.ifCond .le o, 3)) (t : Nat) (ht : (pc : Int) + o = (t : Int)) (n : Nat) (hn : pc + 3 = n) (kp : a ≤ 0 → gm_V x G t lv st) (kn : ¬ a ≤ 0 → gm_V x G n lv st) : gm_V x G pc lv (.int a :: st) := by
  subst hn
  exact fun H locs ls hP hS hl => lv_if_le C.1 C.2.1 d ht (fun c => kp c H locs ls hP hS hl) (fun c => kn c H locs ls hP hS hl)
theorem gv_if_ne (C : gm_X x cc nL own ret rk) {a : Int32} {o : Int} (d : decode cc pc = .ok (.ifCond .ne o, 3)) (t : Nat) (ht : (pc : Int) + o = (t : Int)) (n : Nat) (hn : pc + 3 = n) (kp : a = 0 → gm_V x G n lv st) (kn : ¬ a = 0 → gm_V x G t lv st) : gm_V x G pc lv (.int a :: st) := by
  subst hn
  exact fun H locs ls hP hS hl => lv_if_ne C.1 C.2.1 d ht (fun c => kn c H locs ls hP hS hl) (fun c => kp c H locs ls hP hS hl)
theorem gv_icmp_eq (C : gm_X x cc nL own ret rk) {a b : Int32} {o : Int} (d : decode cc pc = .ok (.if_icmp .eq o, 3)) (t : Nat) (ht : (pc : Int) + o = (t : Int)) (n : Nat) (hn : pc + 3 = n) (kp : a = b → gm_V x G t lv st) (kn : ¬ a = b → gm_V x G n lv st) : gm_V x G pc lv (.int b :: .int a :: st) := by
  subst hn
  exact fun H locs ls hP hS hl => lv_icmp_eq C.1 C.2.1 d ht (fun c => kp c H locs ls hP hS hl) (fun c => kn c H locs ls hP hS hl)
theorem gv_icmp_lt (C : gm_X x cc nL own ret rk) {a b : Int32} {o : Int} (d : decode cc pc = .ok (.if_icmp .lt o, 3)) (t : Nat) (ht : (pc : Int) + o = (t : Int)) (n : Nat) (hn : pc + 3 = n) (kp : a < b → gm_V x G t lv st) (kn : ¬ a < b → gm_V x G n lv st) : gm_V x G pc lv (.int b :: .int a :: st) := by
  subst hn
  exact fun H locs ls hP hS hl => lv_icmp_lt C.1 C.2.1 d ht (fun c => kp c H locs ls hP hS hl) (fun c => kn c H locs ls hP hS hl)
theorem gv_icmp_ge (C : gm_X x cc nL own ret rk) {a b : Int32} {o : Int} (d : decode cc pc = .ok (.if_icmp .ge o, 3)) (t : Nat) (ht : (pc : Int) + o = (t : Int)) (n : Nat) (hn : pc + 3 = n) (kp : b ≤ a → gm_V x G t lv st) (kn : ¬ b ≤ a → gm_V x G n lv st) : gm_V x G pc lv (.int b :: .int a :: st) := by
  subst hn
  exact fun H locs ls hP hS hl => lv_icmp_ge C.1 C.2.1 d ht (fun c => kp c H locs ls hP hS hl) (fun c => kn c H locs ls hP hS hl)
theorem gv_icmp_gt (C : gm_X x cc nL own ret rk) {a b : Int32} {o : Int} (d : decode cc pc = .ok (.if_icmp .gt o, 3)) (t : Nat) (ht : (pc : Int) + o = (t : Int)) (n : Nat) (hn : pc + 3 = n) (kp : b < a → gm_V x G t lv st) (kn : ¬ b < a → gm_V x G n lv st) : gm_V x G pc lv (.int b :: .int a :: st) := by
  subst hn
  exact fun H locs ls hP hS hl => lv_icmp_gt C.1 C.2.1 d ht (fun c => kp c H locs ls hP hS hl) (fun c => kn c H locs ls hP hS hl)
theorem gv_icmp_le (C : gm_X x cc nL own ret rk) {a b : Int32} {o : Int} (d : decode cc pc = .ok (.if_icmp .le o, 3)) (t : Nat) (ht : (pc : Int) + o = (t : Int)) (n : Nat) (hn : pc + 3 = n) (kp : a ≤ b → gm_V x G t lv st) (kn : ¬ a ≤ b → gm_V x G n lv st) : gm_V x G pc lv (.int b :: .int a :: st) := by
  subst hn
  exact fun H locs ls hP hS hl => lv_icmp_le C.1 C.2.1 d ht (fun c => kp c H locs ls hP hS hl) (fun c => kn c H locs ls hP hS hl)
theorem gv_icmp_ne (C : gm_X x cc nL own ret rk) {a b : Int32} {o : Int} (d : decode cc pc = .ok (.if_icmp .ne o, 3)) (t : Nat) (ht : (pc : Int) + o = (t : Int)) (n : Nat) (hn : pc + 3 = n) (kp : a = b → gm_V x G n lv st) (kn : ¬ a = b → gm_V x G t lv st) : gm_V x G pc lv (.int b :: .int a :: st) := by
  subst hn
  exact fun H locs ls hP hS hl => lv_icmp_ne C.1 C.2.1 d ht (fun c => kn c H locs ls hP hS hl) (fun c => kp c H locs ls hP hS hl)
theorem gv_goto (C : gm_X x cc nL own ret rk) {o : Int} (d : decode cc pc = .ok (.goto o, 3)) (t : Nat) (ht : (pc : Int) + o = (t : Int)) (k : gm_V x G t lv st) : gm_V x G pc lv st := fun H locs ls hP hS hl => lv_goto C.1 C.2.1 d ht (k H locs ls hP hS hl)
theorem gv_ifnonnull (C : gm_X x cc nL own ret rk) {o : Int} {v : Nat} (d : decode cc pc = .ok (.ifnonnull o, 3)) (t : Nat) (ht : (pc : Int) + o = (t : Int)) (k : gm_V x G t lv st) : gm_V x G pc lv (.ref v :: st) := fun H locs ls hP hS hl => lv_ifnonnull C.1 C.2.1 d ht (k H locs ls hP hS hl)
theorem gv_ifnullN (C : gm_X x cc nL own ret rk) {o : Int} (d : decode cc pc = .ok (.ifnull o, 3)) (t : Nat) (ht : (pc : Int) + o = (t : Int)) (k : gm_V x G t lv st) : gm_V x G pc lv (.null :: st) := fun H locs ls hP hS hl => lv_ifnullN C.1 C.2.1 d ht (k H locs ls hP hS hl)
theorem gv_tableIn (C : gm_X x cc nL own ret rk) {df lo hi : Int} {os : Array Int} {ln : Nat} {a : Int32} (v : Int32) (hv : a = v) (d : decode cc pc = .ok (.tableswitch df lo hi os, ln)) (h1 : ¬ v.toInt < lo) (h2 : ¬ hi < v.toInt) {o : Int} (ho : os[(v.toInt - lo).toNat]? = some o) (t : Nat) (ht : (pc : Int) + o = (t : Int)) (k : gm_V x G t lv st) : gm_V x G pc lv (.int a :: st) := by
  subst hv
  exact fun H locs ls hP hS hl => lv_tableIn C.1 C.2.1 d h1 h2 ho ht (k H locs ls hP hS hl)
theorem gv_tableOut (C : gm_X x cc nL own ret rk) {df lo hi : Int} {os : Array Int} {ln : Nat} {a : Int32} (d : decode cc pc = .ok (.tableswitch df lo hi os, ln)) (h : a.toInt < lo ∨ hi < a.toInt) (t : Nat) (ht : (pc : Int) + df = (t : Int)) (k : gm_V x G t lv st) : gm_V x G pc lv (.int a :: st) := fun H locs ls hP hS hl => lv_tableOut C.1 C.2.1 d h ht (k H locs ls hP hS hl)
theorem gv_lookup (C : gm_X x cc nL own ret rk) {df : Int} {ps : Array (Int × Int)} {ln : Nat} {a : Int32} {o : Int} (d : decode cc pc = .ok (.lookupswitch df ps, ln)) (hp : (ps.toList.zip (ps.toList.drop 1)).all (fun (a, next) => a.1 < next.1) = true) (ho : Op.lookupswitch.offset ps.toList df a.toInt = o) (t : Nat) (ht : (pc : Int) + o = (t : Int)) (k : gm_V x G t lv st) : gm_V x G pc lv (.int a :: st) := fun H locs ls hP hS hl => lv_lookup C.1 C.2.1 d hp ho ht (k H locs ls hP hS hl)
theorem gv_getf (C : gm_X x cc nL own ret rk) {a b c ci i N idx : Nat} {fs : List Value} {v : Value} {Cn : String} {T : u_T} (hid : (a, b, c) ∈ gm_ids) (hc : gm_cel (gm_cy (cx_w x)) (gm_ad (cx_w x)) (G a b c) a b c = .inr (ci, fs)) (hcl : vwCl[ci]? = some (Cn, T, N)) (hin : ∀ w ∈ u_ws Cn T N, w ∈ TB) (hi : i < N) (hv : fs[i]? = some v) (hlk : Cond.fieldLink own idx (T i).1 (T i).2.1 (T i).2.2.1 ∈ TB) (d : decode cc pc = .ok (.getfield idx, 3)) (n : Nat) (hn : pc + 3 = n) (k : gm_V x G n lv (v :: st)) : gm_V x G pc lv (.ref (gm_ad (cx_w x) a b c) :: st) := by
  subst hn
  obtain ⟨q, hq⟩ := gm_at hid
  have he := gm_w_at (cx_w x) G hq
  rw [hc] at he
  exact fun H locs ls hP hS hl => va_get C.1 C.2.1 C.2.2.2.2.1 hin C.2.2.2.1 C.2.2.2.2.2.1.1 hP q he hcl i hi (C.2.2.2.2.1 _ hlk) (fun _ h => h) hv d (k H locs ls hP hS hl)
theorem gv_putf (C : gm_X x cc nL own ret rk) {a b c ci i N idx : Nat} {fs : List Value} {v : Int32} {Cn : String} {T : u_T} {ty : FieldType} (hid : (a, b, c) ∈ gm_ids) (hc : ∀ g : Nat → Int32, ∃ fs : List Value, gm_cel (gm_cy (cx_w x)) (gm_ad (cx_w x)) g a b c = .inr (ci, fs) ∧ i < fs.length ∧ gm_cel (gm_cy (cx_w x)) (gm_ad (cx_w x)) (upd g i v) a b c = .inr (ci, fs.set i (.int v))) (hcl : vwCl[ci]? = some (Cn, T, N)) (hin : ∀ w ∈ u_ws Cn T N, w ∈ TB) (ty0 : Nat → FieldType) (hty : ∀ k, k < N → parseFieldDescriptor (T k).2.2.1 = some (ty0 k)) (hnm : ∀ a, a < N → ∀ b, b < N → a ≠ b → (T a).2.1 ≠ (T b).2.1) (hi : i < N) (hfin : (T i).2.2.2 = false) (hd : parseFieldDescriptor (T i).2.2.1 = some ty) (hnr : narrow ty (.int v) = .int v) (hft : fits ty (.int v) = true) (hlk : Cond.fieldLink own idx (T i).1 (T i).2.1 (T i).2.2.1 ∈ TB) (d : decode cc pc = .ok (.putfield idx, 3)) (n : Nat) (hn : pc + 3 = n) (k : gm_V x (gm_up G a b c i v) n lv st) : gm_V x G pc lv (.int v :: .ref (gm_ad (cx_w x) a b c) :: st) := by
  subst hn
  obtain ⟨q, hq⟩ := gm_at hid
  obtain ⟨fs, h1, h2, h3⟩ := hc (G a b c)
  have he := gm_w_at (cx_w x) G hq
  rw [h1] at he
  have hset := gm_set (cx_w x) (G := G) (G' := gm_up G a b c i v) hq gm_up_ne
  rw [gm_up_at, h3] at hset
  intro H locs ls hP hS hl
  refine va_put C.1 C.2.1 C.2.2.2.2.1 hin ty0 hty hnm C.2.2.2.1 C.2.2.2.2.2.1.1 hP ((gm_dis C.2.2.2.2.2.2.1 G).weaken (fun _ q _ h => C.2.2.2.2.2.2.2.2.2.1 q.1 h)) hS q he hcl i hi (C.2.2.2.2.1 _ hlk) (fun _ h => h) hfin hd hnr hft h2 d (fun H1 locs1 hP1 _ hS1 => k H1 locs1 ls ?_ hS1 hl)
  rw [hset] at hP1
  exact hP1
theorem gv_iald (C : gm_X x cc nL own ret rk) {b c m : Nat} {i : Int32} (hid : (8, b, c) ∈ gm_ids) (hm : gm_len b c = m) (g : ¬ (i < 0 ∨ m ≤ i.toNatClampNeg)) (d : decode cc pc = .ok (.iaload, 1)) (n : Nat) (hn : pc + 1 = n) (k : gm_V x G n lv (.int (G 8 b c i.toNatClampNeg) :: st)) : gm_V x G pc lv (.int i :: .ref (gm_ad (cx_w x) 8 b c) :: st) := by
  subst hn hm
  obtain ⟨q, hq⟩ := gm_at hid
  have he := gm_w_at (cx_w x) G hq
  exact fun H locs ls hP hS hl => va_iald C.1 C.2.1 C.2.2.2.2.2.1.1 hP q 0 he rfl g d (k H locs ls hP hS hl)
theorem gv_iast (C : gm_X x cc nL own ret rk) {b c m : Nat} {i v : Int32} (hid : (8, b, c) ∈ gm_ids) (hm : gm_len b c = m) (g : ¬ (i < 0 ∨ m ≤ i.toNatClampNeg)) (d : decode cc pc = .ok (.iastore, 1)) (n : Nat) (hn : pc + 1 = n) (k : gm_V x (gm_up G 8 b c i.toNatClampNeg v) n lv st) : gm_V x G pc lv (.int v :: .int i :: .ref (gm_ad (cx_w x) 8 b c) :: st) := by
  subst hn hm
  obtain ⟨q, hq⟩ := gm_at hid
  have he := gm_w_at (cx_w x) G hq
  have hset := gm_set (cx_w x) (G := G) (G' := gm_up G 8 b c i.toNatClampNeg v) hq gm_up_ne
  rw [gm_up_at] at hset
  intro H locs ls hP hS hl
  refine va_iast C.1 C.2.1 C.2.2.2.2.2.1.1 hP ((gm_dis C.2.2.2.2.2.2.1 G).weaken (fun _ q _ h => C.2.2.2.2.2.2.2.2.2.1 q.1 h)) hS q 0 he rfl g d (fun H1 locs1 hP1 _ hS1 => k H1 locs1 ls ?_ hS1 hl)
  rw [← hset]
  exact hP1
theorem gv_zald (C : gm_X x cc nL own ret rk) {b c : Nat} {i : Int32} (hid : (9, b, c) ∈ gm_ids) (g : ¬ (i < 0 ∨ 2 ≤ i.toNatClampNeg)) (d : decode cc pc = .ok (.baload, 1)) (n : Nat) (hn : pc + 1 = n) (k : gm_V x G n lv (.int (G 9 b c i.toNatClampNeg) :: st)) : gm_V x G pc lv (.int i :: .ref (gm_ad (cx_w x) 9 b c) :: st) := by
  subst hn
  obtain ⟨q, hq⟩ := gm_at hid
  have he := gm_w_at (cx_w x) G hq
  exact fun H locs ls hP hS hl => va_zald C.1 C.2.1 C.2.2.2.2.2.1.1 hP q 1 he rfl g d (k H locs ls hP hS hl)
theorem gv_zast (C : gm_X x cc nL own ret rk) {b c : Nat} {i v : Int32} (hid : (9, b, c) ∈ gm_ids) (g : ¬ (i < 0 ∨ 2 ≤ i.toNatClampNeg)) (hv : vp_nar .boolean v = v) (d : decode cc pc = .ok (.bastore, 1)) (n : Nat) (hn : pc + 1 = n) (k : gm_V x (gm_up G 9 b c i.toNatClampNeg v) n lv st) : gm_V x G pc lv (.int v :: .int i :: .ref (gm_ad (cx_w x) 9 b c) :: st) := by
  subst hn
  obtain ⟨q, hq⟩ := gm_at hid
  have he := gm_w_at (cx_w x) G hq
  have hset := gm_set (cx_w x) (G := G) (G' := gm_up G 9 b c i.toNatClampNeg v) hq gm_up_ne
  rw [gm_up_at] at hset
  intro H locs ls hP hS hl
  refine va_zast C.1 C.2.1 C.2.2.2.2.2.1.1 hP ((gm_dis C.2.2.2.2.2.2.1 G).weaken (fun _ q _ h => C.2.2.2.2.2.2.2.2.2.1 q.1 h)) hS q 1 he rfl g d (fun H1 locs1 hP1 _ hS1 => k H1 locs1 ls ?_ hS1 hl)
  rw [hv] at hP1
  rw [← hset]
  exact hP1
theorem gv_aald10 (C : gm_X x cc nL own ret rk) {b : Nat} {i : Int32} (hid : (10, b, 0) ∈ gm_ids) (g : ¬ (i < 0 ∨ 10 ≤ i.toNatClampNeg)) (d : decode cc pc = .ok (.aaload, 1)) (n : Nat) (hn : pc + 1 = n) (k : gm_V x G n lv (.ref (gm_ad (cx_w x) 0 b i.toNatClampNeg) :: st)) : gm_V x G pc lv (.int i :: .ref (gm_ad (cx_w x) 10 b 0) :: st) := by
  subst hn
  obtain ⟨q, hq⟩ := gm_at hid
  have he := gm_w_at (cx_w x) G hq
  exact fun H locs ls hP hS hl => va_aldq (C := RX0) C.1 C.2.1 C.2.2.2.2.2.1.1 hP q 2 he rfl g d (k H locs ls hP hS hl)
theorem gv_aald11 (C : gm_X x cc nL own ret rk) {b : Nat} {i : Int32} (hid : (11, b, 0) ∈ gm_ids) (g : ¬ (i < 0 ∨ 2 ≤ i.toNatClampNeg)) (d : decode cc pc = .ok (.aaload, 1)) (n : Nat) (hn : pc + 1 = n) (k : gm_V x G n lv (.ref (gm_ad (cx_w x) 1 (i.toNatClampNeg + 2) 0) :: st)) : gm_V x G pc lv (.int i :: .ref (gm_ad (cx_w x) 11 b 0) :: st) := by
  subst hn
  obtain ⟨q, hq⟩ := gm_at hid
  have he := gm_w_at (cx_w x) G hq
  exact fun H locs ls hP hS hl => va_aldq (C := RX1) C.1 C.2.1 C.2.2.2.2.2.1.1 hP q 3 he rfl g d (k H locs ls hP hS hl)
theorem gv_aald12 (C : gm_X x cc nL own ret rk) {b : Nat} {i : Int32} (hid : (12, b, 0) ∈ gm_ids) (g : ¬ (i < 0 ∨ 5 ≤ i.toNatClampNeg)) (d : decode cc pc = .ok (.aaload, 1)) (n : Nat) (hn : pc + 1 = n) (k : gm_V x G n lv (.ref (gm_ad (cx_w x) 4 b i.toNatClampNeg) :: st)) : gm_V x G pc lv (.int i :: .ref (gm_ad (cx_w x) 12 b 0) :: st) := by
  subst hn
  obtain ⟨q, hq⟩ := gm_at hid
  have he := gm_w_at (cx_w x) G hq
  exact fun H locs ls hP hS hl => va_aldq (C := RX4) C.1 C.2.1 C.2.2.2.2.2.1.1 hP q 4 he rfl g d (k H locs ls hP hS hl)
theorem gv_aald13 (C : gm_X x cc nL own ret rk) {b : Nat} {i : Int32} (hid : (13, b, 0) ∈ gm_ids) (g : ¬ (i < 0 ∨ 12 ≤ i.toNatClampNeg)) (d : decode cc pc = .ok (.aaload, 1)) (n : Nat) (hn : pc + 1 = n) (k : gm_V x G n lv (.ref (gm_ad (cx_w x) 5 b i.toNatClampNeg) :: st)) : gm_V x G pc lv (.int i :: .ref (gm_ad (cx_w x) 13 b 0) :: st) := by
  subst hn
  obtain ⟨q, hq⟩ := gm_at hid
  have he := gm_w_at (cx_w x) G hq
  exact fun H locs ls hP hS hl => va_aldq (C := RX5) C.1 C.2.1 C.2.2.2.2.2.1.1 hP q 5 he rfl g d (k H locs ls hP hS hl)
theorem gv_max (C : gm_X x cc nL own ret rk) {a b : Int32} {idx : Nat} (hlk : Cond.methodLink own idx Lib.Math.max.name ∈ TB) (h1 : Cond.static Lib.Math.max.name ∈ TB) (h2 : Cond.initialized "java/lang/Math" ∈ TB) (h3 : Cond.code Lib.Math.max.name Lib.Math.max.code 2 (some .int) ∈ TB) (hrk : 1 ≤ rk) (hs : (st.map fun v => v.category).sum ≤ 8) (d : decode cc pc = .ok (.invokestatic idx, 3)) (n : Nat) (hn : pc + 3 = n) (k : gm_V x G n lv (.int (if a < b then b else a) :: st)) : gm_V x G pc lv (.int b :: .int a :: st) := by
  subst hn
  obtain ⟨r1, r2, r3, r4⟩ := C.2.2.2.2.2.2.2.2.2.2
  exact fun H locs ls hP hS hl => va_mmax C.1 C.2.1 (hl.1).symm C.2.2.2.1 (C.2.2.2.2.1 _ hlk) (C.2.2.2.2.1 _ h1) (C.2.2.2.2.1 _ h2) (C.2.2.2.2.1 _ h3) (by omega) (by omega) r3 r4 d (k H locs ls hP hS hl)
def gm_cp (G : Gm) (b c b' c' m : Nat) : Gm := fun a1 b1 c1 k1 => if a1 = 8 ∧ b1 = b' ∧ c1 = c' then va_cpy (G 8 b c) (G 8 b' c') 0 0 m k1 else G a1 b1 c1 k1
theorem gv_copy (C : gm_X x cc nL own ret rk) {b c b' c' : Nat} {z : Int32} (m : Nat) (hz : z.toNatClampNeg = m) (hz0 : ¬ z < 0) {idx : Nat} (hid : (8, b, c) ∈ gm_ids) (hid' : (8, b', c') ∈ gm_ids) (hm : m ≤ gm_len b c) (hm' : m ≤ gm_len b' c') (hlk : Cond.methodLink own idx arraycopyName ∈ TB) (h1 : Cond.native arraycopyName ∈ TB) (h2 : Cond.static arraycopyName ∈ TB) (h3 : Cond.initialized "java/lang/System" ∈ TB) (hrk : 1 ≤ rk) (hs : (st.map fun v => v.category).sum ≤ 8) (d : decode cc pc = .ok (.invokestatic idx, 3)) (n : Nat) (hn : pc + 3 = n) (k : gm_V x (gm_cp G b c b' c' m) n lv st) : gm_V x G pc lv (.int z :: .int 0 :: .ref (gm_ad (cx_w x) 8 b' c') :: .int 0 :: .ref (gm_ad (cx_w x) 8 b c) :: st) := by
  subst hn
  obtain ⟨r1, r2, r3, r4⟩ := C.2.2.2.2.2.2.2.2.2.2
  obtain ⟨q, hq⟩ := gm_at hid
  obtain ⟨q', hq'⟩ := gm_at hid'
  have he := gm_w_at (cx_w x) G hq
  have he' := gm_w_at (cx_w x) G hq'
  have hset := gm_set (cx_w x) (G := G) (G' := gm_cp G b c b' c' m) hq' (fun a1 b1 c1 h => by funext k1; simp only [gm_cp]; rw [if_neg]; rintro ⟨e1, e2, e3⟩; exact h ⟨e1, e2, e3⟩)
  have hself : gm_cp G b c b' c' m 8 b' c' = va_cpy (G 8 b c) (G 8 b' c') 0 0 m := by funext k1; simp [gm_cp]
  rw [hself] at hset
  intro H locs ls hP hS hl
  refine va_copyi (ty := .int) C.1 C.2.1 (hl.1).symm C.2.2.2.1 (C.2.2.2.2.1 _ hlk) (C.2.2.2.2.1 _ h1) (C.2.2.2.2.1 _ h2) (C.2.2.2.2.1 _ h3) C.2.2.2.2.2.1.1 hP ((gm_dis C.2.2.2.2.2.2.1 G).weaken (fun _ q _ h => C.2.2.2.2.2.2.2.2.2.1 q.1 h)) hS q q' 0 0 he he' rfl rfl rfl (by decide) (by decide) hz0 (by rw [hz]; simpa using hm) (by rw [hz]; simpa using hm') (fun i _ => rfl) (by omega) ?_ d (fun H1 locs1 hP1 _ hS1 => k H1 locs1 ls ?_ hS1 hl)
  · have : nativeFrameWords "java/lang/System" "arraycopy" 5 + 11 ≤ 28 := by decide
    omega
  · rw [← hset]
    rw [hz] at hP1
    exact hP1
def gm_Qc (w : gm_Wd) (r : Option Value) (G' : Gm) : Array Value → State → Outcome → State → Prop := fun _ st oc t => (oc = .returned r ∧ va_P (gm_D w) vwCl (gm_w w G') t.heap) ∧ va_F (gm_A w) st t
/-- what a method's walk is asked for -/
def gm_E (x : gm_Cx) (r : Option Value) (G' : Gm) : Prop := cx_Q x = MQ (cx_below x) (gm_Qc (cx_w x) r G') (cx_args x) (cx_s x) (cx_k x).1 (cx_k x).2 (gm_A (cx_w x)) ∧ cx_A x = gm_A (cx_w x)
theorem gv_iret (C : gm_X x cc nL own (some .int) rk) {v : Int32} {r : Option Value} {G' : Gm} (E : gm_E x r G') (h1 : some (.int v) = r) (h2 : G = G') (d : decode cc pc = .ok (.ireturn, 1)) : gm_V x G pc lv [.int v] := by
  subst h1 h2
  intro H locs ls hP hS hl
  obtain ⟨hQ, hA⟩ := E
  rw [hA] at hS
  rw [hQ]
  exact W.iret C.1 C.2.1 C.2.2.2.2.2.2.2.1 (fun t ht hW => ⟨⟨rfl, by rw [ht]; exact hP⟩, hS.F ht⟩) hS.2.2 d C.2.2.2.2.2.2.2.2.1
theorem gv_zret (C : gm_X x cc nL own (some .boolean) rk) {v : Int32} {r : Option Value} {G' : Gm} (E : gm_E x r G') (hz : v = 0 ∨ v = 1) (h1 : some (.int v) = r) (h2 : G = G') (d : decode cc pc = .ok (.ireturn, 1)) : gm_V x G pc lv [.int v] := by
  subst h1 h2
  intro H locs ls hP hS hl
  obtain ⟨hQ, hA⟩ := E
  rw [hA] at hS
  rw [hQ]
  exact W.zret C.1 C.2.1 C.2.2.2.2.2.2.2.1 (by rcases hz with rfl | rfl <;> rfl) (fun t ht hW => ⟨⟨rfl, by rw [ht]; exact hP⟩, hS.F ht⟩) hS.2.2 d C.2.2.2.2.2.2.2.2.1
theorem gv_vret (C : gm_X x cc nL own none rk) {r : Option Value} {G' : Gm} (E : gm_E x r G') (h1 : none = r) (h2 : G = G') (d : decode cc pc = .ok (.return_, 1)) : gm_V x G pc lv [] := by
  subst h1 h2
  intro H locs ls hP hS hl
  obtain ⟨hQ, hA⟩ := E
  rw [hA] at hS
  rw [hQ]
  exact W.vret C.1 C.2.1 C.2.2.2.2.2.2.2.1 (fun t ht hW => ⟨⟨rfl, by rw [ht]; exact hP⟩, hS.F ht⟩) hS.2.2 d C.2.2.2.2.2.2.2.2.1
theorem gv_aret {nm : String} (C : gm_X x cc nL own (some (.object nm)) rk) {v : Value} {r : Option Value} {G' : Gm} (E : gm_E x r G') (hv : v = .null ∨ ∃ a, v = .ref a) (h1 : some v = r) (h2 : G = G') (d : decode cc pc = .ok (.areturn, 1)) : gm_V x G pc lv [v] := by
  subst h1 h2
  intro H locs ls hP hS hl
  obtain ⟨hQ, hA⟩ := E
  rw [hA] at hS
  rw [hQ]
  exact W.aret C.1 C.2.1 C.2.2.2.2.2.2.2.1 (Or.inl ⟨_, rfl⟩) hv (fun t ht hW => ⟨⟨rfl, by rw [ht]; exact hP⟩, hS.F ht⟩) hS.2.2 d C.2.2.2.2.2.2.2.2.1
/-- other words for the locals -/
theorem gm_lv {lv' : List (Nat × Value)} (h : lv = lv') (k : gm_V x G pc lv' st) : gm_V x G pc lv st := h ▸ k
theorem gm_ls (ks : List Nat) {lv' : List (Nat × Value)} (h : lv_pick lv ks = lv') (k : gm_V x G pc lv' st) : gm_V x G pc lv st := fun H locs ls hP hS hl => k H locs ls hP hS (lv_sub hl ks h)
end
/-- A METHOD'S CONTRACT OUT OF ITS WALK -/
theorem gm_start {w : gm_Wd} {y : MethodName} {cc : ByteArray} {mL : Nat} {ret : Option FieldType} {rk : Nat} {av : List Value} {G : Gm} {r : Option Value} {G' : Gm} (hy : plainName y.cls = true) (hav : (lg_sl av).length ≤ mL)
    (body : ∀ x : gm_Cx, cx_w x = w → gm_X x cc mL y.cls ret rk → gm_E x r G' → gm_V x G 0 (lv_args 0 av) []) : gm_C w y cc mL ret rk av G r G' := by
  refine Met.ofW (cc := cc) (maxL := mL) (ret := ret) hy rfl ?_
  intro p e s m args below meth c s₁ B hml hv
  obtain ⟨rfl, hP, hK, hJ⟩ := hv
  have hts := atoms_spec (ws := Cond.code y cc mL ret :: TB) B.pre
  have hl := lv_entry av (n := mL) hav
  rw [lg_entry_eq]
  have := body (p, e, gm_rm rk, s, m, av.toArray, below, meth, c, MQ below (gm_Qc w r G') av.toArray s 0 0 (gm_A w), gm_A w, (0, 0), w) rfl
    ⟨B.exec, B.bytes, hml, findClass_of_methodNamed B.named, fun q hq => hts q (List.mem_cons_of_mem _ hq), hK, hJ, B.returns, B.notSynchronized, fun _ h => h, Nat.le_refl _, Nat.le_refl _, Nat.le_refl _, Nat.le_refl _⟩ ⟨rfl, rfl⟩
  exact this s.heap [] _ hP va_S.rf (by rw [hml]; exact hl)
/-- what a call needs of a method -/
def gm_M (y : MethodName) (bytes : ByteArray) (mL : Nat) (ret : Option FieldType) (n : Nat) : Prop := Cond.code y bytes mL ret ∈ TB ∧ Cond.initialized y.cls ∈ TB ∧ (y.cls ≠ "java/lang/invoke/MethodHandle" ∧ y.cls ≠ "java/lang/invoke/VarHandle" ∧ (parseMethodDescriptor y.desc).map (fun d => d.parameters.length) = some n) ∧ mL ≤ 17
section
variable {x : gm_Cx} {cc : ByteArray} {nL : Nat} {own : String} {ret : Option FieldType} {rk : Nat} {G G1 : Gm} {pc : Nat} {lv : List (Nat × Value)} {st st0 : List Value}
  {y : MethodName} {bytes : ByteArray} {mL : Nat} {rt : Option FieldType} {kn k' idx : Nat} {r : Option Value} {As : List Value}
theorem gm_pre (C : gm_X x cc nL own ret rk) {av : List Value} {H : Heap} (hP : va_P (gm_D (cx_w x)) vwCl (gm_w (cx_w x) G) H) : PreS (cx_s x) H (va_Pc av (fun U => va_P (gm_D (cx_w x)) vwCl (gm_w (cx_w x) G) U.heap ∧ gm_K (cx_w x) U ∧ gm_J (cx_w x))) av :=
  ⟨fun a U g mk q => by obtain ⟨q0, qP, qK, qJ⟩ := q; exact ⟨q0, qP, gm_K_same (s := U) (U := U.calling g mk a) rfl qK, qJ⟩, fun U hU hW => ⟨rfl, by rw [hU]; exact hP, gm_K_warm hW C.2.2.2.2.2.1, C.2.2.2.2.2.2.1⟩⟩
theorem gm_back (C : gm_X x cc nL own ret rk) {H : Heap} {locs : List Loc} {ls : Array Slot} {a : Array Value} (hS : va_S (cx_A x) (cx_s x).heap H locs) (hl : lv_has ls (cx_c x).maxLocals lv)
    (hr : va_Run (cx_p x) (cx_w x).1 (cx_e x) (cx_R x) (cx_s x) (cx_m x) (cx_args x) (cx_below x) (cx_meth x) (cx_c x) H locs (cx_k x).1 (cx_k x).2 0 0 (F0 (cx_m x) pc ls st0) st ((fun _ st oc t => (oc = .returned r ∧ va_P (gm_D (cx_w x)) vwCl (gm_w (cx_w x) G1) t.heap) ∧ va_F (gm_A (cx_w x)) st t : Array Value → State → Outcome → State → Prop) a) (gm_A (cx_w x)))
    (k : gm_V x G1 (pc + 3) lv (r.toList ++ st)) : W (cx_p x) (cx_w x).1 (cx_e x) (cx_R x) (cx_s x) (cx_m x) (cx_args x) (cx_below x) (cx_meth x) (cx_c x) H locs (cx_k x).1 (cx_k x).2 (cx_Q x) (F0 (cx_m x) pc ls st0) := by
  have hA := C.2.2.2.2.2.2.2.2.2.1
  intro T hT X
  obtain ⟨v, st₀, t, T', L, h0, X', hL, e1, e2, ⟨⟨hv, hP1⟩, hz, hk⟩, sp⟩ := hr T hT X
  cases hv
  rw [h0] at hz hk
  obtain ⟨t2, a1, b1⟩ := k T'.heap (locs ++ L) ls (by rw [e1]; exact hP1)
    ⟨Nat.le_trans hS.1 (by rw [e1]; exact hz), fun q h1 h2 => by rw [e1, hk q (Nat.lt_of_lt_of_le h1 hS.1) (fun z => h2 (hA q z))]; exact hS.2.1 q h1 h2, fun q hq => by
      rcases List.mem_append.mp hq with h | h
      · exact hS.2.2 q h
      · exact hA _ (hL q h)⟩ hl T' rfl X'
  exact ⟨t2, sp t2 a1, b1⟩
theorem gm_B (C : gm_X x cc nL own ret rk) (M : gm_M y bytes mL rt kn) (hk : k' + 1 ≤ rk) (hlk : Cond.methodLink own idx y ∈ TB) : CallB (cx_R x) (cx_s x) (cx_args x) own idx y bytes mL rt (Cond.code y bytes mL rt :: TB) (gm_rm k') 0 0 kn := by
  obtain ⟨r1, r2, r3, r4⟩ := C.2.2.2.2.2.2.2.2.2.2
  obtain ⟨m1, m2, m3, m4⟩ := M
  exact callB_of kn C.2.2.2.2.1 (gm_in m1) rfl rfl rfl (C.2.2.2.2.1 _ m2) (C.2.2.2.2.1 _ hlk) m3 ⟨by show k' + 1 ≤ _; omega, by show 8 + (mL + 11) + 36 * k' ≤ _; omega⟩
theorem gv_callV (C : gm_X x cc nL own ret rk) (M : gm_M y bytes mL rt kn) (M2 : Cond.instanceMethod y ∈ TB ∧ Cond.selects y.cls y y ∈ TB) (hk : k' + 1 ≤ rk) (hlk : Cond.methodLink own idx y ∈ TB)
    {a b c ci : Nat} {q : vw_C} (hid : (a, b, c) ∈ gm_ids) (hc : ∃ fs, gm_cel (gm_cy (cx_w x)) (gm_ad (cx_w x)) (G a b c) a b c = .inr (ci, fs)) (hq : vwCl[ci]? = some q) (hqy : q.1 = y.cls)
    (hM : gm_C (cx_w x) y bytes mL rt k' (.ref (gm_ad (cx_w x) a b c) :: As) G r G1) (hn : As.length = kn) (hst : st0 = As.reverse ++ .ref (gm_ad (cx_w x) a b c) :: st) (hs : (st.map fun v => v.category).sum ≤ 8) (d : decode cc pc = .ok (.invokevirtual idx, 3)) (n : Nat) (hpc : pc + 3 = n) (k : gm_V x G1 n lv (r.toList ++ st)) : gm_V x G pc lv st0 := by
  subst hpc
  intro H locs ls hP hS hl
  obtain ⟨k0, hk0⟩ := gm_at hid
  have he := gm_w_at (cx_w x) G hk0
  obtain ⟨fs, hc⟩ := hc
  rw [hc] at he
  have hrv := va_recv C.2.2.2.2.2.1.1 hP hq he
  rw [hqy] at hrv
  refine gm_back (a := (Value.ref (gm_ad (cx_w x) a b c) :: As).toArray) C hS hl (va_runV (b := gm_ad (cx_w x) a b c) (As := As) (rest := st) (C := y.cls) ⟨C.1, C.2.1, rfl, C.2.2.2.1, C.2.2.2.2.1⟩ hM ⟨gm_B C M hk hlk, C.2.2.2.2.1 _ M2.1, C.2.2.2.2.1 _ M2.2⟩ ⟨(gm_pre C hP).1, hrv, (gm_pre C hP).2⟩ rfl hn hl.1 hst (lv_room hs) d ⟨?_, ?_⟩) k
  · have := C.2.2.2.2.2.2.2.2.2.2.2.2.1; omega
  · have := C.2.2.2.2.2.2.2.2.2.2.2.2.2; omega
theorem gv_callS (C : gm_X x cc nL own ret rk) (M : gm_M y bytes mL rt kn) (M2 : Cond.static y ∈ TB) (hk : k' + 1 ≤ rk) (hlk : Cond.methodLink own idx y ∈ TB)
    (hM : gm_C (cx_w x) y bytes mL rt k' As G r G1) (hn : As.length = kn) (hst : st0 = As.reverse ++ st) (hs : (st.map fun v => v.category).sum ≤ 8) (d : decode cc pc = .ok (.invokestatic idx, 3)) (n : Nat) (hpc : pc + 3 = n) (k : gm_V x G1 n lv (r.toList ++ st)) : gm_V x G pc lv st0 := by
  subst hpc
  intro H locs ls hP hS hl
  refine gm_back (a := As.toArray) C hS hl (va_runS (As := As) (rest := st) ⟨C.1, C.2.1, rfl, C.2.2.2.1, C.2.2.2.2.1⟩ hM ⟨gm_B C M hk hlk, C.2.2.2.2.1 _ M2⟩ (gm_pre C hP) rfl hn hl.1 hst (lv_room hs) d ⟨?_, ?_⟩) k
  · have := C.2.2.2.2.2.2.2.2.2.2.2.2.1; omega
  · have := C.2.2.2.2.2.2.2.2.2.2.2.2.2; omega
theorem gv_callSN (C : gm_X x cc nL own ret rk) (M : gm_M y bytes mL rt kn) (M2 : Cond.static y ∈ TB) (hk : k' + 1 ≤ rk) {host : String} (hlk : va_Nw (.methodLinkNest own idx y host) (cx_s x))
    (hM : gm_C (cx_w x) y bytes mL rt k' As G r G1) (hn : As.length = kn) (hst : st0 = As.reverse ++ st) (hs : (st.map fun v => v.category).sum ≤ 8) (d : decode cc pc = .ok (.invokestatic idx, 3)) (n : Nat) (hpc : pc + 3 = n) (k : gm_V x G1 n lv (r.toList ++ st)) : gm_V x G pc lv st0 := by
  subst hpc
  intro H locs ls hP hS hl
  obtain ⟨r1, r2, r3, r4⟩ := C.2.2.2.2.2.2.2.2.2.2
  obtain ⟨m1, m2, m3, m4⟩ := M
  refine gm_back (a := As.toArray) C hS hl (va_runSN (As := As) (rest := st) ⟨C.1, C.2.1, rfl, C.2.2.2.1, C.2.2.2.2.1⟩ hM ⟨va_cnB kn C.2.2.2.2.1 (gm_in m1) rfl rfl rfl hlk (C.2.2.2.2.1 _ m2) m3 ⟨by show k' + 1 ≤ _; omega, by show 8 + (mL + 11) + 36 * k' ≤ _; omega⟩, C.2.2.2.2.1 _ M2, trivial⟩ (gm_pre C hP) rfl hn hl.1 hst (lv_room hs) d ⟨?_, ?_⟩) k
  · omega
  · omega
end
end
section
theorem in_BlockBellsLaw : Cond.initialized RL ∈ TB := tb_T (List.mem_append_left _ (List.mem_of_getElem? (i := 0) rfl)) rfl
theorem in_BlockBells : Cond.initialized RX6 ∈ TB := tb_T (List.mem_append_left _ (List.mem_of_getElem? (i := 1) rfl)) rfl
theorem in_BlockBells_Line : Cond.initialized RX1 ∈ TB := tb_T (List.mem_append_left _ (List.mem_of_getElem? (i := 2) rfl)) rfl
theorem in_BlockBells_Section : Cond.initialized RX4 ∈ TB := tb_T (List.mem_append_left _ (List.mem_of_getElem? (i := 3) rfl)) rfl
theorem in_BlockBells_Block : Cond.initialized RX0 ∈ TB := tb_T (List.mem_append_left _ (List.mem_of_getElem? (i := 4) rfl)) rfl
theorem in_BlockBells_Train : Cond.initialized RX5 ∈ TB := tb_T (List.mem_append_left _ (List.mem_of_getElem? (i := 5) rfl)) rfl
theorem in_BlockBells_Register : Cond.initialized RX3 ∈ TB := tb_T (List.mem_append_left _ (List.mem_of_getElem? (i := 6) rfl)) rfl
theorem in_BlockBells_Pad : Cond.initialized RX2 ∈ TB := tb_T (List.mem_append_left _ (List.mem_of_getElem? (i := 7) rfl)) rfl
theorem in_BlockBellsModel : Cond.initialized RX7 ∈ TB := tb_T (List.mem_append_left _ (List.mem_of_getElem? (i := 8) rfl)) rfl
theorem in_java_lang_Math : Cond.initialized RJ9 ∈ TB := tb_T (List.mem_append_left _ (List.mem_of_getElem? (i := 9) rfl)) rfl
theorem in_java_lang_System : Cond.initialized RJ10 ∈ TB := tb_T (List.mem_append_left _ (List.mem_of_getElem? (i := 10) rfl)) rfl
theorem clL_7 : Cond.classLink RL 7 RX6 ∈ TB := tb_T (List.mem_append_left _ (List.mem_of_getElem? (i := 11) rfl)) rfl
theorem nwX6 : Cond.instantiable RX6 5 ∈ TB := tb_T (List.mem_append_left _ (List.mem_of_getElem? (i := 12) rfl)) rfl
theorem mkL_9 : Cond.methodLink RL 9 yX6_init ∈ TB := tb_T (List.mem_append_left _ (List.mem_of_getElem? (i := 13) rfl)) rfl
theorem mi_yX6_init : Cond.instanceMethod yX6_init ∈ TB := tb_T (List.mem_append_left _ (List.mem_of_getElem? (i := 14) rfl)) rfl
theorem mkX6_3 : Cond.methodLink RX6 3 objectInit ∈ TB := tb_T (List.mem_append_left _ (List.mem_of_getElem? (i := 16) rfl)) rfl
theorem mi_objectInit : Cond.instanceMethod objectInit ∈ TB := tb_T (List.mem_append_left _ (List.mem_of_getElem? (i := 17) rfl)) rfl
theorem clX6_9 : Cond.classLink RX6 9 RX1 ∈ TB := tb_T (List.mem_append_left _ (List.mem_of_getElem? (i := 19) rfl)) rfl
theorem nwX1 : Cond.instantiable RX1 8 ∈ TB := tb_T (List.mem_append_left _ (List.mem_of_getElem? (i := 20) rfl)) rfl
theorem mkX6_11 : Cond.methodLink RX6 11 yX1_init ∈ TB := tb_T (List.mem_append_left _ (List.mem_of_getElem? (i := 21) rfl)) rfl
theorem mi_yX1_init : Cond.instanceMethod yX1_init ∈ TB := tb_T (List.mem_append_left _ (List.mem_of_getElem? (i := 22) rfl)) rfl
theorem mkX1_3 : Cond.methodLink RX1 3 objectInit ∈ TB := tb_T (List.mem_append_left _ (List.mem_of_getElem? (i := 24) rfl)) rfl
theorem clX1_9 : Cond.classLink RX1 9 RX4 ∈ TB := tb_T (List.mem_append_left _ (List.mem_of_getElem? (i := 25) rfl)) rfl
theorem clX1_17 : Cond.classLink RX1 17 RX0 ∈ TB := tb_T (List.mem_append_left _ (List.mem_of_getElem? (i := 27) rfl)) rfl
theorem nwX4 : Cond.instantiable RX4 6 ∈ TB := tb_T (List.mem_append_left _ (List.mem_of_getElem? (i := 29) rfl)) rfl
theorem mkX1_23 : Cond.methodLink RX1 23 yX4_init ∈ TB := tb_T (List.mem_append_left _ (List.mem_of_getElem? (i := 30) rfl)) rfl
theorem mi_yX4_init : Cond.instanceMethod yX4_init ∈ TB := tb_T (List.mem_append_left _ (List.mem_of_getElem? (i := 31) rfl)) rfl
theorem mkX4_3 : Cond.methodLink RX4 3 objectInit ∈ TB := tb_T (List.mem_append_left _ (List.mem_of_getElem? (i := 33) rfl)) rfl
theorem lkX4_9 : Cond.fieldLink RX4 9 "BlockBells$Section" "number" "I" ∈ TB := tb_T (List.mem_append_left _ (List.mem_of_getElem? (i := 34) rfl)) rfl
theorem lkX3_35 : Cond.fieldLink RX3 35 "BlockBells$Section" "number" "I" ∈ TB := tb_T (List.mem_append_left _ (List.mem_of_getElem? (i := 35) rfl)) rfl
theorem lkX0_35 : Cond.fieldLink RX0 35 "BlockBells$Section" "number" "I" ∈ TB := tb_T (List.mem_append_left _ (List.mem_of_getElem? (i := 36) rfl)) rfl
theorem lkX5_44 : Cond.fieldLink RX5 44 "BlockBells$Section" "number" "I" ∈ TB := tb_T (List.mem_append_left _ (List.mem_of_getElem? (i := 37) rfl)) rfl
theorem lkX1_135 : Cond.fieldLink RX1 135 "BlockBells$Section" "number" "I" ∈ TB := tb_T (List.mem_append_left _ (List.mem_of_getElem? (i := 38) rfl)) rfl
theorem lkX4_15 : Cond.fieldLink RX4 15 "BlockBells$Section" "single" "Z" ∈ TB := tb_T (List.mem_append_left _ (List.mem_of_getElem? (i := 39) rfl)) rfl
theorem lkX1_231 : Cond.fieldLink RX1 231 "BlockBells$Section" "single" "Z" ∈ TB := tb_T (List.mem_append_left _ (List.mem_of_getElem? (i := 40) rfl)) rfl
theorem lkX4_19 : Cond.fieldLink RX4 19 "BlockBells$Section" "runningTime" "I" ∈ TB := tb_T (List.mem_append_left _ (List.mem_of_getElem? (i := 41) rfl)) rfl
theorem lkX6_46 : Cond.fieldLink RX6 46 "BlockBells$Section" "runningTime" "I" ∈ TB := tb_T (List.mem_append_left _ (List.mem_of_getElem? (i := 42) rfl)) rfl
theorem lkX5_47 : Cond.fieldLink RX5 47 "BlockBells$Section" "runningTime" "I" ∈ TB := tb_T (List.mem_append_left _ (List.mem_of_getElem? (i := 43) rfl)) rfl
theorem lkX1_259 : Cond.fieldLink RX1 259 "BlockBells$Section" "runningTime" "I" ∈ TB := tb_T (List.mem_append_left _ (List.mem_of_getElem? (i := 44) rfl)) rfl
theorem lkX4_22 : Cond.fieldLink RX4 22 "BlockBells$Section" "lowerTokens" "I" ∈ TB := tb_T (List.mem_append_left _ (List.mem_of_getElem? (i := 45) rfl)) rfl
theorem lkX4_25 : Cond.fieldLink RX4 25 "BlockBells$Section" "higherTokens" "I" ∈ TB := tb_T (List.mem_append_left _ (List.mem_of_getElem? (i := 46) rfl)) rfl
theorem lkX1_70 : Cond.fieldLink RX1 70 "BlockBells$Section" "tokenOut" "Z" ∈ TB := tb_T (List.mem_append_left _ (List.mem_of_getElem? (i := 47) rfl)) rfl
theorem lkX4_28 : Cond.fieldLink RX4 28 "BlockBells$Section" "tokenOut" "Z" ∈ TB := tb_T (List.mem_append_left _ (List.mem_of_getElem? (i := 48) rfl)) rfl
theorem nwX0 : Cond.instantiable RX0 7 ∈ TB := tb_T (List.mem_append_left _ (List.mem_of_getElem? (i := 62) rfl)) rfl
theorem mkX1_26 : Cond.methodLink RX1 26 yX0_init ∈ TB := tb_T (List.mem_append_left _ (List.mem_of_getElem? (i := 63) rfl)) rfl
theorem mi_yX0_init : Cond.instanceMethod yX0_init ∈ TB := tb_T (List.mem_append_left _ (List.mem_of_getElem? (i := 64) rfl)) rfl
theorem mkX0_3 : Cond.methodLink RX0 3 objectInit ∈ TB := tb_T (List.mem_append_left _ (List.mem_of_getElem? (i := 66) rfl)) rfl
theorem lkX0_9 : Cond.fieldLink RX0 9 "BlockBells$Block" "section" "LBlockBells$Section;" ∈ TB := tb_T (List.mem_append_left _ (List.mem_of_getElem? (i := 67) rfl)) rfl
theorem lkX3_29 : Cond.fieldLink RX3 29 "BlockBells$Block" "section" "LBlockBells$Section;" ∈ TB := tb_T (List.mem_append_left _ (List.mem_of_getElem? (i := 68) rfl)) rfl
theorem lkX1_131 : Cond.fieldLink RX1 131 "BlockBells$Block" "section" "LBlockBells$Section;" ∈ TB := tb_T (List.mem_append_left _ (List.mem_of_getElem? (i := 69) rfl)) rfl
theorem lkX0_15 : Cond.fieldLink RX0 15 "BlockBells$Block" "direction" "I" ∈ TB := tb_T (List.mem_append_left _ (List.mem_of_getElem? (i := 70) rfl)) rfl
theorem lkX3_40 : Cond.fieldLink RX3 40 "BlockBells$Block" "direction" "I" ∈ TB := tb_T (List.mem_append_left _ (List.mem_of_getElem? (i := 71) rfl)) rfl
theorem lkX1_220 : Cond.fieldLink RX1 220 "BlockBells$Block" "direction" "I" ∈ TB := tb_T (List.mem_append_left _ (List.mem_of_getElem? (i := 72) rfl)) rfl
theorem lkX0_19 : Cond.fieldLink RX0 19 "BlockBells$Block" "state" "I" ∈ TB := tb_T (List.mem_append_left _ (List.mem_of_getElem? (i := 73) rfl)) rfl
theorem lkX1_125 : Cond.fieldLink RX1 125 "BlockBells$Block" "state" "I" ∈ TB := tb_T (List.mem_append_left _ (List.mem_of_getElem? (i := 74) rfl)) rfl
theorem lkX0_22 : Cond.fieldLink RX0 22 "BlockBells$Block" "offered" "I" ∈ TB := tb_T (List.mem_append_left _ (List.mem_of_getElem? (i := 75) rfl)) rfl
theorem lkX1_169 : Cond.fieldLink RX1 169 "BlockBells$Block" "offered" "I" ∈ TB := tb_T (List.mem_append_left _ (List.mem_of_getElem? (i := 76) rfl)) rfl
theorem lkX0_25 : Cond.fieldLink RX0 25 "BlockBells$Block" "holder" "I" ∈ TB := tb_T (List.mem_append_left _ (List.mem_of_getElem? (i := 77) rfl)) rfl
theorem lkX1_128 : Cond.fieldLink RX1 128 "BlockBells$Block" "holder" "I" ∈ TB := tb_T (List.mem_append_left _ (List.mem_of_getElem? (i := 78) rfl)) rfl
theorem lkX0_28 : Cond.fieldLink RX0 28 "BlockBells$Block" "part" "Z" ∈ TB := tb_T (List.mem_append_left _ (List.mem_of_getElem? (i := 79) rfl)) rfl
theorem lkX1_197 : Cond.fieldLink RX1 197 "BlockBells$Block" "part" "Z" ∈ TB := tb_T (List.mem_append_left _ (List.mem_of_getElem? (i := 80) rfl)) rfl
theorem lkX0_32 : Cond.fieldLink RX0 32 "BlockBells$Block" "engineTicks" "I" ∈ TB := tb_T (List.mem_append_left _ (List.mem_of_getElem? (i := 81) rfl)) rfl
theorem lkX1_256 : Cond.fieldLink RX1 256 "BlockBells$Block" "engineTicks" "I" ∈ TB := tb_T (List.mem_append_left _ (List.mem_of_getElem? (i := 82) rfl)) rfl
theorem clX1_29 : Cond.classLink RX1 29 RX5 ∈ TB := tb_T (List.mem_append_left _ (List.mem_of_getElem? (i := 98) rfl)) rfl
theorem nwX5 : Cond.instantiable RX5 9 ∈ TB := tb_T (List.mem_append_left _ (List.mem_of_getElem? (i := 100) rfl)) rfl
theorem mkX1_35 : Cond.methodLink RX1 35 yX5_init ∈ TB := tb_T (List.mem_append_left _ (List.mem_of_getElem? (i := 101) rfl)) rfl
theorem mi_yX5_init : Cond.instanceMethod yX5_init ∈ TB := tb_T (List.mem_append_left _ (List.mem_of_getElem? (i := 102) rfl)) rfl
theorem mkX5_3 : Cond.methodLink RX5 3 objectInit ∈ TB := tb_T (List.mem_append_left _ (List.mem_of_getElem? (i := 104) rfl)) rfl
theorem lkX5_9 : Cond.fieldLink RX5 9 "BlockBells$Train" "number" "I" ∈ TB := tb_T (List.mem_append_left _ (List.mem_of_getElem? (i := 105) rfl)) rfl
theorem lkX1_153 : Cond.fieldLink RX1 153 "BlockBells$Train" "number" "I" ∈ TB := tb_T (List.mem_append_left _ (List.mem_of_getElem? (i := 106) rfl)) rfl
theorem lkX5_15 : Cond.fieldLink RX5 15 "BlockBells$Train" "kind" "I" ∈ TB := tb_T (List.mem_append_left _ (List.mem_of_getElem? (i := 107) rfl)) rfl
theorem lkX1_210 : Cond.fieldLink RX1 210 "BlockBells$Train" "kind" "I" ∈ TB := tb_T (List.mem_append_left _ (List.mem_of_getElem? (i := 108) rfl)) rfl
theorem lkX5_18 : Cond.fieldLink RX5 18 "BlockBells$Train" "direction" "I" ∈ TB := tb_T (List.mem_append_left _ (List.mem_of_getElem? (i := 109) rfl)) rfl
theorem lkX1_118 : Cond.fieldLink RX1 118 "BlockBells$Train" "direction" "I" ∈ TB := tb_T (List.mem_append_left _ (List.mem_of_getElem? (i := 110) rfl)) rfl
theorem lkX5_38 : Cond.fieldLink RX5 38 "BlockBells$Train" "where" "I" ∈ TB := tb_T (List.mem_append_left _ (List.mem_of_getElem? (i := 111) rfl)) rfl
theorem lkX1_100 : Cond.fieldLink RX1 100 "BlockBells$Train" "where" "I" ∈ TB := tb_T (List.mem_append_left _ (List.mem_of_getElem? (i := 112) rfl)) rfl
theorem lkX5_41 : Cond.fieldLink RX5 41 "BlockBells$Train" "place" "I" ∈ TB := tb_T (List.mem_append_left _ (List.mem_of_getElem? (i := 113) rfl)) rfl
theorem lkX1_115 : Cond.fieldLink RX1 115 "BlockBells$Train" "place" "I" ∈ TB := tb_T (List.mem_append_left _ (List.mem_of_getElem? (i := 114) rfl)) rfl
theorem lkX5_25 : Cond.fieldLink RX5 25 "BlockBells$Train" "ticksLeft" "I" ∈ TB := tb_T (List.mem_append_left _ (List.mem_of_getElem? (i := 115) rfl)) rfl
theorem lkX1_246 : Cond.fieldLink RX1 246 "BlockBells$Train" "ticksLeft" "I" ∈ TB := tb_T (List.mem_append_left _ (List.mem_of_getElem? (i := 116) rfl)) rfl
theorem lkX5_28 : Cond.fieldLink RX5 28 "BlockBells$Train" "whole" "Z" ∈ TB := tb_T (List.mem_append_left _ (List.mem_of_getElem? (i := 117) rfl)) rfl
theorem lkX1_194 : Cond.fieldLink RX1 194 "BlockBells$Train" "whole" "Z" ∈ TB := tb_T (List.mem_append_left _ (List.mem_of_getElem? (i := 118) rfl)) rfl
theorem lkX5_32 : Cond.fieldLink RX5 32 "BlockBells$Train" "appearedAt" "I" ∈ TB := tb_T (List.mem_append_left _ (List.mem_of_getElem? (i := 119) rfl)) rfl
theorem lkX1_191 : Cond.fieldLink RX1 191 "BlockBells$Train" "appearedAt" "I" ∈ TB := tb_T (List.mem_append_left _ (List.mem_of_getElem? (i := 120) rfl)) rfl
theorem lkX5_35 : Cond.fieldLink RX5 35 "BlockBells$Train" "leftAt" "I" ∈ TB := tb_T (List.mem_append_left _ (List.mem_of_getElem? (i := 121) rfl)) rfl
theorem clX1_40 : Cond.classLink RX1 40 RX3 ∈ TB := tb_T (List.mem_append_left _ (List.mem_of_getElem? (i := 141) rfl)) rfl
theorem nwX3 : Cond.instantiable RX3 2 ∈ TB := tb_T (List.mem_append_left _ (List.mem_of_getElem? (i := 142) rfl)) rfl
theorem mkX1_42 : Cond.methodLink RX1 42 yX3_init ∈ TB := tb_T (List.mem_append_left _ (List.mem_of_getElem? (i := 143) rfl)) rfl
theorem mi_yX3_init : Cond.instanceMethod yX3_init ∈ TB := tb_T (List.mem_append_left _ (List.mem_of_getElem? (i := 144) rfl)) rfl
theorem mkX3_3 : Cond.methodLink RX3 3 objectInit ∈ TB := tb_T (List.mem_append_left _ (List.mem_of_getElem? (i := 146) rfl)) rfl
theorem lkX3_9 : Cond.fieldLink RX3 9 "BlockBells$Register" "rows" "[I" ∈ TB := tb_T (List.mem_append_left _ (List.mem_of_getElem? (i := 147) rfl)) rfl
theorem lkX3_21 : Cond.fieldLink RX3 21 "BlockBells$Register" "total" "I" ∈ TB := tb_T (List.mem_append_left _ (List.mem_of_getElem? (i := 148) rfl)) rfl
theorem lkX1_64 : Cond.fieldLink RX1 64 "BlockBells$Register" "total" "I" ∈ TB := tb_T (List.mem_append_left _ (List.mem_of_getElem? (i := 149) rfl)) rfl
theorem lkX6_229 : Cond.fieldLink RX6 229 "BlockBells$Register" "total" "I" ∈ TB := tb_T (List.mem_append_left _ (List.mem_of_getElem? (i := 150) rfl)) rfl
theorem mkX1_47 : Cond.methodLink RX1 47 yX1_layOut ∈ TB := tb_T (List.mem_append_left _ (List.mem_of_getElem? (i := 157) rfl)) rfl
theorem mi_yX1_layOut : Cond.instanceMethod yX1_layOut ∈ TB := tb_T (List.mem_append_left _ (List.mem_of_getElem? (i := 158) rfl)) rfl
theorem me_yX1_layOut : Cond.selects RX1 yX1_layOut yX1_layOut ∈ TB := tb_T (List.mem_append_left _ (List.mem_of_getElem? (i := 159) rfl)) rfl
theorem mkX1_55 : Cond.methodLink RX1 55 yX4_layOut ∈ TB := tb_T (List.mem_append_left _ (List.mem_of_getElem? (i := 161) rfl)) rfl
theorem mi_yX4_layOut : Cond.instanceMethod yX4_layOut ∈ TB := tb_T (List.mem_append_left _ (List.mem_of_getElem? (i := 162) rfl)) rfl
theorem me_yX4_layOut : Cond.selects RX4 yX4_layOut yX4_layOut ∈ TB := tb_T (List.mem_append_left _ (List.mem_of_getElem? (i := 163) rfl)) rfl
theorem mkX1_58 : Cond.methodLink RX1 58 yX1_clearTraffic ∈ TB := tb_T (List.mem_append_left _ (List.mem_of_getElem? (i := 165) rfl)) rfl
theorem mi_yX1_clearTraffic : Cond.instanceMethod yX1_clearTraffic ∈ TB := tb_T (List.mem_append_left _ (List.mem_of_getElem? (i := 166) rfl)) rfl
theorem me_yX1_clearTraffic : Cond.selects RX1 yX1_clearTraffic yX1_clearTraffic ∈ TB := tb_T (List.mem_append_left _ (List.mem_of_getElem? (i := 167) rfl)) rfl
theorem mkX1_74 : Cond.methodLink RX1 74 yX0_reset ∈ TB := tb_T (List.mem_append_left _ (List.mem_of_getElem? (i := 169) rfl)) rfl
theorem mi_yX0_reset : Cond.instanceMethod yX0_reset ∈ TB := tb_T (List.mem_append_left _ (List.mem_of_getElem? (i := 170) rfl)) rfl
theorem me_yX0_reset : Cond.selects RX0 yX0_reset yX0_reset ∈ TB := tb_T (List.mem_append_left _ (List.mem_of_getElem? (i := 171) rfl)) rfl
theorem lkX1_11 : Cond.fieldLink RX1 11 "BlockBells$Line" "sections" "[LBlockBells$Section;" ∈ TB := tb_T (List.mem_append_left _ (List.mem_of_getElem? (i := 173) rfl)) rfl
theorem lkX1_19 : Cond.fieldLink RX1 19 "BlockBells$Line" "blocks" "[LBlockBells$Block;" ∈ TB := tb_T (List.mem_append_left _ (List.mem_of_getElem? (i := 174) rfl)) rfl
theorem lkX1_31 : Cond.fieldLink RX1 31 "BlockBells$Line" "trains" "[LBlockBells$Train;" ∈ TB := tb_T (List.mem_append_left _ (List.mem_of_getElem? (i := 175) rfl)) rfl
theorem lkX1_36 : Cond.fieldLink RX1 36 "BlockBells$Line" "loops" "[I" ∈ TB := tb_T (List.mem_append_left _ (List.mem_of_getElem? (i := 176) rfl)) rfl
theorem lkX1_43 : Cond.fieldLink RX1 43 "BlockBells$Line" "register" "LBlockBells$Register;" ∈ TB := tb_T (List.mem_append_left _ (List.mem_of_getElem? (i := 177) rfl)) rfl
theorem lkX6_139 : Cond.fieldLink RX6 139 "BlockBells$Line" "register" "LBlockBells$Register;" ∈ TB := tb_T (List.mem_append_left _ (List.mem_of_getElem? (i := 178) rfl)) rfl
theorem lkX1_51 : Cond.fieldLink RX1 51 "BlockBells$Line" "boxes" "I" ∈ TB := tb_T (List.mem_append_left _ (List.mem_of_getElem? (i := 179) rfl)) rfl
theorem lkX6_235 : Cond.fieldLink RX6 235 "BlockBells$Line" "boxes" "I" ∈ TB := tb_T (List.mem_append_left _ (List.mem_of_getElem? (i := 180) rfl)) rfl
theorem lkX6_34 : Cond.fieldLink RX6 34 "BlockBells$Line" "appeared" "I" ∈ TB := tb_T (List.mem_append_left _ (List.mem_of_getElem? (i := 181) rfl)) rfl
theorem lkX1_67 : Cond.fieldLink RX1 67 "BlockBells$Line" "appeared" "I" ∈ TB := tb_T (List.mem_append_left _ (List.mem_of_getElem? (i := 182) rfl)) rfl
theorem lkX1_61 : Cond.fieldLink RX1 61 "BlockBells$Line" "time" "I" ∈ TB := tb_T (List.mem_append_left _ (List.mem_of_getElem? (i := 183) rfl)) rfl
theorem lkX6_131 : Cond.fieldLink RX6 131 "BlockBells$Line" "time" "I" ∈ TB := tb_T (List.mem_append_left _ (List.mem_of_getElem? (i := 184) rfl)) rfl
theorem clX6_27 : Cond.classLink RX6 27 RX2 ∈ TB := tb_T (List.mem_append_left _ (List.mem_of_getElem? (i := 203) rfl)) rfl
theorem nwX2 : Cond.instantiable RX2 6 ∈ TB := tb_T (List.mem_append_left _ (List.mem_of_getElem? (i := 204) rfl)) rfl
theorem mkX6_29 : Cond.methodLink RX6 29 yX2_init ∈ TB := tb_T (List.mem_append_left _ (List.mem_of_getElem? (i := 205) rfl)) rfl
theorem mi_yX2_init : Cond.instanceMethod yX2_init ∈ TB := tb_T (List.mem_append_left _ (List.mem_of_getElem? (i := 206) rfl)) rfl
theorem mkX2_3 : Cond.methodLink RX2 3 objectInit ∈ TB := tb_T (List.mem_append_left _ (List.mem_of_getElem? (i := 208) rfl)) rfl
theorem lkX2_9 : Cond.fieldLink RX2 9 "BlockBells$Pad" "signs" "[I" ∈ TB := tb_T (List.mem_append_left _ (List.mem_of_getElem? (i := 209) rfl)) rfl
theorem lkX2_15 : Cond.fieldLink RX2 15 "BlockBells$Pad" "length" "I" ∈ TB := tb_T (List.mem_append_left _ (List.mem_of_getElem? (i := 210) rfl)) rfl
theorem lkX6_238 : Cond.fieldLink RX6 238 "BlockBells$Pad" "length" "I" ∈ TB := tb_T (List.mem_append_left _ (List.mem_of_getElem? (i := 211) rfl)) rfl
theorem lkX2_34 : Cond.fieldLink RX2 34 "BlockBells$Pad" "at" "I" ∈ TB := tb_T (List.mem_append_left _ (List.mem_of_getElem? (i := 212) rfl)) rfl
theorem lkX2_37 : Cond.fieldLink RX2 37 "BlockBells$Pad" "letter" "I" ∈ TB := tb_T (List.mem_append_left _ (List.mem_of_getElem? (i := 213) rfl)) rfl
theorem lkX6_183 : Cond.fieldLink RX6 183 "BlockBells$Pad" "letter" "I" ∈ TB := tb_T (List.mem_append_left _ (List.mem_of_getElem? (i := 214) rfl)) rfl
theorem lkX2_40 : Cond.fieldLink RX2 40 "BlockBells$Pad" "number" "I" ∈ TB := tb_T (List.mem_append_left _ (List.mem_of_getElem? (i := 215) rfl)) rfl
theorem lkX6_186 : Cond.fieldLink RX6 186 "BlockBells$Pad" "number" "I" ∈ TB := tb_T (List.mem_append_left _ (List.mem_of_getElem? (i := 216) rfl)) rfl
theorem lkX2_43 : Cond.fieldLink RX2 43 "BlockBells$Pad" "direction" "I" ∈ TB := tb_T (List.mem_append_left _ (List.mem_of_getElem? (i := 217) rfl)) rfl
theorem lkX6_189 : Cond.fieldLink RX6 189 "BlockBells$Pad" "direction" "I" ∈ TB := tb_T (List.mem_append_left _ (List.mem_of_getElem? (i := 218) rfl)) rfl
theorem lkX6_12 : Cond.fieldLink RX6 12 "BlockBells" "line" "LBlockBells$Line;" ∈ TB := tb_T (List.mem_append_left _ (List.mem_of_getElem? (i := 233) rfl)) rfl
theorem lkX6_16 : Cond.fieldLink RX6 16 "BlockBells" "trial" "LBlockBells$Line;" ∈ TB := tb_T (List.mem_append_left _ (List.mem_of_getElem? (i := 234) rfl)) rfl
theorem lkX6_19 : Cond.fieldLink RX6 19 "BlockBells" "slots" "[LBlockBells$Line;" ∈ TB := tb_T (List.mem_append_left _ (List.mem_of_getElem? (i := 235) rfl)) rfl
theorem lkX6_23 : Cond.fieldLink RX6 23 "BlockBells" "saved" "[Z" ∈ TB := tb_T (List.mem_append_left _ (List.mem_of_getElem? (i := 236) rfl)) rfl
theorem lkX6_30 : Cond.fieldLink RX6 30 "BlockBells" "pad" "LBlockBells$Pad;" ∈ TB := tb_T (List.mem_append_left _ (List.mem_of_getElem? (i := 237) rfl)) rfl
theorem mkL_13 : Cond.methodLink RL 13 yX6_setUp ∈ TB := tb_T (List.mem_append_right _ (List.mem_append_left _ (List.mem_of_getElem? (i := 9) rfl))) rfl
theorem mi_yX6_setUp : Cond.instanceMethod yX6_setUp ∈ TB := tb_T (List.mem_append_right _ (List.mem_append_left _ (List.mem_of_getElem? (i := 10) rfl))) rfl
theorem me_yX6_setUp : Cond.selects RX6 yX6_setUp yX6_setUp ∈ TB := tb_T (List.mem_append_right _ (List.mem_append_left _ (List.mem_of_getElem? (i := 11) rfl))) rfl
theorem mkX6_38 : Cond.methodLink RX6 38 yX1_layOut ∈ TB := tb_T (List.mem_append_right _ (List.mem_append_left _ (List.mem_of_getElem? (i := 13) rfl))) rfl
theorem mkL_18 : Cond.methodLink RL 18 yX6_setTime ∈ TB := tb_T (List.mem_append_right _ (List.mem_append_left _ (List.mem_of_getElem? (i := 14) rfl))) rfl
theorem mi_yX6_setTime : Cond.instanceMethod yX6_setTime ∈ TB := tb_T (List.mem_append_right _ (List.mem_append_left _ (List.mem_of_getElem? (i := 15) rfl))) rfl
theorem me_yX6_setTime : Cond.selects RX6 yX6_setTime yX6_setTime ∈ TB := tb_T (List.mem_append_right _ (List.mem_append_left _ (List.mem_of_getElem? (i := 16) rfl))) rfl
theorem mkX6_42 : Cond.methodLink RX6 42 yX1_sectionAt ∈ TB := tb_T (List.mem_append_right _ (List.mem_append_left _ (List.mem_of_getElem? (i := 18) rfl))) rfl
theorem mi_yX1_sectionAt : Cond.instanceMethod yX1_sectionAt ∈ TB := tb_T (List.mem_append_right _ (List.mem_append_left _ (List.mem_of_getElem? (i := 19) rfl))) rfl
theorem me_yX1_sectionAt : Cond.selects RX1 yX1_sectionAt yX1_sectionAt ∈ TB := tb_T (List.mem_append_right _ (List.mem_append_left _ (List.mem_of_getElem? (i := 20) rfl))) rfl
theorem mkL_22 : Cond.methodLink RL 22 yX6_setLoops ∈ TB := tb_T (List.mem_append_right _ (List.mem_append_left _ (List.mem_of_getElem? (i := 22) rfl))) rfl
theorem mi_yX6_setLoops : Cond.instanceMethod yX6_setLoops ∈ TB := tb_T (List.mem_append_right _ (List.mem_append_left _ (List.mem_of_getElem? (i := 23) rfl))) rfl
theorem me_yX6_setLoops : Cond.selects RX6 yX6_setLoops yX6_setLoops ∈ TB := tb_T (List.mem_append_right _ (List.mem_append_left _ (List.mem_of_getElem? (i := 24) rfl))) rfl
theorem mkX6_51 : Cond.methodLink RX6 51 yX1_hasBox ∈ TB := tb_T (List.mem_append_right _ (List.mem_append_left _ (List.mem_of_getElem? (i := 26) rfl))) rfl
theorem mi_yX1_hasBox : Cond.instanceMethod yX1_hasBox ∈ TB := tb_T (List.mem_append_right _ (List.mem_append_left _ (List.mem_of_getElem? (i := 27) rfl))) rfl
theorem me_yX1_hasBox : Cond.selects RX1 yX1_hasBox yX1_hasBox ∈ TB := tb_T (List.mem_append_right _ (List.mem_append_left _ (List.mem_of_getElem? (i := 28) rfl))) rfl
theorem mkX6_55 : Cond.methodLink RX6 55 yX6_isDirection ∈ TB := tb_T (List.mem_append_right _ (List.mem_append_left _ (List.mem_of_getElem? (i := 30) rfl))) rfl
theorem ms_yX6_isDirection : Cond.static yX6_isDirection ∈ TB := tb_T (List.mem_append_right _ (List.mem_append_left _ (List.mem_of_getElem? (i := 31) rfl))) rfl
theorem mkX6_58 : Cond.methodLink RX6 58 yX1_changeLoops ∈ TB := tb_T (List.mem_append_right _ (List.mem_append_left _ (List.mem_of_getElem? (i := 33) rfl))) rfl
theorem mi_yX1_changeLoops : Cond.instanceMethod yX1_changeLoops ∈ TB := tb_T (List.mem_append_right _ (List.mem_append_left _ (List.mem_of_getElem? (i := 34) rfl))) rfl
theorem me_yX1_changeLoops : Cond.selects RX1 yX1_changeLoops yX1_changeLoops ∈ TB := tb_T (List.mem_append_right _ (List.mem_append_left _ (List.mem_of_getElem? (i := 35) rfl))) rfl
theorem mkX1_107 : Cond.methodLink RX1 107 yX1_trainsStanding ∈ TB := tb_T (List.mem_append_right _ (List.mem_append_left _ (List.mem_of_getElem? (i := 37) rfl))) rfl
theorem mi_yX1_trainsStanding : Cond.instanceMethod yX1_trainsStanding ∈ TB := tb_T (List.mem_append_right _ (List.mem_append_left _ (List.mem_of_getElem? (i := 38) rfl))) rfl
theorem me_yX1_trainsStanding : Cond.selects RX1 yX1_trainsStanding yX1_trainsStanding ∈ TB := tb_T (List.mem_append_right _ (List.mem_append_left _ (List.mem_of_getElem? (i := 39) rfl))) rfl
theorem mkX1_111 : Cond.methodLink RX1 111 yX5_stands ∈ TB := tb_T (List.mem_append_right _ (List.mem_append_left _ (List.mem_of_getElem? (i := 41) rfl))) rfl
theorem mi_yX5_stands : Cond.instanceMethod yX5_stands ∈ TB := tb_T (List.mem_append_right _ (List.mem_append_left _ (List.mem_of_getElem? (i := 42) rfl))) rfl
theorem me_yX5_stands : Cond.selects RX5 yX5_stands yX5_stands ∈ TB := tb_T (List.mem_append_right _ (List.mem_append_left _ (List.mem_of_getElem? (i := 43) rfl))) rfl
theorem mkL_27 : Cond.methodLink RL 27 yX6_moveTokens ∈ TB := tb_T (List.mem_append_right _ (List.mem_append_left _ (List.mem_of_getElem? (i := 45) rfl))) rfl
theorem mi_yX6_moveTokens : Cond.instanceMethod yX6_moveTokens ∈ TB := tb_T (List.mem_append_right _ (List.mem_append_left _ (List.mem_of_getElem? (i := 46) rfl))) rfl
theorem me_yX6_moveTokens : Cond.selects RX6 yX6_moveTokens yX6_moveTokens ∈ TB := tb_T (List.mem_append_right _ (List.mem_append_left _ (List.mem_of_getElem? (i := 47) rfl))) rfl
theorem mkX6_62 : Cond.methodLink RX6 62 yX4_moveUp ∈ TB := tb_T (List.mem_append_right _ (List.mem_append_left _ (List.mem_of_getElem? (i := 49) rfl))) rfl
theorem mi_yX4_moveUp : Cond.instanceMethod yX4_moveUp ∈ TB := tb_T (List.mem_append_right _ (List.mem_append_left _ (List.mem_of_getElem? (i := 50) rfl))) rfl
theorem me_yX4_moveUp : Cond.selects RX4 yX4_moveUp yX4_moveUp ∈ TB := tb_T (List.mem_append_right _ (List.mem_append_left _ (List.mem_of_getElem? (i := 51) rfl))) rfl
theorem mkL_31 : Cond.methodLink RL 31 yX6_section ∈ TB := tb_T (List.mem_append_right _ (List.mem_append_left _ (List.mem_of_getElem? (i := 53) rfl))) rfl
theorem mi_yX6_section : Cond.instanceMethod yX6_section ∈ TB := tb_T (List.mem_append_right _ (List.mem_append_left _ (List.mem_of_getElem? (i := 54) rfl))) rfl
theorem me_yX6_section : Cond.selects RX6 yX6_section yX6_section ∈ TB := tb_T (List.mem_append_right _ (List.mem_append_left _ (List.mem_of_getElem? (i := 55) rfl))) rfl
theorem mkX6_66 : Cond.methodLink RX6 66 yX4_property ∈ TB := tb_T (List.mem_append_right _ (List.mem_append_left _ (List.mem_of_getElem? (i := 57) rfl))) rfl
theorem mi_yX4_property : Cond.instanceMethod yX4_property ∈ TB := tb_T (List.mem_append_right _ (List.mem_append_left _ (List.mem_of_getElem? (i := 58) rfl))) rfl
theorem me_yX4_property : Cond.selects RX4 yX4_property yX4_property ∈ TB := tb_T (List.mem_append_right _ (List.mem_append_left _ (List.mem_of_getElem? (i := 59) rfl))) rfl
theorem mkL_35 : Cond.methodLink RL 35 yX6_block ∈ TB := tb_T (List.mem_append_right _ (List.mem_append_left _ (List.mem_of_getElem? (i := 61) rfl))) rfl
theorem mi_yX6_block : Cond.instanceMethod yX6_block ∈ TB := tb_T (List.mem_append_right _ (List.mem_append_left _ (List.mem_of_getElem? (i := 62) rfl))) rfl
theorem me_yX6_block : Cond.selects RX6 yX6_block yX6_block ∈ TB := tb_T (List.mem_append_right _ (List.mem_append_left _ (List.mem_of_getElem? (i := 63) rfl))) rfl
theorem mkX6_69 : Cond.methodLink RX6 69 yX1_blockAt ∈ TB := tb_T (List.mem_append_right _ (List.mem_append_left _ (List.mem_of_getElem? (i := 65) rfl))) rfl
theorem mi_yX1_blockAt : Cond.instanceMethod yX1_blockAt ∈ TB := tb_T (List.mem_append_right _ (List.mem_append_left _ (List.mem_of_getElem? (i := 66) rfl))) rfl
theorem me_yX1_blockAt : Cond.selects RX1 yX1_blockAt yX1_blockAt ∈ TB := tb_T (List.mem_append_right _ (List.mem_append_left _ (List.mem_of_getElem? (i := 67) rfl))) rfl
theorem mkX6_73 : Cond.methodLink RX6 73 yX0_property ∈ TB := tb_T (List.mem_append_right _ (List.mem_append_left _ (List.mem_of_getElem? (i := 69) rfl))) rfl
theorem mi_yX0_property : Cond.instanceMethod yX0_property ∈ TB := tb_T (List.mem_append_right _ (List.mem_append_left _ (List.mem_of_getElem? (i := 70) rfl))) rfl
theorem me_yX0_property : Cond.selects RX0 yX0_property yX0_property ∈ TB := tb_T (List.mem_append_right _ (List.mem_append_left _ (List.mem_of_getElem? (i := 71) rfl))) rfl
theorem mkL_39 : Cond.methodLink RL 39 yX6_appear ∈ TB := tb_T (List.mem_append_right _ (List.mem_append_left _ (List.mem_of_getElem? (i := 73) rfl))) rfl
theorem mi_yX6_appear : Cond.instanceMethod yX6_appear ∈ TB := tb_T (List.mem_append_right _ (List.mem_append_left _ (List.mem_of_getElem? (i := 74) rfl))) rfl
theorem me_yX6_appear : Cond.selects RX6 yX6_appear yX6_appear ∈ TB := tb_T (List.mem_append_right _ (List.mem_append_left _ (List.mem_of_getElem? (i := 75) rfl))) rfl
theorem mkX6_76 : Cond.methodLink RX6 76 yX6_isKind ∈ TB := tb_T (List.mem_append_right _ (List.mem_append_left _ (List.mem_of_getElem? (i := 77) rfl))) rfl
theorem ms_yX6_isKind : Cond.static yX6_isKind ∈ TB := tb_T (List.mem_append_right _ (List.mem_append_left _ (List.mem_of_getElem? (i := 78) rfl))) rfl
theorem mkX6_79 : Cond.methodLink RX6 79 yX1_bringNew ∈ TB := tb_T (List.mem_append_right _ (List.mem_append_left _ (List.mem_of_getElem? (i := 80) rfl))) rfl
theorem mi_yX1_bringNew : Cond.instanceMethod yX1_bringNew ∈ TB := tb_T (List.mem_append_right _ (List.mem_append_left _ (List.mem_of_getElem? (i := 81) rfl))) rfl
theorem me_yX1_bringNew : Cond.selects RX1 yX1_bringNew yX1_bringNew ∈ TB := tb_T (List.mem_append_right _ (List.mem_append_left _ (List.mem_of_getElem? (i := 82) rfl))) rfl
theorem mkX1_103 : Cond.methodLink RX1 103 yX1_firstBox ∈ TB := tb_T (List.mem_append_right _ (List.mem_append_left _ (List.mem_of_getElem? (i := 84) rfl))) rfl
theorem mi_yX1_firstBox : Cond.instanceMethod yX1_firstBox ∈ TB := tb_T (List.mem_append_right _ (List.mem_append_left _ (List.mem_of_getElem? (i := 85) rfl))) rfl
theorem me_yX1_firstBox : Cond.selects RX1 yX1_firstBox yX1_firstBox ∈ TB := tb_T (List.mem_append_right _ (List.mem_append_left _ (List.mem_of_getElem? (i := 86) rfl))) rfl
theorem mkX1_145 : Cond.methodLink RX1 145 yX1_isLineFree ∈ TB := tb_T (List.mem_append_right _ (List.mem_append_left _ (List.mem_of_getElem? (i := 88) rfl))) rfl
theorem mi_yX1_isLineFree : Cond.instanceMethod yX1_isLineFree ∈ TB := tb_T (List.mem_append_right _ (List.mem_append_left _ (List.mem_of_getElem? (i := 89) rfl))) rfl
theorem me_yX1_isLineFree : Cond.selects RX1 yX1_isLineFree yX1_isLineFree ∈ TB := tb_T (List.mem_append_right _ (List.mem_append_left _ (List.mem_of_getElem? (i := 90) rfl))) rfl
theorem mkX1_149 : Cond.methodLink RX1 149 yX5_start ∈ TB := tb_T (List.mem_append_right _ (List.mem_append_left _ (List.mem_of_getElem? (i := 92) rfl))) rfl
theorem mi_yX5_start : Cond.instanceMethod yX5_start ∈ TB := tb_T (List.mem_append_right _ (List.mem_append_left _ (List.mem_of_getElem? (i := 93) rfl))) rfl
theorem me_yX5_start : Cond.selects RX5 yX5_start yX5_start ∈ TB := tb_T (List.mem_append_right _ (List.mem_append_left _ (List.mem_of_getElem? (i := 94) rfl))) rfl
theorem mkX5_21 : Cond.methodLink RX5 21 yX5_standAt ∈ TB := tb_T (List.mem_append_right _ (List.mem_append_left _ (List.mem_of_getElem? (i := 96) rfl))) rfl
theorem mi_yX5_standAt : Cond.instanceMethod yX5_standAt ∈ TB := tb_T (List.mem_append_right _ (List.mem_append_left _ (List.mem_of_getElem? (i := 97) rfl))) rfl
theorem me_yX5_standAt : Cond.selects RX5 yX5_standAt yX5_standAt ∈ TB := tb_T (List.mem_append_right _ (List.mem_append_left _ (List.mem_of_getElem? (i := 98) rfl))) rfl
theorem mkL_43 : Cond.methodLink RL 43 yX6_train ∈ TB := tb_T (List.mem_append_right _ (List.mem_append_left _ (List.mem_of_getElem? (i := 100) rfl))) rfl
theorem mi_yX6_train : Cond.instanceMethod yX6_train ∈ TB := tb_T (List.mem_append_right _ (List.mem_append_left _ (List.mem_of_getElem? (i := 101) rfl))) rfl
theorem me_yX6_train : Cond.selects RX6 yX6_train yX6_train ∈ TB := tb_T (List.mem_append_right _ (List.mem_append_left _ (List.mem_of_getElem? (i := 102) rfl))) rfl
theorem mkX6_83 : Cond.methodLink RX6 83 yX1_trainAt ∈ TB := tb_T (List.mem_append_right _ (List.mem_append_left _ (List.mem_of_getElem? (i := 104) rfl))) rfl
theorem mi_yX1_trainAt : Cond.instanceMethod yX1_trainAt ∈ TB := tb_T (List.mem_append_right _ (List.mem_append_left _ (List.mem_of_getElem? (i := 105) rfl))) rfl
theorem me_yX1_trainAt : Cond.selects RX1 yX1_trainAt yX1_trainAt ∈ TB := tb_T (List.mem_append_right _ (List.mem_append_left _ (List.mem_of_getElem? (i := 106) rfl))) rfl
theorem mkX6_87 : Cond.methodLink RX6 87 yX5_property ∈ TB := tb_T (List.mem_append_right _ (List.mem_append_left _ (List.mem_of_getElem? (i := 108) rfl))) rfl
theorem mi_yX5_property : Cond.instanceMethod yX5_property ∈ TB := tb_T (List.mem_append_right _ (List.mem_append_left _ (List.mem_of_getElem? (i := 109) rfl))) rfl
theorem me_yX5_property : Cond.selects RX5 yX5_property yX5_property ∈ TB := tb_T (List.mem_append_right _ (List.mem_append_left _ (List.mem_of_getElem? (i := 110) rfl))) rfl
theorem mkL_47 : Cond.methodLink RL 47 yX6_shunt ∈ TB := tb_T (List.mem_append_right _ (List.mem_append_left _ (List.mem_of_getElem? (i := 112) rfl))) rfl
theorem mi_yX6_shunt : Cond.instanceMethod yX6_shunt ∈ TB := tb_T (List.mem_append_right _ (List.mem_append_left _ (List.mem_of_getElem? (i := 113) rfl))) rfl
theorem me_yX6_shunt : Cond.selects RX6 yX6_shunt yX6_shunt ∈ TB := tb_T (List.mem_append_right _ (List.mem_append_left _ (List.mem_of_getElem? (i := 114) rfl))) rfl
theorem mkX6_90 : Cond.methodLink RX6 90 yX1_shuntTrain ∈ TB := tb_T (List.mem_append_right _ (List.mem_append_left _ (List.mem_of_getElem? (i := 116) rfl))) rfl
theorem mi_yX1_shuntTrain : Cond.instanceMethod yX1_shuntTrain ∈ TB := tb_T (List.mem_append_right _ (List.mem_append_left _ (List.mem_of_getElem? (i := 117) rfl))) rfl
theorem me_yX1_shuntTrain : Cond.selects RX1 yX1_shuntTrain yX1_shuntTrain ∈ TB := tb_T (List.mem_append_right _ (List.mem_append_left _ (List.mem_of_getElem? (i := 118) rfl))) rfl
theorem mkX1_158 : Cond.methodLink RX1 158 yX1_shuntToLoop ∈ TB := tb_T (List.mem_append_right _ (List.mem_append_left _ (List.mem_of_getElem? (i := 120) rfl))) rfl
theorem mi_yX1_shuntToLoop : Cond.instanceMethod yX1_shuntToLoop ∈ TB := tb_T (List.mem_append_right _ (List.mem_append_left _ (List.mem_of_getElem? (i := 122) rfl))) rfl
theorem mkX1_165 : Cond.methodLink RX1 165 yX1_nextBlock ∈ TB := tb_T (List.mem_append_right _ (List.mem_append_left _ (List.mem_of_getElem? (i := 124) rfl))) rfl
theorem mi_yX1_nextBlock : Cond.instanceMethod yX1_nextBlock ∈ TB := tb_T (List.mem_append_right _ (List.mem_append_left _ (List.mem_of_getElem? (i := 125) rfl))) rfl
theorem me_yX1_nextBlock : Cond.selects RX1 yX1_nextBlock yX1_nextBlock ∈ TB := tb_T (List.mem_append_right _ (List.mem_append_left _ (List.mem_of_getElem? (i := 126) rfl))) rfl
theorem mkX1_121 : Cond.methodLink RX1 121 yX1_blockAt ∈ TB := tb_T (List.mem_append_right _ (List.mem_append_left _ (List.mem_of_getElem? (i := 128) rfl))) rfl
theorem mkX1_172 : Cond.methodLink RX1 172 yX1_hasBox ∈ TB := tb_T (List.mem_append_right _ (List.mem_append_left _ (List.mem_of_getElem? (i := 129) rfl))) rfl
theorem mkX1_179 : Cond.methodLink RX1 179 yX5_standAt ∈ TB := tb_T (List.mem_append_right _ (List.mem_append_left _ (List.mem_of_getElem? (i := 131) rfl))) rfl
theorem mkX1_162 : Cond.methodLink RX1 162 yX1_shuntBack ∈ TB := tb_T (List.mem_append_right _ (List.mem_append_left _ (List.mem_of_getElem? (i := 132) rfl))) rfl
theorem mi_yX1_shuntBack : Cond.instanceMethod yX1_shuntBack ∈ TB := tb_T (List.mem_append_right _ (List.mem_append_left _ (List.mem_of_getElem? (i := 134) rfl))) rfl
theorem mkX1_182 : Cond.methodLink RX1 182 yX1_blockTo ∈ TB := tb_T (List.mem_append_right _ (List.mem_append_left _ (List.mem_of_getElem? (i := 136) rfl))) rfl
theorem mi_yX1_blockTo : Cond.instanceMethod yX1_blockTo ∈ TB := tb_T (List.mem_append_right _ (List.mem_append_left _ (List.mem_of_getElem? (i := 137) rfl))) rfl
theorem me_yX1_blockTo : Cond.selects RX1 yX1_blockTo yX1_blockTo ∈ TB := tb_T (List.mem_append_right _ (List.mem_append_left _ (List.mem_of_getElem? (i := 138) rfl))) rfl
theorem mkL_52 : Cond.methodLink RL 52 yX6_leave ∈ TB := tb_T (List.mem_append_right _ (List.mem_append_left _ (List.mem_of_getElem? (i := 140) rfl))) rfl
theorem mi_yX6_leave : Cond.instanceMethod yX6_leave ∈ TB := tb_T (List.mem_append_right _ (List.mem_append_left _ (List.mem_of_getElem? (i := 141) rfl))) rfl
theorem me_yX6_leave : Cond.selects RX6 yX6_leave yX6_leave ∈ TB := tb_T (List.mem_append_right _ (List.mem_append_left _ (List.mem_of_getElem? (i := 142) rfl))) rfl
theorem mkX6_94 : Cond.methodLink RX6 94 yX1_letLeave ∈ TB := tb_T (List.mem_append_right _ (List.mem_append_left _ (List.mem_of_getElem? (i := 144) rfl))) rfl
theorem mi_yX1_letLeave : Cond.instanceMethod yX1_letLeave ∈ TB := tb_T (List.mem_append_right _ (List.mem_append_left _ (List.mem_of_getElem? (i := 145) rfl))) rfl
theorem me_yX1_letLeave : Cond.selects RX1 yX1_letLeave yX1_letLeave ∈ TB := tb_T (List.mem_append_right _ (List.mem_append_left _ (List.mem_of_getElem? (i := 146) rfl))) rfl
theorem mkX1_185 : Cond.methodLink RX1 185 yX1_lastBox ∈ TB := tb_T (List.mem_append_right _ (List.mem_append_left _ (List.mem_of_getElem? (i := 148) rfl))) rfl
theorem mi_yX1_lastBox : Cond.instanceMethod yX1_lastBox ∈ TB := tb_T (List.mem_append_right _ (List.mem_append_left _ (List.mem_of_getElem? (i := 149) rfl))) rfl
theorem me_yX1_lastBox : Cond.selects RX1 yX1_lastBox yX1_lastBox ∈ TB := tb_T (List.mem_append_right _ (List.mem_append_left _ (List.mem_of_getElem? (i := 150) rfl))) rfl
theorem mkX1_188 : Cond.methodLink RX1 188 yX5_go ∈ TB := tb_T (List.mem_append_right _ (List.mem_append_left _ (List.mem_of_getElem? (i := 152) rfl))) rfl
theorem mi_yX5_go : Cond.instanceMethod yX5_go ∈ TB := tb_T (List.mem_append_right _ (List.mem_append_left _ (List.mem_of_getElem? (i := 153) rfl))) rfl
theorem me_yX5_go : Cond.selects RX5 yX5_go yX5_go ∈ TB := tb_T (List.mem_append_right _ (List.mem_append_left _ (List.mem_of_getElem? (i := 154) rfl))) rfl
theorem mkL_56 : Cond.methodLink RL 56 yX6_divide ∈ TB := tb_T (List.mem_append_right _ (List.mem_append_left _ (List.mem_of_getElem? (i := 156) rfl))) rfl
theorem mi_yX6_divide : Cond.instanceMethod yX6_divide ∈ TB := tb_T (List.mem_append_right _ (List.mem_append_left _ (List.mem_of_getElem? (i := 157) rfl))) rfl
theorem me_yX6_divide : Cond.selects RX6 yX6_divide yX6_divide ∈ TB := tb_T (List.mem_append_right _ (List.mem_append_left _ (List.mem_of_getElem? (i := 158) rfl))) rfl
theorem mkX6_97 : Cond.methodLink RX6 97 yX1_divideTrain ∈ TB := tb_T (List.mem_append_right _ (List.mem_append_left _ (List.mem_of_getElem? (i := 160) rfl))) rfl
theorem mi_yX1_divideTrain : Cond.instanceMethod yX1_divideTrain ∈ TB := tb_T (List.mem_append_right _ (List.mem_append_left _ (List.mem_of_getElem? (i := 161) rfl))) rfl
theorem me_yX1_divideTrain : Cond.selects RX1 yX1_divideTrain yX1_divideTrain ∈ TB := tb_T (List.mem_append_right _ (List.mem_append_left _ (List.mem_of_getElem? (i := 162) rfl))) rfl
theorem mkL_60 : Cond.methodLink RL 60 yX6_offer ∈ TB := tb_T (List.mem_append_right _ (List.mem_append_left _ (List.mem_of_getElem? (i := 164) rfl))) rfl
theorem mi_yX6_offer : Cond.instanceMethod yX6_offer ∈ TB := tb_T (List.mem_append_right _ (List.mem_append_left _ (List.mem_of_getElem? (i := 165) rfl))) rfl
theorem me_yX6_offer : Cond.selects RX6 yX6_offer yX6_offer ∈ TB := tb_T (List.mem_append_right _ (List.mem_append_left _ (List.mem_of_getElem? (i := 166) rfl))) rfl
theorem mkX6_100 : Cond.methodLink RX6 100 yX1_offerTrain ∈ TB := tb_T (List.mem_append_right _ (List.mem_append_left _ (List.mem_of_getElem? (i := 168) rfl))) rfl
theorem mi_yX1_offerTrain : Cond.instanceMethod yX1_offerTrain ∈ TB := tb_T (List.mem_append_right _ (List.mem_append_left _ (List.mem_of_getElem? (i := 169) rfl))) rfl
theorem me_yX1_offerTrain : Cond.selects RX1 yX1_offerTrain yX1_offerTrain ∈ TB := tb_T (List.mem_append_right _ (List.mem_append_left _ (List.mem_of_getElem? (i := 170) rfl))) rfl
theorem ms_yX6_offerCode : Cond.static yX6_offerCode ∈ TB := tb_T (List.mem_append_right _ (List.mem_append_left _ (List.mem_of_getElem? (i := 173) rfl))) rfl
theorem mkX1_216 : Cond.methodLink RX1 216 yX1_ringRear ∈ TB := tb_T (List.mem_append_right _ (List.mem_append_left _ (List.mem_of_getElem? (i := 175) rfl))) rfl
theorem mi_yX1_ringRear : Cond.instanceMethod yX1_ringRear ∈ TB := tb_T (List.mem_append_right _ (List.mem_append_left _ (List.mem_of_getElem? (i := 177) rfl))) rfl
theorem mkX1_200 : Cond.methodLink RX1 200 yX0_rearBox ∈ TB := tb_T (List.mem_append_right _ (List.mem_append_left _ (List.mem_of_getElem? (i := 179) rfl))) rfl
theorem mi_yX0_rearBox : Cond.instanceMethod yX0_rearBox ∈ TB := tb_T (List.mem_append_right _ (List.mem_append_left _ (List.mem_of_getElem? (i := 180) rfl))) rfl
theorem me_yX0_rearBox : Cond.selects RX0 yX0_rearBox yX0_rearBox ∈ TB := tb_T (List.mem_append_right _ (List.mem_append_left _ (List.mem_of_getElem? (i := 181) rfl))) rfl
theorem mkX1_203 : Cond.methodLink RX1 203 yX3_record ∈ TB := tb_T (List.mem_append_right _ (List.mem_append_left _ (List.mem_of_getElem? (i := 183) rfl))) rfl
theorem mi_yX3_record : Cond.instanceMethod yX3_record ∈ TB := tb_T (List.mem_append_right _ (List.mem_append_left _ (List.mem_of_getElem? (i := 184) rfl))) rfl
theorem me_yX3_record : Cond.selects RX3 yX3_record yX3_record ∈ TB := tb_T (List.mem_append_right _ (List.mem_append_left _ (List.mem_of_getElem? (i := 185) rfl))) rfl
theorem mkX3_25 : Cond.methodLink RX3 25 yX3_rowOf ∈ TB := tb_T (List.mem_append_right _ (List.mem_append_left _ (List.mem_of_getElem? (i := 187) rfl))) rfl
theorem ms_yX3_rowOf : Cond.static yX3_rowOf ∈ TB := tb_T (List.mem_append_right _ (List.mem_append_left _ (List.mem_of_getElem? (i := 188) rfl))) rfl
theorem knX3_53 : Cond.constant RX3 53 (2147483647) ∈ TB := tb_T (List.mem_append_right _ (List.mem_append_left _ (List.mem_of_getElem? (i := 190) rfl))) rfl
theorem mkL_64 : Cond.methodLink RL 64 yX6_answer ∈ TB := tb_T (List.mem_append_right _ (List.mem_append_left _ (List.mem_of_getElem? (i := 191) rfl))) rfl
theorem mi_yX6_answer : Cond.instanceMethod yX6_answer ∈ TB := tb_T (List.mem_append_right _ (List.mem_append_left _ (List.mem_of_getElem? (i := 192) rfl))) rfl
theorem me_yX6_answer : Cond.selects RX6 yX6_answer yX6_answer ∈ TB := tb_T (List.mem_append_right _ (List.mem_append_left _ (List.mem_of_getElem? (i := 193) rfl))) rfl
theorem mkX6_103 : Cond.methodLink RX6 103 yX1_accept ∈ TB := tb_T (List.mem_append_right _ (List.mem_append_left _ (List.mem_of_getElem? (i := 195) rfl))) rfl
theorem mi_yX1_accept : Cond.instanceMethod yX1_accept ∈ TB := tb_T (List.mem_append_right _ (List.mem_append_left _ (List.mem_of_getElem? (i := 196) rfl))) rfl
theorem me_yX1_accept : Cond.selects RX1 yX1_accept yX1_accept ∈ TB := tb_T (List.mem_append_right _ (List.mem_append_left _ (List.mem_of_getElem? (i := 197) rfl))) rfl
theorem mkX1_96 : Cond.methodLink RX1 96 yX1_trainAt ∈ TB := tb_T (List.mem_append_right _ (List.mem_append_left _ (List.mem_of_getElem? (i := 199) rfl))) rfl
theorem mkX1_207 : Cond.methodLink RX1 207 yX0_boxAhead ∈ TB := tb_T (List.mem_append_right _ (List.mem_append_left _ (List.mem_of_getElem? (i := 200) rfl))) rfl
theorem mi_yX0_boxAhead : Cond.instanceMethod yX0_boxAhead ∈ TB := tb_T (List.mem_append_right _ (List.mem_append_left _ (List.mem_of_getElem? (i := 201) rfl))) rfl
theorem me_yX0_boxAhead : Cond.selects RX0 yX0_boxAhead yX0_boxAhead ∈ TB := tb_T (List.mem_append_right _ (List.mem_append_left _ (List.mem_of_getElem? (i := 202) rfl))) rfl
theorem mkX1_221 : Cond.methodLink RX1 221 yX1_isTokenReady ∈ TB := tb_T (List.mem_append_right _ (List.mem_append_left _ (List.mem_of_getElem? (i := 204) rfl))) rfl
theorem mi_yX1_isTokenReady : Cond.instanceMethod yX1_isTokenReady ∈ TB := tb_T (List.mem_append_right _ (List.mem_append_left _ (List.mem_of_getElem? (i := 206) rfl))) rfl
theorem mkX1_234 : Cond.methodLink RX1 234 yX0_rearEnd ∈ TB := tb_T (List.mem_append_right _ (List.mem_append_left _ (List.mem_of_getElem? (i := 208) rfl))) rfl
theorem mi_yX0_rearEnd : Cond.instanceMethod yX0_rearEnd ∈ TB := tb_T (List.mem_append_right _ (List.mem_append_left _ (List.mem_of_getElem? (i := 209) rfl))) rfl
theorem me_yX0_rearEnd : Cond.selects RX0 yX0_rearEnd yX0_rearEnd ∈ TB := tb_T (List.mem_append_right _ (List.mem_append_left _ (List.mem_of_getElem? (i := 210) rfl))) rfl
theorem mkX1_237 : Cond.methodLink RX1 237 yX4_hasToken ∈ TB := tb_T (List.mem_append_right _ (List.mem_append_left _ (List.mem_of_getElem? (i := 212) rfl))) rfl
theorem mi_yX4_hasToken : Cond.instanceMethod yX4_hasToken ∈ TB := tb_T (List.mem_append_right _ (List.mem_append_left _ (List.mem_of_getElem? (i := 213) rfl))) rfl
theorem me_yX4_hasToken : Cond.selects RX4 yX4_hasToken yX4_hasToken ∈ TB := tb_T (List.mem_append_right _ (List.mem_append_left _ (List.mem_of_getElem? (i := 214) rfl))) rfl
theorem mkX1_225 : Cond.methodLink RX1 225 yX0_makeClear ∈ TB := tb_T (List.mem_append_right _ (List.mem_append_left _ (List.mem_of_getElem? (i := 216) rfl))) rfl
theorem mi_yX0_makeClear : Cond.instanceMethod yX0_makeClear ∈ TB := tb_T (List.mem_append_right _ (List.mem_append_left _ (List.mem_of_getElem? (i := 217) rfl))) rfl
theorem me_yX0_makeClear : Cond.selects RX0 yX0_makeClear yX0_makeClear ∈ TB := tb_T (List.mem_append_right _ (List.mem_append_left _ (List.mem_of_getElem? (i := 218) rfl))) rfl
theorem mkX0_40 : Cond.methodLink RX0 40 yX0_rearEnd ∈ TB := tb_T (List.mem_append_right _ (List.mem_append_left _ (List.mem_of_getElem? (i := 220) rfl))) rfl
theorem mkX0_44 : Cond.methodLink RX0 44 yX4_takeToken ∈ TB := tb_T (List.mem_append_right _ (List.mem_append_left _ (List.mem_of_getElem? (i := 221) rfl))) rfl
theorem mi_yX4_takeToken : Cond.instanceMethod yX4_takeToken ∈ TB := tb_T (List.mem_append_right _ (List.mem_append_left _ (List.mem_of_getElem? (i := 222) rfl))) rfl
theorem me_yX4_takeToken : Cond.selects RX4 yX4_takeToken yX4_takeToken ∈ TB := tb_T (List.mem_append_right _ (List.mem_append_left _ (List.mem_of_getElem? (i := 223) rfl))) rfl
theorem mkX4_31 : Cond.methodLink RX4 31 yX4_addTokens ∈ TB := tb_T (List.mem_append_right _ (List.mem_append_left _ (List.mem_of_getElem? (i := 225) rfl))) rfl
theorem mi_yX4_addTokens : Cond.instanceMethod yX4_addTokens ∈ TB := tb_T (List.mem_append_right _ (List.mem_append_left _ (List.mem_of_getElem? (i := 227) rfl))) rfl
theorem mkX1_228 : Cond.methodLink RX1 228 yX1_ringAhead ∈ TB := tb_T (List.mem_append_right _ (List.mem_append_left _ (List.mem_of_getElem? (i := 229) rfl))) rfl
theorem mi_yX1_ringAhead : Cond.instanceMethod yX1_ringAhead ∈ TB := tb_T (List.mem_append_right _ (List.mem_append_left _ (List.mem_of_getElem? (i := 231) rfl))) rfl
theorem mkX6_107 : Cond.methodLink RX6 107 yX1_refuse ∈ TB := tb_T (List.mem_append_right _ (List.mem_append_left _ (List.mem_of_getElem? (i := 233) rfl))) rfl
theorem mi_yX1_refuse : Cond.instanceMethod yX1_refuse ∈ TB := tb_T (List.mem_append_right _ (List.mem_append_left _ (List.mem_of_getElem? (i := 234) rfl))) rfl
theorem me_yX1_refuse : Cond.selects RX1 yX1_refuse yX1_refuse ∈ TB := tb_T (List.mem_append_right _ (List.mem_append_left _ (List.mem_of_getElem? (i := 235) rfl))) rfl
theorem mkL_69 : Cond.methodLink RL 69 yX6_cancel ∈ TB := tb_T (List.mem_append_right _ (List.mem_append_left _ (List.mem_of_getElem? (i := 237) rfl))) rfl
theorem mi_yX6_cancel : Cond.instanceMethod yX6_cancel ∈ TB := tb_T (List.mem_append_right _ (List.mem_append_left _ (List.mem_of_getElem? (i := 238) rfl))) rfl
theorem me_yX6_cancel : Cond.selects RX6 yX6_cancel yX6_cancel ∈ TB := tb_T (List.mem_append_right _ (List.mem_append_left _ (List.mem_of_getElem? (i := 239) rfl))) rfl
theorem mkX6_110 : Cond.methodLink RX6 110 yX1_cancelBlock ∈ TB := tb_T (List.mem_append_right _ (List.mem_append_right _ (List.mem_append_left _ (List.mem_of_getElem? (i := 1) rfl)))) rfl
theorem mi_yX1_cancelBlock : Cond.instanceMethod yX1_cancelBlock ∈ TB := tb_T (List.mem_append_right _ (List.mem_append_right _ (List.mem_append_left _ (List.mem_of_getElem? (i := 2) rfl)))) rfl
theorem me_yX1_cancelBlock : Cond.selects RX1 yX1_cancelBlock yX1_cancelBlock ∈ TB := tb_T (List.mem_append_right _ (List.mem_append_right _ (List.mem_append_left _ (List.mem_of_getElem? (i := 3) rfl)))) rfl
theorem mkX1_240 : Cond.methodLink RX1 240 yX0_takeBack ∈ TB := tb_T (List.mem_append_right _ (List.mem_append_right _ (List.mem_append_left _ (List.mem_of_getElem? (i := 5) rfl)))) rfl
theorem mi_yX0_takeBack : Cond.instanceMethod yX0_takeBack ∈ TB := tb_T (List.mem_append_right _ (List.mem_append_right _ (List.mem_append_left _ (List.mem_of_getElem? (i := 6) rfl)))) rfl
theorem me_yX0_takeBack : Cond.selects RX0 yX0_takeBack yX0_takeBack ∈ TB := tb_T (List.mem_append_right _ (List.mem_append_right _ (List.mem_append_left _ (List.mem_of_getElem? (i := 7) rfl)))) rfl
theorem mkX0_48 : Cond.methodLink RX0 48 yX4_putToken ∈ TB := tb_T (List.mem_append_right _ (List.mem_append_right _ (List.mem_append_left _ (List.mem_of_getElem? (i := 9) rfl)))) rfl
theorem mi_yX4_putToken : Cond.instanceMethod yX4_putToken ∈ TB := tb_T (List.mem_append_right _ (List.mem_append_right _ (List.mem_append_left _ (List.mem_of_getElem? (i := 10) rfl)))) rfl
theorem me_yX4_putToken : Cond.selects RX4 yX4_putToken yX4_putToken ∈ TB := tb_T (List.mem_append_right _ (List.mem_append_right _ (List.mem_append_left _ (List.mem_of_getElem? (i := 11) rfl)))) rfl
theorem mkL_73 : Cond.methodLink RL 73 yX6_depart ∈ TB := tb_T (List.mem_append_right _ (List.mem_append_right _ (List.mem_append_left _ (List.mem_of_getElem? (i := 13) rfl)))) rfl
theorem mi_yX6_depart : Cond.instanceMethod yX6_depart ∈ TB := tb_T (List.mem_append_right _ (List.mem_append_right _ (List.mem_append_left _ (List.mem_of_getElem? (i := 14) rfl)))) rfl
theorem me_yX6_depart : Cond.selects RX6 yX6_depart yX6_depart ∈ TB := tb_T (List.mem_append_right _ (List.mem_append_right _ (List.mem_append_left _ (List.mem_of_getElem? (i := 15) rfl)))) rfl
theorem mkX6_113 : Cond.methodLink RX6 113 yX1_letDepart ∈ TB := tb_T (List.mem_append_right _ (List.mem_append_right _ (List.mem_append_left _ (List.mem_of_getElem? (i := 17) rfl)))) rfl
theorem mi_yX1_letDepart : Cond.instanceMethod yX1_letDepart ∈ TB := tb_T (List.mem_append_right _ (List.mem_append_right _ (List.mem_append_left _ (List.mem_of_getElem? (i := 18) rfl)))) rfl
theorem me_yX1_letDepart : Cond.selects RX1 yX1_letDepart yX1_letDepart ∈ TB := tb_T (List.mem_append_right _ (List.mem_append_right _ (List.mem_append_left _ (List.mem_of_getElem? (i := 19) rfl)))) rfl
theorem mkX1_243 : Cond.methodLink RX1 243 yX5_enter ∈ TB := tb_T (List.mem_append_right _ (List.mem_append_right _ (List.mem_append_left _ (List.mem_of_getElem? (i := 21) rfl)))) rfl
theorem mi_yX5_enter : Cond.instanceMethod yX5_enter ∈ TB := tb_T (List.mem_append_right _ (List.mem_append_right _ (List.mem_append_left _ (List.mem_of_getElem? (i := 22) rfl)))) rfl
theorem me_yX5_enter : Cond.selects RX5 yX5_enter yX5_enter ∈ TB := tb_T (List.mem_append_right _ (List.mem_append_right _ (List.mem_append_left _ (List.mem_of_getElem? (i := 23) rfl)))) rfl
theorem mkL_77 : Cond.methodLink RL 77 yX6_admit ∈ TB := tb_T (List.mem_append_right _ (List.mem_append_right _ (List.mem_append_left _ (List.mem_of_getElem? (i := 25) rfl)))) rfl
theorem mi_yX6_admit : Cond.instanceMethod yX6_admit ∈ TB := tb_T (List.mem_append_right _ (List.mem_append_right _ (List.mem_append_left _ (List.mem_of_getElem? (i := 26) rfl)))) rfl
theorem me_yX6_admit : Cond.selects RX6 yX6_admit yX6_admit ∈ TB := tb_T (List.mem_append_right _ (List.mem_append_right _ (List.mem_append_left _ (List.mem_of_getElem? (i := 27) rfl)))) rfl
theorem mkX6_116 : Cond.methodLink RX6 116 yX1_admitTrain ∈ TB := tb_T (List.mem_append_right _ (List.mem_append_right _ (List.mem_append_left _ (List.mem_of_getElem? (i := 29) rfl)))) rfl
theorem mi_yX1_admitTrain : Cond.instanceMethod yX1_admitTrain ∈ TB := tb_T (List.mem_append_right _ (List.mem_append_right _ (List.mem_append_left _ (List.mem_of_getElem? (i := 30) rfl)))) rfl
theorem me_yX1_admitTrain : Cond.selects RX1 yX1_admitTrain yX1_admitTrain ∈ TB := tb_T (List.mem_append_right _ (List.mem_append_right _ (List.mem_append_left _ (List.mem_of_getElem? (i := 31) rfl)))) rfl
theorem mkX1_249 : Cond.methodLink RX1 249 yX1_trainInside ∈ TB := tb_T (List.mem_append_right _ (List.mem_append_right _ (List.mem_append_left _ (List.mem_of_getElem? (i := 33) rfl)))) rfl
theorem mi_yX1_trainInside : Cond.instanceMethod yX1_trainInside ∈ TB := tb_T (List.mem_append_right _ (List.mem_append_right _ (List.mem_append_left _ (List.mem_of_getElem? (i := 34) rfl)))) rfl
theorem me_yX1_trainInside : Cond.selects RX1 yX1_trainInside yX1_trainInside ∈ TB := tb_T (List.mem_append_right _ (List.mem_append_right _ (List.mem_append_left _ (List.mem_of_getElem? (i := 35) rfl)))) rfl
theorem mkL_81 : Cond.methodLink RL 81 yX6_out ∈ TB := tb_T (List.mem_append_right _ (List.mem_append_right _ (List.mem_append_left _ (List.mem_of_getElem? (i := 37) rfl)))) rfl
theorem mi_yX6_out : Cond.instanceMethod yX6_out ∈ TB := tb_T (List.mem_append_right _ (List.mem_append_right _ (List.mem_append_left _ (List.mem_of_getElem? (i := 38) rfl)))) rfl
theorem me_yX6_out : Cond.selects RX6 yX6_out yX6_out ∈ TB := tb_T (List.mem_append_right _ (List.mem_append_right _ (List.mem_append_left _ (List.mem_of_getElem? (i := 39) rfl)))) rfl
theorem mkX6_119 : Cond.methodLink RX6 119 yX1_reportOut ∈ TB := tb_T (List.mem_append_right _ (List.mem_append_right _ (List.mem_append_left _ (List.mem_of_getElem? (i := 41) rfl)))) rfl
theorem mi_yX1_reportOut : Cond.instanceMethod yX1_reportOut ∈ TB := tb_T (List.mem_append_right _ (List.mem_append_right _ (List.mem_append_left _ (List.mem_of_getElem? (i := 42) rfl)))) rfl
theorem me_yX1_reportOut : Cond.selects RX1 yX1_reportOut yX1_reportOut ∈ TB := tb_T (List.mem_append_right _ (List.mem_append_right _ (List.mem_append_left _ (List.mem_of_getElem? (i := 43) rfl)))) rfl
theorem mkX1_253 : Cond.methodLink RX1 253 yX0_makeFree ∈ TB := tb_T (List.mem_append_right _ (List.mem_append_right _ (List.mem_append_left _ (List.mem_of_getElem? (i := 45) rfl)))) rfl
theorem mi_yX0_makeFree : Cond.instanceMethod yX0_makeFree ∈ TB := tb_T (List.mem_append_right _ (List.mem_append_right _ (List.mem_append_left _ (List.mem_of_getElem? (i := 46) rfl)))) rfl
theorem me_yX0_makeFree : Cond.selects RX0 yX0_makeFree yX0_makeFree ∈ TB := tb_T (List.mem_append_right _ (List.mem_append_right _ (List.mem_append_left _ (List.mem_of_getElem? (i := 47) rfl)))) rfl
theorem mkX0_51 : Cond.methodLink RX0 51 yX0_endAhead ∈ TB := tb_T (List.mem_append_right _ (List.mem_append_right _ (List.mem_append_left _ (List.mem_of_getElem? (i := 49) rfl)))) rfl
theorem mi_yX0_endAhead : Cond.instanceMethod yX0_endAhead ∈ TB := tb_T (List.mem_append_right _ (List.mem_append_right _ (List.mem_append_left _ (List.mem_of_getElem? (i := 50) rfl)))) rfl
theorem me_yX0_endAhead : Cond.selects RX0 yX0_endAhead yX0_endAhead ∈ TB := tb_T (List.mem_append_right _ (List.mem_append_right _ (List.mem_append_left _ (List.mem_of_getElem? (i := 51) rfl)))) rfl
theorem mkL_85 : Cond.methodLink RL 85 yX6_assist ∈ TB := tb_T (List.mem_append_right _ (List.mem_append_right _ (List.mem_append_left _ (List.mem_of_getElem? (i := 53) rfl)))) rfl
theorem mi_yX6_assist : Cond.instanceMethod yX6_assist ∈ TB := tb_T (List.mem_append_right _ (List.mem_append_right _ (List.mem_append_left _ (List.mem_of_getElem? (i := 54) rfl)))) rfl
theorem me_yX6_assist : Cond.selects RX6 yX6_assist yX6_assist ∈ TB := tb_T (List.mem_append_right _ (List.mem_append_right _ (List.mem_append_left _ (List.mem_of_getElem? (i := 55) rfl)))) rfl
theorem mkX6_122 : Cond.methodLink RX6 122 yX1_sendEngine ∈ TB := tb_T (List.mem_append_right _ (List.mem_append_right _ (List.mem_append_left _ (List.mem_of_getElem? (i := 57) rfl)))) rfl
theorem mi_yX1_sendEngine : Cond.instanceMethod yX1_sendEngine ∈ TB := tb_T (List.mem_append_right _ (List.mem_append_right _ (List.mem_append_left _ (List.mem_of_getElem? (i := 58) rfl)))) rfl
theorem me_yX1_sendEngine : Cond.selects RX1 yX1_sendEngine yX1_sendEngine ∈ TB := tb_T (List.mem_append_right _ (List.mem_append_right _ (List.mem_append_left _ (List.mem_of_getElem? (i := 59) rfl)))) rfl
theorem mkL_89 : Cond.methodLink RL 89 yX6_obstruct ∈ TB := tb_T (List.mem_append_right _ (List.mem_append_right _ (List.mem_append_left _ (List.mem_of_getElem? (i := 61) rfl)))) rfl
theorem mi_yX6_obstruct : Cond.instanceMethod yX6_obstruct ∈ TB := tb_T (List.mem_append_right _ (List.mem_append_right _ (List.mem_append_left _ (List.mem_of_getElem? (i := 62) rfl)))) rfl
theorem me_yX6_obstruct : Cond.selects RX6 yX6_obstruct yX6_obstruct ∈ TB := tb_T (List.mem_append_right _ (List.mem_append_right _ (List.mem_append_left _ (List.mem_of_getElem? (i := 63) rfl)))) rfl
theorem mkX6_125 : Cond.methodLink RX6 125 yX1_obstructBlock ∈ TB := tb_T (List.mem_append_right _ (List.mem_append_right _ (List.mem_append_left _ (List.mem_of_getElem? (i := 65) rfl)))) rfl
theorem mi_yX1_obstructBlock : Cond.instanceMethod yX1_obstructBlock ∈ TB := tb_T (List.mem_append_right _ (List.mem_append_right _ (List.mem_append_left _ (List.mem_of_getElem? (i := 66) rfl)))) rfl
theorem me_yX1_obstructBlock : Cond.selects RX1 yX1_obstructBlock yX1_obstructBlock ∈ TB := tb_T (List.mem_append_right _ (List.mem_append_right _ (List.mem_append_left _ (List.mem_of_getElem? (i := 67) rfl)))) rfl
theorem mkL_93 : Cond.methodLink RL 93 yX6_lift ∈ TB := tb_T (List.mem_append_right _ (List.mem_append_right _ (List.mem_append_left _ (List.mem_of_getElem? (i := 69) rfl)))) rfl
theorem mi_yX6_lift : Cond.instanceMethod yX6_lift ∈ TB := tb_T (List.mem_append_right _ (List.mem_append_right _ (List.mem_append_left _ (List.mem_of_getElem? (i := 70) rfl)))) rfl
theorem me_yX6_lift : Cond.selects RX6 yX6_lift yX6_lift ∈ TB := tb_T (List.mem_append_right _ (List.mem_append_right _ (List.mem_append_left _ (List.mem_of_getElem? (i := 71) rfl)))) rfl
theorem mkX6_128 : Cond.methodLink RX6 128 yX1_liftBlock ∈ TB := tb_T (List.mem_append_right _ (List.mem_append_right _ (List.mem_append_left _ (List.mem_of_getElem? (i := 73) rfl)))) rfl
theorem mi_yX1_liftBlock : Cond.instanceMethod yX1_liftBlock ∈ TB := tb_T (List.mem_append_right _ (List.mem_append_right _ (List.mem_append_left _ (List.mem_of_getElem? (i := 74) rfl)))) rfl
theorem me_yX1_liftBlock : Cond.selects RX1 yX1_liftBlock yX1_liftBlock ∈ TB := tb_T (List.mem_append_right _ (List.mem_append_right _ (List.mem_append_left _ (List.mem_of_getElem? (i := 75) rfl)))) rfl
theorem mkL_97 : Cond.methodLink RL 97 yX6_pass ∈ TB := tb_T (List.mem_append_right _ (List.mem_append_right _ (List.mem_append_left _ (List.mem_of_getElem? (i := 77) rfl)))) rfl
theorem mi_yX6_pass : Cond.instanceMethod yX6_pass ∈ TB := tb_T (List.mem_append_right _ (List.mem_append_right _ (List.mem_append_left _ (List.mem_of_getElem? (i := 78) rfl)))) rfl
theorem me_yX6_pass : Cond.selects RX6 yX6_pass yX6_pass ∈ TB := tb_T (List.mem_append_right _ (List.mem_append_right _ (List.mem_append_left _ (List.mem_of_getElem? (i := 79) rfl)))) rfl
theorem knX6_134 : Cond.constant RX6 134 (1000000) ∈ TB := tb_T (List.mem_append_right _ (List.mem_append_right _ (List.mem_append_left _ (List.mem_of_getElem? (i := 81) rfl)))) rfl
theorem mkX6_135 : Cond.methodLink RX6 135 yX1_letPass ∈ TB := tb_T (List.mem_append_right _ (List.mem_append_right _ (List.mem_append_left _ (List.mem_of_getElem? (i := 82) rfl)))) rfl
theorem mi_yX1_letPass : Cond.instanceMethod yX1_letPass ∈ TB := tb_T (List.mem_append_right _ (List.mem_append_right _ (List.mem_append_left _ (List.mem_of_getElem? (i := 83) rfl)))) rfl
theorem me_yX1_letPass : Cond.selects RX1 yX1_letPass yX1_letPass ∈ TB := tb_T (List.mem_append_right _ (List.mem_append_right _ (List.mem_append_left _ (List.mem_of_getElem? (i := 84) rfl)))) rfl
theorem mkX1_262 : Cond.methodLink RX1 262 yX5_letPass ∈ TB := tb_T (List.mem_append_right _ (List.mem_append_right _ (List.mem_append_left _ (List.mem_of_getElem? (i := 86) rfl)))) rfl
theorem mi_yX5_letPass : Cond.instanceMethod yX5_letPass ∈ TB := tb_T (List.mem_append_right _ (List.mem_append_right _ (List.mem_append_left _ (List.mem_of_getElem? (i := 87) rfl)))) rfl
theorem me_yX5_letPass : Cond.selects RX5 yX5_letPass yX5_letPass ∈ TB := tb_T (List.mem_append_right _ (List.mem_append_right _ (List.mem_append_left _ (List.mem_of_getElem? (i := 88) rfl)))) rfl
theorem mkX5_50 : Cond.methodLink RX5 50 yJ9_max_7cf53 ∈ TB := tb_T (List.mem_append_right _ (List.mem_append_right _ (List.mem_append_left _ (List.mem_of_getElem? (i := 90) rfl)))) rfl
theorem ms_yJ9_max_7cf53 : Cond.static yJ9_max_7cf53 ∈ TB := tb_T (List.mem_append_right _ (List.mem_append_right _ (List.mem_append_left _ (List.mem_of_getElem? (i := 91) rfl)))) rfl
theorem mkX1_138 : Cond.methodLink RX1 138 yX1_blockCount ∈ TB := tb_T (List.mem_append_right _ (List.mem_append_right _ (List.mem_append_left _ (List.mem_of_getElem? (i := 93) rfl)))) rfl
theorem mi_yX1_blockCount : Cond.instanceMethod yX1_blockCount ∈ TB := tb_T (List.mem_append_right _ (List.mem_append_right _ (List.mem_append_left _ (List.mem_of_getElem? (i := 94) rfl)))) rfl
theorem me_yX1_blockCount : Cond.selects RX1 yX1_blockCount yX1_blockCount ∈ TB := tb_T (List.mem_append_right _ (List.mem_append_right _ (List.mem_append_left _ (List.mem_of_getElem? (i := 95) rfl)))) rfl
theorem mkX1_265 : Cond.methodLink RX1 265 yX0_letPass ∈ TB := tb_T (List.mem_append_right _ (List.mem_append_right _ (List.mem_append_left _ (List.mem_of_getElem? (i := 97) rfl)))) rfl
theorem mi_yX0_letPass : Cond.instanceMethod yX0_letPass ∈ TB := tb_T (List.mem_append_right _ (List.mem_append_right _ (List.mem_append_left _ (List.mem_of_getElem? (i := 98) rfl)))) rfl
theorem me_yX0_letPass : Cond.selects RX0 yX0_letPass yX0_letPass ∈ TB := tb_T (List.mem_append_right _ (List.mem_append_right _ (List.mem_append_left _ (List.mem_of_getElem? (i := 99) rfl)))) rfl
theorem mkX0_54 : Cond.methodLink RX0 54 yJ9_max_7cf53 ∈ TB := tb_T (List.mem_append_right _ (List.mem_append_right _ (List.mem_append_left _ (List.mem_of_getElem? (i := 101) rfl)))) rfl
theorem mkL_101 : Cond.methodLink RL 101 yX6_signal ∈ TB := tb_T (List.mem_append_right _ (List.mem_append_right _ (List.mem_append_left _ (List.mem_of_getElem? (i := 102) rfl)))) rfl
theorem mi_yX6_signal : Cond.instanceMethod yX6_signal ∈ TB := tb_T (List.mem_append_right _ (List.mem_append_right _ (List.mem_append_left _ (List.mem_of_getElem? (i := 103) rfl)))) rfl
theorem me_yX6_signal : Cond.selects RX6 yX6_signal yX6_signal ∈ TB := tb_T (List.mem_append_right _ (List.mem_append_right _ (List.mem_append_left _ (List.mem_of_getElem? (i := 104) rfl)))) rfl
theorem mkX6_143 : Cond.methodLink RX6 143 yX3_property ∈ TB := tb_T (List.mem_append_right _ (List.mem_append_right _ (List.mem_append_left _ (List.mem_of_getElem? (i := 106) rfl)))) rfl
theorem mi_yX3_property : Cond.instanceMethod yX3_property ∈ TB := tb_T (List.mem_append_right _ (List.mem_append_right _ (List.mem_append_left _ (List.mem_of_getElem? (i := 107) rfl)))) rfl
theorem me_yX3_property : Cond.selects RX3 yX3_property yX3_property ∈ TB := tb_T (List.mem_append_right _ (List.mem_append_right _ (List.mem_append_left _ (List.mem_of_getElem? (i := 108) rfl)))) rfl
theorem mkX3_43 : Cond.methodLink RX3 43 yX3_oldest ∈ TB := tb_T (List.mem_append_right _ (List.mem_append_right _ (List.mem_append_left _ (List.mem_of_getElem? (i := 110) rfl)))) rfl
theorem mi_yX3_oldest : Cond.instanceMethod yX3_oldest ∈ TB := tb_T (List.mem_append_right _ (List.mem_append_right _ (List.mem_append_left _ (List.mem_of_getElem? (i := 112) rfl)))) rfl
theorem mkX3_47 : Cond.methodLink RX3 47 yJ9_max_7cf53 ∈ TB := tb_T (List.mem_append_right _ (List.mem_append_right _ (List.mem_append_left _ (List.mem_of_getElem? (i := 114) rfl)))) rfl
theorem mkL_105 : Cond.methodLink RL 105 yX6_rung ∈ TB := tb_T (List.mem_append_right _ (List.mem_append_right _ (List.mem_append_left _ (List.mem_of_getElem? (i := 115) rfl)))) rfl
theorem mi_yX6_rung : Cond.instanceMethod yX6_rung ∈ TB := tb_T (List.mem_append_right _ (List.mem_append_right _ (List.mem_append_left _ (List.mem_of_getElem? (i := 116) rfl)))) rfl
theorem me_yX6_rung : Cond.selects RX6 yX6_rung yX6_rung ∈ TB := tb_T (List.mem_append_right _ (List.mem_append_right _ (List.mem_append_left _ (List.mem_of_getElem? (i := 117) rfl)))) rfl
theorem mkX6_147 : Cond.methodLink RX6 147 yX3_countOf ∈ TB := tb_T (List.mem_append_right _ (List.mem_append_right _ (List.mem_append_left _ (List.mem_of_getElem? (i := 119) rfl)))) rfl
theorem mi_yX3_countOf : Cond.instanceMethod yX3_countOf ∈ TB := tb_T (List.mem_append_right _ (List.mem_append_right _ (List.mem_append_left _ (List.mem_of_getElem? (i := 120) rfl)))) rfl
theorem me_yX3_countOf : Cond.selects RX3 yX3_countOf yX3_countOf ∈ TB := tb_T (List.mem_append_right _ (List.mem_append_right _ (List.mem_append_left _ (List.mem_of_getElem? (i := 121) rfl)))) rfl
theorem mkL_109 : Cond.methodLink RL 109 yX6_work ∈ TB := tb_T (List.mem_append_right _ (List.mem_append_right _ (List.mem_append_left _ (List.mem_of_getElem? (i := 123) rfl)))) rfl
theorem mi_yX6_work : Cond.instanceMethod yX6_work ∈ TB := tb_T (List.mem_append_right _ (List.mem_append_right _ (List.mem_append_left _ (List.mem_of_getElem? (i := 124) rfl)))) rfl
theorem me_yX6_work : Cond.selects RX6 yX6_work yX6_work ∈ TB := tb_T (List.mem_append_right _ (List.mem_append_right _ (List.mem_append_left _ (List.mem_of_getElem? (i := 125) rfl)))) rfl
theorem mkX6_150 : Cond.methodLink RX6 150 yX1_workTick ∈ TB := tb_T (List.mem_append_right _ (List.mem_append_right _ (List.mem_append_left _ (List.mem_of_getElem? (i := 127) rfl)))) rfl
theorem mi_yX1_workTick : Cond.instanceMethod yX1_workTick ∈ TB := tb_T (List.mem_append_right _ (List.mem_append_right _ (List.mem_append_left _ (List.mem_of_getElem? (i := 128) rfl)))) rfl
theorem me_yX1_workTick : Cond.selects RX1 yX1_workTick yX1_workTick ∈ TB := tb_T (List.mem_append_right _ (List.mem_append_right _ (List.mem_append_left _ (List.mem_of_getElem? (i := 129) rfl)))) rfl
theorem mkX1_266 : Cond.methodLink RX1 266 yX1_clearSections ∈ TB := tb_T (List.mem_append_right _ (List.mem_append_right _ (List.mem_append_left _ (List.mem_of_getElem? (i := 131) rfl)))) rfl
theorem mi_yX1_clearSections : Cond.instanceMethod yX1_clearSections ∈ TB := tb_T (List.mem_append_right _ (List.mem_append_right _ (List.mem_append_left _ (List.mem_of_getElem? (i := 133) rfl)))) rfl
theorem mkX1_282 : Cond.methodLink RX1 282 yX1_reportOut ∈ TB := tb_T (List.mem_append_right _ (List.mem_append_right _ (List.mem_append_left _ (List.mem_of_getElem? (i := 135) rfl)))) rfl
theorem mkX1_286 : Cond.methodLink RX1 286 yX1_sendEngine ∈ TB := tb_T (List.mem_append_right _ (List.mem_append_right _ (List.mem_append_left _ (List.mem_of_getElem? (i := 136) rfl)))) rfl
theorem mkX1_289 : Cond.methodLink RX1 289 yX1_admitTrain ∈ TB := tb_T (List.mem_append_right _ (List.mem_append_right _ (List.mem_append_left _ (List.mem_of_getElem? (i := 137) rfl)))) rfl
theorem mkX1_269 : Cond.methodLink RX1 269 yX1_leaveAll ∈ TB := tb_T (List.mem_append_right _ (List.mem_append_right _ (List.mem_append_left _ (List.mem_of_getElem? (i := 138) rfl)))) rfl
theorem mi_yX1_leaveAll : Cond.instanceMethod yX1_leaveAll ∈ TB := tb_T (List.mem_append_right _ (List.mem_append_right _ (List.mem_append_left _ (List.mem_of_getElem? (i := 140) rfl)))) rfl
theorem mkX1_292 : Cond.methodLink RX1 292 yX1_letLeave ∈ TB := tb_T (List.mem_append_right _ (List.mem_append_right _ (List.mem_append_left _ (List.mem_of_getElem? (i := 142) rfl)))) rfl
theorem mkX1_272 : Cond.methodLink RX1 272 yX1_offerAll ∈ TB := tb_T (List.mem_append_right _ (List.mem_append_right _ (List.mem_append_left _ (List.mem_of_getElem? (i := 143) rfl)))) rfl
theorem mi_yX1_offerAll : Cond.instanceMethod yX1_offerAll ∈ TB := tb_T (List.mem_append_right _ (List.mem_append_right _ (List.mem_append_left _ (List.mem_of_getElem? (i := 145) rfl)))) rfl
theorem mkX1_295 : Cond.methodLink RX1 295 yX1_offerTrain ∈ TB := tb_T (List.mem_append_right _ (List.mem_append_right _ (List.mem_append_left _ (List.mem_of_getElem? (i := 147) rfl)))) rfl
theorem mkX1_275 : Cond.methodLink RX1 275 yX1_answerAll ∈ TB := tb_T (List.mem_append_right _ (List.mem_append_right _ (List.mem_append_left _ (List.mem_of_getElem? (i := 148) rfl)))) rfl
theorem mi_yX1_answerAll : Cond.instanceMethod yX1_answerAll ∈ TB := tb_T (List.mem_append_right _ (List.mem_append_right _ (List.mem_append_left _ (List.mem_of_getElem? (i := 150) rfl)))) rfl
theorem mkX1_298 : Cond.methodLink RX1 298 yX1_accept ∈ TB := tb_T (List.mem_append_right _ (List.mem_append_right _ (List.mem_append_left _ (List.mem_of_getElem? (i := 152) rfl)))) rfl
theorem mkX1_301 : Cond.methodLink RX1 301 yX1_refuse ∈ TB := tb_T (List.mem_append_right _ (List.mem_append_right _ (List.mem_append_left _ (List.mem_of_getElem? (i := 153) rfl)))) rfl
theorem mkX1_278 : Cond.methodLink RX1 278 yX1_departAll ∈ TB := tb_T (List.mem_append_right _ (List.mem_append_right _ (List.mem_append_left _ (List.mem_of_getElem? (i := 154) rfl)))) rfl
theorem mi_yX1_departAll : Cond.instanceMethod yX1_departAll ∈ TB := tb_T (List.mem_append_right _ (List.mem_append_right _ (List.mem_append_left _ (List.mem_of_getElem? (i := 156) rfl)))) rfl
theorem mkX1_304 : Cond.methodLink RX1 304 yX1_letDepart ∈ TB := tb_T (List.mem_append_right _ (List.mem_append_right _ (List.mem_append_left _ (List.mem_of_getElem? (i := 158) rfl)))) rfl
theorem mkX1_281 : Cond.methodLink RX1 281 yX1_letPass ∈ TB := tb_T (List.mem_append_right _ (List.mem_append_right _ (List.mem_append_left _ (List.mem_of_getElem? (i := 159) rfl)))) rfl
theorem mkL_113 : Cond.methodLink RL 113 yX6_forecast ∈ TB := tb_T (List.mem_append_right _ (List.mem_append_right _ (List.mem_append_left _ (List.mem_of_getElem? (i := 160) rfl)))) rfl
theorem mi_yX6_forecast : Cond.instanceMethod yX6_forecast ∈ TB := tb_T (List.mem_append_right _ (List.mem_append_right _ (List.mem_append_left _ (List.mem_of_getElem? (i := 161) rfl)))) rfl
theorem me_yX6_forecast : Cond.selects RX6 yX6_forecast yX6_forecast ∈ TB := tb_T (List.mem_append_right _ (List.mem_append_right _ (List.mem_append_left _ (List.mem_of_getElem? (i := 162) rfl)))) rfl
theorem mkX6_154 : Cond.methodLink RX6 154 yX1_copyFrom ∈ TB := tb_T (List.mem_append_right _ (List.mem_append_right _ (List.mem_append_left _ (List.mem_of_getElem? (i := 164) rfl)))) rfl
theorem mi_yX1_copyFrom : Cond.instanceMethod yX1_copyFrom ∈ TB := tb_T (List.mem_append_right _ (List.mem_append_right _ (List.mem_append_left _ (List.mem_of_getElem? (i := 165) rfl)))) rfl
theorem me_yX1_copyFrom : Cond.selects RX1 yX1_copyFrom yX1_copyFrom ∈ TB := tb_T (List.mem_append_right _ (List.mem_append_right _ (List.mem_append_left _ (List.mem_of_getElem? (i := 166) rfl)))) rfl
theorem mkX1_77 : Cond.methodLink RX1 77 yX4_copyFrom ∈ TB := tb_T (List.mem_append_right _ (List.mem_append_right _ (List.mem_append_left _ (List.mem_of_getElem? (i := 168) rfl)))) rfl
theorem mi_yX4_copyFrom : Cond.instanceMethod yX4_copyFrom ∈ TB := tb_T (List.mem_append_right _ (List.mem_append_right _ (List.mem_append_left _ (List.mem_of_getElem? (i := 169) rfl)))) rfl
theorem me_yX4_copyFrom : Cond.selects RX4 yX4_copyFrom yX4_copyFrom ∈ TB := tb_T (List.mem_append_right _ (List.mem_append_right _ (List.mem_append_left _ (List.mem_of_getElem? (i := 170) rfl)))) rfl
theorem mkX1_81 : Cond.methodLink RX1 81 yX0_copyFrom ∈ TB := tb_T (List.mem_append_right _ (List.mem_append_right _ (List.mem_append_left _ (List.mem_of_getElem? (i := 172) rfl)))) rfl
theorem mi_yX0_copyFrom : Cond.instanceMethod yX0_copyFrom ∈ TB := tb_T (List.mem_append_right _ (List.mem_append_right _ (List.mem_append_left _ (List.mem_of_getElem? (i := 173) rfl)))) rfl
theorem me_yX0_copyFrom : Cond.selects RX0 yX0_copyFrom yX0_copyFrom ∈ TB := tb_T (List.mem_append_right _ (List.mem_append_right _ (List.mem_append_left _ (List.mem_of_getElem? (i := 174) rfl)))) rfl
theorem mkX1_84 : Cond.methodLink RX1 84 yX5_copyFrom ∈ TB := tb_T (List.mem_append_right _ (List.mem_append_right _ (List.mem_append_left _ (List.mem_of_getElem? (i := 176) rfl)))) rfl
theorem mi_yX5_copyFrom : Cond.instanceMethod yX5_copyFrom ∈ TB := tb_T (List.mem_append_right _ (List.mem_append_right _ (List.mem_append_left _ (List.mem_of_getElem? (i := 177) rfl)))) rfl
theorem me_yX5_copyFrom : Cond.selects RX5 yX5_copyFrom yX5_copyFrom ∈ TB := tb_T (List.mem_append_right _ (List.mem_append_right _ (List.mem_append_left _ (List.mem_of_getElem? (i := 178) rfl)))) rfl
theorem mkX1_87 : Cond.methodLink RX1 87 arraycopyName ∈ TB := tb_T (List.mem_append_right _ (List.mem_append_right _ (List.mem_append_left _ (List.mem_of_getElem? (i := 180) rfl)))) rfl
theorem ms_arraycopyName : Cond.static arraycopyName ∈ TB := tb_T (List.mem_append_right _ (List.mem_append_right _ (List.mem_append_left _ (List.mem_of_getElem? (i := 181) rfl)))) rfl
theorem mn_arraycopyName : Cond.native arraycopyName ∈ TB := tb_T (List.mem_append_right _ (List.mem_append_right _ (List.mem_append_left _ (List.mem_of_getElem? (i := 182) rfl)))) rfl
theorem mkX1_93 : Cond.methodLink RX1 93 yX3_copyFrom ∈ TB := tb_T (List.mem_append_right _ (List.mem_append_right _ (List.mem_append_left _ (List.mem_of_getElem? (i := 183) rfl)))) rfl
theorem mi_yX3_copyFrom : Cond.instanceMethod yX3_copyFrom ∈ TB := tb_T (List.mem_append_right _ (List.mem_append_right _ (List.mem_append_left _ (List.mem_of_getElem? (i := 184) rfl)))) rfl
theorem me_yX3_copyFrom : Cond.selects RX3 yX3_copyFrom yX3_copyFrom ∈ TB := tb_T (List.mem_append_right _ (List.mem_append_right _ (List.mem_append_left _ (List.mem_of_getElem? (i := 185) rfl)))) rfl
theorem mkX3_15 : Cond.methodLink RX3 15 arraycopyName ∈ TB := tb_T (List.mem_append_right _ (List.mem_append_right _ (List.mem_append_left _ (List.mem_of_getElem? (i := 187) rfl)))) rfl
theorem mkX6_158 : Cond.methodLink RX6 158 yX1_isGone ∈ TB := tb_T (List.mem_append_right _ (List.mem_append_right _ (List.mem_append_left _ (List.mem_of_getElem? (i := 188) rfl)))) rfl
theorem mi_yX1_isGone : Cond.instanceMethod yX1_isGone ∈ TB := tb_T (List.mem_append_right _ (List.mem_append_right _ (List.mem_append_left _ (List.mem_of_getElem? (i := 189) rfl)))) rfl
theorem me_yX1_isGone : Cond.selects RX1 yX1_isGone yX1_isGone ∈ TB := tb_T (List.mem_append_right _ (List.mem_append_right _ (List.mem_append_left _ (List.mem_of_getElem? (i := 190) rfl)))) rfl
theorem mkL_117 : Cond.methodLink RL 117 yX6_capacity ∈ TB := tb_T (List.mem_append_right _ (List.mem_append_right _ (List.mem_append_left _ (List.mem_of_getElem? (i := 192) rfl)))) rfl
theorem mi_yX6_capacity : Cond.instanceMethod yX6_capacity ∈ TB := tb_T (List.mem_append_right _ (List.mem_append_right _ (List.mem_append_left _ (List.mem_of_getElem? (i := 193) rfl)))) rfl
theorem me_yX6_capacity : Cond.selects RX6 yX6_capacity yX6_capacity ∈ TB := tb_T (List.mem_append_right _ (List.mem_append_right _ (List.mem_append_left _ (List.mem_of_getElem? (i := 194) rfl)))) rfl
theorem mkX6_161 : Cond.methodLink RX6 161 yX1_clearTraffic ∈ TB := tb_T (List.mem_append_right _ (List.mem_append_right _ (List.mem_append_left _ (List.mem_of_getElem? (i := 196) rfl)))) rfl
theorem mkX6_164 : Cond.methodLink RX6 164 yX1_bringSpare ∈ TB := tb_T (List.mem_append_right _ (List.mem_append_right _ (List.mem_append_left _ (List.mem_of_getElem? (i := 197) rfl)))) rfl
theorem mi_yX1_bringSpare : Cond.instanceMethod yX1_bringSpare ∈ TB := tb_T (List.mem_append_right _ (List.mem_append_right _ (List.mem_append_left _ (List.mem_of_getElem? (i := 198) rfl)))) rfl
theorem me_yX1_bringSpare : Cond.selects RX1 yX1_bringSpare yX1_bringSpare ∈ TB := tb_T (List.mem_append_right _ (List.mem_append_right _ (List.mem_append_left _ (List.mem_of_getElem? (i := 199) rfl)))) rfl
theorem mkX1_154 : Cond.methodLink RX1 154 yX1_bringNew ∈ TB := tb_T (List.mem_append_right _ (List.mem_append_right _ (List.mem_append_left _ (List.mem_of_getElem? (i := 201) rfl)))) rfl
theorem mkL_121 : Cond.methodLink RL 121 yX6_say ∈ TB := tb_T (List.mem_append_right _ (List.mem_append_right _ (List.mem_append_left _ (List.mem_of_getElem? (i := 202) rfl)))) rfl
theorem mi_yX6_say : Cond.instanceMethod yX6_say ∈ TB := tb_T (List.mem_append_right _ (List.mem_append_right _ (List.mem_append_left _ (List.mem_of_getElem? (i := 203) rfl)))) rfl
theorem me_yX6_say : Cond.selects RX6 yX6_say yX6_say ∈ TB := tb_T (List.mem_append_right _ (List.mem_append_right _ (List.mem_append_left _ (List.mem_of_getElem? (i := 204) rfl)))) rfl
theorem mkX6_167 : Cond.methodLink RX6 167 yX2_append ∈ TB := tb_T (List.mem_append_right _ (List.mem_append_right _ (List.mem_append_left _ (List.mem_of_getElem? (i := 206) rfl)))) rfl
theorem mi_yX2_append : Cond.instanceMethod yX2_append ∈ TB := tb_T (List.mem_append_right _ (List.mem_append_right _ (List.mem_append_left _ (List.mem_of_getElem? (i := 207) rfl)))) rfl
theorem me_yX2_append : Cond.selects RX2 yX2_append yX2_append ∈ TB := tb_T (List.mem_append_right _ (List.mem_append_right _ (List.mem_append_left _ (List.mem_of_getElem? (i := 208) rfl)))) rfl
theorem mkL_125 : Cond.methodLink RL 125 yX6_wipe ∈ TB := tb_T (List.mem_append_right _ (List.mem_append_right _ (List.mem_append_left _ (List.mem_of_getElem? (i := 210) rfl)))) rfl
theorem mi_yX6_wipe : Cond.instanceMethod yX6_wipe ∈ TB := tb_T (List.mem_append_right _ (List.mem_append_right _ (List.mem_append_left _ (List.mem_of_getElem? (i := 211) rfl)))) rfl
theorem me_yX6_wipe : Cond.selects RX6 yX6_wipe yX6_wipe ∈ TB := tb_T (List.mem_append_right _ (List.mem_append_right _ (List.mem_append_left _ (List.mem_of_getElem? (i := 212) rfl)))) rfl
theorem mkX6_170 : Cond.methodLink RX6 170 yX2_empty ∈ TB := tb_T (List.mem_append_right _ (List.mem_append_right _ (List.mem_append_left _ (List.mem_of_getElem? (i := 214) rfl)))) rfl
theorem mi_yX2_empty : Cond.instanceMethod yX2_empty ∈ TB := tb_T (List.mem_append_right _ (List.mem_append_right _ (List.mem_append_left _ (List.mem_of_getElem? (i := 215) rfl)))) rfl
theorem me_yX2_empty : Cond.selects RX2 yX2_empty yX2_empty ∈ TB := tb_T (List.mem_append_right _ (List.mem_append_right _ (List.mem_append_left _ (List.mem_of_getElem? (i := 216) rfl)))) rfl
theorem mkL_130 : Cond.methodLink RL 130 yX6_fault ∈ TB := tb_T (List.mem_append_right _ (List.mem_append_right _ (List.mem_append_left _ (List.mem_of_getElem? (i := 218) rfl)))) rfl
theorem mi_yX6_fault : Cond.instanceMethod yX6_fault ∈ TB := tb_T (List.mem_append_right _ (List.mem_append_right _ (List.mem_append_left _ (List.mem_of_getElem? (i := 219) rfl)))) rfl
theorem me_yX6_fault : Cond.selects RX6 yX6_fault yX6_fault ∈ TB := tb_T (List.mem_append_right _ (List.mem_append_right _ (List.mem_append_left _ (List.mem_of_getElem? (i := 220) rfl)))) rfl
theorem mkX6_173 : Cond.methodLink RX6 173 yX2_firstFault ∈ TB := tb_T (List.mem_append_right _ (List.mem_append_right _ (List.mem_append_left _ (List.mem_of_getElem? (i := 222) rfl)))) rfl
theorem mi_yX2_firstFault : Cond.instanceMethod yX2_firstFault ∈ TB := tb_T (List.mem_append_right _ (List.mem_append_right _ (List.mem_append_left _ (List.mem_of_getElem? (i := 223) rfl)))) rfl
theorem me_yX2_firstFault : Cond.selects RX2 yX2_firstFault yX2_firstFault ∈ TB := tb_T (List.mem_append_right _ (List.mem_append_right _ (List.mem_append_left _ (List.mem_of_getElem? (i := 224) rfl)))) rfl
theorem mkX2_19 : Cond.methodLink RX2 19 yX2_after ∈ TB := tb_T (List.mem_append_right _ (List.mem_append_right _ (List.mem_append_left _ (List.mem_of_getElem? (i := 226) rfl)))) rfl
theorem ms_yX2_after : Cond.static yX2_after ∈ TB := tb_T (List.mem_append_right _ (List.mem_append_right _ (List.mem_append_left _ (List.mem_of_getElem? (i := 227) rfl)))) rfl
theorem mkX2_23 : Cond.methodLink RX2 23 yX2_afterLetter ∈ TB := tb_T (List.mem_append_right _ (List.mem_append_right _ (List.mem_append_left _ (List.mem_of_getElem? (i := 229) rfl)))) rfl
theorem ms_yX2_afterLetter : Cond.static yX2_afterLetter ∈ TB := tb_T (List.mem_append_right _ (List.mem_append_right _ (List.mem_append_left _ (List.mem_of_getElem? (i := 230) rfl)))) rfl
theorem mkX2_27 : Cond.methodLink RX2 27 yX2_isBetween ∈ TB := tb_T (List.mem_append_right _ (List.mem_append_right _ (List.mem_append_left _ (List.mem_of_getElem? (i := 232) rfl)))) rfl
theorem ms_yX2_isBetween : Cond.static yX2_isBetween ∈ TB := tb_T (List.mem_append_right _ (List.mem_append_right _ (List.mem_append_left _ (List.mem_of_getElem? (i := 233) rfl)))) rfl
theorem mkX2_31 : Cond.methodLink RX2 31 yX2_afterOrder ∈ TB := tb_T (List.mem_append_right _ (List.mem_append_right _ (List.mem_append_left _ (List.mem_of_getElem? (i := 235) rfl)))) rfl
theorem ms_yX2_afterOrder : Cond.static yX2_afterOrder ∈ TB := tb_T (List.mem_append_right _ (List.mem_append_right _ (List.mem_append_left _ (List.mem_of_getElem? (i := 236) rfl)))) rfl
theorem mkL_134 : Cond.methodLink RL 134 yX6_carryOut ∈ TB := tb_T (List.mem_append_right _ (List.mem_append_right _ (List.mem_append_left _ (List.mem_of_getElem? (i := 238) rfl)))) rfl
theorem mi_yX6_carryOut : Cond.instanceMethod yX6_carryOut ∈ TB := tb_T (List.mem_append_right _ (List.mem_append_right _ (List.mem_append_left _ (List.mem_of_getElem? (i := 239) rfl)))) rfl
theorem me_yX6_carryOut : Cond.selects RX6 yX6_carryOut yX6_carryOut ∈ TB := tb_T (List.mem_append_right _ (List.mem_append_right _ (List.mem_append_right _ (List.mem_append_left _ (List.mem_of_getElem? (i := 0) rfl))))) rfl
theorem mkX6_176 : Cond.methodLink RX6 176 yX2_rewind ∈ TB := tb_T (List.mem_append_right _ (List.mem_append_right _ (List.mem_append_right _ (List.mem_append_left _ (List.mem_of_getElem? (i := 2) rfl))))) rfl
theorem mi_yX2_rewind : Cond.instanceMethod yX2_rewind ∈ TB := tb_T (List.mem_append_right _ (List.mem_append_right _ (List.mem_append_right _ (List.mem_append_left _ (List.mem_of_getElem? (i := 3) rfl))))) rfl
theorem me_yX2_rewind : Cond.selects RX2 yX2_rewind yX2_rewind ∈ TB := tb_T (List.mem_append_right _ (List.mem_append_right _ (List.mem_append_right _ (List.mem_append_left _ (List.mem_of_getElem? (i := 4) rfl))))) rfl
theorem mkX6_179 : Cond.methodLink RX6 179 yX2_readOrder ∈ TB := tb_T (List.mem_append_right _ (List.mem_append_right _ (List.mem_append_right _ (List.mem_append_left _ (List.mem_of_getElem? (i := 6) rfl))))) rfl
theorem mi_yX2_readOrder : Cond.instanceMethod yX2_readOrder ∈ TB := tb_T (List.mem_append_right _ (List.mem_append_right _ (List.mem_append_right _ (List.mem_append_left _ (List.mem_of_getElem? (i := 7) rfl))))) rfl
theorem me_yX2_readOrder : Cond.selects RX2 yX2_readOrder yX2_readOrder ∈ TB := tb_T (List.mem_append_right _ (List.mem_append_right _ (List.mem_append_right _ (List.mem_append_left _ (List.mem_of_getElem? (i := 8) rfl))))) rfl
theorem mkX2_46 : Cond.methodLink RX2 46 yX2_readSign ∈ TB := tb_T (List.mem_append_right _ (List.mem_append_right _ (List.mem_append_right _ (List.mem_append_left _ (List.mem_of_getElem? (i := 10) rfl))))) rfl
theorem mi_yX2_readSign : Cond.instanceMethod yX2_readSign ∈ TB := tb_T (List.mem_append_right _ (List.mem_append_right _ (List.mem_append_right _ (List.mem_append_left _ (List.mem_of_getElem? (i := 12) rfl))))) rfl
theorem mkX6_192 : Cond.methodLink RX6 192 yX6_obey ∈ TB := tb_T (List.mem_append_right _ (List.mem_append_right _ (List.mem_append_right _ (List.mem_append_left _ (List.mem_of_getElem? (i := 14) rfl))))) rfl
theorem mi_yX6_obey : Cond.instanceMethod yX6_obey ∈ TB := tb_T (List.mem_append_right _ (List.mem_append_right _ (List.mem_append_right _ (List.mem_append_left _ (List.mem_of_getElem? (i := 16) rfl))))) rfl
theorem mkX6_195 : Cond.methodLink RX6 195 yX6_offer ∈ TB := tb_T (List.mem_append_right _ (List.mem_append_right _ (List.mem_append_right _ (List.mem_append_left _ (List.mem_of_getElem? (i := 18) rfl))))) rfl
theorem mkX6_198 : Cond.methodLink RX6 198 yX6_depart ∈ TB := tb_T (List.mem_append_right _ (List.mem_append_right _ (List.mem_append_right _ (List.mem_append_left _ (List.mem_of_getElem? (i := 19) rfl))))) rfl
theorem mkX6_201 : Cond.methodLink RX6 201 yX6_shunt ∈ TB := tb_T (List.mem_append_right _ (List.mem_append_right _ (List.mem_append_right _ (List.mem_append_left _ (List.mem_of_getElem? (i := 20) rfl))))) rfl
theorem mkX6_204 : Cond.methodLink RX6 204 yX6_leave ∈ TB := tb_T (List.mem_append_right _ (List.mem_append_right _ (List.mem_append_right _ (List.mem_append_left _ (List.mem_of_getElem? (i := 21) rfl))))) rfl
theorem mkX6_207 : Cond.methodLink RX6 207 yX6_answer ∈ TB := tb_T (List.mem_append_right _ (List.mem_append_right _ (List.mem_append_right _ (List.mem_append_left _ (List.mem_of_getElem? (i := 22) rfl))))) rfl
theorem mkX6_211 : Cond.methodLink RX6 211 yX6_cancel ∈ TB := tb_T (List.mem_append_right _ (List.mem_append_right _ (List.mem_append_right _ (List.mem_append_left _ (List.mem_of_getElem? (i := 23) rfl))))) rfl
theorem mkX6_214 : Cond.methodLink RX6 214 yX6_admit ∈ TB := tb_T (List.mem_append_right _ (List.mem_append_right _ (List.mem_append_right _ (List.mem_append_left _ (List.mem_of_getElem? (i := 24) rfl))))) rfl
theorem mkX6_217 : Cond.methodLink RX6 217 yX6_out ∈ TB := tb_T (List.mem_append_right _ (List.mem_append_right _ (List.mem_append_right _ (List.mem_append_left _ (List.mem_of_getElem? (i := 25) rfl))))) rfl
theorem mkX6_220 : Cond.methodLink RX6 220 yX6_assist ∈ TB := tb_T (List.mem_append_right _ (List.mem_append_right _ (List.mem_append_right _ (List.mem_append_left _ (List.mem_of_getElem? (i := 26) rfl))))) rfl
theorem mkX6_223 : Cond.methodLink RX6 223 yX6_pass ∈ TB := tb_T (List.mem_append_right _ (List.mem_append_right _ (List.mem_append_right _ (List.mem_append_left _ (List.mem_of_getElem? (i := 27) rfl))))) rfl
theorem mkL_138 : Cond.methodLink RL 138 yX6_count ∈ TB := tb_T (List.mem_append_right _ (List.mem_append_right _ (List.mem_append_right _ (List.mem_append_left _ (List.mem_of_getElem? (i := 28) rfl))))) rfl
theorem mi_yX6_count : Cond.instanceMethod yX6_count ∈ TB := tb_T (List.mem_append_right _ (List.mem_append_right _ (List.mem_append_right _ (List.mem_append_left _ (List.mem_of_getElem? (i := 29) rfl))))) rfl
theorem me_yX6_count : Cond.selects RX6 yX6_count yX6_count ∈ TB := tb_T (List.mem_append_right _ (List.mem_append_right _ (List.mem_append_right _ (List.mem_append_left _ (List.mem_of_getElem? (i := 30) rfl))))) rfl
theorem mkX6_226 : Cond.methodLink RX6 226 yX1_trainsThatAre ∈ TB := tb_T (List.mem_append_right _ (List.mem_append_right _ (List.mem_append_right _ (List.mem_append_left _ (List.mem_of_getElem? (i := 32) rfl))))) rfl
theorem mi_yX1_trainsThatAre : Cond.instanceMethod yX1_trainsThatAre ∈ TB := tb_T (List.mem_append_right _ (List.mem_append_right _ (List.mem_append_right _ (List.mem_append_left _ (List.mem_of_getElem? (i := 33) rfl))))) rfl
theorem me_yX1_trainsThatAre : Cond.selects RX1 yX1_trainsThatAre yX1_trainsThatAre ∈ TB := tb_T (List.mem_append_right _ (List.mem_append_right _ (List.mem_append_right _ (List.mem_append_left _ (List.mem_of_getElem? (i := 34) rfl))))) rfl
theorem mkX6_232 : Cond.methodLink RX6 232 yX1_blocksOtherThan ∈ TB := tb_T (List.mem_append_right _ (List.mem_append_right _ (List.mem_append_right _ (List.mem_append_left _ (List.mem_of_getElem? (i := 36) rfl))))) rfl
theorem mi_yX1_blocksOtherThan : Cond.instanceMethod yX1_blocksOtherThan ∈ TB := tb_T (List.mem_append_right _ (List.mem_append_right _ (List.mem_append_right _ (List.mem_append_left _ (List.mem_of_getElem? (i := 37) rfl))))) rfl
theorem me_yX1_blocksOtherThan : Cond.selects RX1 yX1_blocksOtherThan yX1_blocksOtherThan ∈ TB := tb_T (List.mem_append_right _ (List.mem_append_right _ (List.mem_append_right _ (List.mem_append_left _ (List.mem_of_getElem? (i := 38) rfl))))) rfl
theorem mkX1_142 : Cond.methodLink RX1 142 yX0_property ∈ TB := tb_T (List.mem_append_right _ (List.mem_append_right _ (List.mem_append_right _ (List.mem_append_left _ (List.mem_of_getElem? (i := 40) rfl))))) rfl
theorem mkL_142 : Cond.methodLink RL 142 yX6_save ∈ TB := tb_T (List.mem_append_right _ (List.mem_append_right _ (List.mem_append_right _ (List.mem_append_left _ (List.mem_of_getElem? (i := 41) rfl))))) rfl
theorem mi_yX6_save : Cond.instanceMethod yX6_save ∈ TB := tb_T (List.mem_append_right _ (List.mem_append_right _ (List.mem_append_right _ (List.mem_append_left _ (List.mem_of_getElem? (i := 42) rfl))))) rfl
theorem me_yX6_save : Cond.selects RX6 yX6_save yX6_save ∈ TB := tb_T (List.mem_append_right _ (List.mem_append_right _ (List.mem_append_right _ (List.mem_append_left _ (List.mem_of_getElem? (i := 43) rfl))))) rfl
theorem mkL_146 : Cond.methodLink RL 146 yX6_restore ∈ TB := tb_T (List.mem_append_right _ (List.mem_append_right _ (List.mem_append_right _ (List.mem_append_left _ (List.mem_of_getElem? (i := 45) rfl))))) rfl
theorem mi_yX6_restore : Cond.instanceMethod yX6_restore ∈ TB := tb_T (List.mem_append_right _ (List.mem_append_right _ (List.mem_append_right _ (List.mem_append_left _ (List.mem_of_getElem? (i := 46) rfl))))) rfl
theorem me_yX6_restore : Cond.selects RX6 yX6_restore yX6_restore ∈ TB := tb_T (List.mem_append_right _ (List.mem_append_right _ (List.mem_append_right _ (List.mem_append_left _ (List.mem_of_getElem? (i := 47) rfl))))) rfl
theorem clL_10 : Cond.classLink RL 10 RX7 ∈ TB := tb_T (List.mem_append_right _ (List.mem_append_right _ (List.mem_append_right _ (List.mem_append_left _ (List.mem_of_getElem? (i := 49) rfl))))) rfl
theorem nwX7 : Cond.instantiable RX7 10 ∈ TB := tb_T (List.mem_append_right _ (List.mem_append_right _ (List.mem_append_right _ (List.mem_append_left _ (List.mem_of_getElem? (i := 50) rfl))))) rfl
theorem mkL_12 : Cond.methodLink RL 12 yX7_init ∈ TB := tb_T (List.mem_append_right _ (List.mem_append_right _ (List.mem_append_right _ (List.mem_append_left _ (List.mem_of_getElem? (i := 51) rfl))))) rfl
theorem mi_yX7_init : Cond.instanceMethod yX7_init ∈ TB := tb_T (List.mem_append_right _ (List.mem_append_right _ (List.mem_append_right _ (List.mem_append_left _ (List.mem_of_getElem? (i := 52) rfl))))) rfl
theorem mkX7_1 : Cond.methodLink RX7 1 objectInit ∈ TB := tb_T (List.mem_append_right _ (List.mem_append_right _ (List.mem_append_right _ (List.mem_append_left _ (List.mem_of_getElem? (i := 54) rfl))))) rfl
theorem mkX7_29 : Cond.methodLink RX7 29 yX7_lay ∈ TB := tb_T (List.mem_append_right _ (List.mem_append_right _ (List.mem_append_right _ (List.mem_append_left _ (List.mem_of_getElem? (i := 55) rfl))))) rfl
theorem mi_yX7_lay : Cond.instanceMethod yX7_lay ∈ TB := tb_T (List.mem_append_right _ (List.mem_append_right _ (List.mem_append_right _ (List.mem_append_left _ (List.mem_of_getElem? (i := 57) rfl))))) rfl
theorem mkX7_33 : Cond.methodLink RX7 33 yX7_layBlocks ∈ TB := tb_T (List.mem_append_right _ (List.mem_append_right _ (List.mem_append_right _ (List.mem_append_left _ (List.mem_of_getElem? (i := 59) rfl))))) rfl
theorem mi_yX7_layBlocks : Cond.instanceMethod yX7_layBlocks ∈ TB := tb_T (List.mem_append_right _ (List.mem_append_right _ (List.mem_append_right _ (List.mem_append_left _ (List.mem_of_getElem? (i := 61) rfl))))) rfl
theorem lkX7_7 : Cond.fieldLink RX7 7 "BlockBellsModel" "at" "[I" ∈ TB := tb_T (List.mem_append_right _ (List.mem_append_right _ (List.mem_append_right _ (List.mem_append_left _ (List.mem_of_getElem? (i := 63) rfl))))) rfl
theorem lkX7_13 : Cond.fieldLink RX7 13 "BlockBellsModel" "aside" "[I" ∈ TB := tb_T (List.mem_append_right _ (List.mem_append_right _ (List.mem_append_right _ (List.mem_append_left _ (List.mem_of_getElem? (i := 64) rfl))))) rfl
theorem lkX7_16 : Cond.fieldLink RX7 16 "BlockBellsModel" "slots" "[I" ∈ TB := tb_T (List.mem_append_right _ (List.mem_append_right _ (List.mem_append_right _ (List.mem_append_left _ (List.mem_of_getElem? (i := 65) rfl))))) rfl
theorem lkX7_19 : Cond.fieldLink RX7 19 "BlockBellsModel" "isSaved" "[Z" ∈ TB := tb_T (List.mem_append_right _ (List.mem_append_right _ (List.mem_append_right _ (List.mem_append_left _ (List.mem_of_getElem? (i := 66) rfl))))) rfl
theorem lkX7_23 : Cond.fieldLink RX7 23 "BlockBellsModel" "pad" "[I" ∈ TB := tb_T (List.mem_append_right _ (List.mem_append_right _ (List.mem_append_right _ (List.mem_append_left _ (List.mem_of_getElem? (i := 67) rfl))))) rfl
theorem lkX7_177 : Cond.fieldLink RX7 177 "BlockBellsModel" "padMany" "I" ∈ TB := tb_T (List.mem_append_right _ (List.mem_append_right _ (List.mem_append_right _ (List.mem_append_left _ (List.mem_of_getElem? (i := 68) rfl))))) rfl
theorem lkX7_181 : Cond.fieldLink RX7 181 "BlockBellsModel" "reading" "I" ∈ TB := tb_T (List.mem_append_right _ (List.mem_append_right _ (List.mem_append_right _ (List.mem_append_left _ (List.mem_of_getElem? (i := 69) rfl))))) rfl
theorem lkX7_187 : Cond.fieldLink RX7 187 "BlockBellsModel" "isWrong" "Z" ∈ TB := tb_T (List.mem_append_right _ (List.mem_append_right _ (List.mem_append_right _ (List.mem_append_left _ (List.mem_of_getElem? (i := 70) rfl))))) rfl
theorem lkX7_26 : Cond.fieldLink RX7 26 "BlockBellsModel" "orders" "[I" ∈ TB := tb_T (List.mem_append_right _ (List.mem_append_right _ (List.mem_append_right _ (List.mem_append_left _ (List.mem_of_getElem? (i := 71) rfl))))) rfl
theorem lkX7_197 : Cond.fieldLink RX7 197 "BlockBellsModel" "orderMany" "I" ∈ TB := tb_T (List.mem_append_right _ (List.mem_append_right _ (List.mem_append_right _ (List.mem_append_left _ (List.mem_of_getElem? (i := 72) rfl))))) rfl
theorem mkL_17 : Cond.methodLink RL 17 yX7_setUp ∈ TB := tb_T (List.mem_append_right _ (List.mem_append_right _ (List.mem_append_right _ (List.mem_append_left _ (List.mem_of_getElem? (i := 94) rfl))))) rfl
theorem mi_yX7_setUp : Cond.instanceMethod yX7_setUp ∈ TB := tb_T (List.mem_append_right _ (List.mem_append_right _ (List.mem_append_right _ (List.mem_append_left _ (List.mem_of_getElem? (i := 95) rfl))))) rfl
theorem me_yX7_setUp : Cond.selects RX7 yX7_setUp yX7_setUp ∈ TB := tb_T (List.mem_append_right _ (List.mem_append_right _ (List.mem_append_right _ (List.mem_append_left _ (List.mem_of_getElem? (i := 96) rfl))))) rfl
theorem mkX7_40 : Cond.methodLink RX7 40 yX7_in ∈ TB := tb_T (List.mem_append_right _ (List.mem_append_right _ (List.mem_append_right _ (List.mem_append_left _ (List.mem_of_getElem? (i := 98) rfl))))) rfl
theorem ms_yX7_in : Cond.static yX7_in ∈ TB := tb_T (List.mem_append_right _ (List.mem_append_right _ (List.mem_append_right _ (List.mem_append_left _ (List.mem_of_getElem? (i := 99) rfl))))) rfl
theorem mkL_21 : Cond.methodLink RL 21 yX7_setTime ∈ TB := tb_T (List.mem_append_right _ (List.mem_append_right _ (List.mem_append_right _ (List.mem_append_left _ (List.mem_of_getElem? (i := 101) rfl))))) rfl
theorem mi_yX7_setTime : Cond.instanceMethod yX7_setTime ∈ TB := tb_T (List.mem_append_right _ (List.mem_append_right _ (List.mem_append_right _ (List.mem_append_left _ (List.mem_of_getElem? (i := 102) rfl))))) rfl
theorem me_yX7_setTime : Cond.selects RX7 yX7_setTime yX7_setTime ∈ TB := tb_T (List.mem_append_right _ (List.mem_append_right _ (List.mem_append_right _ (List.mem_append_left _ (List.mem_of_getElem? (i := 103) rfl))))) rfl
theorem mkX7_44 : Cond.methodLink RX7 44 yX7_isSection ∈ TB := tb_T (List.mem_append_right _ (List.mem_append_right _ (List.mem_append_right _ (List.mem_append_left _ (List.mem_of_getElem? (i := 105) rfl))))) rfl
theorem mi_yX7_isSection : Cond.instanceMethod yX7_isSection ∈ TB := tb_T (List.mem_append_right _ (List.mem_append_right _ (List.mem_append_right _ (List.mem_append_left _ (List.mem_of_getElem? (i := 107) rfl))))) rfl
theorem mkX7_36 : Cond.methodLink RX7 36 yX7_sections ∈ TB := tb_T (List.mem_append_right _ (List.mem_append_right _ (List.mem_append_right _ (List.mem_append_left _ (List.mem_of_getElem? (i := 109) rfl))))) rfl
theorem mi_yX7_sections : Cond.instanceMethod yX7_sections ∈ TB := tb_T (List.mem_append_right _ (List.mem_append_right _ (List.mem_append_right _ (List.mem_append_left _ (List.mem_of_getElem? (i := 111) rfl))))) rfl
theorem mkL_26 : Cond.methodLink RL 26 yX7_setLoops ∈ TB := tb_T (List.mem_append_right _ (List.mem_append_right _ (List.mem_append_right _ (List.mem_append_left _ (List.mem_of_getElem? (i := 113) rfl))))) rfl
theorem mi_yX7_setLoops : Cond.instanceMethod yX7_setLoops ∈ TB := tb_T (List.mem_append_right _ (List.mem_append_right _ (List.mem_append_right _ (List.mem_append_left _ (List.mem_of_getElem? (i := 114) rfl))))) rfl
theorem me_yX7_setLoops : Cond.selects RX7 yX7_setLoops yX7_setLoops ∈ TB := tb_T (List.mem_append_right _ (List.mem_append_right _ (List.mem_append_right _ (List.mem_append_left _ (List.mem_of_getElem? (i := 115) rfl))))) rfl
theorem mkX7_48 : Cond.methodLink RX7 48 yX7_isWay ∈ TB := tb_T (List.mem_append_right _ (List.mem_append_right _ (List.mem_append_right _ (List.mem_append_left _ (List.mem_of_getElem? (i := 117) rfl))))) rfl
theorem ms_yX7_isWay : Cond.static yX7_isWay ∈ TB := tb_T (List.mem_append_right _ (List.mem_append_right _ (List.mem_append_right _ (List.mem_append_left _ (List.mem_of_getElem? (i := 118) rfl))))) rfl
theorem mkX7_65 : Cond.methodLink RX7 65 yX7_many ∈ TB := tb_T (List.mem_append_right _ (List.mem_append_right _ (List.mem_append_right _ (List.mem_append_left _ (List.mem_of_getElem? (i := 120) rfl))))) rfl
theorem mi_yX7_many : Cond.instanceMethod yX7_many ∈ TB := tb_T (List.mem_append_right _ (List.mem_append_right _ (List.mem_append_right _ (List.mem_append_left _ (List.mem_of_getElem? (i := 122) rfl))))) rfl
theorem mkX7_61 : Cond.methodLink RX7 61 yX7_ofTrain ∈ TB := tb_T (List.mem_append_right _ (List.mem_append_right _ (List.mem_append_right _ (List.mem_append_left _ (List.mem_of_getElem? (i := 124) rfl))))) rfl
theorem mi_yX7_ofTrain : Cond.instanceMethod yX7_ofTrain ∈ TB := tb_T (List.mem_append_right _ (List.mem_append_right _ (List.mem_append_right _ (List.mem_append_left _ (List.mem_of_getElem? (i := 126) rfl))))) rfl
theorem mkL_30 : Cond.methodLink RL 30 yX7_moveTokens ∈ TB := tb_T (List.mem_append_right _ (List.mem_append_right _ (List.mem_append_right _ (List.mem_append_left _ (List.mem_of_getElem? (i := 128) rfl))))) rfl
theorem mi_yX7_moveTokens : Cond.instanceMethod yX7_moveTokens ∈ TB := tb_T (List.mem_append_right _ (List.mem_append_right _ (List.mem_append_right _ (List.mem_append_left _ (List.mem_of_getElem? (i := 129) rfl))))) rfl
theorem me_yX7_moveTokens : Cond.selects RX7 yX7_moveTokens yX7_moveTokens ∈ TB := tb_T (List.mem_append_right _ (List.mem_append_right _ (List.mem_append_right _ (List.mem_append_left _ (List.mem_of_getElem? (i := 130) rfl))))) rfl
theorem mkX7_58 : Cond.methodLink RX7 58 yX7_isSingle ∈ TB := tb_T (List.mem_append_right _ (List.mem_append_right _ (List.mem_append_right _ (List.mem_append_left _ (List.mem_of_getElem? (i := 132) rfl))))) rfl
theorem mi_yX7_isSingle : Cond.instanceMethod yX7_isSingle ∈ TB := tb_T (List.mem_append_right _ (List.mem_append_right _ (List.mem_append_right _ (List.mem_append_left _ (List.mem_of_getElem? (i := 134) rfl))))) rfl
theorem mkL_34 : Cond.methodLink RL 34 yX7_section ∈ TB := tb_T (List.mem_append_right _ (List.mem_append_right _ (List.mem_append_right _ (List.mem_append_left _ (List.mem_of_getElem? (i := 136) rfl))))) rfl
theorem mi_yX7_section : Cond.instanceMethod yX7_section ∈ TB := tb_T (List.mem_append_right _ (List.mem_append_right _ (List.mem_append_right _ (List.mem_append_left _ (List.mem_of_getElem? (i := 137) rfl))))) rfl
theorem me_yX7_section : Cond.selects RX7 yX7_section yX7_section ∈ TB := tb_T (List.mem_append_right _ (List.mem_append_right _ (List.mem_append_right _ (List.mem_append_left _ (List.mem_of_getElem? (i := 138) rfl))))) rfl
theorem mkX7_68 : Cond.methodLink RX7 68 yX7_isTokenOut ∈ TB := tb_T (List.mem_append_right _ (List.mem_append_right _ (List.mem_append_right _ (List.mem_append_left _ (List.mem_of_getElem? (i := 140) rfl))))) rfl
theorem mi_yX7_isTokenOut : Cond.instanceMethod yX7_isTokenOut ∈ TB := tb_T (List.mem_append_right _ (List.mem_append_right _ (List.mem_append_right _ (List.mem_append_left _ (List.mem_of_getElem? (i := 142) rfl))))) rfl
theorem mkX7_55 : Cond.methodLink RX7 55 yX7_ofBlock ∈ TB := tb_T (List.mem_append_right _ (List.mem_append_right _ (List.mem_append_right _ (List.mem_append_left _ (List.mem_of_getElem? (i := 144) rfl))))) rfl
theorem mi_yX7_ofBlock : Cond.instanceMethod yX7_ofBlock ∈ TB := tb_T (List.mem_append_right _ (List.mem_append_right _ (List.mem_append_right _ (List.mem_append_left _ (List.mem_of_getElem? (i := 146) rfl))))) rfl
theorem mkX7_51 : Cond.methodLink RX7 51 yX7_place ∈ TB := tb_T (List.mem_append_right _ (List.mem_append_right _ (List.mem_append_right _ (List.mem_append_left _ (List.mem_of_getElem? (i := 148) rfl))))) rfl
theorem ms_yX7_place : Cond.static yX7_place ∈ TB := tb_T (List.mem_append_right _ (List.mem_append_right _ (List.mem_append_right _ (List.mem_append_left _ (List.mem_of_getElem? (i := 149) rfl))))) rfl
theorem mkL_38 : Cond.methodLink RL 38 yX7_block ∈ TB := tb_T (List.mem_append_right _ (List.mem_append_right _ (List.mem_append_right _ (List.mem_append_left _ (List.mem_of_getElem? (i := 151) rfl))))) rfl
theorem mi_yX7_block : Cond.instanceMethod yX7_block ∈ TB := tb_T (List.mem_append_right _ (List.mem_append_right _ (List.mem_append_right _ (List.mem_append_left _ (List.mem_of_getElem? (i := 152) rfl))))) rfl
theorem me_yX7_block : Cond.selects RX7 yX7_block yX7_block ∈ TB := tb_T (List.mem_append_right _ (List.mem_append_right _ (List.mem_append_right _ (List.mem_append_left _ (List.mem_of_getElem? (i := 153) rfl))))) rfl
theorem mkX7_71 : Cond.methodLink RX7 71 yX7_isBlock ∈ TB := tb_T (List.mem_append_right _ (List.mem_append_right _ (List.mem_append_right _ (List.mem_append_left _ (List.mem_of_getElem? (i := 155) rfl))))) rfl
theorem mi_yX7_isBlock : Cond.instanceMethod yX7_isBlock ∈ TB := tb_T (List.mem_append_right _ (List.mem_append_right _ (List.mem_append_right _ (List.mem_append_left _ (List.mem_of_getElem? (i := 157) rfl))))) rfl
theorem mkL_42 : Cond.methodLink RL 42 yX7_appear ∈ TB := tb_T (List.mem_append_right _ (List.mem_append_right _ (List.mem_append_right _ (List.mem_append_left _ (List.mem_of_getElem? (i := 159) rfl))))) rfl
theorem mi_yX7_appear : Cond.instanceMethod yX7_appear ∈ TB := tb_T (List.mem_append_right _ (List.mem_append_right _ (List.mem_append_right _ (List.mem_append_left _ (List.mem_of_getElem? (i := 160) rfl))))) rfl
theorem me_yX7_appear : Cond.selects RX7 yX7_appear yX7_appear ∈ TB := tb_T (List.mem_append_right _ (List.mem_append_right _ (List.mem_append_right _ (List.mem_append_left _ (List.mem_of_getElem? (i := 161) rfl))))) rfl
theorem mkX7_79 : Cond.methodLink RX7 79 yX7_firstBox ∈ TB := tb_T (List.mem_append_right _ (List.mem_append_right _ (List.mem_append_right _ (List.mem_append_left _ (List.mem_of_getElem? (i := 163) rfl))))) rfl
theorem mi_yX7_firstBox : Cond.instanceMethod yX7_firstBox ∈ TB := tb_T (List.mem_append_right _ (List.mem_append_right _ (List.mem_append_right _ (List.mem_append_left _ (List.mem_of_getElem? (i := 165) rfl))))) rfl
theorem mkX7_83 : Cond.methodLink RX7 83 yX7_isFree ∈ TB := tb_T (List.mem_append_right _ (List.mem_append_right _ (List.mem_append_right _ (List.mem_append_left _ (List.mem_of_getElem? (i := 167) rfl))))) rfl
theorem mi_yX7_isFree : Cond.instanceMethod yX7_isFree ∈ TB := tb_T (List.mem_append_right _ (List.mem_append_right _ (List.mem_append_right _ (List.mem_append_left _ (List.mem_of_getElem? (i := 169) rfl))))) rfl
theorem mkX7_86 : Cond.methodLink RX7 86 yX7_add ∈ TB := tb_T (List.mem_append_right _ (List.mem_append_right _ (List.mem_append_right _ (List.mem_append_left _ (List.mem_of_getElem? (i := 171) rfl))))) rfl
theorem mi_yX7_add : Cond.instanceMethod yX7_add ∈ TB := tb_T (List.mem_append_right _ (List.mem_append_right _ (List.mem_append_right _ (List.mem_append_left _ (List.mem_of_getElem? (i := 173) rfl))))) rfl
theorem mkX7_75 : Cond.methodLink RX7 75 yX7_layTrain ∈ TB := tb_T (List.mem_append_right _ (List.mem_append_right _ (List.mem_append_right _ (List.mem_append_left _ (List.mem_of_getElem? (i := 175) rfl))))) rfl
theorem mi_yX7_layTrain : Cond.instanceMethod yX7_layTrain ∈ TB := tb_T (List.mem_append_right _ (List.mem_append_right _ (List.mem_append_right _ (List.mem_append_left _ (List.mem_of_getElem? (i := 177) rfl))))) rfl
theorem mkL_46 : Cond.methodLink RL 46 yX7_train ∈ TB := tb_T (List.mem_append_right _ (List.mem_append_right _ (List.mem_append_right _ (List.mem_append_left _ (List.mem_of_getElem? (i := 179) rfl))))) rfl
theorem mi_yX7_train : Cond.instanceMethod yX7_train ∈ TB := tb_T (List.mem_append_right _ (List.mem_append_right _ (List.mem_append_right _ (List.mem_append_left _ (List.mem_of_getElem? (i := 180) rfl))))) rfl
theorem me_yX7_train : Cond.selects RX7 yX7_train yX7_train ∈ TB := tb_T (List.mem_append_right _ (List.mem_append_right _ (List.mem_append_right _ (List.mem_append_left _ (List.mem_of_getElem? (i := 181) rfl))))) rfl
theorem mkX7_89 : Cond.methodLink RX7 89 yX7_isTrain ∈ TB := tb_T (List.mem_append_right _ (List.mem_append_right _ (List.mem_append_right _ (List.mem_append_left _ (List.mem_of_getElem? (i := 183) rfl))))) rfl
theorem mi_yX7_isTrain : Cond.instanceMethod yX7_isTrain ∈ TB := tb_T (List.mem_append_right _ (List.mem_append_right _ (List.mem_append_right _ (List.mem_append_left _ (List.mem_of_getElem? (i := 185) rfl))))) rfl
theorem mkL_51 : Cond.methodLink RL 51 yX7_shunt ∈ TB := tb_T (List.mem_append_right _ (List.mem_append_right _ (List.mem_append_right _ (List.mem_append_left _ (List.mem_of_getElem? (i := 187) rfl))))) rfl
theorem mi_yX7_shunt : Cond.instanceMethod yX7_shunt ∈ TB := tb_T (List.mem_append_right _ (List.mem_append_right _ (List.mem_append_right _ (List.mem_append_left _ (List.mem_of_getElem? (i := 188) rfl))))) rfl
theorem me_yX7_shunt : Cond.selects RX7 yX7_shunt yX7_shunt ∈ TB := tb_T (List.mem_append_right _ (List.mem_append_right _ (List.mem_append_right _ (List.mem_append_left _ (List.mem_of_getElem? (i := 189) rfl))))) rfl
theorem mkX7_101 : Cond.methodLink RX7 101 yX7_canGoIn ∈ TB := tb_T (List.mem_append_right _ (List.mem_append_right _ (List.mem_append_right _ (List.mem_append_left _ (List.mem_of_getElem? (i := 191) rfl))))) rfl
theorem mi_yX7_canGoIn : Cond.instanceMethod yX7_canGoIn ∈ TB := tb_T (List.mem_append_right _ (List.mem_append_right _ (List.mem_append_right _ (List.mem_append_left _ (List.mem_of_getElem? (i := 193) rfl))))) rfl
theorem mkX7_95 : Cond.methodLink RX7 95 yX7_isOffered ∈ TB := tb_T (List.mem_append_right _ (List.mem_append_right _ (List.mem_append_right _ (List.mem_append_left _ (List.mem_of_getElem? (i := 195) rfl))))) rfl
theorem mi_yX7_isOffered : Cond.instanceMethod yX7_isOffered ∈ TB := tb_T (List.mem_append_right _ (List.mem_append_right _ (List.mem_append_right _ (List.mem_append_left _ (List.mem_of_getElem? (i := 197) rfl))))) rfl
theorem mkX7_92 : Cond.methodLink RX7 92 yX7_nextSection ∈ TB := tb_T (List.mem_append_right _ (List.mem_append_right _ (List.mem_append_right _ (List.mem_append_left _ (List.mem_of_getElem? (i := 199) rfl))))) rfl
theorem mi_yX7_nextSection : Cond.instanceMethod yX7_nextSection ∈ TB := tb_T (List.mem_append_right _ (List.mem_append_right _ (List.mem_append_right _ (List.mem_append_left _ (List.mem_of_getElem? (i := 201) rfl))))) rfl
theorem mkX7_98 : Cond.methodLink RX7 98 yX7_isClearFor ∈ TB := tb_T (List.mem_append_right _ (List.mem_append_right _ (List.mem_append_right _ (List.mem_append_left _ (List.mem_of_getElem? (i := 203) rfl))))) rfl
theorem mi_yX7_isClearFor : Cond.instanceMethod yX7_isClearFor ∈ TB := tb_T (List.mem_append_right _ (List.mem_append_right _ (List.mem_append_right _ (List.mem_append_left _ (List.mem_of_getElem? (i := 205) rfl))))) rfl
theorem mkX7_104 : Cond.methodLink RX7 104 yX7_isCalmBehind ∈ TB := tb_T (List.mem_append_right _ (List.mem_append_right _ (List.mem_append_right _ (List.mem_append_left _ (List.mem_of_getElem? (i := 207) rfl))))) rfl
theorem mi_yX7_isCalmBehind : Cond.instanceMethod yX7_isCalmBehind ∈ TB := tb_T (List.mem_append_right _ (List.mem_append_right _ (List.mem_append_right _ (List.mem_append_left _ (List.mem_of_getElem? (i := 209) rfl))))) rfl
theorem mkL_55 : Cond.methodLink RL 55 yX7_leave ∈ TB := tb_T (List.mem_append_right _ (List.mem_append_right _ (List.mem_append_right _ (List.mem_append_left _ (List.mem_of_getElem? (i := 211) rfl))))) rfl
theorem mi_yX7_leave : Cond.instanceMethod yX7_leave ∈ TB := tb_T (List.mem_append_right _ (List.mem_append_right _ (List.mem_append_right _ (List.mem_append_left _ (List.mem_of_getElem? (i := 212) rfl))))) rfl
theorem me_yX7_leave : Cond.selects RX7 yX7_leave yX7_leave ∈ TB := tb_T (List.mem_append_right _ (List.mem_append_right _ (List.mem_append_right _ (List.mem_append_left _ (List.mem_of_getElem? (i := 213) rfl))))) rfl
theorem mkL_59 : Cond.methodLink RL 59 yX7_divide ∈ TB := tb_T (List.mem_append_right _ (List.mem_append_right _ (List.mem_append_right _ (List.mem_append_left _ (List.mem_of_getElem? (i := 215) rfl))))) rfl
theorem mi_yX7_divide : Cond.instanceMethod yX7_divide ∈ TB := tb_T (List.mem_append_right _ (List.mem_append_right _ (List.mem_append_right _ (List.mem_append_left _ (List.mem_of_getElem? (i := 216) rfl))))) rfl
theorem me_yX7_divide : Cond.selects RX7 yX7_divide yX7_divide ∈ TB := tb_T (List.mem_append_right _ (List.mem_append_right _ (List.mem_append_right _ (List.mem_append_left _ (List.mem_of_getElem? (i := 217) rfl))))) rfl
theorem mkL_63 : Cond.methodLink RL 63 yX7_offer ∈ TB := tb_T (List.mem_append_right _ (List.mem_append_right _ (List.mem_append_right _ (List.mem_append_left _ (List.mem_of_getElem? (i := 219) rfl))))) rfl
theorem mi_yX7_offer : Cond.instanceMethod yX7_offer ∈ TB := tb_T (List.mem_append_right _ (List.mem_append_right _ (List.mem_append_right _ (List.mem_append_left _ (List.mem_of_getElem? (i := 220) rfl))))) rfl
theorem me_yX7_offer : Cond.selects RX7 yX7_offer yX7_offer ∈ TB := tb_T (List.mem_append_right _ (List.mem_append_right _ (List.mem_append_right _ (List.mem_append_left _ (List.mem_of_getElem? (i := 221) rfl))))) rfl
theorem mkX7_107 : Cond.methodLink RX7 107 yX7_rear ∈ TB := tb_T (List.mem_append_right _ (List.mem_append_right _ (List.mem_append_right _ (List.mem_append_left _ (List.mem_of_getElem? (i := 223) rfl))))) rfl
theorem ms_yX7_rear : Cond.static yX7_rear ∈ TB := tb_T (List.mem_append_right _ (List.mem_append_right _ (List.mem_append_right _ (List.mem_append_left _ (List.mem_of_getElem? (i := 224) rfl))))) rfl
theorem mkX7_110 : Cond.methodLink RX7 110 yX7_codeOf ∈ TB := tb_T (List.mem_append_right _ (List.mem_append_right _ (List.mem_append_right _ (List.mem_append_left _ (List.mem_of_getElem? (i := 226) rfl))))) rfl
theorem ms_yX7_codeOf : Cond.static yX7_codeOf ∈ TB := tb_T (List.mem_append_right _ (List.mem_append_right _ (List.mem_append_right _ (List.mem_append_left _ (List.mem_of_getElem? (i := 227) rfl))))) rfl
theorem mkX7_113 : Cond.methodLink RX7 113 yX7_ring ∈ TB := tb_T (List.mem_append_right _ (List.mem_append_right _ (List.mem_append_right _ (List.mem_append_left _ (List.mem_of_getElem? (i := 229) rfl))))) rfl
theorem mi_yX7_ring : Cond.instanceMethod yX7_ring ∈ TB := tb_T (List.mem_append_right _ (List.mem_append_right _ (List.mem_append_right _ (List.mem_append_left _ (List.mem_of_getElem? (i := 231) rfl))))) rfl
theorem mkL_68 : Cond.methodLink RL 68 yX7_answer ∈ TB := tb_T (List.mem_append_right _ (List.mem_append_right _ (List.mem_append_right _ (List.mem_append_left _ (List.mem_of_getElem? (i := 233) rfl))))) rfl
theorem mi_yX7_answer : Cond.instanceMethod yX7_answer ∈ TB := tb_T (List.mem_append_right _ (List.mem_append_right _ (List.mem_append_right _ (List.mem_append_left _ (List.mem_of_getElem? (i := 234) rfl))))) rfl
theorem me_yX7_answer : Cond.selects RX7 yX7_answer yX7_answer ∈ TB := tb_T (List.mem_append_right _ (List.mem_append_right _ (List.mem_append_right _ (List.mem_append_left _ (List.mem_of_getElem? (i := 235) rfl))))) rfl
theorem mkX7_123 : Cond.methodLink RX7 123 yX7_canAccept ∈ TB := tb_T (List.mem_append_right _ (List.mem_append_right _ (List.mem_append_right _ (List.mem_append_left _ (List.mem_of_getElem? (i := 237) rfl))))) rfl
theorem mi_yX7_canAccept : Cond.instanceMethod yX7_canAccept ∈ TB := tb_T (List.mem_append_right _ (List.mem_append_right _ (List.mem_append_right _ (List.mem_append_left _ (List.mem_of_getElem? (i := 239) rfl))))) rfl
theorem mkX7_117 : Cond.methodLink RX7 117 yX7_tokensAt ∈ TB := tb_T (List.mem_append_right _ (List.mem_append_right _ (List.mem_append_right _ (List.mem_append_right _ (List.mem_of_getElem? (i := 1) rfl))))) rfl
theorem ms_yX7_tokensAt : Cond.static yX7_tokensAt ∈ TB := tb_T (List.mem_append_right _ (List.mem_append_right _ (List.mem_append_right _ (List.mem_append_right _ (List.mem_of_getElem? (i := 2) rfl))))) rfl
theorem mkX7_120 : Cond.methodLink RX7 120 yX7_ahead ∈ TB := tb_T (List.mem_append_right _ (List.mem_append_right _ (List.mem_append_right _ (List.mem_append_right _ (List.mem_of_getElem? (i := 4) rfl))))) rfl
theorem ms_yX7_ahead : Cond.static yX7_ahead ∈ TB := tb_T (List.mem_append_right _ (List.mem_append_right _ (List.mem_append_right _ (List.mem_append_right _ (List.mem_of_getElem? (i := 5) rfl))))) rfl
theorem mkL_72 : Cond.methodLink RL 72 yX7_cancel ∈ TB := tb_T (List.mem_append_right _ (List.mem_append_right _ (List.mem_append_right _ (List.mem_append_right _ (List.mem_of_getElem? (i := 7) rfl))))) rfl
theorem mi_yX7_cancel : Cond.instanceMethod yX7_cancel ∈ TB := tb_T (List.mem_append_right _ (List.mem_append_right _ (List.mem_append_right _ (List.mem_append_right _ (List.mem_of_getElem? (i := 8) rfl))))) rfl
theorem me_yX7_cancel : Cond.selects RX7 yX7_cancel yX7_cancel ∈ TB := tb_T (List.mem_append_right _ (List.mem_append_right _ (List.mem_append_right _ (List.mem_append_right _ (List.mem_of_getElem? (i := 9) rfl))))) rfl
theorem mkX7_126 : Cond.methodLink RX7 126 yX7_unclear ∈ TB := tb_T (List.mem_append_right _ (List.mem_append_right _ (List.mem_append_right _ (List.mem_append_right _ (List.mem_of_getElem? (i := 11) rfl))))) rfl
theorem mi_yX7_unclear : Cond.instanceMethod yX7_unclear ∈ TB := tb_T (List.mem_append_right _ (List.mem_append_right _ (List.mem_append_right _ (List.mem_append_right _ (List.mem_of_getElem? (i := 13) rfl))))) rfl
theorem mkL_76 : Cond.methodLink RL 76 yX7_depart ∈ TB := tb_T (List.mem_append_right _ (List.mem_append_right _ (List.mem_append_right _ (List.mem_append_right _ (List.mem_of_getElem? (i := 15) rfl))))) rfl
theorem mi_yX7_depart : Cond.instanceMethod yX7_depart ∈ TB := tb_T (List.mem_append_right _ (List.mem_append_right _ (List.mem_append_right _ (List.mem_append_right _ (List.mem_of_getElem? (i := 16) rfl))))) rfl
theorem me_yX7_depart : Cond.selects RX7 yX7_depart yX7_depart ∈ TB := tb_T (List.mem_append_right _ (List.mem_append_right _ (List.mem_append_right _ (List.mem_append_right _ (List.mem_of_getElem? (i := 17) rfl))))) rfl
theorem mkL_80 : Cond.methodLink RL 80 yX7_admit ∈ TB := tb_T (List.mem_append_right _ (List.mem_append_right _ (List.mem_append_right _ (List.mem_append_right _ (List.mem_of_getElem? (i := 19) rfl))))) rfl
theorem mi_yX7_admit : Cond.instanceMethod yX7_admit ∈ TB := tb_T (List.mem_append_right _ (List.mem_append_right _ (List.mem_append_right _ (List.mem_append_right _ (List.mem_of_getElem? (i := 20) rfl))))) rfl
theorem me_yX7_admit : Cond.selects RX7 yX7_admit yX7_admit ∈ TB := tb_T (List.mem_append_right _ (List.mem_append_right _ (List.mem_append_right _ (List.mem_append_right _ (List.mem_of_getElem? (i := 21) rfl))))) rfl
theorem mkX7_129 : Cond.methodLink RX7 129 yX7_isInside ∈ TB := tb_T (List.mem_append_right _ (List.mem_append_right _ (List.mem_append_right _ (List.mem_append_right _ (List.mem_of_getElem? (i := 23) rfl))))) rfl
theorem mi_yX7_isInside : Cond.instanceMethod yX7_isInside ∈ TB := tb_T (List.mem_append_right _ (List.mem_append_right _ (List.mem_append_right _ (List.mem_append_right _ (List.mem_of_getElem? (i := 25) rfl))))) rfl
theorem mkL_84 : Cond.methodLink RL 84 yX7_out ∈ TB := tb_T (List.mem_append_right _ (List.mem_append_right _ (List.mem_append_right _ (List.mem_append_right _ (List.mem_of_getElem? (i := 27) rfl))))) rfl
theorem mi_yX7_out : Cond.instanceMethod yX7_out ∈ TB := tb_T (List.mem_append_right _ (List.mem_append_right _ (List.mem_append_right _ (List.mem_append_right _ (List.mem_of_getElem? (i := 28) rfl))))) rfl
theorem me_yX7_out : Cond.selects RX7 yX7_out yX7_out ∈ TB := tb_T (List.mem_append_right _ (List.mem_append_right _ (List.mem_append_right _ (List.mem_append_right _ (List.mem_of_getElem? (i := 29) rfl))))) rfl
theorem mkL_88 : Cond.methodLink RL 88 yX7_assist ∈ TB := tb_T (List.mem_append_right _ (List.mem_append_right _ (List.mem_append_right _ (List.mem_append_right _ (List.mem_of_getElem? (i := 31) rfl))))) rfl
theorem mi_yX7_assist : Cond.instanceMethod yX7_assist ∈ TB := tb_T (List.mem_append_right _ (List.mem_append_right _ (List.mem_append_right _ (List.mem_append_right _ (List.mem_of_getElem? (i := 32) rfl))))) rfl
theorem me_yX7_assist : Cond.selects RX7 yX7_assist yX7_assist ∈ TB := tb_T (List.mem_append_right _ (List.mem_append_right _ (List.mem_append_right _ (List.mem_append_right _ (List.mem_of_getElem? (i := 33) rfl))))) rfl
theorem mkL_92 : Cond.methodLink RL 92 yX7_obstruct ∈ TB := tb_T (List.mem_append_right _ (List.mem_append_right _ (List.mem_append_right _ (List.mem_append_right _ (List.mem_of_getElem? (i := 35) rfl))))) rfl
theorem mi_yX7_obstruct : Cond.instanceMethod yX7_obstruct ∈ TB := tb_T (List.mem_append_right _ (List.mem_append_right _ (List.mem_append_right _ (List.mem_append_right _ (List.mem_of_getElem? (i := 36) rfl))))) rfl
theorem me_yX7_obstruct : Cond.selects RX7 yX7_obstruct yX7_obstruct ∈ TB := tb_T (List.mem_append_right _ (List.mem_append_right _ (List.mem_append_right _ (List.mem_append_right _ (List.mem_of_getElem? (i := 37) rfl))))) rfl
theorem mkL_96 : Cond.methodLink RL 96 yX7_lift ∈ TB := tb_T (List.mem_append_right _ (List.mem_append_right _ (List.mem_append_right _ (List.mem_append_right _ (List.mem_of_getElem? (i := 39) rfl))))) rfl
theorem mi_yX7_lift : Cond.instanceMethod yX7_lift ∈ TB := tb_T (List.mem_append_right _ (List.mem_append_right _ (List.mem_append_right _ (List.mem_append_right _ (List.mem_of_getElem? (i := 40) rfl))))) rfl
theorem me_yX7_lift : Cond.selects RX7 yX7_lift yX7_lift ∈ TB := tb_T (List.mem_append_right _ (List.mem_append_right _ (List.mem_append_right _ (List.mem_append_right _ (List.mem_of_getElem? (i := 41) rfl))))) rfl
theorem mkL_100 : Cond.methodLink RL 100 yX7_pass ∈ TB := tb_T (List.mem_append_right _ (List.mem_append_right _ (List.mem_append_right _ (List.mem_append_right _ (List.mem_of_getElem? (i := 43) rfl))))) rfl
theorem mi_yX7_pass : Cond.instanceMethod yX7_pass ∈ TB := tb_T (List.mem_append_right _ (List.mem_append_right _ (List.mem_append_right _ (List.mem_append_right _ (List.mem_of_getElem? (i := 44) rfl))))) rfl
theorem me_yX7_pass : Cond.selects RX7 yX7_pass yX7_pass ∈ TB := tb_T (List.mem_append_right _ (List.mem_append_right _ (List.mem_append_right _ (List.mem_append_right _ (List.mem_of_getElem? (i := 45) rfl))))) rfl
theorem knX7_132 : Cond.constant RX7 132 (1000000) ∈ TB := tb_T (List.mem_append_right _ (List.mem_append_right _ (List.mem_append_right _ (List.mem_append_right _ (List.mem_of_getElem? (i := 47) rfl))))) rfl
theorem mkX7_133 : Cond.methodLink RX7 133 yX7_tick ∈ TB := tb_T (List.mem_append_right _ (List.mem_append_right _ (List.mem_append_right _ (List.mem_append_right _ (List.mem_of_getElem? (i := 48) rfl))))) rfl
theorem mi_yX7_tick : Cond.instanceMethod yX7_tick ∈ TB := tb_T (List.mem_append_right _ (List.mem_append_right _ (List.mem_append_right _ (List.mem_append_right _ (List.mem_of_getElem? (i := 50) rfl))))) rfl
theorem mkL_104 : Cond.methodLink RL 104 yX7_signal ∈ TB := tb_T (List.mem_append_right _ (List.mem_append_right _ (List.mem_append_right _ (List.mem_append_right _ (List.mem_of_getElem? (i := 52) rfl))))) rfl
theorem mi_yX7_signal : Cond.instanceMethod yX7_signal ∈ TB := tb_T (List.mem_append_right _ (List.mem_append_right _ (List.mem_append_right _ (List.mem_append_right _ (List.mem_of_getElem? (i := 53) rfl))))) rfl
theorem me_yX7_signal : Cond.selects RX7 yX7_signal yX7_signal ∈ TB := tb_T (List.mem_append_right _ (List.mem_append_right _ (List.mem_append_right _ (List.mem_append_right _ (List.mem_of_getElem? (i := 54) rfl))))) rfl
theorem mkL_108 : Cond.methodLink RL 108 yX7_rung ∈ TB := tb_T (List.mem_append_right _ (List.mem_append_right _ (List.mem_append_right _ (List.mem_append_right _ (List.mem_of_getElem? (i := 56) rfl))))) rfl
theorem mi_yX7_rung : Cond.instanceMethod yX7_rung ∈ TB := tb_T (List.mem_append_right _ (List.mem_append_right _ (List.mem_append_right _ (List.mem_append_right _ (List.mem_of_getElem? (i := 57) rfl))))) rfl
theorem me_yX7_rung : Cond.selects RX7 yX7_rung yX7_rung ∈ TB := tb_T (List.mem_append_right _ (List.mem_append_right _ (List.mem_append_right _ (List.mem_append_right _ (List.mem_of_getElem? (i := 58) rfl))))) rfl
theorem mkL_112 : Cond.methodLink RL 112 yX7_work ∈ TB := tb_T (List.mem_append_right _ (List.mem_append_right _ (List.mem_append_right _ (List.mem_append_right _ (List.mem_of_getElem? (i := 60) rfl))))) rfl
theorem mi_yX7_work : Cond.instanceMethod yX7_work ∈ TB := tb_T (List.mem_append_right _ (List.mem_append_right _ (List.mem_append_right _ (List.mem_append_right _ (List.mem_of_getElem? (i := 61) rfl))))) rfl
theorem me_yX7_work : Cond.selects RX7 yX7_work yX7_work ∈ TB := tb_T (List.mem_append_right _ (List.mem_append_right _ (List.mem_append_right _ (List.mem_append_right _ (List.mem_of_getElem? (i := 62) rfl))))) rfl
theorem mkX7_165 : Cond.methodLink RX7 165 yX7_trainsAt ∈ TB := tb_T (List.mem_append_right _ (List.mem_append_right _ (List.mem_append_right _ (List.mem_append_right _ (List.mem_of_getElem? (i := 64) rfl))))) rfl
theorem mi_yX7_trainsAt : Cond.instanceMethod yX7_trainsAt ∈ TB := tb_T (List.mem_append_right _ (List.mem_append_right _ (List.mem_append_right _ (List.mem_append_right _ (List.mem_of_getElem? (i := 66) rfl))))) rfl
theorem mkX7_168 : Cond.methodLink RX7 168 yX7_workTick ∈ TB := tb_T (List.mem_append_right _ (List.mem_append_right _ (List.mem_append_right _ (List.mem_append_right _ (List.mem_of_getElem? (i := 68) rfl))))) rfl
theorem mi_yX7_workTick : Cond.instanceMethod yX7_workTick ∈ TB := tb_T (List.mem_append_right _ (List.mem_append_right _ (List.mem_append_right _ (List.mem_append_right _ (List.mem_of_getElem? (i := 70) rfl))))) rfl
theorem mkX7_158 : Cond.methodLink RX7 158 yX7_workBlocks ∈ TB := tb_T (List.mem_append_right _ (List.mem_append_right _ (List.mem_append_right _ (List.mem_append_right _ (List.mem_of_getElem? (i := 72) rfl))))) rfl
theorem mi_yX7_workBlocks : Cond.instanceMethod yX7_workBlocks ∈ TB := tb_T (List.mem_append_right _ (List.mem_append_right _ (List.mem_append_right _ (List.mem_append_right _ (List.mem_of_getElem? (i := 74) rfl))))) rfl
theorem mkX7_136 : Cond.methodLink RX7 136 yX7_out ∈ TB := tb_T (List.mem_append_right _ (List.mem_append_right _ (List.mem_append_right _ (List.mem_append_right _ (List.mem_of_getElem? (i := 76) rfl))))) rfl
theorem mkX7_139 : Cond.methodLink RX7 139 yX7_assist ∈ TB := tb_T (List.mem_append_right _ (List.mem_append_right _ (List.mem_append_right _ (List.mem_append_right _ (List.mem_of_getElem? (i := 77) rfl))))) rfl
theorem mkX7_142 : Cond.methodLink RX7 142 yX7_admit ∈ TB := tb_T (List.mem_append_right _ (List.mem_append_right _ (List.mem_append_right _ (List.mem_append_right _ (List.mem_of_getElem? (i := 78) rfl))))) rfl
theorem mkX7_145 : Cond.methodLink RX7 145 yX7_answer ∈ TB := tb_T (List.mem_append_right _ (List.mem_append_right _ (List.mem_append_right _ (List.mem_append_right _ (List.mem_of_getElem? (i := 79) rfl))))) rfl
theorem mkX7_162 : Cond.methodLink RX7 162 yX7_workTrains ∈ TB := tb_T (List.mem_append_right _ (List.mem_append_right _ (List.mem_append_right _ (List.mem_append_right _ (List.mem_of_getElem? (i := 80) rfl))))) rfl
theorem mi_yX7_workTrains : Cond.instanceMethod yX7_workTrains ∈ TB := tb_T (List.mem_append_right _ (List.mem_append_right _ (List.mem_append_right _ (List.mem_append_right _ (List.mem_of_getElem? (i := 82) rfl))))) rfl
theorem mkX7_149 : Cond.methodLink RX7 149 yX7_leave ∈ TB := tb_T (List.mem_append_right _ (List.mem_append_right _ (List.mem_append_right _ (List.mem_append_right _ (List.mem_of_getElem? (i := 84) rfl))))) rfl
theorem mkX7_152 : Cond.methodLink RX7 152 yX7_offer ∈ TB := tb_T (List.mem_append_right _ (List.mem_append_right _ (List.mem_append_right _ (List.mem_append_right _ (List.mem_of_getElem? (i := 85) rfl))))) rfl
theorem mkX7_155 : Cond.methodLink RX7 155 yX7_depart ∈ TB := tb_T (List.mem_append_right _ (List.mem_append_right _ (List.mem_append_right _ (List.mem_append_right _ (List.mem_of_getElem? (i := 86) rfl))))) rfl
theorem mkL_116 : Cond.methodLink RL 116 yX7_forecast ∈ TB := tb_T (List.mem_append_right _ (List.mem_append_right _ (List.mem_append_right _ (List.mem_append_right _ (List.mem_of_getElem? (i := 87) rfl))))) rfl
theorem mi_yX7_forecast : Cond.instanceMethod yX7_forecast ∈ TB := tb_T (List.mem_append_right _ (List.mem_append_right _ (List.mem_append_right _ (List.mem_append_right _ (List.mem_of_getElem? (i := 88) rfl))))) rfl
theorem me_yX7_forecast : Cond.selects RX7 yX7_forecast yX7_forecast ∈ TB := tb_T (List.mem_append_right _ (List.mem_append_right _ (List.mem_append_right _ (List.mem_append_right _ (List.mem_of_getElem? (i := 89) rfl))))) rfl
theorem mkX7_171 : Cond.methodLink RX7 171 yX7_putAside ∈ TB := tb_T (List.mem_append_right _ (List.mem_append_right _ (List.mem_append_right _ (List.mem_append_right _ (List.mem_of_getElem? (i := 91) rfl))))) rfl
theorem mi_yX7_putAside : Cond.instanceMethod yX7_putAside ∈ TB := tb_T (List.mem_append_right _ (List.mem_append_right _ (List.mem_append_right _ (List.mem_append_right _ (List.mem_of_getElem? (i := 93) rfl))))) rfl
theorem mkX7_174 : Cond.methodLink RX7 174 yX7_putBack ∈ TB := tb_T (List.mem_append_right _ (List.mem_append_right _ (List.mem_append_right _ (List.mem_append_right _ (List.mem_of_getElem? (i := 95) rfl))))) rfl
theorem mi_yX7_putBack : Cond.instanceMethod yX7_putBack ∈ TB := tb_T (List.mem_append_right _ (List.mem_append_right _ (List.mem_append_right _ (List.mem_append_right _ (List.mem_of_getElem? (i := 97) rfl))))) rfl
theorem mkL_120 : Cond.methodLink RL 120 yX7_capacity ∈ TB := tb_T (List.mem_append_right _ (List.mem_append_right _ (List.mem_append_right _ (List.mem_append_right _ (List.mem_of_getElem? (i := 99) rfl))))) rfl
theorem mi_yX7_capacity : Cond.instanceMethod yX7_capacity ∈ TB := tb_T (List.mem_append_right _ (List.mem_append_right _ (List.mem_append_right _ (List.mem_append_right _ (List.mem_of_getElem? (i := 100) rfl))))) rfl
theorem me_yX7_capacity : Cond.selects RX7 yX7_capacity yX7_capacity ∈ TB := tb_T (List.mem_append_right _ (List.mem_append_right _ (List.mem_append_right _ (List.mem_append_right _ (List.mem_of_getElem? (i := 101) rfl))))) rfl
theorem mkL_124 : Cond.methodLink RL 124 yX7_say ∈ TB := tb_T (List.mem_append_right _ (List.mem_append_right _ (List.mem_append_right _ (List.mem_append_right _ (List.mem_of_getElem? (i := 103) rfl))))) rfl
theorem mi_yX7_say : Cond.instanceMethod yX7_say ∈ TB := tb_T (List.mem_append_right _ (List.mem_append_right _ (List.mem_append_right _ (List.mem_append_right _ (List.mem_of_getElem? (i := 104) rfl))))) rfl
theorem me_yX7_say : Cond.selects RX7 yX7_say yX7_say ∈ TB := tb_T (List.mem_append_right _ (List.mem_append_right _ (List.mem_append_right _ (List.mem_append_right _ (List.mem_of_getElem? (i := 105) rfl))))) rfl
theorem mkL_129 : Cond.methodLink RL 129 yX7_wipe ∈ TB := tb_T (List.mem_append_right _ (List.mem_append_right _ (List.mem_append_right _ (List.mem_append_right _ (List.mem_of_getElem? (i := 107) rfl))))) rfl
theorem mi_yX7_wipe : Cond.instanceMethod yX7_wipe ∈ TB := tb_T (List.mem_append_right _ (List.mem_append_right _ (List.mem_append_right _ (List.mem_append_right _ (List.mem_of_getElem? (i := 108) rfl))))) rfl
theorem me_yX7_wipe : Cond.selects RX7 yX7_wipe yX7_wipe ∈ TB := tb_T (List.mem_append_right _ (List.mem_append_right _ (List.mem_append_right _ (List.mem_append_right _ (List.mem_of_getElem? (i := 109) rfl))))) rfl
theorem mkL_133 : Cond.methodLink RL 133 yX7_fault ∈ TB := tb_T (List.mem_append_right _ (List.mem_append_right _ (List.mem_append_right _ (List.mem_append_right _ (List.mem_of_getElem? (i := 111) rfl))))) rfl
theorem mi_yX7_fault : Cond.instanceMethod yX7_fault ∈ TB := tb_T (List.mem_append_right _ (List.mem_append_right _ (List.mem_append_right _ (List.mem_append_right _ (List.mem_of_getElem? (i := 112) rfl))))) rfl
theorem me_yX7_fault : Cond.selects RX7 yX7_fault yX7_fault ∈ TB := tb_T (List.mem_append_right _ (List.mem_append_right _ (List.mem_append_right _ (List.mem_append_right _ (List.mem_of_getElem? (i := 113) rfl))))) rfl
theorem mkX7_206 : Cond.methodLink RX7 206 yX7_readOrder ∈ TB := tb_T (List.mem_append_right _ (List.mem_append_right _ (List.mem_append_right _ (List.mem_append_right _ (List.mem_of_getElem? (i := 115) rfl))))) rfl
theorem mi_yX7_readOrder : Cond.instanceMethod yX7_readOrder ∈ TB := tb_T (List.mem_append_right _ (List.mem_append_right _ (List.mem_append_right _ (List.mem_append_right _ (List.mem_of_getElem? (i := 117) rfl))))) rfl
theorem mkX7_184 : Cond.methodLink RX7 184 yX7_nextSign ∈ TB := tb_T (List.mem_append_right _ (List.mem_append_right _ (List.mem_append_right _ (List.mem_append_right _ (List.mem_of_getElem? (i := 119) rfl))))) rfl
theorem mi_yX7_nextSign : Cond.instanceMethod yX7_nextSign ∈ TB := tb_T (List.mem_append_right _ (List.mem_append_right _ (List.mem_append_right _ (List.mem_append_right _ (List.mem_of_getElem? (i := 121) rfl))))) rfl
theorem mkX7_191 : Cond.methodLink RX7 191 yX7_isForTrain ∈ TB := tb_T (List.mem_append_right _ (List.mem_append_right _ (List.mem_append_right _ (List.mem_append_right _ (List.mem_of_getElem? (i := 123) rfl))))) rfl
theorem ms_yX7_isForTrain : Cond.static yX7_isForTrain ∈ TB := tb_T (List.mem_append_right _ (List.mem_append_right _ (List.mem_append_right _ (List.mem_append_right _ (List.mem_of_getElem? (i := 124) rfl))))) rfl
theorem mkX7_194 : Cond.methodLink RX7 194 yX7_isForBlock ∈ TB := tb_T (List.mem_append_right _ (List.mem_append_right _ (List.mem_append_right _ (List.mem_append_right _ (List.mem_of_getElem? (i := 126) rfl))))) rfl
theorem ms_yX7_isForBlock : Cond.static yX7_isForBlock ∈ TB := tb_T (List.mem_append_right _ (List.mem_append_right _ (List.mem_append_right _ (List.mem_append_right _ (List.mem_of_getElem? (i := 127) rfl))))) rfl
theorem mkX7_200 : Cond.methodLink RX7 200 yX7_takeNumber ∈ TB := tb_T (List.mem_append_right _ (List.mem_append_right _ (List.mem_append_right _ (List.mem_append_right _ (List.mem_of_getElem? (i := 129) rfl))))) rfl
theorem mi_yX7_takeNumber : Cond.instanceMethod yX7_takeNumber ∈ TB := tb_T (List.mem_append_right _ (List.mem_append_right _ (List.mem_append_right _ (List.mem_append_right _ (List.mem_of_getElem? (i := 131) rfl))))) rfl
theorem mkX7_203 : Cond.methodLink RX7 203 yX7_takeSide ∈ TB := tb_T (List.mem_append_right _ (List.mem_append_right _ (List.mem_append_right _ (List.mem_append_right _ (List.mem_of_getElem? (i := 133) rfl))))) rfl
theorem mi_yX7_takeSide : Cond.instanceMethod yX7_takeSide ∈ TB := tb_T (List.mem_append_right _ (List.mem_append_right _ (List.mem_append_right _ (List.mem_append_right _ (List.mem_of_getElem? (i := 135) rfl))))) rfl
theorem mkL_137 : Cond.methodLink RL 137 yX7_carryOut ∈ TB := tb_T (List.mem_append_right _ (List.mem_append_right _ (List.mem_append_right _ (List.mem_append_right _ (List.mem_of_getElem? (i := 137) rfl))))) rfl
theorem mi_yX7_carryOut : Cond.instanceMethod yX7_carryOut ∈ TB := tb_T (List.mem_append_right _ (List.mem_append_right _ (List.mem_append_right _ (List.mem_append_right _ (List.mem_of_getElem? (i := 138) rfl))))) rfl
theorem me_yX7_carryOut : Cond.selects RX7 yX7_carryOut yX7_carryOut ∈ TB := tb_T (List.mem_append_right _ (List.mem_append_right _ (List.mem_append_right _ (List.mem_append_right _ (List.mem_of_getElem? (i := 139) rfl))))) rfl
theorem mkX7_218 : Cond.methodLink RX7 218 yX7_fault ∈ TB := tb_T (List.mem_append_right _ (List.mem_append_right _ (List.mem_append_right _ (List.mem_append_right _ (List.mem_of_getElem? (i := 141) rfl))))) rfl
theorem mkX7_221 : Cond.methodLink RX7 221 yX7_carryOutOne ∈ TB := tb_T (List.mem_append_right _ (List.mem_append_right _ (List.mem_append_right _ (List.mem_append_right _ (List.mem_of_getElem? (i := 142) rfl))))) rfl
theorem mi_yX7_carryOutOne : Cond.instanceMethod yX7_carryOutOne ∈ TB := tb_T (List.mem_append_right _ (List.mem_append_right _ (List.mem_append_right _ (List.mem_append_right _ (List.mem_of_getElem? (i := 144) rfl))))) rfl
theorem mkX7_209 : Cond.methodLink RX7 209 yX7_shunt ∈ TB := tb_T (List.mem_append_right _ (List.mem_append_right _ (List.mem_append_right _ (List.mem_append_right _ (List.mem_of_getElem? (i := 146) rfl))))) rfl
theorem mkX7_212 : Cond.methodLink RX7 212 yX7_cancel ∈ TB := tb_T (List.mem_append_right _ (List.mem_append_right _ (List.mem_append_right _ (List.mem_append_right _ (List.mem_of_getElem? (i := 147) rfl))))) rfl
theorem mkX7_215 : Cond.methodLink RX7 215 yX7_pass ∈ TB := tb_T (List.mem_append_right _ (List.mem_append_right _ (List.mem_append_right _ (List.mem_append_right _ (List.mem_of_getElem? (i := 148) rfl))))) rfl
theorem mkL_141 : Cond.methodLink RL 141 yX7_count ∈ TB := tb_T (List.mem_append_right _ (List.mem_append_right _ (List.mem_append_right _ (List.mem_append_right _ (List.mem_of_getElem? (i := 149) rfl))))) rfl
theorem mi_yX7_count : Cond.instanceMethod yX7_count ∈ TB := tb_T (List.mem_append_right _ (List.mem_append_right _ (List.mem_append_right _ (List.mem_append_right _ (List.mem_of_getElem? (i := 150) rfl))))) rfl
theorem me_yX7_count : Cond.selects RX7 yX7_count yX7_count ∈ TB := tb_T (List.mem_append_right _ (List.mem_append_right _ (List.mem_append_right _ (List.mem_append_right _ (List.mem_of_getElem? (i := 151) rfl))))) rfl
theorem mkX7_224 : Cond.methodLink RX7 224 yX7_blocksWith ∈ TB := tb_T (List.mem_append_right _ (List.mem_append_right _ (List.mem_append_right _ (List.mem_append_right _ (List.mem_of_getElem? (i := 153) rfl))))) rfl
theorem mi_yX7_blocksWith : Cond.instanceMethod yX7_blocksWith ∈ TB := tb_T (List.mem_append_right _ (List.mem_append_right _ (List.mem_append_right _ (List.mem_append_right _ (List.mem_of_getElem? (i := 155) rfl))))) rfl
theorem mkL_145 : Cond.methodLink RL 145 yX7_save ∈ TB := tb_T (List.mem_append_right _ (List.mem_append_right _ (List.mem_append_right _ (List.mem_append_right _ (List.mem_of_getElem? (i := 157) rfl))))) rfl
theorem mi_yX7_save : Cond.instanceMethod yX7_save ∈ TB := tb_T (List.mem_append_right _ (List.mem_append_right _ (List.mem_append_right _ (List.mem_append_right _ (List.mem_of_getElem? (i := 158) rfl))))) rfl
theorem me_yX7_save : Cond.selects RX7 yX7_save yX7_save ∈ TB := tb_T (List.mem_append_right _ (List.mem_append_right _ (List.mem_append_right _ (List.mem_append_right _ (List.mem_of_getElem? (i := 159) rfl))))) rfl
theorem mkL_149 : Cond.methodLink RL 149 yX7_restore ∈ TB := tb_T (List.mem_append_right _ (List.mem_append_right _ (List.mem_append_right _ (List.mem_append_right _ (List.mem_of_getElem? (i := 161) rfl))))) rfl
theorem mi_yX7_restore : Cond.instanceMethod yX7_restore ∈ TB := tb_T (List.mem_append_right _ (List.mem_append_right _ (List.mem_append_right _ (List.mem_append_right _ (List.mem_of_getElem? (i := 162) rfl))))) rfl
theorem me_yX7_restore : Cond.selects RX7 yX7_restore yX7_restore ∈ TB := tb_T (List.mem_append_right _ (List.mem_append_right _ (List.mem_append_right _ (List.mem_append_right _ (List.mem_of_getElem? (i := 163) rfl))))) rfl
theorem me_yX1_shuntToLoop : Cond.selects RX1 yX1_shuntToLoop yX1_shuntToLoop ∈ TB := tb_S (List.mem_append_left _ (List.mem_of_getElem? (i := 0) rfl)) rfl
theorem me_yX1_shuntBack : Cond.selects RX1 yX1_shuntBack yX1_shuntBack ∈ TB := tb_S (List.mem_append_left _ (List.mem_of_getElem? (i := 1) rfl)) rfl
theorem me_yX1_ringRear : Cond.selects RX1 yX1_ringRear yX1_ringRear ∈ TB := tb_S (List.mem_append_left _ (List.mem_of_getElem? (i := 2) rfl)) rfl
theorem me_yX1_isTokenReady : Cond.selects RX1 yX1_isTokenReady yX1_isTokenReady ∈ TB := tb_S (List.mem_append_left _ (List.mem_of_getElem? (i := 3) rfl)) rfl
theorem me_yX4_addTokens : Cond.selects RX4 yX4_addTokens yX4_addTokens ∈ TB := tb_S (List.mem_append_left _ (List.mem_of_getElem? (i := 4) rfl)) rfl
theorem me_yX1_ringAhead : Cond.selects RX1 yX1_ringAhead yX1_ringAhead ∈ TB := tb_S (List.mem_append_left _ (List.mem_of_getElem? (i := 5) rfl)) rfl
theorem me_yX3_oldest : Cond.selects RX3 yX3_oldest yX3_oldest ∈ TB := tb_S (List.mem_append_left _ (List.mem_of_getElem? (i := 6) rfl)) rfl
theorem me_yX1_clearSections : Cond.selects RX1 yX1_clearSections yX1_clearSections ∈ TB := tb_S (List.mem_append_left _ (List.mem_of_getElem? (i := 7) rfl)) rfl
theorem me_yX1_leaveAll : Cond.selects RX1 yX1_leaveAll yX1_leaveAll ∈ TB := tb_S (List.mem_append_left _ (List.mem_of_getElem? (i := 8) rfl)) rfl
theorem me_yX1_offerAll : Cond.selects RX1 yX1_offerAll yX1_offerAll ∈ TB := tb_S (List.mem_append_left _ (List.mem_of_getElem? (i := 9) rfl)) rfl
theorem me_yX1_answerAll : Cond.selects RX1 yX1_answerAll yX1_answerAll ∈ TB := tb_S (List.mem_append_left _ (List.mem_of_getElem? (i := 10) rfl)) rfl
theorem me_yX1_departAll : Cond.selects RX1 yX1_departAll yX1_departAll ∈ TB := tb_S (List.mem_append_left _ (List.mem_of_getElem? (i := 11) rfl)) rfl
theorem me_yX2_readSign : Cond.selects RX2 yX2_readSign yX2_readSign ∈ TB := tb_S (List.mem_append_left _ (List.mem_of_getElem? (i := 12) rfl)) rfl
theorem me_yX6_obey : Cond.selects RX6 yX6_obey yX6_obey ∈ TB := tb_S (List.mem_append_left _ (List.mem_of_getElem? (i := 13) rfl)) rfl
theorem me_yX7_lay : Cond.selects RX7 yX7_lay yX7_lay ∈ TB := tb_S (List.mem_append_left _ (List.mem_of_getElem? (i := 14) rfl)) rfl
theorem me_yX7_layBlocks : Cond.selects RX7 yX7_layBlocks yX7_layBlocks ∈ TB := tb_S (List.mem_append_left _ (List.mem_of_getElem? (i := 15) rfl)) rfl
theorem me_yX7_isSection : Cond.selects RX7 yX7_isSection yX7_isSection ∈ TB := tb_S (List.mem_append_right _ (List.mem_append_left _ (List.mem_of_getElem? (i := 0) rfl))) rfl
theorem me_yX7_sections : Cond.selects RX7 yX7_sections yX7_sections ∈ TB := tb_S (List.mem_append_right _ (List.mem_append_left _ (List.mem_of_getElem? (i := 1) rfl))) rfl
theorem me_yX7_many : Cond.selects RX7 yX7_many yX7_many ∈ TB := tb_S (List.mem_append_right _ (List.mem_append_left _ (List.mem_of_getElem? (i := 2) rfl))) rfl
theorem me_yX7_ofTrain : Cond.selects RX7 yX7_ofTrain yX7_ofTrain ∈ TB := tb_S (List.mem_append_right _ (List.mem_append_left _ (List.mem_of_getElem? (i := 3) rfl))) rfl
theorem me_yX7_isSingle : Cond.selects RX7 yX7_isSingle yX7_isSingle ∈ TB := tb_S (List.mem_append_right _ (List.mem_append_left _ (List.mem_of_getElem? (i := 4) rfl))) rfl
theorem me_yX7_isTokenOut : Cond.selects RX7 yX7_isTokenOut yX7_isTokenOut ∈ TB := tb_S (List.mem_append_right _ (List.mem_append_left _ (List.mem_of_getElem? (i := 5) rfl))) rfl
theorem me_yX7_ofBlock : Cond.selects RX7 yX7_ofBlock yX7_ofBlock ∈ TB := tb_S (List.mem_append_right _ (List.mem_append_left _ (List.mem_of_getElem? (i := 6) rfl))) rfl
theorem me_yX7_isBlock : Cond.selects RX7 yX7_isBlock yX7_isBlock ∈ TB := tb_S (List.mem_append_right _ (List.mem_append_left _ (List.mem_of_getElem? (i := 7) rfl))) rfl
theorem me_yX7_firstBox : Cond.selects RX7 yX7_firstBox yX7_firstBox ∈ TB := tb_S (List.mem_append_right _ (List.mem_append_left _ (List.mem_of_getElem? (i := 8) rfl))) rfl
theorem me_yX7_isFree : Cond.selects RX7 yX7_isFree yX7_isFree ∈ TB := tb_S (List.mem_append_right _ (List.mem_append_left _ (List.mem_of_getElem? (i := 9) rfl))) rfl
theorem me_yX7_add : Cond.selects RX7 yX7_add yX7_add ∈ TB := tb_S (List.mem_append_right _ (List.mem_append_left _ (List.mem_of_getElem? (i := 10) rfl))) rfl
theorem me_yX7_layTrain : Cond.selects RX7 yX7_layTrain yX7_layTrain ∈ TB := tb_S (List.mem_append_right _ (List.mem_append_left _ (List.mem_of_getElem? (i := 11) rfl))) rfl
theorem me_yX7_isTrain : Cond.selects RX7 yX7_isTrain yX7_isTrain ∈ TB := tb_S (List.mem_append_right _ (List.mem_append_left _ (List.mem_of_getElem? (i := 12) rfl))) rfl
theorem me_yX7_canGoIn : Cond.selects RX7 yX7_canGoIn yX7_canGoIn ∈ TB := tb_S (List.mem_append_right _ (List.mem_append_left _ (List.mem_of_getElem? (i := 13) rfl))) rfl
theorem me_yX7_isOffered : Cond.selects RX7 yX7_isOffered yX7_isOffered ∈ TB := tb_S (List.mem_append_right _ (List.mem_append_left _ (List.mem_of_getElem? (i := 14) rfl))) rfl
theorem me_yX7_nextSection : Cond.selects RX7 yX7_nextSection yX7_nextSection ∈ TB := tb_S (List.mem_append_right _ (List.mem_append_left _ (List.mem_of_getElem? (i := 15) rfl))) rfl
theorem me_yX7_isClearFor : Cond.selects RX7 yX7_isClearFor yX7_isClearFor ∈ TB := tb_S (List.mem_append_right _ (List.mem_append_right _ (List.mem_append_left _ (List.mem_of_getElem? (i := 0) rfl)))) rfl
theorem me_yX7_isCalmBehind : Cond.selects RX7 yX7_isCalmBehind yX7_isCalmBehind ∈ TB := tb_S (List.mem_append_right _ (List.mem_append_right _ (List.mem_append_left _ (List.mem_of_getElem? (i := 1) rfl)))) rfl
theorem me_yX7_ring : Cond.selects RX7 yX7_ring yX7_ring ∈ TB := tb_S (List.mem_append_right _ (List.mem_append_right _ (List.mem_append_left _ (List.mem_of_getElem? (i := 2) rfl)))) rfl
theorem me_yX7_canAccept : Cond.selects RX7 yX7_canAccept yX7_canAccept ∈ TB := tb_S (List.mem_append_right _ (List.mem_append_right _ (List.mem_append_left _ (List.mem_of_getElem? (i := 3) rfl)))) rfl
theorem me_yX7_unclear : Cond.selects RX7 yX7_unclear yX7_unclear ∈ TB := tb_S (List.mem_append_right _ (List.mem_append_right _ (List.mem_append_left _ (List.mem_of_getElem? (i := 4) rfl)))) rfl
theorem me_yX7_isInside : Cond.selects RX7 yX7_isInside yX7_isInside ∈ TB := tb_S (List.mem_append_right _ (List.mem_append_right _ (List.mem_append_left _ (List.mem_of_getElem? (i := 5) rfl)))) rfl
theorem me_yX7_tick : Cond.selects RX7 yX7_tick yX7_tick ∈ TB := tb_S (List.mem_append_right _ (List.mem_append_right _ (List.mem_append_left _ (List.mem_of_getElem? (i := 6) rfl)))) rfl
theorem me_yX7_trainsAt : Cond.selects RX7 yX7_trainsAt yX7_trainsAt ∈ TB := tb_S (List.mem_append_right _ (List.mem_append_right _ (List.mem_append_left _ (List.mem_of_getElem? (i := 7) rfl)))) rfl
theorem me_yX7_workTick : Cond.selects RX7 yX7_workTick yX7_workTick ∈ TB := tb_S (List.mem_append_right _ (List.mem_append_right _ (List.mem_append_left _ (List.mem_of_getElem? (i := 8) rfl)))) rfl
theorem me_yX7_workBlocks : Cond.selects RX7 yX7_workBlocks yX7_workBlocks ∈ TB := tb_S (List.mem_append_right _ (List.mem_append_right _ (List.mem_append_left _ (List.mem_of_getElem? (i := 9) rfl)))) rfl
theorem me_yX7_workTrains : Cond.selects RX7 yX7_workTrains yX7_workTrains ∈ TB := tb_S (List.mem_append_right _ (List.mem_append_right _ (List.mem_append_left _ (List.mem_of_getElem? (i := 10) rfl)))) rfl
theorem me_yX7_putAside : Cond.selects RX7 yX7_putAside yX7_putAside ∈ TB := tb_S (List.mem_append_right _ (List.mem_append_right _ (List.mem_append_left _ (List.mem_of_getElem? (i := 11) rfl)))) rfl
theorem me_yX7_putBack : Cond.selects RX7 yX7_putBack yX7_putBack ∈ TB := tb_S (List.mem_append_right _ (List.mem_append_right _ (List.mem_append_left _ (List.mem_of_getElem? (i := 12) rfl)))) rfl
theorem me_yX7_readOrder : Cond.selects RX7 yX7_readOrder yX7_readOrder ∈ TB := tb_S (List.mem_append_right _ (List.mem_append_right _ (List.mem_append_left _ (List.mem_of_getElem? (i := 13) rfl)))) rfl
theorem me_yX7_nextSign : Cond.selects RX7 yX7_nextSign yX7_nextSign ∈ TB := tb_S (List.mem_append_right _ (List.mem_append_right _ (List.mem_append_left _ (List.mem_of_getElem? (i := 14) rfl)))) rfl
theorem me_yX7_takeNumber : Cond.selects RX7 yX7_takeNumber yX7_takeNumber ∈ TB := tb_S (List.mem_append_right _ (List.mem_append_right _ (List.mem_append_left _ (List.mem_of_getElem? (i := 15) rfl)))) rfl
theorem me_yX7_takeSide : Cond.selects RX7 yX7_takeSide yX7_takeSide ∈ TB := tb_S (List.mem_append_right _ (List.mem_append_right _ (List.mem_append_right _ (List.mem_of_getElem? (i := 0) rfl)))) rfl
theorem me_yX7_carryOutOne : Cond.selects RX7 yX7_carryOutOne yX7_carryOutOne ∈ TB := tb_S (List.mem_append_right _ (List.mem_append_right _ (List.mem_append_right _ (List.mem_of_getElem? (i := 1) rfl)))) rfl
theorem me_yX7_blocksWith : Cond.selects RX7 yX7_blocksWith yX7_blocksWith ∈ TB := tb_S (List.mem_append_right _ (List.mem_append_right _ (List.mem_append_right _ (List.mem_of_getElem? (i := 2) rfl)))) rfl
theorem mc_yX6_init : gm_M yX6_init cX6_init 2 none 0 := ⟨tb_T (List.mem_append_left _ (List.mem_of_getElem? (i := 15) rfl)) rfl, in_BlockBells, ⟨by decide +kernel, by decide +kernel, by decide +kernel⟩, by decide⟩
theorem mcx_objectInit : Cond.code objectInit ⟨#[0xb1]⟩ 1 none ∈ TB := tb_T (List.mem_append_left _ (List.mem_of_getElem? (i := 18) rfl)) rfl
theorem mc_yX1_init : gm_M yX1_init cX1_init 2 none 0 := ⟨tb_T (List.mem_append_left _ (List.mem_of_getElem? (i := 23) rfl)) rfl, in_BlockBells_Line, ⟨by decide +kernel, by decide +kernel, by decide +kernel⟩, by decide⟩
theorem mc_yX4_init : gm_M yX4_init cX4_init 2 none 1 := ⟨tb_T (List.mem_append_left _ (List.mem_of_getElem? (i := 32) rfl)) rfl, in_BlockBells_Section, ⟨by decide +kernel, by decide +kernel, by decide +kernel⟩, by decide⟩
theorem mc_yX0_init : gm_M yX0_init cX0_init 3 none 2 := ⟨tb_T (List.mem_append_left _ (List.mem_of_getElem? (i := 65) rfl)) rfl, in_BlockBells_Block, ⟨by decide +kernel, by decide +kernel, by decide +kernel⟩, by decide⟩
theorem mc_yX5_init : gm_M yX5_init cX5_init 2 none 1 := ⟨tb_T (List.mem_append_left _ (List.mem_of_getElem? (i := 103) rfl)) rfl, in_BlockBells_Train, ⟨by decide +kernel, by decide +kernel, by decide +kernel⟩, by decide⟩
theorem mc_yX3_init : gm_M yX3_init cX3_init 1 none 0 := ⟨tb_T (List.mem_append_left _ (List.mem_of_getElem? (i := 145) rfl)) rfl, in_BlockBells_Register, ⟨by decide +kernel, by decide +kernel, by decide +kernel⟩, by decide⟩
theorem mc_yX1_layOut : gm_M yX1_layOut cX1_layOut 4 none 2 := ⟨tb_T (List.mem_append_left _ (List.mem_of_getElem? (i := 160) rfl)) rfl, in_BlockBells_Line, ⟨by decide +kernel, by decide +kernel, by decide +kernel⟩, by decide⟩
theorem mc_yX4_layOut : gm_M yX4_layOut cX4_layOut 2 none 1 := ⟨tb_T (List.mem_append_left _ (List.mem_of_getElem? (i := 164) rfl)) rfl, in_BlockBells_Section, ⟨by decide +kernel, by decide +kernel, by decide +kernel⟩, by decide⟩
theorem mc_yX1_clearTraffic : gm_M yX1_clearTraffic cX1_clearTraffic 2 none 0 := ⟨tb_T (List.mem_append_left _ (List.mem_of_getElem? (i := 168) rfl)) rfl, in_BlockBells_Line, ⟨by decide +kernel, by decide +kernel, by decide +kernel⟩, by decide⟩
theorem mc_yX0_reset : gm_M yX0_reset cX0_reset 1 none 0 := ⟨tb_T (List.mem_append_left _ (List.mem_of_getElem? (i := 172) rfl)) rfl, in_BlockBells_Block, ⟨by decide +kernel, by decide +kernel, by decide +kernel⟩, by decide⟩
theorem mc_yX2_init : gm_M yX2_init cX2_init 1 none 0 := ⟨tb_T (List.mem_append_left _ (List.mem_of_getElem? (i := 207) rfl)) rfl, in_BlockBells_Pad, ⟨by decide +kernel, by decide +kernel, by decide +kernel⟩, by decide⟩
theorem mc_yX6_setUp : gm_M yX6_setUp cX6_setUp 4 (some .int) 2 := ⟨tb_T (List.mem_append_right _ (List.mem_append_left _ (List.mem_of_getElem? (i := 12) rfl))) rfl, in_BlockBells, ⟨by decide +kernel, by decide +kernel, by decide +kernel⟩, by decide⟩
theorem mc_yX6_setTime : gm_M yX6_setTime cX6_setTime 5 (some .int) 2 := ⟨tb_T (List.mem_append_right _ (List.mem_append_left _ (List.mem_of_getElem? (i := 17) rfl))) rfl, in_BlockBells, ⟨by decide +kernel, by decide +kernel, by decide +kernel⟩, by decide⟩
theorem mc_yX1_sectionAt : gm_M yX1_sectionAt cX1_sectionAt 2 (some (.object "BlockBells$Section")) 1 := ⟨tb_T (List.mem_append_right _ (List.mem_append_left _ (List.mem_of_getElem? (i := 21) rfl))) rfl, in_BlockBells_Line, ⟨by decide +kernel, by decide +kernel, by decide +kernel⟩, by decide⟩
theorem mc_yX6_setLoops : gm_M yX6_setLoops cX6_setLoops 4 (some .int) 3 := ⟨tb_T (List.mem_append_right _ (List.mem_append_left _ (List.mem_of_getElem? (i := 25) rfl))) rfl, in_BlockBells, ⟨by decide +kernel, by decide +kernel, by decide +kernel⟩, by decide⟩
theorem mc_yX1_hasBox : gm_M yX1_hasBox cX1_hasBox 2 (some .boolean) 1 := ⟨tb_T (List.mem_append_right _ (List.mem_append_left _ (List.mem_of_getElem? (i := 29) rfl))) rfl, in_BlockBells_Line, ⟨by decide +kernel, by decide +kernel, by decide +kernel⟩, by decide⟩
theorem mc_yX6_isDirection : gm_M yX6_isDirection cX6_isDirection 1 (some .boolean) 1 := ⟨tb_T (List.mem_append_right _ (List.mem_append_left _ (List.mem_of_getElem? (i := 32) rfl))) rfl, in_BlockBells, ⟨by decide +kernel, by decide +kernel, by decide +kernel⟩, by decide⟩
theorem mc_yX1_changeLoops : gm_M yX1_changeLoops cX1_changeLoops 5 (some .int) 3 := ⟨tb_T (List.mem_append_right _ (List.mem_append_left _ (List.mem_of_getElem? (i := 36) rfl))) rfl, in_BlockBells_Line, ⟨by decide +kernel, by decide +kernel, by decide +kernel⟩, by decide⟩
theorem mc_yX1_trainsStanding : gm_M yX1_trainsStanding cX1_trainsStanding 6 (some .int) 3 := ⟨tb_T (List.mem_append_right _ (List.mem_append_left _ (List.mem_of_getElem? (i := 40) rfl))) rfl, in_BlockBells_Line, ⟨by decide +kernel, by decide +kernel, by decide +kernel⟩, by decide⟩
theorem mc_yX5_stands : gm_M yX5_stands cX5_stands 4 (some .boolean) 3 := ⟨tb_T (List.mem_append_right _ (List.mem_append_left _ (List.mem_of_getElem? (i := 44) rfl))) rfl, in_BlockBells_Train, ⟨by decide +kernel, by decide +kernel, by decide +kernel⟩, by decide⟩
theorem mc_yX6_moveTokens : gm_M yX6_moveTokens cX6_moveTokens 4 (some .int) 2 := ⟨tb_T (List.mem_append_right _ (List.mem_append_left _ (List.mem_of_getElem? (i := 48) rfl))) rfl, in_BlockBells, ⟨by decide +kernel, by decide +kernel, by decide +kernel⟩, by decide⟩
theorem mc_yX4_moveUp : gm_M yX4_moveUp cX4_moveUp 2 (some .int) 1 := ⟨tb_T (List.mem_append_right _ (List.mem_append_left _ (List.mem_of_getElem? (i := 52) rfl))) rfl, in_BlockBells_Section, ⟨by decide +kernel, by decide +kernel, by decide +kernel⟩, by decide⟩
theorem mc_yX6_section : gm_M yX6_section cX6_section 4 (some .int) 2 := ⟨tb_T (List.mem_append_right _ (List.mem_append_left _ (List.mem_of_getElem? (i := 56) rfl))) rfl, in_BlockBells, ⟨by decide +kernel, by decide +kernel, by decide +kernel⟩, by decide⟩
theorem mc_yX4_property : gm_M yX4_property cX4_property 2 (some .int) 1 := ⟨tb_T (List.mem_append_right _ (List.mem_append_left _ (List.mem_of_getElem? (i := 60) rfl))) rfl, in_BlockBells_Section, ⟨by decide +kernel, by decide +kernel, by decide +kernel⟩, by decide⟩
theorem mc_yX6_block : gm_M yX6_block cX6_block 5 (some .int) 3 := ⟨tb_T (List.mem_append_right _ (List.mem_append_left _ (List.mem_of_getElem? (i := 64) rfl))) rfl, in_BlockBells, ⟨by decide +kernel, by decide +kernel, by decide +kernel⟩, by decide⟩
theorem mc_yX1_blockAt : gm_M yX1_blockAt cX1_blockAt 3 (some (.object "BlockBells$Block")) 2 := ⟨tb_T (List.mem_append_right _ (List.mem_append_left _ (List.mem_of_getElem? (i := 68) rfl))) rfl, in_BlockBells_Line, ⟨by decide +kernel, by decide +kernel, by decide +kernel⟩, by decide⟩
theorem mc_yX0_property : gm_M yX0_property cX0_property 2 (some .int) 1 := ⟨tb_T (List.mem_append_right _ (List.mem_append_left _ (List.mem_of_getElem? (i := 72) rfl))) rfl, in_BlockBells_Block, ⟨by decide +kernel, by decide +kernel, by decide +kernel⟩, by decide⟩
theorem mc_yX6_appear : gm_M yX6_appear cX6_appear 3 (some .int) 2 := ⟨tb_T (List.mem_append_right _ (List.mem_append_left _ (List.mem_of_getElem? (i := 76) rfl))) rfl, in_BlockBells, ⟨by decide +kernel, by decide +kernel, by decide +kernel⟩, by decide⟩
theorem mc_yX6_isKind : gm_M yX6_isKind cX6_isKind 1 (some .boolean) 1 := ⟨tb_T (List.mem_append_right _ (List.mem_append_left _ (List.mem_of_getElem? (i := 79) rfl))) rfl, in_BlockBells, ⟨by decide +kernel, by decide +kernel, by decide +kernel⟩, by decide⟩
theorem mc_yX1_bringNew : gm_M yX1_bringNew cX1_bringNew 5 (some .int) 2 := ⟨tb_T (List.mem_append_right _ (List.mem_append_left _ (List.mem_of_getElem? (i := 83) rfl))) rfl, in_BlockBells_Line, ⟨by decide +kernel, by decide +kernel, by decide +kernel⟩, by decide⟩
theorem mc_yX1_firstBox : gm_M yX1_firstBox cX1_firstBox 2 (some .int) 1 := ⟨tb_T (List.mem_append_right _ (List.mem_append_left _ (List.mem_of_getElem? (i := 87) rfl))) rfl, in_BlockBells_Line, ⟨by decide +kernel, by decide +kernel, by decide +kernel⟩, by decide⟩
theorem mc_yX1_isLineFree : gm_M yX1_isLineFree cX1_isLineFree 3 (some .boolean) 2 := ⟨tb_T (List.mem_append_right _ (List.mem_append_left _ (List.mem_of_getElem? (i := 91) rfl))) rfl, in_BlockBells_Line, ⟨by decide +kernel, by decide +kernel, by decide +kernel⟩, by decide⟩
theorem mc_yX5_start : gm_M yX5_start cX5_start 5 none 4 := ⟨tb_T (List.mem_append_right _ (List.mem_append_left _ (List.mem_of_getElem? (i := 95) rfl))) rfl, in_BlockBells_Train, ⟨by decide +kernel, by decide +kernel, by decide +kernel⟩, by decide⟩
theorem mc_yX5_standAt : gm_M yX5_standAt cX5_standAt 3 none 2 := ⟨tb_T (List.mem_append_right _ (List.mem_append_left _ (List.mem_of_getElem? (i := 99) rfl))) rfl, in_BlockBells_Train, ⟨by decide +kernel, by decide +kernel, by decide +kernel⟩, by decide⟩
theorem mc_yX6_train : gm_M yX6_train cX6_train 4 (some .int) 2 := ⟨tb_T (List.mem_append_right _ (List.mem_append_left _ (List.mem_of_getElem? (i := 103) rfl))) rfl, in_BlockBells, ⟨by decide +kernel, by decide +kernel, by decide +kernel⟩, by decide⟩
theorem mc_yX1_trainAt : gm_M yX1_trainAt cX1_trainAt 2 (some (.object "BlockBells$Train")) 1 := ⟨tb_T (List.mem_append_right _ (List.mem_append_left _ (List.mem_of_getElem? (i := 107) rfl))) rfl, in_BlockBells_Line, ⟨by decide +kernel, by decide +kernel, by decide +kernel⟩, by decide⟩
theorem mc_yX5_property : gm_M yX5_property cX5_property 2 (some .int) 1 := ⟨tb_T (List.mem_append_right _ (List.mem_append_left _ (List.mem_of_getElem? (i := 111) rfl))) rfl, in_BlockBells_Train, ⟨by decide +kernel, by decide +kernel, by decide +kernel⟩, by decide⟩
theorem mc_yX6_shunt : gm_M yX6_shunt cX6_shunt 3 (some .int) 1 := ⟨tb_T (List.mem_append_right _ (List.mem_append_left _ (List.mem_of_getElem? (i := 115) rfl))) rfl, in_BlockBells, ⟨by decide +kernel, by decide +kernel, by decide +kernel⟩, by decide⟩
theorem mc_yX1_shuntTrain : gm_M yX1_shuntTrain cX1_shuntTrain 2 (some .int) 1 := ⟨tb_T (List.mem_append_right _ (List.mem_append_left _ (List.mem_of_getElem? (i := 119) rfl))) rfl, in_BlockBells_Line, ⟨by decide +kernel, by decide +kernel, by decide +kernel⟩, by decide⟩
theorem mc_yX1_shuntToLoop : gm_M yX1_shuntToLoop cX1_shuntToLoop 4 (some .int) 1 := ⟨tb_T (List.mem_append_right _ (List.mem_append_left _ (List.mem_of_getElem? (i := 123) rfl))) rfl, in_BlockBells_Line, ⟨by decide +kernel, by decide +kernel, by decide +kernel⟩, by decide⟩
theorem mc_yX1_nextBlock : gm_M yX1_nextBlock cX1_nextBlock 2 (some (.object "BlockBells$Block")) 1 := ⟨tb_T (List.mem_append_right _ (List.mem_append_left _ (List.mem_of_getElem? (i := 127) rfl))) rfl, in_BlockBells_Line, ⟨by decide +kernel, by decide +kernel, by decide +kernel⟩, by decide⟩
theorem mc_yX1_shuntBack : gm_M yX1_shuntBack cX1_shuntBack 4 (some .int) 1 := ⟨tb_T (List.mem_append_right _ (List.mem_append_left _ (List.mem_of_getElem? (i := 135) rfl))) rfl, in_BlockBells_Line, ⟨by decide +kernel, by decide +kernel, by decide +kernel⟩, by decide⟩
theorem mc_yX1_blockTo : gm_M yX1_blockTo cX1_blockTo 3 (some (.object "BlockBells$Block")) 2 := ⟨tb_T (List.mem_append_right _ (List.mem_append_left _ (List.mem_of_getElem? (i := 139) rfl))) rfl, in_BlockBells_Line, ⟨by decide +kernel, by decide +kernel, by decide +kernel⟩, by decide⟩
theorem mc_yX6_leave : gm_M yX6_leave cX6_leave 3 (some .int) 1 := ⟨tb_T (List.mem_append_right _ (List.mem_append_left _ (List.mem_of_getElem? (i := 143) rfl))) rfl, in_BlockBells, ⟨by decide +kernel, by decide +kernel, by decide +kernel⟩, by decide⟩
theorem mc_yX1_letLeave : gm_M yX1_letLeave cX1_letLeave 2 (some .int) 1 := ⟨tb_T (List.mem_append_right _ (List.mem_append_left _ (List.mem_of_getElem? (i := 147) rfl))) rfl, in_BlockBells_Line, ⟨by decide +kernel, by decide +kernel, by decide +kernel⟩, by decide⟩
theorem mc_yX1_lastBox : gm_M yX1_lastBox cX1_lastBox 2 (some .int) 1 := ⟨tb_T (List.mem_append_right _ (List.mem_append_left _ (List.mem_of_getElem? (i := 151) rfl))) rfl, in_BlockBells_Line, ⟨by decide +kernel, by decide +kernel, by decide +kernel⟩, by decide⟩
theorem mc_yX5_go : gm_M yX5_go cX5_go 2 none 1 := ⟨tb_T (List.mem_append_right _ (List.mem_append_left _ (List.mem_of_getElem? (i := 155) rfl))) rfl, in_BlockBells_Train, ⟨by decide +kernel, by decide +kernel, by decide +kernel⟩, by decide⟩
theorem mc_yX6_divide : gm_M yX6_divide cX6_divide 3 (some .int) 1 := ⟨tb_T (List.mem_append_right _ (List.mem_append_left _ (List.mem_of_getElem? (i := 159) rfl))) rfl, in_BlockBells, ⟨by decide +kernel, by decide +kernel, by decide +kernel⟩, by decide⟩
theorem mc_yX1_divideTrain : gm_M yX1_divideTrain cX1_divideTrain 3 (some .int) 1 := ⟨tb_T (List.mem_append_right _ (List.mem_append_left _ (List.mem_of_getElem? (i := 163) rfl))) rfl, in_BlockBells_Line, ⟨by decide +kernel, by decide +kernel, by decide +kernel⟩, by decide⟩
theorem mc_yX6_offer : gm_M yX6_offer cX6_offer 3 (some .int) 1 := ⟨tb_T (List.mem_append_right _ (List.mem_append_left _ (List.mem_of_getElem? (i := 167) rfl))) rfl, in_BlockBells, ⟨by decide +kernel, by decide +kernel, by decide +kernel⟩, by decide⟩
theorem mc_yX1_offerTrain : gm_M yX1_offerTrain cX1_offerTrain 3 (some .int) 1 := ⟨tb_T (List.mem_append_right _ (List.mem_append_left _ (List.mem_of_getElem? (i := 171) rfl))) rfl, in_BlockBells_Line, ⟨by decide +kernel, by decide +kernel, by decide +kernel⟩, by decide⟩
theorem mc_yX6_offerCode : gm_M yX6_offerCode cX6_offerCode 1 (some .int) 1 := ⟨tb_T (List.mem_append_right _ (List.mem_append_left _ (List.mem_of_getElem? (i := 174) rfl))) rfl, in_BlockBells, ⟨by decide +kernel, by decide +kernel, by decide +kernel⟩, by decide⟩
theorem mc_yX1_ringRear : gm_M yX1_ringRear cX1_ringRear 3 (some .int) 2 := ⟨tb_T (List.mem_append_right _ (List.mem_append_left _ (List.mem_of_getElem? (i := 178) rfl))) rfl, in_BlockBells_Line, ⟨by decide +kernel, by decide +kernel, by decide +kernel⟩, by decide⟩
theorem mc_yX0_rearBox : gm_M yX0_rearBox cX0_rearBox 1 (some .int) 0 := ⟨tb_T (List.mem_append_right _ (List.mem_append_left _ (List.mem_of_getElem? (i := 182) rfl))) rfl, in_BlockBells_Block, ⟨by decide +kernel, by decide +kernel, by decide +kernel⟩, by decide⟩
theorem mc_yX3_record : gm_M yX3_record cX3_record 6 none 4 := ⟨tb_T (List.mem_append_right _ (List.mem_append_left _ (List.mem_of_getElem? (i := 186) rfl))) rfl, in_BlockBells_Register, ⟨by decide +kernel, by decide +kernel, by decide +kernel⟩, by decide⟩
theorem mc_yX3_rowOf : gm_M yX3_rowOf cX3_rowOf 1 (some .int) 1 := ⟨tb_T (List.mem_append_right _ (List.mem_append_left _ (List.mem_of_getElem? (i := 189) rfl))) rfl, in_BlockBells_Register, ⟨by decide +kernel, by decide +kernel, by decide +kernel⟩, by decide⟩
theorem mc_yX6_answer : gm_M yX6_answer cX6_answer 5 (some .int) 3 := ⟨tb_T (List.mem_append_right _ (List.mem_append_left _ (List.mem_of_getElem? (i := 194) rfl))) rfl, in_BlockBells, ⟨by decide +kernel, by decide +kernel, by decide +kernel⟩, by decide⟩
theorem mc_yX1_accept : gm_M yX1_accept cX1_accept 3 (some .int) 1 := ⟨tb_T (List.mem_append_right _ (List.mem_append_left _ (List.mem_of_getElem? (i := 198) rfl))) rfl, in_BlockBells_Line, ⟨by decide +kernel, by decide +kernel, by decide +kernel⟩, by decide⟩
theorem mc_yX0_boxAhead : gm_M yX0_boxAhead cX0_boxAhead 1 (some .int) 0 := ⟨tb_T (List.mem_append_right _ (List.mem_append_left _ (List.mem_of_getElem? (i := 203) rfl))) rfl, in_BlockBells_Block, ⟨by decide +kernel, by decide +kernel, by decide +kernel⟩, by decide⟩
theorem mc_yX1_isTokenReady : gm_M yX1_isTokenReady cX1_isTokenReady 5 (some .boolean) 1 := ⟨tb_T (List.mem_append_right _ (List.mem_append_left _ (List.mem_of_getElem? (i := 207) rfl))) rfl, in_BlockBells_Line, ⟨by decide +kernel, by decide +kernel, by decide +kernel⟩, by decide⟩
theorem mc_yX0_rearEnd : gm_M yX0_rearEnd cX0_rearEnd 1 (some .int) 0 := ⟨tb_T (List.mem_append_right _ (List.mem_append_left _ (List.mem_of_getElem? (i := 211) rfl))) rfl, in_BlockBells_Block, ⟨by decide +kernel, by decide +kernel, by decide +kernel⟩, by decide⟩
theorem mc_yX4_hasToken : gm_M yX4_hasToken cX4_hasToken 2 (some .boolean) 1 := ⟨tb_T (List.mem_append_right _ (List.mem_append_left _ (List.mem_of_getElem? (i := 215) rfl))) rfl, in_BlockBells_Section, ⟨by decide +kernel, by decide +kernel, by decide +kernel⟩, by decide⟩
theorem mc_yX0_makeClear : gm_M yX0_makeClear cX0_makeClear 1 none 0 := ⟨tb_T (List.mem_append_right _ (List.mem_append_left _ (List.mem_of_getElem? (i := 219) rfl))) rfl, in_BlockBells_Block, ⟨by decide +kernel, by decide +kernel, by decide +kernel⟩, by decide⟩
theorem mc_yX4_takeToken : gm_M yX4_takeToken cX4_takeToken 2 none 1 := ⟨tb_T (List.mem_append_right _ (List.mem_append_left _ (List.mem_of_getElem? (i := 224) rfl))) rfl, in_BlockBells_Section, ⟨by decide +kernel, by decide +kernel, by decide +kernel⟩, by decide⟩
theorem mc_yX4_addTokens : gm_M yX4_addTokens cX4_addTokens 3 none 2 := ⟨tb_T (List.mem_append_right _ (List.mem_append_left _ (List.mem_of_getElem? (i := 228) rfl))) rfl, in_BlockBells_Section, ⟨by decide +kernel, by decide +kernel, by decide +kernel⟩, by decide⟩
theorem mc_yX1_ringAhead : gm_M yX1_ringAhead cX1_ringAhead 3 (some .int) 2 := ⟨tb_T (List.mem_append_right _ (List.mem_append_left _ (List.mem_of_getElem? (i := 232) rfl))) rfl, in_BlockBells_Line, ⟨by decide +kernel, by decide +kernel, by decide +kernel⟩, by decide⟩
theorem mc_yX1_refuse : gm_M yX1_refuse cX1_refuse 2 (some .int) 1 := ⟨tb_T (List.mem_append_right _ (List.mem_append_left _ (List.mem_of_getElem? (i := 236) rfl))) rfl, in_BlockBells_Line, ⟨by decide +kernel, by decide +kernel, by decide +kernel⟩, by decide⟩
theorem mc_yX6_cancel : gm_M yX6_cancel cX6_cancel 4 (some .int) 2 := ⟨tb_T (List.mem_append_right _ (List.mem_append_right _ (List.mem_append_left _ (List.mem_of_getElem? (i := 0) rfl)))) rfl, in_BlockBells, ⟨by decide +kernel, by decide +kernel, by decide +kernel⟩, by decide⟩
theorem mc_yX1_cancelBlock : gm_M yX1_cancelBlock cX1_cancelBlock 2 (some .int) 1 := ⟨tb_T (List.mem_append_right _ (List.mem_append_right _ (List.mem_append_left _ (List.mem_of_getElem? (i := 4) rfl)))) rfl, in_BlockBells_Line, ⟨by decide +kernel, by decide +kernel, by decide +kernel⟩, by decide⟩
theorem mc_yX0_takeBack : gm_M yX0_takeBack cX0_takeBack 2 none 1 := ⟨tb_T (List.mem_append_right _ (List.mem_append_right _ (List.mem_append_left _ (List.mem_of_getElem? (i := 8) rfl)))) rfl, in_BlockBells_Block, ⟨by decide +kernel, by decide +kernel, by decide +kernel⟩, by decide⟩
theorem mc_yX4_putToken : gm_M yX4_putToken cX4_putToken 2 none 1 := ⟨tb_T (List.mem_append_right _ (List.mem_append_right _ (List.mem_append_left _ (List.mem_of_getElem? (i := 12) rfl)))) rfl, in_BlockBells_Section, ⟨by decide +kernel, by decide +kernel, by decide +kernel⟩, by decide⟩
theorem mc_yX6_depart : gm_M yX6_depart cX6_depart 3 (some .int) 1 := ⟨tb_T (List.mem_append_right _ (List.mem_append_right _ (List.mem_append_left _ (List.mem_of_getElem? (i := 16) rfl)))) rfl, in_BlockBells, ⟨by decide +kernel, by decide +kernel, by decide +kernel⟩, by decide⟩
theorem mc_yX1_letDepart : gm_M yX1_letDepart cX1_letDepart 3 (some .int) 1 := ⟨tb_T (List.mem_append_right _ (List.mem_append_right _ (List.mem_append_left _ (List.mem_of_getElem? (i := 20) rfl)))) rfl, in_BlockBells_Line, ⟨by decide +kernel, by decide +kernel, by decide +kernel⟩, by decide⟩
theorem mc_yX5_enter : gm_M yX5_enter cX5_enter 2 none 1 := ⟨tb_T (List.mem_append_right _ (List.mem_append_right _ (List.mem_append_left _ (List.mem_of_getElem? (i := 24) rfl)))) rfl, in_BlockBells_Train, ⟨by decide +kernel, by decide +kernel, by decide +kernel⟩, by decide⟩
theorem mc_yX6_admit : gm_M yX6_admit cX6_admit 4 (some .int) 2 := ⟨tb_T (List.mem_append_right _ (List.mem_append_right _ (List.mem_append_left _ (List.mem_of_getElem? (i := 28) rfl)))) rfl, in_BlockBells, ⟨by decide +kernel, by decide +kernel, by decide +kernel⟩, by decide⟩
theorem mc_yX1_admitTrain : gm_M yX1_admitTrain cX1_admitTrain 3 (some .int) 1 := ⟨tb_T (List.mem_append_right _ (List.mem_append_right _ (List.mem_append_left _ (List.mem_of_getElem? (i := 32) rfl)))) rfl, in_BlockBells_Line, ⟨by decide +kernel, by decide +kernel, by decide +kernel⟩, by decide⟩
theorem mc_yX1_trainInside : gm_M yX1_trainInside cX1_trainInside 3 (some (.object "BlockBells$Train")) 1 := ⟨tb_T (List.mem_append_right _ (List.mem_append_right _ (List.mem_append_left _ (List.mem_of_getElem? (i := 36) rfl)))) rfl, in_BlockBells_Line, ⟨by decide +kernel, by decide +kernel, by decide +kernel⟩, by decide⟩
theorem mc_yX6_out : gm_M yX6_out cX6_out 4 (some .int) 2 := ⟨tb_T (List.mem_append_right _ (List.mem_append_right _ (List.mem_append_left _ (List.mem_of_getElem? (i := 40) rfl)))) rfl, in_BlockBells, ⟨by decide +kernel, by decide +kernel, by decide +kernel⟩, by decide⟩
theorem mc_yX1_reportOut : gm_M yX1_reportOut cX1_reportOut 2 (some .int) 1 := ⟨tb_T (List.mem_append_right _ (List.mem_append_right _ (List.mem_append_left _ (List.mem_of_getElem? (i := 44) rfl)))) rfl, in_BlockBells_Line, ⟨by decide +kernel, by decide +kernel, by decide +kernel⟩, by decide⟩
theorem mc_yX0_makeFree : gm_M yX0_makeFree cX0_makeFree 1 none 0 := ⟨tb_T (List.mem_append_right _ (List.mem_append_right _ (List.mem_append_left _ (List.mem_of_getElem? (i := 48) rfl)))) rfl, in_BlockBells_Block, ⟨by decide +kernel, by decide +kernel, by decide +kernel⟩, by decide⟩
theorem mc_yX0_endAhead : gm_M yX0_endAhead cX0_endAhead 1 (some .int) 0 := ⟨tb_T (List.mem_append_right _ (List.mem_append_right _ (List.mem_append_left _ (List.mem_of_getElem? (i := 52) rfl)))) rfl, in_BlockBells_Block, ⟨by decide +kernel, by decide +kernel, by decide +kernel⟩, by decide⟩
theorem mc_yX6_assist : gm_M yX6_assist cX6_assist 4 (some .int) 2 := ⟨tb_T (List.mem_append_right _ (List.mem_append_right _ (List.mem_append_left _ (List.mem_of_getElem? (i := 56) rfl)))) rfl, in_BlockBells, ⟨by decide +kernel, by decide +kernel, by decide +kernel⟩, by decide⟩
theorem mc_yX1_sendEngine : gm_M yX1_sendEngine cX1_sendEngine 2 (some .int) 1 := ⟨tb_T (List.mem_append_right _ (List.mem_append_right _ (List.mem_append_left _ (List.mem_of_getElem? (i := 60) rfl)))) rfl, in_BlockBells_Line, ⟨by decide +kernel, by decide +kernel, by decide +kernel⟩, by decide⟩
theorem mc_yX6_obstruct : gm_M yX6_obstruct cX6_obstruct 4 (some .int) 2 := ⟨tb_T (List.mem_append_right _ (List.mem_append_right _ (List.mem_append_left _ (List.mem_of_getElem? (i := 64) rfl)))) rfl, in_BlockBells, ⟨by decide +kernel, by decide +kernel, by decide +kernel⟩, by decide⟩
theorem mc_yX1_obstructBlock : gm_M yX1_obstructBlock cX1_obstructBlock 3 (some .int) 1 := ⟨tb_T (List.mem_append_right _ (List.mem_append_right _ (List.mem_append_left _ (List.mem_of_getElem? (i := 68) rfl)))) rfl, in_BlockBells_Line, ⟨by decide +kernel, by decide +kernel, by decide +kernel⟩, by decide⟩
theorem mc_yX6_lift : gm_M yX6_lift cX6_lift 4 (some .int) 2 := ⟨tb_T (List.mem_append_right _ (List.mem_append_right _ (List.mem_append_left _ (List.mem_of_getElem? (i := 72) rfl)))) rfl, in_BlockBells, ⟨by decide +kernel, by decide +kernel, by decide +kernel⟩, by decide⟩
theorem mc_yX1_liftBlock : gm_M yX1_liftBlock cX1_liftBlock 2 (some .int) 1 := ⟨tb_T (List.mem_append_right _ (List.mem_append_right _ (List.mem_append_left _ (List.mem_of_getElem? (i := 76) rfl)))) rfl, in_BlockBells_Line, ⟨by decide +kernel, by decide +kernel, by decide +kernel⟩, by decide⟩
theorem mc_yX6_pass : gm_M yX6_pass cX6_pass 2 (some .int) 1 := ⟨tb_T (List.mem_append_right _ (List.mem_append_right _ (List.mem_append_left _ (List.mem_of_getElem? (i := 80) rfl)))) rfl, in_BlockBells, ⟨by decide +kernel, by decide +kernel, by decide +kernel⟩, by decide⟩
theorem mc_yX1_letPass : gm_M yX1_letPass cX1_letPass 3 none 1 := ⟨tb_T (List.mem_append_right _ (List.mem_append_right _ (List.mem_append_left _ (List.mem_of_getElem? (i := 85) rfl)))) rfl, in_BlockBells_Line, ⟨by decide +kernel, by decide +kernel, by decide +kernel⟩, by decide⟩
theorem mc_yX5_letPass : gm_M yX5_letPass cX5_letPass 2 none 1 := ⟨tb_T (List.mem_append_right _ (List.mem_append_right _ (List.mem_append_left _ (List.mem_of_getElem? (i := 89) rfl)))) rfl, in_BlockBells_Train, ⟨by decide +kernel, by decide +kernel, by decide +kernel⟩, by decide⟩
theorem mc_yJ9_max_7cf53 : gm_M yJ9_max_7cf53 cJ9_max_7cf53 2 (some .int) 2 := ⟨tb_T (List.mem_append_right _ (List.mem_append_right _ (List.mem_append_left _ (List.mem_of_getElem? (i := 92) rfl)))) rfl, in_java_lang_Math, ⟨by decide +kernel, by decide +kernel, by decide +kernel⟩, by decide⟩
theorem mc_yX1_blockCount : gm_M yX1_blockCount cX1_blockCount 1 (some .int) 0 := ⟨tb_T (List.mem_append_right _ (List.mem_append_right _ (List.mem_append_left _ (List.mem_of_getElem? (i := 96) rfl)))) rfl, in_BlockBells_Line, ⟨by decide +kernel, by decide +kernel, by decide +kernel⟩, by decide⟩
theorem mc_yX0_letPass : gm_M yX0_letPass cX0_letPass 2 none 1 := ⟨tb_T (List.mem_append_right _ (List.mem_append_right _ (List.mem_append_left _ (List.mem_of_getElem? (i := 100) rfl)))) rfl, in_BlockBells_Block, ⟨by decide +kernel, by decide +kernel, by decide +kernel⟩, by decide⟩
theorem mc_yX6_signal : gm_M yX6_signal cX6_signal 3 (some .int) 2 := ⟨tb_T (List.mem_append_right _ (List.mem_append_right _ (List.mem_append_left _ (List.mem_of_getElem? (i := 105) rfl)))) rfl, in_BlockBells, ⟨by decide +kernel, by decide +kernel, by decide +kernel⟩, by decide⟩
theorem mc_yX3_property : gm_M yX3_property cX3_property 3 (some .int) 2 := ⟨tb_T (List.mem_append_right _ (List.mem_append_right _ (List.mem_append_left _ (List.mem_of_getElem? (i := 109) rfl)))) rfl, in_BlockBells_Register, ⟨by decide +kernel, by decide +kernel, by decide +kernel⟩, by decide⟩
theorem mc_yX3_oldest : gm_M yX3_oldest cX3_oldest 1 (some .int) 0 := ⟨tb_T (List.mem_append_right _ (List.mem_append_right _ (List.mem_append_left _ (List.mem_of_getElem? (i := 113) rfl)))) rfl, in_BlockBells_Register, ⟨by decide +kernel, by decide +kernel, by decide +kernel⟩, by decide⟩
theorem mc_yX6_rung : gm_M yX6_rung cX6_rung 3 (some .int) 2 := ⟨tb_T (List.mem_append_right _ (List.mem_append_right _ (List.mem_append_left _ (List.mem_of_getElem? (i := 118) rfl)))) rfl, in_BlockBells, ⟨by decide +kernel, by decide +kernel, by decide +kernel⟩, by decide⟩
theorem mc_yX3_countOf : gm_M yX3_countOf cX3_countOf 6 (some .int) 2 := ⟨tb_T (List.mem_append_right _ (List.mem_append_right _ (List.mem_append_left _ (List.mem_of_getElem? (i := 122) rfl)))) rfl, in_BlockBells_Register, ⟨by decide +kernel, by decide +kernel, by decide +kernel⟩, by decide⟩
theorem mc_yX6_work : gm_M yX6_work cX6_work 4 (some .int) 1 := ⟨tb_T (List.mem_append_right _ (List.mem_append_right _ (List.mem_append_left _ (List.mem_of_getElem? (i := 126) rfl)))) rfl, in_BlockBells, ⟨by decide +kernel, by decide +kernel, by decide +kernel⟩, by decide⟩
theorem mc_yX1_workTick : gm_M yX1_workTick cX1_workTick 2 (some .int) 0 := ⟨tb_T (List.mem_append_right _ (List.mem_append_right _ (List.mem_append_left _ (List.mem_of_getElem? (i := 130) rfl)))) rfl, in_BlockBells_Line, ⟨by decide +kernel, by decide +kernel, by decide +kernel⟩, by decide⟩
theorem mc_yX1_clearSections : gm_M yX1_clearSections cX1_clearSections 3 none 0 := ⟨tb_T (List.mem_append_right _ (List.mem_append_right _ (List.mem_append_left _ (List.mem_of_getElem? (i := 134) rfl)))) rfl, in_BlockBells_Line, ⟨by decide +kernel, by decide +kernel, by decide +kernel⟩, by decide⟩
theorem mc_yX1_leaveAll : gm_M yX1_leaveAll cX1_leaveAll 3 (some .int) 0 := ⟨tb_T (List.mem_append_right _ (List.mem_append_right _ (List.mem_append_left _ (List.mem_of_getElem? (i := 141) rfl)))) rfl, in_BlockBells_Line, ⟨by decide +kernel, by decide +kernel, by decide +kernel⟩, by decide⟩
theorem mc_yX1_offerAll : gm_M yX1_offerAll cX1_offerAll 2 none 0 := ⟨tb_T (List.mem_append_right _ (List.mem_append_right _ (List.mem_append_left _ (List.mem_of_getElem? (i := 146) rfl)))) rfl, in_BlockBells_Line, ⟨by decide +kernel, by decide +kernel, by decide +kernel⟩, by decide⟩
theorem mc_yX1_answerAll : gm_M yX1_answerAll cX1_answerAll 2 none 0 := ⟨tb_T (List.mem_append_right _ (List.mem_append_right _ (List.mem_append_left _ (List.mem_of_getElem? (i := 151) rfl)))) rfl, in_BlockBells_Line, ⟨by decide +kernel, by decide +kernel, by decide +kernel⟩, by decide⟩
theorem mc_yX1_departAll : gm_M yX1_departAll cX1_departAll 2 none 0 := ⟨tb_T (List.mem_append_right _ (List.mem_append_right _ (List.mem_append_left _ (List.mem_of_getElem? (i := 157) rfl)))) rfl, in_BlockBells_Line, ⟨by decide +kernel, by decide +kernel, by decide +kernel⟩, by decide⟩
theorem mc_yX6_forecast : gm_M yX6_forecast cX6_forecast 4 (some .int) 2 := ⟨tb_T (List.mem_append_right _ (List.mem_append_right _ (List.mem_append_left _ (List.mem_of_getElem? (i := 163) rfl)))) rfl, in_BlockBells, ⟨by decide +kernel, by decide +kernel, by decide +kernel⟩, by decide⟩
theorem mc_yX1_copyFrom : gm_M yX1_copyFrom cX1_copyFrom 3 none 1 := ⟨tb_T (List.mem_append_right _ (List.mem_append_right _ (List.mem_append_left _ (List.mem_of_getElem? (i := 167) rfl)))) rfl, in_BlockBells_Line, ⟨by decide +kernel, by decide +kernel, by decide +kernel⟩, by decide⟩
theorem mc_yX4_copyFrom : gm_M yX4_copyFrom cX4_copyFrom 2 none 1 := ⟨tb_T (List.mem_append_right _ (List.mem_append_right _ (List.mem_append_left _ (List.mem_of_getElem? (i := 171) rfl)))) rfl, in_BlockBells_Section, ⟨by decide +kernel, by decide +kernel, by decide +kernel⟩, by decide⟩
theorem mc_yX0_copyFrom : gm_M yX0_copyFrom cX0_copyFrom 2 none 1 := ⟨tb_T (List.mem_append_right _ (List.mem_append_right _ (List.mem_append_left _ (List.mem_of_getElem? (i := 175) rfl)))) rfl, in_BlockBells_Block, ⟨by decide +kernel, by decide +kernel, by decide +kernel⟩, by decide⟩
theorem mc_yX5_copyFrom : gm_M yX5_copyFrom cX5_copyFrom 2 none 1 := ⟨tb_T (List.mem_append_right _ (List.mem_append_right _ (List.mem_append_left _ (List.mem_of_getElem? (i := 179) rfl)))) rfl, in_BlockBells_Train, ⟨by decide +kernel, by decide +kernel, by decide +kernel⟩, by decide⟩
theorem mc_yX3_copyFrom : gm_M yX3_copyFrom cX3_copyFrom 2 none 1 := ⟨tb_T (List.mem_append_right _ (List.mem_append_right _ (List.mem_append_left _ (List.mem_of_getElem? (i := 186) rfl)))) rfl, in_BlockBells_Register, ⟨by decide +kernel, by decide +kernel, by decide +kernel⟩, by decide⟩
theorem mc_yX1_isGone : gm_M yX1_isGone cX1_isGone 3 (some .boolean) 1 := ⟨tb_T (List.mem_append_right _ (List.mem_append_right _ (List.mem_append_left _ (List.mem_of_getElem? (i := 191) rfl)))) rfl, in_BlockBells_Line, ⟨by decide +kernel, by decide +kernel, by decide +kernel⟩, by decide⟩
theorem mc_yX6_capacity : gm_M yX6_capacity cX6_capacity 6 (some .int) 3 := ⟨tb_T (List.mem_append_right _ (List.mem_append_right _ (List.mem_append_left _ (List.mem_of_getElem? (i := 195) rfl)))) rfl, in_BlockBells, ⟨by decide +kernel, by decide +kernel, by decide +kernel⟩, by decide⟩
theorem mc_yX1_bringSpare : gm_M yX1_bringSpare cX1_bringSpare 5 none 2 := ⟨tb_T (List.mem_append_right _ (List.mem_append_right _ (List.mem_append_left _ (List.mem_of_getElem? (i := 200) rfl)))) rfl, in_BlockBells_Line, ⟨by decide +kernel, by decide +kernel, by decide +kernel⟩, by decide⟩
theorem mc_yX6_say : gm_M yX6_say cX6_say 2 (some .int) 1 := ⟨tb_T (List.mem_append_right _ (List.mem_append_right _ (List.mem_append_left _ (List.mem_of_getElem? (i := 205) rfl)))) rfl, in_BlockBells, ⟨by decide +kernel, by decide +kernel, by decide +kernel⟩, by decide⟩
theorem mc_yX2_append : gm_M yX2_append cX2_append 2 (some .int) 1 := ⟨tb_T (List.mem_append_right _ (List.mem_append_right _ (List.mem_append_left _ (List.mem_of_getElem? (i := 209) rfl)))) rfl, in_BlockBells_Pad, ⟨by decide +kernel, by decide +kernel, by decide +kernel⟩, by decide⟩
theorem mc_yX6_wipe : gm_M yX6_wipe cX6_wipe 1 (some .int) 0 := ⟨tb_T (List.mem_append_right _ (List.mem_append_right _ (List.mem_append_left _ (List.mem_of_getElem? (i := 213) rfl)))) rfl, in_BlockBells, ⟨by decide +kernel, by decide +kernel, by decide +kernel⟩, by decide⟩
theorem mc_yX2_empty : gm_M yX2_empty cX2_empty 2 (some .int) 0 := ⟨tb_T (List.mem_append_right _ (List.mem_append_right _ (List.mem_append_left _ (List.mem_of_getElem? (i := 217) rfl)))) rfl, in_BlockBells_Pad, ⟨by decide +kernel, by decide +kernel, by decide +kernel⟩, by decide⟩
theorem mc_yX6_fault : gm_M yX6_fault cX6_fault 1 (some .int) 0 := ⟨tb_T (List.mem_append_right _ (List.mem_append_right _ (List.mem_append_left _ (List.mem_of_getElem? (i := 221) rfl)))) rfl, in_BlockBells, ⟨by decide +kernel, by decide +kernel, by decide +kernel⟩, by decide⟩
theorem mc_yX2_firstFault : gm_M yX2_firstFault cX2_firstFault 3 (some .int) 0 := ⟨tb_T (List.mem_append_right _ (List.mem_append_right _ (List.mem_append_left _ (List.mem_of_getElem? (i := 225) rfl)))) rfl, in_BlockBells_Pad, ⟨by decide +kernel, by decide +kernel, by decide +kernel⟩, by decide⟩
theorem mc_yX2_after : gm_M yX2_after cX2_after 2 (some .int) 2 := ⟨tb_T (List.mem_append_right _ (List.mem_append_right _ (List.mem_append_left _ (List.mem_of_getElem? (i := 228) rfl)))) rfl, in_BlockBells_Pad, ⟨by decide +kernel, by decide +kernel, by decide +kernel⟩, by decide⟩
theorem mc_yX2_afterLetter : gm_M yX2_afterLetter cX2_afterLetter 1 (some .int) 1 := ⟨tb_T (List.mem_append_right _ (List.mem_append_right _ (List.mem_append_left _ (List.mem_of_getElem? (i := 231) rfl)))) rfl, in_BlockBells_Pad, ⟨by decide +kernel, by decide +kernel, by decide +kernel⟩, by decide⟩
theorem mc_yX2_isBetween : gm_M yX2_isBetween cX2_isBetween 3 (some .boolean) 3 := ⟨tb_T (List.mem_append_right _ (List.mem_append_right _ (List.mem_append_left _ (List.mem_of_getElem? (i := 234) rfl)))) rfl, in_BlockBells_Pad, ⟨by decide +kernel, by decide +kernel, by decide +kernel⟩, by decide⟩
theorem mc_yX2_afterOrder : gm_M yX2_afterOrder cX2_afterOrder 1 (some .int) 1 := ⟨tb_T (List.mem_append_right _ (List.mem_append_right _ (List.mem_append_left _ (List.mem_of_getElem? (i := 237) rfl)))) rfl, in_BlockBells_Pad, ⟨by decide +kernel, by decide +kernel, by decide +kernel⟩, by decide⟩
theorem mc_yX6_carryOut : gm_M yX6_carryOut cX6_carryOut 3 (some .int) 0 := ⟨tb_T (List.mem_append_right _ (List.mem_append_right _ (List.mem_append_right _ (List.mem_append_left _ (List.mem_of_getElem? (i := 1) rfl))))) rfl, in_BlockBells, ⟨by decide +kernel, by decide +kernel, by decide +kernel⟩, by decide⟩
theorem mc_yX2_rewind : gm_M yX2_rewind cX2_rewind 1 none 0 := ⟨tb_T (List.mem_append_right _ (List.mem_append_right _ (List.mem_append_right _ (List.mem_append_left _ (List.mem_of_getElem? (i := 5) rfl))))) rfl, in_BlockBells_Pad, ⟨by decide +kernel, by decide +kernel, by decide +kernel⟩, by decide⟩
theorem mc_yX2_readOrder : gm_M yX2_readOrder cX2_readOrder 1 (some .boolean) 0 := ⟨tb_T (List.mem_append_right _ (List.mem_append_right _ (List.mem_append_right _ (List.mem_append_left _ (List.mem_of_getElem? (i := 9) rfl))))) rfl, in_BlockBells_Pad, ⟨by decide +kernel, by decide +kernel, by decide +kernel⟩, by decide⟩
theorem mc_yX2_readSign : gm_M yX2_readSign cX2_readSign 2 none 1 := ⟨tb_T (List.mem_append_right _ (List.mem_append_right _ (List.mem_append_right _ (List.mem_append_left _ (List.mem_of_getElem? (i := 13) rfl))))) rfl, in_BlockBells_Pad, ⟨by decide +kernel, by decide +kernel, by decide +kernel⟩, by decide⟩
theorem mc_yX6_obey : gm_M yX6_obey cX6_obey 4 (some .int) 3 := ⟨tb_T (List.mem_append_right _ (List.mem_append_right _ (List.mem_append_right _ (List.mem_append_left _ (List.mem_of_getElem? (i := 17) rfl))))) rfl, in_BlockBells, ⟨by decide +kernel, by decide +kernel, by decide +kernel⟩, by decide⟩
theorem mc_yX6_count : gm_M yX6_count cX6_count 2 (some .int) 1 := ⟨tb_T (List.mem_append_right _ (List.mem_append_right _ (List.mem_append_right _ (List.mem_append_left _ (List.mem_of_getElem? (i := 31) rfl))))) rfl, in_BlockBells, ⟨by decide +kernel, by decide +kernel, by decide +kernel⟩, by decide⟩
theorem mc_yX1_trainsThatAre : gm_M yX1_trainsThatAre cX1_trainsThatAre 4 (some .int) 1 := ⟨tb_T (List.mem_append_right _ (List.mem_append_right _ (List.mem_append_right _ (List.mem_append_left _ (List.mem_of_getElem? (i := 35) rfl))))) rfl, in_BlockBells_Line, ⟨by decide +kernel, by decide +kernel, by decide +kernel⟩, by decide⟩
theorem mc_yX1_blocksOtherThan : gm_M yX1_blocksOtherThan cX1_blocksOtherThan 5 (some .int) 2 := ⟨tb_T (List.mem_append_right _ (List.mem_append_right _ (List.mem_append_right _ (List.mem_append_left _ (List.mem_of_getElem? (i := 39) rfl))))) rfl, in_BlockBells_Line, ⟨by decide +kernel, by decide +kernel, by decide +kernel⟩, by decide⟩
theorem mc_yX6_save : gm_M yX6_save cX6_save 2 (some .int) 1 := ⟨tb_T (List.mem_append_right _ (List.mem_append_right _ (List.mem_append_right _ (List.mem_append_left _ (List.mem_of_getElem? (i := 44) rfl))))) rfl, in_BlockBells, ⟨by decide +kernel, by decide +kernel, by decide +kernel⟩, by decide⟩
theorem mc_yX6_restore : gm_M yX6_restore cX6_restore 2 (some .int) 1 := ⟨tb_T (List.mem_append_right _ (List.mem_append_right _ (List.mem_append_right _ (List.mem_append_left _ (List.mem_of_getElem? (i := 48) rfl))))) rfl, in_BlockBells, ⟨by decide +kernel, by decide +kernel, by decide +kernel⟩, by decide⟩
theorem mc_yX7_init : gm_M yX7_init cX7_init 1 none 0 := ⟨tb_T (List.mem_append_right _ (List.mem_append_right _ (List.mem_append_right _ (List.mem_append_left _ (List.mem_of_getElem? (i := 53) rfl))))) rfl, in_BlockBellsModel, ⟨by decide +kernel, by decide +kernel, by decide +kernel⟩, by decide⟩
theorem mc_yX7_lay : gm_M yX7_lay cX7_lay 4 none 2 := ⟨tb_T (List.mem_append_right _ (List.mem_append_right _ (List.mem_append_right _ (List.mem_append_left _ (List.mem_of_getElem? (i := 58) rfl))))) rfl, in_BlockBellsModel, ⟨by decide +kernel, by decide +kernel, by decide +kernel⟩, by decide⟩
theorem mc_yX7_layBlocks : gm_M yX7_layBlocks cX7_layBlocks 2 none 0 := ⟨tb_T (List.mem_append_right _ (List.mem_append_right _ (List.mem_append_right _ (List.mem_append_left _ (List.mem_of_getElem? (i := 62) rfl))))) rfl, in_BlockBellsModel, ⟨by decide +kernel, by decide +kernel, by decide +kernel⟩, by decide⟩
theorem mc_yX7_setUp : gm_M yX7_setUp cX7_setUp 4 (some .int) 2 := ⟨tb_T (List.mem_append_right _ (List.mem_append_right _ (List.mem_append_right _ (List.mem_append_left _ (List.mem_of_getElem? (i := 97) rfl))))) rfl, in_BlockBellsModel, ⟨by decide +kernel, by decide +kernel, by decide +kernel⟩, by decide⟩
theorem mc_yX7_in : gm_M yX7_in cX7_in 3 (some .boolean) 3 := ⟨tb_T (List.mem_append_right _ (List.mem_append_right _ (List.mem_append_right _ (List.mem_append_left _ (List.mem_of_getElem? (i := 100) rfl))))) rfl, in_BlockBellsModel, ⟨by decide +kernel, by decide +kernel, by decide +kernel⟩, by decide⟩
theorem mc_yX7_setTime : gm_M yX7_setTime cX7_setTime 4 (some .int) 2 := ⟨tb_T (List.mem_append_right _ (List.mem_append_right _ (List.mem_append_right _ (List.mem_append_left _ (List.mem_of_getElem? (i := 104) rfl))))) rfl, in_BlockBellsModel, ⟨by decide +kernel, by decide +kernel, by decide +kernel⟩, by decide⟩
theorem mc_yX7_isSection : gm_M yX7_isSection cX7_isSection 2 (some .boolean) 1 := ⟨tb_T (List.mem_append_right _ (List.mem_append_right _ (List.mem_append_right _ (List.mem_append_left _ (List.mem_of_getElem? (i := 108) rfl))))) rfl, in_BlockBellsModel, ⟨by decide +kernel, by decide +kernel, by decide +kernel⟩, by decide⟩
theorem mc_yX7_sections : gm_M yX7_sections cX7_sections 1 (some .int) 0 := ⟨tb_T (List.mem_append_right _ (List.mem_append_right _ (List.mem_append_right _ (List.mem_append_left _ (List.mem_of_getElem? (i := 112) rfl))))) rfl, in_BlockBellsModel, ⟨by decide +kernel, by decide +kernel, by decide +kernel⟩, by decide⟩
theorem mc_yX7_setLoops : gm_M yX7_setLoops cX7_setLoops 5 (some .int) 3 := ⟨tb_T (List.mem_append_right _ (List.mem_append_right _ (List.mem_append_right _ (List.mem_append_left _ (List.mem_of_getElem? (i := 116) rfl))))) rfl, in_BlockBellsModel, ⟨by decide +kernel, by decide +kernel, by decide +kernel⟩, by decide⟩
theorem mc_yX7_isWay : gm_M yX7_isWay cX7_isWay 1 (some .boolean) 1 := ⟨tb_T (List.mem_append_right _ (List.mem_append_right _ (List.mem_append_right _ (List.mem_append_left _ (List.mem_of_getElem? (i := 119) rfl))))) rfl, in_BlockBellsModel, ⟨by decide +kernel, by decide +kernel, by decide +kernel⟩, by decide⟩
theorem mc_yX7_many : gm_M yX7_many cX7_many 6 (some .int) 3 := ⟨tb_T (List.mem_append_right _ (List.mem_append_right _ (List.mem_append_right _ (List.mem_append_left _ (List.mem_of_getElem? (i := 123) rfl))))) rfl, in_BlockBellsModel, ⟨by decide +kernel, by decide +kernel, by decide +kernel⟩, by decide⟩
theorem mc_yX7_ofTrain : gm_M yX7_ofTrain cX7_ofTrain 3 (some .int) 2 := ⟨tb_T (List.mem_append_right _ (List.mem_append_right _ (List.mem_append_right _ (List.mem_append_left _ (List.mem_of_getElem? (i := 127) rfl))))) rfl, in_BlockBellsModel, ⟨by decide +kernel, by decide +kernel, by decide +kernel⟩, by decide⟩
theorem mc_yX7_moveTokens : gm_M yX7_moveTokens cX7_moveTokens 5 (some .int) 2 := ⟨tb_T (List.mem_append_right _ (List.mem_append_right _ (List.mem_append_right _ (List.mem_append_left _ (List.mem_of_getElem? (i := 131) rfl))))) rfl, in_BlockBellsModel, ⟨by decide +kernel, by decide +kernel, by decide +kernel⟩, by decide⟩
theorem mc_yX7_isSingle : gm_M yX7_isSingle cX7_isSingle 2 (some .boolean) 1 := ⟨tb_T (List.mem_append_right _ (List.mem_append_right _ (List.mem_append_right _ (List.mem_append_left _ (List.mem_of_getElem? (i := 135) rfl))))) rfl, in_BlockBellsModel, ⟨by decide +kernel, by decide +kernel, by decide +kernel⟩, by decide⟩
theorem mc_yX7_section : gm_M yX7_section cX7_section 4 (some .int) 2 := ⟨tb_T (List.mem_append_right _ (List.mem_append_right _ (List.mem_append_right _ (List.mem_append_left _ (List.mem_of_getElem? (i := 139) rfl))))) rfl, in_BlockBellsModel, ⟨by decide +kernel, by decide +kernel, by decide +kernel⟩, by decide⟩
theorem mc_yX7_isTokenOut : gm_M yX7_isTokenOut cX7_isTokenOut 4 (some .boolean) 1 := ⟨tb_T (List.mem_append_right _ (List.mem_append_right _ (List.mem_append_right _ (List.mem_append_left _ (List.mem_of_getElem? (i := 143) rfl))))) rfl, in_BlockBellsModel, ⟨by decide +kernel, by decide +kernel, by decide +kernel⟩, by decide⟩
theorem mc_yX7_ofBlock : gm_M yX7_ofBlock cX7_ofBlock 4 (some .int) 3 := ⟨tb_T (List.mem_append_right _ (List.mem_append_right _ (List.mem_append_right _ (List.mem_append_left _ (List.mem_of_getElem? (i := 147) rfl))))) rfl, in_BlockBellsModel, ⟨by decide +kernel, by decide +kernel, by decide +kernel⟩, by decide⟩
theorem mc_yX7_place : gm_M yX7_place cX7_place 3 (some .int) 3 := ⟨tb_T (List.mem_append_right _ (List.mem_append_right _ (List.mem_append_right _ (List.mem_append_left _ (List.mem_of_getElem? (i := 150) rfl))))) rfl, in_BlockBellsModel, ⟨by decide +kernel, by decide +kernel, by decide +kernel⟩, by decide⟩
theorem mc_yX7_block : gm_M yX7_block cX7_block 4 (some .int) 3 := ⟨tb_T (List.mem_append_right _ (List.mem_append_right _ (List.mem_append_right _ (List.mem_append_left _ (List.mem_of_getElem? (i := 154) rfl))))) rfl, in_BlockBellsModel, ⟨by decide +kernel, by decide +kernel, by decide +kernel⟩, by decide⟩
theorem mc_yX7_isBlock : gm_M yX7_isBlock cX7_isBlock 3 (some .boolean) 2 := ⟨tb_T (List.mem_append_right _ (List.mem_append_right _ (List.mem_append_right _ (List.mem_append_left _ (List.mem_of_getElem? (i := 158) rfl))))) rfl, in_BlockBellsModel, ⟨by decide +kernel, by decide +kernel, by decide +kernel⟩, by decide⟩
theorem mc_yX7_appear : gm_M yX7_appear cX7_appear 3 (some .int) 2 := ⟨tb_T (List.mem_append_right _ (List.mem_append_right _ (List.mem_append_right _ (List.mem_append_left _ (List.mem_of_getElem? (i := 162) rfl))))) rfl, in_BlockBellsModel, ⟨by decide +kernel, by decide +kernel, by decide +kernel⟩, by decide⟩
theorem mc_yX7_firstBox : gm_M yX7_firstBox cX7_firstBox 2 (some .int) 1 := ⟨tb_T (List.mem_append_right _ (List.mem_append_right _ (List.mem_append_right _ (List.mem_append_left _ (List.mem_of_getElem? (i := 166) rfl))))) rfl, in_BlockBellsModel, ⟨by decide +kernel, by decide +kernel, by decide +kernel⟩, by decide⟩
theorem mc_yX7_isFree : gm_M yX7_isFree cX7_isFree 3 (some .boolean) 2 := ⟨tb_T (List.mem_append_right _ (List.mem_append_right _ (List.mem_append_right _ (List.mem_append_left _ (List.mem_of_getElem? (i := 170) rfl))))) rfl, in_BlockBellsModel, ⟨by decide +kernel, by decide +kernel, by decide +kernel⟩, by decide⟩
theorem mc_yX7_add : gm_M yX7_add cX7_add 4 (some .int) 2 := ⟨tb_T (List.mem_append_right _ (List.mem_append_right _ (List.mem_append_right _ (List.mem_append_left _ (List.mem_of_getElem? (i := 174) rfl))))) rfl, in_BlockBellsModel, ⟨by decide +kernel, by decide +kernel, by decide +kernel⟩, by decide⟩
theorem mc_yX7_layTrain : gm_M yX7_layTrain cX7_layTrain 4 none 3 := ⟨tb_T (List.mem_append_right _ (List.mem_append_right _ (List.mem_append_right _ (List.mem_append_left _ (List.mem_of_getElem? (i := 178) rfl))))) rfl, in_BlockBellsModel, ⟨by decide +kernel, by decide +kernel, by decide +kernel⟩, by decide⟩
theorem mc_yX7_train : gm_M yX7_train cX7_train 3 (some .int) 2 := ⟨tb_T (List.mem_append_right _ (List.mem_append_right _ (List.mem_append_right _ (List.mem_append_left _ (List.mem_of_getElem? (i := 182) rfl))))) rfl, in_BlockBellsModel, ⟨by decide +kernel, by decide +kernel, by decide +kernel⟩, by decide⟩
theorem mc_yX7_isTrain : gm_M yX7_isTrain cX7_isTrain 2 (some .boolean) 1 := ⟨tb_T (List.mem_append_right _ (List.mem_append_right _ (List.mem_append_right _ (List.mem_append_left _ (List.mem_of_getElem? (i := 186) rfl))))) rfl, in_BlockBellsModel, ⟨by decide +kernel, by decide +kernel, by decide +kernel⟩, by decide⟩
theorem mc_yX7_shunt : gm_M yX7_shunt cX7_shunt 4 (some .int) 1 := ⟨tb_T (List.mem_append_right _ (List.mem_append_right _ (List.mem_append_right _ (List.mem_append_left _ (List.mem_of_getElem? (i := 190) rfl))))) rfl, in_BlockBellsModel, ⟨by decide +kernel, by decide +kernel, by decide +kernel⟩, by decide⟩
theorem mc_yX7_canGoIn : gm_M yX7_canGoIn cX7_canGoIn 3 (some .boolean) 1 := ⟨tb_T (List.mem_append_right _ (List.mem_append_right _ (List.mem_append_right _ (List.mem_append_left _ (List.mem_of_getElem? (i := 194) rfl))))) rfl, in_BlockBellsModel, ⟨by decide +kernel, by decide +kernel, by decide +kernel⟩, by decide⟩
theorem mc_yX7_isOffered : gm_M yX7_isOffered cX7_isOffered 3 (some .boolean) 1 := ⟨tb_T (List.mem_append_right _ (List.mem_append_right _ (List.mem_append_right _ (List.mem_append_left _ (List.mem_of_getElem? (i := 198) rfl))))) rfl, in_BlockBellsModel, ⟨by decide +kernel, by decide +kernel, by decide +kernel⟩, by decide⟩
theorem mc_yX7_nextSection : gm_M yX7_nextSection cX7_nextSection 3 (some .int) 1 := ⟨tb_T (List.mem_append_right _ (List.mem_append_right _ (List.mem_append_right _ (List.mem_append_left _ (List.mem_of_getElem? (i := 202) rfl))))) rfl, in_BlockBellsModel, ⟨by decide +kernel, by decide +kernel, by decide +kernel⟩, by decide⟩
theorem mc_yX7_isClearFor : gm_M yX7_isClearFor cX7_isClearFor 4 (some .boolean) 1 := ⟨tb_T (List.mem_append_right _ (List.mem_append_right _ (List.mem_append_right _ (List.mem_append_left _ (List.mem_of_getElem? (i := 206) rfl))))) rfl, in_BlockBellsModel, ⟨by decide +kernel, by decide +kernel, by decide +kernel⟩, by decide⟩
theorem mc_yX7_isCalmBehind : gm_M yX7_isCalmBehind cX7_isCalmBehind 4 (some .boolean) 1 := ⟨tb_T (List.mem_append_right _ (List.mem_append_right _ (List.mem_append_right _ (List.mem_append_left _ (List.mem_of_getElem? (i := 210) rfl))))) rfl, in_BlockBellsModel, ⟨by decide +kernel, by decide +kernel, by decide +kernel⟩, by decide⟩
theorem mc_yX7_leave : gm_M yX7_leave cX7_leave 2 (some .int) 1 := ⟨tb_T (List.mem_append_right _ (List.mem_append_right _ (List.mem_append_right _ (List.mem_append_left _ (List.mem_of_getElem? (i := 214) rfl))))) rfl, in_BlockBellsModel, ⟨by decide +kernel, by decide +kernel, by decide +kernel⟩, by decide⟩
theorem mc_yX7_divide : gm_M yX7_divide cX7_divide 2 (some .int) 1 := ⟨tb_T (List.mem_append_right _ (List.mem_append_right _ (List.mem_append_right _ (List.mem_append_left _ (List.mem_of_getElem? (i := 218) rfl))))) rfl, in_BlockBellsModel, ⟨by decide +kernel, by decide +kernel, by decide +kernel⟩, by decide⟩
theorem mc_yX7_offer : gm_M yX7_offer cX7_offer 4 (some .int) 1 := ⟨tb_T (List.mem_append_right _ (List.mem_append_right _ (List.mem_append_right _ (List.mem_append_left _ (List.mem_of_getElem? (i := 222) rfl))))) rfl, in_BlockBellsModel, ⟨by decide +kernel, by decide +kernel, by decide +kernel⟩, by decide⟩
theorem mc_yX7_rear : gm_M yX7_rear cX7_rear 2 (some .int) 2 := ⟨tb_T (List.mem_append_right _ (List.mem_append_right _ (List.mem_append_right _ (List.mem_append_left _ (List.mem_of_getElem? (i := 225) rfl))))) rfl, in_BlockBellsModel, ⟨by decide +kernel, by decide +kernel, by decide +kernel⟩, by decide⟩
theorem mc_yX7_codeOf : gm_M yX7_codeOf cX7_codeOf 1 (some .int) 1 := ⟨tb_T (List.mem_append_right _ (List.mem_append_right _ (List.mem_append_right _ (List.mem_append_left _ (List.mem_of_getElem? (i := 228) rfl))))) rfl, in_BlockBellsModel, ⟨by decide +kernel, by decide +kernel, by decide +kernel⟩, by decide⟩
theorem mc_yX7_ring : gm_M yX7_ring cX7_ring 6 (some .int) 4 := ⟨tb_T (List.mem_append_right _ (List.mem_append_right _ (List.mem_append_right _ (List.mem_append_left _ (List.mem_of_getElem? (i := 232) rfl))))) rfl, in_BlockBellsModel, ⟨by decide +kernel, by decide +kernel, by decide +kernel⟩, by decide⟩
theorem mc_yX7_answer : gm_M yX7_answer cX7_answer 5 (some .int) 3 := ⟨tb_T (List.mem_append_right _ (List.mem_append_right _ (List.mem_append_right _ (List.mem_append_left _ (List.mem_of_getElem? (i := 236) rfl))))) rfl, in_BlockBellsModel, ⟨by decide +kernel, by decide +kernel, by decide +kernel⟩, by decide⟩
theorem mc_yX7_canAccept : gm_M yX7_canAccept cX7_canAccept 4 (some .boolean) 2 := ⟨tb_T (List.mem_append_right _ (List.mem_append_right _ (List.mem_append_right _ (List.mem_append_right _ (List.mem_of_getElem? (i := 0) rfl))))) rfl, in_BlockBellsModel, ⟨by decide +kernel, by decide +kernel, by decide +kernel⟩, by decide⟩
theorem mc_yX7_tokensAt : gm_M yX7_tokensAt cX7_tokensAt 2 (some .int) 2 := ⟨tb_T (List.mem_append_right _ (List.mem_append_right _ (List.mem_append_right _ (List.mem_append_right _ (List.mem_of_getElem? (i := 3) rfl))))) rfl, in_BlockBellsModel, ⟨by decide +kernel, by decide +kernel, by decide +kernel⟩, by decide⟩
theorem mc_yX7_ahead : gm_M yX7_ahead cX7_ahead 2 (some .int) 2 := ⟨tb_T (List.mem_append_right _ (List.mem_append_right _ (List.mem_append_right _ (List.mem_append_right _ (List.mem_of_getElem? (i := 6) rfl))))) rfl, in_BlockBellsModel, ⟨by decide +kernel, by decide +kernel, by decide +kernel⟩, by decide⟩
theorem mc_yX7_cancel : gm_M yX7_cancel cX7_cancel 4 (some .int) 2 := ⟨tb_T (List.mem_append_right _ (List.mem_append_right _ (List.mem_append_right _ (List.mem_append_right _ (List.mem_of_getElem? (i := 10) rfl))))) rfl, in_BlockBellsModel, ⟨by decide +kernel, by decide +kernel, by decide +kernel⟩, by decide⟩
theorem mc_yX7_unclear : gm_M yX7_unclear cX7_unclear 3 none 2 := ⟨tb_T (List.mem_append_right _ (List.mem_append_right _ (List.mem_append_right _ (List.mem_append_right _ (List.mem_of_getElem? (i := 14) rfl))))) rfl, in_BlockBellsModel, ⟨by decide +kernel, by decide +kernel, by decide +kernel⟩, by decide⟩
theorem mc_yX7_depart : gm_M yX7_depart cX7_depart 4 (some .int) 1 := ⟨tb_T (List.mem_append_right _ (List.mem_append_right _ (List.mem_append_right _ (List.mem_append_right _ (List.mem_of_getElem? (i := 18) rfl))))) rfl, in_BlockBellsModel, ⟨by decide +kernel, by decide +kernel, by decide +kernel⟩, by decide⟩
theorem mc_yX7_admit : gm_M yX7_admit cX7_admit 5 (some .int) 2 := ⟨tb_T (List.mem_append_right _ (List.mem_append_right _ (List.mem_append_right _ (List.mem_append_right _ (List.mem_of_getElem? (i := 22) rfl))))) rfl, in_BlockBellsModel, ⟨by decide +kernel, by decide +kernel, by decide +kernel⟩, by decide⟩
theorem mc_yX7_isInside : gm_M yX7_isInside cX7_isInside 4 (some .boolean) 2 := ⟨tb_T (List.mem_append_right _ (List.mem_append_right _ (List.mem_append_right _ (List.mem_append_right _ (List.mem_of_getElem? (i := 26) rfl))))) rfl, in_BlockBellsModel, ⟨by decide +kernel, by decide +kernel, by decide +kernel⟩, by decide⟩
theorem mc_yX7_out : gm_M yX7_out cX7_out 4 (some .int) 2 := ⟨tb_T (List.mem_append_right _ (List.mem_append_right _ (List.mem_append_right _ (List.mem_append_right _ (List.mem_of_getElem? (i := 30) rfl))))) rfl, in_BlockBellsModel, ⟨by decide +kernel, by decide +kernel, by decide +kernel⟩, by decide⟩
theorem mc_yX7_assist : gm_M yX7_assist cX7_assist 3 (some .int) 2 := ⟨tb_T (List.mem_append_right _ (List.mem_append_right _ (List.mem_append_right _ (List.mem_append_right _ (List.mem_of_getElem? (i := 34) rfl))))) rfl, in_BlockBellsModel, ⟨by decide +kernel, by decide +kernel, by decide +kernel⟩, by decide⟩
theorem mc_yX7_obstruct : gm_M yX7_obstruct cX7_obstruct 4 (some .int) 2 := ⟨tb_T (List.mem_append_right _ (List.mem_append_right _ (List.mem_append_right _ (List.mem_append_right _ (List.mem_of_getElem? (i := 38) rfl))))) rfl, in_BlockBellsModel, ⟨by decide +kernel, by decide +kernel, by decide +kernel⟩, by decide⟩
theorem mc_yX7_lift : gm_M yX7_lift cX7_lift 3 (some .int) 2 := ⟨tb_T (List.mem_append_right _ (List.mem_append_right _ (List.mem_append_right _ (List.mem_append_right _ (List.mem_of_getElem? (i := 42) rfl))))) rfl, in_BlockBellsModel, ⟨by decide +kernel, by decide +kernel, by decide +kernel⟩, by decide⟩
theorem mc_yX7_pass : gm_M yX7_pass cX7_pass 3 (some .int) 1 := ⟨tb_T (List.mem_append_right _ (List.mem_append_right _ (List.mem_append_right _ (List.mem_append_right _ (List.mem_of_getElem? (i := 46) rfl))))) rfl, in_BlockBellsModel, ⟨by decide +kernel, by decide +kernel, by decide +kernel⟩, by decide⟩
theorem mc_yX7_tick : gm_M yX7_tick cX7_tick 3 none 0 := ⟨tb_T (List.mem_append_right _ (List.mem_append_right _ (List.mem_append_right _ (List.mem_append_right _ (List.mem_of_getElem? (i := 51) rfl))))) rfl, in_BlockBellsModel, ⟨by decide +kernel, by decide +kernel, by decide +kernel⟩, by decide⟩
theorem mc_yX7_signal : gm_M yX7_signal cX7_signal 4 (some .int) 2 := ⟨tb_T (List.mem_append_right _ (List.mem_append_right _ (List.mem_append_right _ (List.mem_append_right _ (List.mem_of_getElem? (i := 55) rfl))))) rfl, in_BlockBellsModel, ⟨by decide +kernel, by decide +kernel, by decide +kernel⟩, by decide⟩
theorem mc_yX7_rung : gm_M yX7_rung cX7_rung 6 (some .int) 2 := ⟨tb_T (List.mem_append_right _ (List.mem_append_right _ (List.mem_append_right _ (List.mem_append_right _ (List.mem_of_getElem? (i := 59) rfl))))) rfl, in_BlockBellsModel, ⟨by decide +kernel, by decide +kernel, by decide +kernel⟩, by decide⟩
theorem mc_yX7_work : gm_M yX7_work cX7_work 4 (some .int) 1 := ⟨tb_T (List.mem_append_right _ (List.mem_append_right _ (List.mem_append_right _ (List.mem_append_right _ (List.mem_of_getElem? (i := 63) rfl))))) rfl, in_BlockBellsModel, ⟨by decide +kernel, by decide +kernel, by decide +kernel⟩, by decide⟩
theorem mc_yX7_trainsAt : gm_M yX7_trainsAt cX7_trainsAt 4 (some .int) 1 := ⟨tb_T (List.mem_append_right _ (List.mem_append_right _ (List.mem_append_right _ (List.mem_append_right _ (List.mem_of_getElem? (i := 67) rfl))))) rfl, in_BlockBellsModel, ⟨by decide +kernel, by decide +kernel, by decide +kernel⟩, by decide⟩
theorem mc_yX7_workTick : gm_M yX7_workTick cX7_workTick 1 none 0 := ⟨tb_T (List.mem_append_right _ (List.mem_append_right _ (List.mem_append_right _ (List.mem_append_right _ (List.mem_of_getElem? (i := 71) rfl))))) rfl, in_BlockBellsModel, ⟨by decide +kernel, by decide +kernel, by decide +kernel⟩, by decide⟩
theorem mc_yX7_workBlocks : gm_M yX7_workBlocks cX7_workBlocks 4 none 1 := ⟨tb_T (List.mem_append_right _ (List.mem_append_right _ (List.mem_append_right _ (List.mem_append_right _ (List.mem_of_getElem? (i := 75) rfl))))) rfl, in_BlockBellsModel, ⟨by decide +kernel, by decide +kernel, by decide +kernel⟩, by decide⟩
theorem mc_yX7_workTrains : gm_M yX7_workTrains cX7_workTrains 3 none 1 := ⟨tb_T (List.mem_append_right _ (List.mem_append_right _ (List.mem_append_right _ (List.mem_append_right _ (List.mem_of_getElem? (i := 83) rfl))))) rfl, in_BlockBellsModel, ⟨by decide +kernel, by decide +kernel, by decide +kernel⟩, by decide⟩
theorem mc_yX7_forecast : gm_M yX7_forecast cX7_forecast 5 (some .int) 2 := ⟨tb_T (List.mem_append_right _ (List.mem_append_right _ (List.mem_append_right _ (List.mem_append_right _ (List.mem_of_getElem? (i := 90) rfl))))) rfl, in_BlockBellsModel, ⟨by decide +kernel, by decide +kernel, by decide +kernel⟩, by decide⟩
theorem mc_yX7_putAside : gm_M yX7_putAside cX7_putAside 2 none 0 := ⟨tb_T (List.mem_append_right _ (List.mem_append_right _ (List.mem_append_right _ (List.mem_append_right _ (List.mem_of_getElem? (i := 94) rfl))))) rfl, in_BlockBellsModel, ⟨by decide +kernel, by decide +kernel, by decide +kernel⟩, by decide⟩
theorem mc_yX7_putBack : gm_M yX7_putBack cX7_putBack 2 none 0 := ⟨tb_T (List.mem_append_right _ (List.mem_append_right _ (List.mem_append_right _ (List.mem_append_right _ (List.mem_of_getElem? (i := 98) rfl))))) rfl, in_BlockBellsModel, ⟨by decide +kernel, by decide +kernel, by decide +kernel⟩, by decide⟩
theorem mc_yX7_capacity : gm_M yX7_capacity cX7_capacity 5 (some .int) 3 := ⟨tb_T (List.mem_append_right _ (List.mem_append_right _ (List.mem_append_right _ (List.mem_append_right _ (List.mem_of_getElem? (i := 102) rfl))))) rfl, in_BlockBellsModel, ⟨by decide +kernel, by decide +kernel, by decide +kernel⟩, by decide⟩
theorem mc_yX7_say : gm_M yX7_say cX7_say 2 (some .int) 1 := ⟨tb_T (List.mem_append_right _ (List.mem_append_right _ (List.mem_append_right _ (List.mem_append_right _ (List.mem_of_getElem? (i := 106) rfl))))) rfl, in_BlockBellsModel, ⟨by decide +kernel, by decide +kernel, by decide +kernel⟩, by decide⟩
theorem mc_yX7_wipe : gm_M yX7_wipe cX7_wipe 2 (some .int) 0 := ⟨tb_T (List.mem_append_right _ (List.mem_append_right _ (List.mem_append_right _ (List.mem_append_right _ (List.mem_of_getElem? (i := 110) rfl))))) rfl, in_BlockBellsModel, ⟨by decide +kernel, by decide +kernel, by decide +kernel⟩, by decide⟩
theorem mc_yX7_fault : gm_M yX7_fault cX7_fault 1 (some .int) 0 := ⟨tb_T (List.mem_append_right _ (List.mem_append_right _ (List.mem_append_right _ (List.mem_append_right _ (List.mem_of_getElem? (i := 114) rfl))))) rfl, in_BlockBellsModel, ⟨by decide +kernel, by decide +kernel, by decide +kernel⟩, by decide⟩
theorem mc_yX7_readOrder : gm_M yX7_readOrder cX7_readOrder 3 none 0 := ⟨tb_T (List.mem_append_right _ (List.mem_append_right _ (List.mem_append_right _ (List.mem_append_right _ (List.mem_of_getElem? (i := 118) rfl))))) rfl, in_BlockBellsModel, ⟨by decide +kernel, by decide +kernel, by decide +kernel⟩, by decide⟩
theorem mc_yX7_nextSign : gm_M yX7_nextSign cX7_nextSign 1 (some .int) 0 := ⟨tb_T (List.mem_append_right _ (List.mem_append_right _ (List.mem_append_right _ (List.mem_append_right _ (List.mem_of_getElem? (i := 122) rfl))))) rfl, in_BlockBellsModel, ⟨by decide +kernel, by decide +kernel, by decide +kernel⟩, by decide⟩
theorem mc_yX7_isForTrain : gm_M yX7_isForTrain cX7_isForTrain 1 (some .boolean) 1 := ⟨tb_T (List.mem_append_right _ (List.mem_append_right _ (List.mem_append_right _ (List.mem_append_right _ (List.mem_of_getElem? (i := 125) rfl))))) rfl, in_BlockBellsModel, ⟨by decide +kernel, by decide +kernel, by decide +kernel⟩, by decide⟩
theorem mc_yX7_isForBlock : gm_M yX7_isForBlock cX7_isForBlock 1 (some .boolean) 1 := ⟨tb_T (List.mem_append_right _ (List.mem_append_right _ (List.mem_append_right _ (List.mem_append_right _ (List.mem_of_getElem? (i := 128) rfl))))) rfl, in_BlockBellsModel, ⟨by decide +kernel, by decide +kernel, by decide +kernel⟩, by decide⟩
theorem mc_yX7_takeNumber : gm_M yX7_takeNumber cX7_takeNumber 4 (some .int) 2 := ⟨tb_T (List.mem_append_right _ (List.mem_append_right _ (List.mem_append_right _ (List.mem_append_right _ (List.mem_of_getElem? (i := 132) rfl))))) rfl, in_BlockBellsModel, ⟨by decide +kernel, by decide +kernel, by decide +kernel⟩, by decide⟩
theorem mc_yX7_takeSide : gm_M yX7_takeSide cX7_takeSide 1 (some .int) 0 := ⟨tb_T (List.mem_append_right _ (List.mem_append_right _ (List.mem_append_right _ (List.mem_append_right _ (List.mem_of_getElem? (i := 136) rfl))))) rfl, in_BlockBellsModel, ⟨by decide +kernel, by decide +kernel, by decide +kernel⟩, by decide⟩
theorem mc_yX7_carryOut : gm_M yX7_carryOut cX7_carryOut 2 (some .int) 0 := ⟨tb_T (List.mem_append_right _ (List.mem_append_right _ (List.mem_append_right _ (List.mem_append_right _ (List.mem_of_getElem? (i := 140) rfl))))) rfl, in_BlockBellsModel, ⟨by decide +kernel, by decide +kernel, by decide +kernel⟩, by decide⟩
theorem mc_yX7_carryOutOne : gm_M yX7_carryOutOne cX7_carryOutOne 4 (some .int) 3 := ⟨tb_T (List.mem_append_right _ (List.mem_append_right _ (List.mem_append_right _ (List.mem_append_right _ (List.mem_of_getElem? (i := 145) rfl))))) rfl, in_BlockBellsModel, ⟨by decide +kernel, by decide +kernel, by decide +kernel⟩, by decide⟩
theorem mc_yX7_count : gm_M yX7_count cX7_count 2 (some .int) 1 := ⟨tb_T (List.mem_append_right _ (List.mem_append_right _ (List.mem_append_right _ (List.mem_append_right _ (List.mem_of_getElem? (i := 152) rfl))))) rfl, in_BlockBellsModel, ⟨by decide +kernel, by decide +kernel, by decide +kernel⟩, by decide⟩
theorem mc_yX7_blocksWith : gm_M yX7_blocksWith cX7_blocksWith 5 (some .int) 1 := ⟨tb_T (List.mem_append_right _ (List.mem_append_right _ (List.mem_append_right _ (List.mem_append_right _ (List.mem_of_getElem? (i := 156) rfl))))) rfl, in_BlockBellsModel, ⟨by decide +kernel, by decide +kernel, by decide +kernel⟩, by decide⟩
theorem mc_yX7_save : gm_M yX7_save cX7_save 3 (some .int) 1 := ⟨tb_T (List.mem_append_right _ (List.mem_append_right _ (List.mem_append_right _ (List.mem_append_right _ (List.mem_of_getElem? (i := 160) rfl))))) rfl, in_BlockBellsModel, ⟨by decide +kernel, by decide +kernel, by decide +kernel⟩, by decide⟩
theorem mc_yX7_restore : gm_M yX7_restore cX7_restore 3 (some .int) 1 := ⟨tb_T (List.mem_append_right _ (List.mem_append_right _ (List.mem_append_right _ (List.mem_append_right _ (List.mem_of_getElem? (i := 164) rfl))))) rfl, in_BlockBellsModel, ⟨by decide +kernel, by decide +kernel, by decide +kernel⟩, by decide⟩
theorem iwX0 : ∀ w ∈ u_ws RX0 TX0 7, w ∈ TB := by
  intro w hw
  obtain ⟨j, hj, rfl⟩ := List.mem_map.mp hw
  have hj := List.mem_range.mp hj
  match j, hj with
  | 0, _ => exact (tb_T (List.mem_append_left _ (List.mem_of_getElem? (i := 83) rfl)) rfl : Cond.laysFinal RX0 "BlockBells$Block" "section" "LBlockBells$Section;" ∈ TB)
  | 1, _ => exact (tb_T (List.mem_append_left _ (List.mem_of_getElem? (i := 85) rfl)) rfl : Cond.laysFinal RX0 "BlockBells$Block" "direction" "I" ∈ TB)
  | 2, _ => exact (tb_T (List.mem_append_left _ (List.mem_of_getElem? (i := 87) rfl)) rfl : Cond.lays RX0 "BlockBells$Block" "state" "I" ∈ TB)
  | 3, _ => exact (tb_T (List.mem_append_left _ (List.mem_of_getElem? (i := 89) rfl)) rfl : Cond.lays RX0 "BlockBells$Block" "offered" "I" ∈ TB)
  | 4, _ => exact (tb_T (List.mem_append_left _ (List.mem_of_getElem? (i := 91) rfl)) rfl : Cond.lays RX0 "BlockBells$Block" "holder" "I" ∈ TB)
  | 5, _ => exact (tb_T (List.mem_append_left _ (List.mem_of_getElem? (i := 93) rfl)) rfl : Cond.lays RX0 "BlockBells$Block" "part" "Z" ∈ TB)
  | 6, _ => exact (tb_T (List.mem_append_left _ (List.mem_of_getElem? (i := 95) rfl)) rfl : Cond.lays RX0 "BlockBells$Block" "engineTicks" "I" ∈ TB)
  | j + 7, h => exact absurd h (by omega)
theorem iwX1 : ∀ w ∈ u_ws RX1 TX1 8, w ∈ TB := by
  intro w hw
  obtain ⟨j, hj, rfl⟩ := List.mem_map.mp hw
  have hj := List.mem_range.mp hj
  match j, hj with
  | 0, _ => exact (tb_T (List.mem_append_left _ (List.mem_of_getElem? (i := 185) rfl)) rfl : Cond.laysFinal RX1 "BlockBells$Line" "sections" "[LBlockBells$Section;" ∈ TB)
  | 1, _ => exact (tb_T (List.mem_append_left _ (List.mem_of_getElem? (i := 187) rfl)) rfl : Cond.laysFinal RX1 "BlockBells$Line" "blocks" "[LBlockBells$Block;" ∈ TB)
  | 2, _ => exact (tb_T (List.mem_append_left _ (List.mem_of_getElem? (i := 189) rfl)) rfl : Cond.laysFinal RX1 "BlockBells$Line" "trains" "[LBlockBells$Train;" ∈ TB)
  | 3, _ => exact (tb_T (List.mem_append_left _ (List.mem_of_getElem? (i := 191) rfl)) rfl : Cond.laysFinal RX1 "BlockBells$Line" "loops" "[I" ∈ TB)
  | 4, _ => exact (tb_T (List.mem_append_left _ (List.mem_of_getElem? (i := 193) rfl)) rfl : Cond.laysFinal RX1 "BlockBells$Line" "register" "LBlockBells$Register;" ∈ TB)
  | 5, _ => exact (tb_T (List.mem_append_left _ (List.mem_of_getElem? (i := 195) rfl)) rfl : Cond.lays RX1 "BlockBells$Line" "boxes" "I" ∈ TB)
  | 6, _ => exact (tb_T (List.mem_append_left _ (List.mem_of_getElem? (i := 197) rfl)) rfl : Cond.lays RX1 "BlockBells$Line" "appeared" "I" ∈ TB)
  | 7, _ => exact (tb_T (List.mem_append_left _ (List.mem_of_getElem? (i := 199) rfl)) rfl : Cond.lays RX1 "BlockBells$Line" "time" "I" ∈ TB)
  | j + 8, h => exact absurd h (by omega)
theorem iwX2 : ∀ w ∈ u_ws RX2 TX2 6, w ∈ TB := by
  intro w hw
  obtain ⟨j, hj, rfl⟩ := List.mem_map.mp hw
  have hj := List.mem_range.mp hj
  match j, hj with
  | 0, _ => exact (tb_T (List.mem_append_left _ (List.mem_of_getElem? (i := 219) rfl)) rfl : Cond.laysFinal RX2 "BlockBells$Pad" "signs" "[I" ∈ TB)
  | 1, _ => exact (tb_T (List.mem_append_left _ (List.mem_of_getElem? (i := 221) rfl)) rfl : Cond.lays RX2 "BlockBells$Pad" "length" "I" ∈ TB)
  | 2, _ => exact (tb_T (List.mem_append_left _ (List.mem_of_getElem? (i := 223) rfl)) rfl : Cond.lays RX2 "BlockBells$Pad" "at" "I" ∈ TB)
  | 3, _ => exact (tb_T (List.mem_append_left _ (List.mem_of_getElem? (i := 225) rfl)) rfl : Cond.lays RX2 "BlockBells$Pad" "letter" "I" ∈ TB)
  | 4, _ => exact (tb_T (List.mem_append_left _ (List.mem_of_getElem? (i := 227) rfl)) rfl : Cond.lays RX2 "BlockBells$Pad" "number" "I" ∈ TB)
  | 5, _ => exact (tb_T (List.mem_append_left _ (List.mem_of_getElem? (i := 229) rfl)) rfl : Cond.lays RX2 "BlockBells$Pad" "direction" "I" ∈ TB)
  | j + 6, h => exact absurd h (by omega)
theorem iwX3 : ∀ w ∈ u_ws RX3 TX3 2, w ∈ TB := by
  intro w hw
  obtain ⟨j, hj, rfl⟩ := List.mem_map.mp hw
  have hj := List.mem_range.mp hj
  match j, hj with
  | 0, _ => exact (tb_T (List.mem_append_left _ (List.mem_of_getElem? (i := 151) rfl)) rfl : Cond.laysFinal RX3 "BlockBells$Register" "rows" "[I" ∈ TB)
  | 1, _ => exact (tb_T (List.mem_append_left _ (List.mem_of_getElem? (i := 153) rfl)) rfl : Cond.lays RX3 "BlockBells$Register" "total" "I" ∈ TB)
  | j + 2, h => exact absurd h (by omega)
theorem iwX4 : ∀ w ∈ u_ws RX4 TX4 6, w ∈ TB := by
  intro w hw
  obtain ⟨j, hj, rfl⟩ := List.mem_map.mp hw
  have hj := List.mem_range.mp hj
  match j, hj with
  | 0, _ => exact (tb_T (List.mem_append_left _ (List.mem_of_getElem? (i := 49) rfl)) rfl : Cond.laysFinal RX4 "BlockBells$Section" "number" "I" ∈ TB)
  | 1, _ => exact (tb_T (List.mem_append_left _ (List.mem_of_getElem? (i := 51) rfl)) rfl : Cond.lays RX4 "BlockBells$Section" "single" "Z" ∈ TB)
  | 2, _ => exact (tb_T (List.mem_append_left _ (List.mem_of_getElem? (i := 53) rfl)) rfl : Cond.lays RX4 "BlockBells$Section" "runningTime" "I" ∈ TB)
  | 3, _ => exact (tb_T (List.mem_append_left _ (List.mem_of_getElem? (i := 55) rfl)) rfl : Cond.lays RX4 "BlockBells$Section" "lowerTokens" "I" ∈ TB)
  | 4, _ => exact (tb_T (List.mem_append_left _ (List.mem_of_getElem? (i := 57) rfl)) rfl : Cond.lays RX4 "BlockBells$Section" "higherTokens" "I" ∈ TB)
  | 5, _ => exact (tb_T (List.mem_append_left _ (List.mem_of_getElem? (i := 59) rfl)) rfl : Cond.lays RX4 "BlockBells$Section" "tokenOut" "Z" ∈ TB)
  | j + 6, h => exact absurd h (by omega)
theorem iwX5 : ∀ w ∈ u_ws RX5 TX5 9, w ∈ TB := by
  intro w hw
  obtain ⟨j, hj, rfl⟩ := List.mem_map.mp hw
  have hj := List.mem_range.mp hj
  match j, hj with
  | 0, _ => exact (tb_T (List.mem_append_left _ (List.mem_of_getElem? (i := 122) rfl)) rfl : Cond.laysFinal RX5 "BlockBells$Train" "number" "I" ∈ TB)
  | 1, _ => exact (tb_T (List.mem_append_left _ (List.mem_of_getElem? (i := 124) rfl)) rfl : Cond.lays RX5 "BlockBells$Train" "kind" "I" ∈ TB)
  | 2, _ => exact (tb_T (List.mem_append_left _ (List.mem_of_getElem? (i := 126) rfl)) rfl : Cond.lays RX5 "BlockBells$Train" "direction" "I" ∈ TB)
  | 3, _ => exact (tb_T (List.mem_append_left _ (List.mem_of_getElem? (i := 128) rfl)) rfl : Cond.lays RX5 "BlockBells$Train" "where" "I" ∈ TB)
  | 4, _ => exact (tb_T (List.mem_append_left _ (List.mem_of_getElem? (i := 130) rfl)) rfl : Cond.lays RX5 "BlockBells$Train" "place" "I" ∈ TB)
  | 5, _ => exact (tb_T (List.mem_append_left _ (List.mem_of_getElem? (i := 132) rfl)) rfl : Cond.lays RX5 "BlockBells$Train" "ticksLeft" "I" ∈ TB)
  | 6, _ => exact (tb_T (List.mem_append_left _ (List.mem_of_getElem? (i := 134) rfl)) rfl : Cond.lays RX5 "BlockBells$Train" "whole" "Z" ∈ TB)
  | 7, _ => exact (tb_T (List.mem_append_left _ (List.mem_of_getElem? (i := 136) rfl)) rfl : Cond.lays RX5 "BlockBells$Train" "appearedAt" "I" ∈ TB)
  | 8, _ => exact (tb_T (List.mem_append_left _ (List.mem_of_getElem? (i := 138) rfl)) rfl : Cond.lays RX5 "BlockBells$Train" "leftAt" "I" ∈ TB)
  | j + 9, h => exact absurd h (by omega)
theorem iwX6 : ∀ w ∈ u_ws RX6 TX6 5, w ∈ TB := by
  intro w hw
  obtain ⟨j, hj, rfl⟩ := List.mem_map.mp hw
  have hj := List.mem_range.mp hj
  match j, hj with
  | 0, _ => exact (tb_T (List.mem_append_left _ (List.mem_of_getElem? (i := 238) rfl)) rfl : Cond.laysFinal RX6 "BlockBells" "line" "LBlockBells$Line;" ∈ TB)
  | 1, _ => exact (tb_T (List.mem_append_right _ (List.mem_append_left _ (List.mem_of_getElem? (i := 0) rfl))) rfl : Cond.laysFinal RX6 "BlockBells" "trial" "LBlockBells$Line;" ∈ TB)
  | 2, _ => exact (tb_T (List.mem_append_right _ (List.mem_append_left _ (List.mem_of_getElem? (i := 2) rfl))) rfl : Cond.laysFinal RX6 "BlockBells" "slots" "[LBlockBells$Line;" ∈ TB)
  | 3, _ => exact (tb_T (List.mem_append_right _ (List.mem_append_left _ (List.mem_of_getElem? (i := 4) rfl))) rfl : Cond.laysFinal RX6 "BlockBells" "saved" "[Z" ∈ TB)
  | 4, _ => exact (tb_T (List.mem_append_right _ (List.mem_append_left _ (List.mem_of_getElem? (i := 6) rfl))) rfl : Cond.laysFinal RX6 "BlockBells" "pad" "LBlockBells$Pad;" ∈ TB)
  | j + 5, h => exact absurd h (by omega)
theorem iwX7 : ∀ w ∈ u_ws RX7 TX7 10, w ∈ TB := by
  intro w hw
  obtain ⟨j, hj, rfl⟩ := List.mem_map.mp hw
  have hj := List.mem_range.mp hj
  match j, hj with
  | 0, _ => exact (tb_T (List.mem_append_right _ (List.mem_append_right _ (List.mem_append_right _ (List.mem_append_left _ (List.mem_of_getElem? (i := 73) rfl))))) rfl : Cond.laysFinal RX7 "BlockBellsModel" "at" "[I" ∈ TB)
  | 1, _ => exact (tb_T (List.mem_append_right _ (List.mem_append_right _ (List.mem_append_right _ (List.mem_append_left _ (List.mem_of_getElem? (i := 75) rfl))))) rfl : Cond.laysFinal RX7 "BlockBellsModel" "aside" "[I" ∈ TB)
  | 2, _ => exact (tb_T (List.mem_append_right _ (List.mem_append_right _ (List.mem_append_right _ (List.mem_append_left _ (List.mem_of_getElem? (i := 77) rfl))))) rfl : Cond.laysFinal RX7 "BlockBellsModel" "slots" "[I" ∈ TB)
  | 3, _ => exact (tb_T (List.mem_append_right _ (List.mem_append_right _ (List.mem_append_right _ (List.mem_append_left _ (List.mem_of_getElem? (i := 79) rfl))))) rfl : Cond.laysFinal RX7 "BlockBellsModel" "isSaved" "[Z" ∈ TB)
  | 4, _ => exact (tb_T (List.mem_append_right _ (List.mem_append_right _ (List.mem_append_right _ (List.mem_append_left _ (List.mem_of_getElem? (i := 81) rfl))))) rfl : Cond.laysFinal RX7 "BlockBellsModel" "pad" "[I" ∈ TB)
  | 5, _ => exact (tb_T (List.mem_append_right _ (List.mem_append_right _ (List.mem_append_right _ (List.mem_append_left _ (List.mem_of_getElem? (i := 83) rfl))))) rfl : Cond.lays RX7 "BlockBellsModel" "padMany" "I" ∈ TB)
  | 6, _ => exact (tb_T (List.mem_append_right _ (List.mem_append_right _ (List.mem_append_right _ (List.mem_append_left _ (List.mem_of_getElem? (i := 85) rfl))))) rfl : Cond.lays RX7 "BlockBellsModel" "reading" "I" ∈ TB)
  | 7, _ => exact (tb_T (List.mem_append_right _ (List.mem_append_right _ (List.mem_append_right _ (List.mem_append_left _ (List.mem_of_getElem? (i := 87) rfl))))) rfl : Cond.lays RX7 "BlockBellsModel" "isWrong" "Z" ∈ TB)
  | 8, _ => exact (tb_T (List.mem_append_right _ (List.mem_append_right _ (List.mem_append_right _ (List.mem_append_left _ (List.mem_of_getElem? (i := 89) rfl))))) rfl : Cond.laysFinal RX7 "BlockBellsModel" "orders" "[I" ∈ TB)
  | 9, _ => exact (tb_T (List.mem_append_right _ (List.mem_append_right _ (List.mem_append_right _ (List.mem_append_left _ (List.mem_of_getElem? (i := 91) rfl))))) rfl : Cond.lays RX7 "BlockBellsModel" "orderMany" "I" ∈ TB)
  | j + 10, h => exact absurd h (by omega)
end
