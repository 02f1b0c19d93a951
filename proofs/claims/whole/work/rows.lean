section
-- ===== PART A: goes FIRST, ahead of the names: the tables' words, and 'selects' of the private methods out of them =====
/-- a private method of a class that the tables say can be made, by its rows of tables_1 -/
def lw_okq (q : MethodName × Nat) : Prop := (q.1.cls ≠ "java/lang/invoke/MethodHandle" ∧ q.1.cls ≠ "java/lang/invoke/VarHandle") ∧ Cond.instantiable q.1.cls q.2 ∈ tables_1 ∧ Cond.privateMethod q.1 ∈ tables_1 ∧ Cond.instanceMethod q.1 ∈ tables_1
theorem lw_p0 : lw_okq (⟨"BlockBells$Line", "shuntToLoop", "(LBlockBells$Train;)I"⟩, 8) := ⟨⟨by decide +kernel, by decide +kernel⟩, List.mem_of_getElem? (i := 20) (by decide +kernel), List.mem_of_getElem? (i := 361) (by decide +kernel), List.mem_of_getElem? (i := 362) (by decide +kernel)⟩
theorem lw_p1 : lw_okq (⟨"BlockBells$Line", "shuntBack", "(LBlockBells$Train;)I"⟩, 8) := ⟨⟨by decide +kernel, by decide +kernel⟩, List.mem_of_getElem? (i := 20) (by decide +kernel), List.mem_of_getElem? (i := 373) (by decide +kernel), List.mem_of_getElem? (i := 374) (by decide +kernel)⟩
theorem lw_p2 : lw_okq (⟨"BlockBells$Line", "ringRear", "(LBlockBells$Block;I)I"⟩, 8) := ⟨⟨by decide +kernel, by decide +kernel⟩, List.mem_of_getElem? (i := 20) (by decide +kernel), List.mem_of_getElem? (i := 416) (by decide +kernel), List.mem_of_getElem? (i := 417) (by decide +kernel)⟩
theorem lw_p3 : lw_okq (⟨"BlockBells$Line", "isTokenReady", "(LBlockBells$Block;)Z"⟩, 8) := ⟨⟨by decide +kernel, by decide +kernel⟩, List.mem_of_getElem? (i := 20) (by decide +kernel), List.mem_of_getElem? (i := 445) (by decide +kernel), List.mem_of_getElem? (i := 446) (by decide +kernel)⟩
theorem lw_p4 : lw_okq (⟨"BlockBells$Section", "addTokens", "(II)V"⟩, 6) := ⟨⟨by decide +kernel, by decide +kernel⟩, List.mem_of_getElem? (i := 29) (by decide +kernel), List.mem_of_getElem? (i := 466) (by decide +kernel), List.mem_of_getElem? (i := 467) (by decide +kernel)⟩
theorem lw_p5 : lw_okq (⟨"BlockBells$Line", "ringAhead", "(LBlockBells$Block;I)I"⟩, 8) := ⟨⟨by decide +kernel, by decide +kernel⟩, List.mem_of_getElem? (i := 20) (by decide +kernel), List.mem_of_getElem? (i := 470) (by decide +kernel), List.mem_of_getElem? (i := 471) (by decide +kernel)⟩
theorem lw_p6 : lw_okq (⟨"BlockBells$Register", "oldest", "()I"⟩, 2) := ⟨⟨by decide +kernel, by decide +kernel⟩, List.mem_of_getElem? (i := 142) (by decide +kernel), List.mem_of_getElem? (i := 591) (by decide +kernel), List.mem_of_getElem? (i := 592) (by decide +kernel)⟩
theorem lw_p7 : lw_okq (⟨"BlockBells$Line", "clearSections", "()V"⟩, 8) := ⟨⟨by decide +kernel, by decide +kernel⟩, List.mem_of_getElem? (i := 20) (by decide +kernel), List.mem_of_getElem? (i := 612) (by decide +kernel), List.mem_of_getElem? (i := 613) (by decide +kernel)⟩
theorem lw_p8 : lw_okq (⟨"BlockBells$Line", "leaveAll", "()I"⟩, 8) := ⟨⟨by decide +kernel, by decide +kernel⟩, List.mem_of_getElem? (i := 20) (by decide +kernel), List.mem_of_getElem? (i := 619) (by decide +kernel), List.mem_of_getElem? (i := 620) (by decide +kernel)⟩
theorem lw_p9 : lw_okq (⟨"BlockBells$Line", "offerAll", "()V"⟩, 8) := ⟨⟨by decide +kernel, by decide +kernel⟩, List.mem_of_getElem? (i := 20) (by decide +kernel), List.mem_of_getElem? (i := 624) (by decide +kernel), List.mem_of_getElem? (i := 625) (by decide +kernel)⟩
theorem lw_p10 : lw_okq (⟨"BlockBells$Line", "answerAll", "()V"⟩, 8) := ⟨⟨by decide +kernel, by decide +kernel⟩, List.mem_of_getElem? (i := 20) (by decide +kernel), List.mem_of_getElem? (i := 629) (by decide +kernel), List.mem_of_getElem? (i := 630) (by decide +kernel)⟩
theorem lw_p11 : lw_okq (⟨"BlockBells$Line", "departAll", "()V"⟩, 8) := ⟨⟨by decide +kernel, by decide +kernel⟩, List.mem_of_getElem? (i := 20) (by decide +kernel), List.mem_of_getElem? (i := 635) (by decide +kernel), List.mem_of_getElem? (i := 636) (by decide +kernel)⟩
theorem lw_p12 : lw_okq (⟨"BlockBells$Pad", "readSign", "(I)V"⟩, 6) := ⟨⟨by decide +kernel, by decide +kernel⟩, List.mem_of_getElem? (i := 204) (by decide +kernel), List.mem_of_getElem? (i := 731) (by decide +kernel), List.mem_of_getElem? (i := 732) (by decide +kernel)⟩
theorem lw_p13 : lw_okq (⟨"BlockBells", "obey", "(III)I"⟩, 5) := ⟨⟨by decide +kernel, by decide +kernel⟩, List.mem_of_getElem? (i := 12) (by decide +kernel), List.mem_of_getElem? (i := 735) (by decide +kernel), List.mem_of_getElem? (i := 736) (by decide +kernel)⟩
theorem lw_p14 : lw_okq (⟨"BlockBellsModel", "lay", "(II)V"⟩, 10) := ⟨⟨by decide +kernel, by decide +kernel⟩, List.mem_of_getElem? (i := 770) (by decide +kernel), List.mem_of_getElem? (i := 776) (by decide +kernel), List.mem_of_getElem? (i := 777) (by decide +kernel)⟩
theorem lw_p15 : lw_okq (⟨"BlockBellsModel", "layBlocks", "()V"⟩, 10) := ⟨⟨by decide +kernel, by decide +kernel⟩, List.mem_of_getElem? (i := 770) (by decide +kernel), List.mem_of_getElem? (i := 780) (by decide +kernel), List.mem_of_getElem? (i := 781) (by decide +kernel)⟩
def lw_privs_1 : List (MethodName × Nat) := [(⟨"BlockBells$Line", "shuntToLoop", "(LBlockBells$Train;)I"⟩, 8), (⟨"BlockBells$Line", "shuntBack", "(LBlockBells$Train;)I"⟩, 8), (⟨"BlockBells$Line", "ringRear", "(LBlockBells$Block;I)I"⟩, 8), (⟨"BlockBells$Line", "isTokenReady", "(LBlockBells$Block;)Z"⟩, 8), (⟨"BlockBells$Section", "addTokens", "(II)V"⟩, 6), (⟨"BlockBells$Line", "ringAhead", "(LBlockBells$Block;I)I"⟩, 8), (⟨"BlockBells$Register", "oldest", "()I"⟩, 2), (⟨"BlockBells$Line", "clearSections", "()V"⟩, 8), (⟨"BlockBells$Line", "leaveAll", "()I"⟩, 8), (⟨"BlockBells$Line", "offerAll", "()V"⟩, 8), (⟨"BlockBells$Line", "answerAll", "()V"⟩, 8), (⟨"BlockBells$Line", "departAll", "()V"⟩, 8), (⟨"BlockBells$Pad", "readSign", "(I)V"⟩, 6), (⟨"BlockBells", "obey", "(III)I"⟩, 5), (⟨"BlockBellsModel", "lay", "(II)V"⟩, 10), (⟨"BlockBellsModel", "layBlocks", "()V"⟩, 10)]
theorem lw_r1 : ∀ q ∈ lw_privs_1, lw_okq q := List.forall_mem_cons.mpr ⟨lw_p0, List.forall_mem_cons.mpr ⟨lw_p1, List.forall_mem_cons.mpr ⟨lw_p2, List.forall_mem_cons.mpr ⟨lw_p3, List.forall_mem_cons.mpr ⟨lw_p4, List.forall_mem_cons.mpr ⟨lw_p5, List.forall_mem_cons.mpr ⟨lw_p6, List.forall_mem_cons.mpr ⟨lw_p7, List.forall_mem_cons.mpr ⟨lw_p8, List.forall_mem_cons.mpr ⟨lw_p9, List.forall_mem_cons.mpr ⟨lw_p10, List.forall_mem_cons.mpr ⟨lw_p11, List.forall_mem_cons.mpr ⟨lw_p12, List.forall_mem_cons.mpr ⟨lw_p13, List.forall_mem_cons.mpr ⟨lw_p14, List.forall_mem_cons.mpr ⟨lw_p15, fun _ h => absurd h List.not_mem_nil⟩⟩⟩⟩⟩⟩⟩⟩⟩⟩⟩⟩⟩⟩⟩⟩
theorem lw_p16 : lw_okq (⟨"BlockBellsModel", "isSection", "(I)Z"⟩, 10) := ⟨⟨by decide +kernel, by decide +kernel⟩, List.mem_of_getElem? (i := 770) (by decide +kernel), List.mem_of_getElem? (i := 826) (by decide +kernel), List.mem_of_getElem? (i := 827) (by decide +kernel)⟩
theorem lw_p17 : lw_okq (⟨"BlockBellsModel", "sections", "()I"⟩, 10) := ⟨⟨by decide +kernel, by decide +kernel⟩, List.mem_of_getElem? (i := 770) (by decide +kernel), List.mem_of_getElem? (i := 830) (by decide +kernel), List.mem_of_getElem? (i := 831) (by decide +kernel)⟩
theorem lw_p18 : lw_okq (⟨"BlockBellsModel", "many", "(III)I"⟩, 10) := ⟨⟨by decide +kernel, by decide +kernel⟩, List.mem_of_getElem? (i := 770) (by decide +kernel), List.mem_of_getElem? (i := 841) (by decide +kernel), List.mem_of_getElem? (i := 842) (by decide +kernel)⟩
theorem lw_p19 : lw_okq (⟨"BlockBellsModel", "ofTrain", "(II)I"⟩, 10) := ⟨⟨by decide +kernel, by decide +kernel⟩, List.mem_of_getElem? (i := 770) (by decide +kernel), List.mem_of_getElem? (i := 845) (by decide +kernel), List.mem_of_getElem? (i := 846) (by decide +kernel)⟩
theorem lw_p20 : lw_okq (⟨"BlockBellsModel", "isSingle", "(I)Z"⟩, 10) := ⟨⟨by decide +kernel, by decide +kernel⟩, List.mem_of_getElem? (i := 770) (by decide +kernel), List.mem_of_getElem? (i := 853) (by decide +kernel), List.mem_of_getElem? (i := 854) (by decide +kernel)⟩
theorem lw_p21 : lw_okq (⟨"BlockBellsModel", "isTokenOut", "(I)Z"⟩, 10) := ⟨⟨by decide +kernel, by decide +kernel⟩, List.mem_of_getElem? (i := 770) (by decide +kernel), List.mem_of_getElem? (i := 861) (by decide +kernel), List.mem_of_getElem? (i := 862) (by decide +kernel)⟩
theorem lw_p22 : lw_okq (⟨"BlockBellsModel", "ofBlock", "(III)I"⟩, 10) := ⟨⟨by decide +kernel, by decide +kernel⟩, List.mem_of_getElem? (i := 770) (by decide +kernel), List.mem_of_getElem? (i := 865) (by decide +kernel), List.mem_of_getElem? (i := 866) (by decide +kernel)⟩
theorem lw_p23 : lw_okq (⟨"BlockBellsModel", "isBlock", "(II)Z"⟩, 10) := ⟨⟨by decide +kernel, by decide +kernel⟩, List.mem_of_getElem? (i := 770) (by decide +kernel), List.mem_of_getElem? (i := 876) (by decide +kernel), List.mem_of_getElem? (i := 877) (by decide +kernel)⟩
theorem lw_p24 : lw_okq (⟨"BlockBellsModel", "firstBox", "(I)I"⟩, 10) := ⟨⟨by decide +kernel, by decide +kernel⟩, List.mem_of_getElem? (i := 770) (by decide +kernel), List.mem_of_getElem? (i := 884) (by decide +kernel), List.mem_of_getElem? (i := 885) (by decide +kernel)⟩
theorem lw_p25 : lw_okq (⟨"BlockBellsModel", "isFree", "(II)Z"⟩, 10) := ⟨⟨by decide +kernel, by decide +kernel⟩, List.mem_of_getElem? (i := 770) (by decide +kernel), List.mem_of_getElem? (i := 888) (by decide +kernel), List.mem_of_getElem? (i := 889) (by decide +kernel)⟩
theorem lw_p26 : lw_okq (⟨"BlockBellsModel", "add", "(II)I"⟩, 10) := ⟨⟨by decide +kernel, by decide +kernel⟩, List.mem_of_getElem? (i := 770) (by decide +kernel), List.mem_of_getElem? (i := 892) (by decide +kernel), List.mem_of_getElem? (i := 893) (by decide +kernel)⟩
theorem lw_p27 : lw_okq (⟨"BlockBellsModel", "layTrain", "(III)V"⟩, 10) := ⟨⟨by decide +kernel, by decide +kernel⟩, List.mem_of_getElem? (i := 770) (by decide +kernel), List.mem_of_getElem? (i := 896) (by decide +kernel), List.mem_of_getElem? (i := 897) (by decide +kernel)⟩
theorem lw_p28 : lw_okq (⟨"BlockBellsModel", "isTrain", "(I)Z"⟩, 10) := ⟨⟨by decide +kernel, by decide +kernel⟩, List.mem_of_getElem? (i := 770) (by decide +kernel), List.mem_of_getElem? (i := 904) (by decide +kernel), List.mem_of_getElem? (i := 905) (by decide +kernel)⟩
theorem lw_p29 : lw_okq (⟨"BlockBellsModel", "canGoIn", "(I)Z"⟩, 10) := ⟨⟨by decide +kernel, by decide +kernel⟩, List.mem_of_getElem? (i := 770) (by decide +kernel), List.mem_of_getElem? (i := 912) (by decide +kernel), List.mem_of_getElem? (i := 913) (by decide +kernel)⟩
theorem lw_p30 : lw_okq (⟨"BlockBellsModel", "isOffered", "(I)Z"⟩, 10) := ⟨⟨by decide +kernel, by decide +kernel⟩, List.mem_of_getElem? (i := 770) (by decide +kernel), List.mem_of_getElem? (i := 916) (by decide +kernel), List.mem_of_getElem? (i := 917) (by decide +kernel)⟩
theorem lw_p31 : lw_okq (⟨"BlockBellsModel", "nextSection", "(I)I"⟩, 10) := ⟨⟨by decide +kernel, by decide +kernel⟩, List.mem_of_getElem? (i := 770) (by decide +kernel), List.mem_of_getElem? (i := 920) (by decide +kernel), List.mem_of_getElem? (i := 921) (by decide +kernel)⟩
def lw_privs_2 : List (MethodName × Nat) := [(⟨"BlockBellsModel", "isSection", "(I)Z"⟩, 10), (⟨"BlockBellsModel", "sections", "()I"⟩, 10), (⟨"BlockBellsModel", "many", "(III)I"⟩, 10), (⟨"BlockBellsModel", "ofTrain", "(II)I"⟩, 10), (⟨"BlockBellsModel", "isSingle", "(I)Z"⟩, 10), (⟨"BlockBellsModel", "isTokenOut", "(I)Z"⟩, 10), (⟨"BlockBellsModel", "ofBlock", "(III)I"⟩, 10), (⟨"BlockBellsModel", "isBlock", "(II)Z"⟩, 10), (⟨"BlockBellsModel", "firstBox", "(I)I"⟩, 10), (⟨"BlockBellsModel", "isFree", "(II)Z"⟩, 10), (⟨"BlockBellsModel", "add", "(II)I"⟩, 10), (⟨"BlockBellsModel", "layTrain", "(III)V"⟩, 10), (⟨"BlockBellsModel", "isTrain", "(I)Z"⟩, 10), (⟨"BlockBellsModel", "canGoIn", "(I)Z"⟩, 10), (⟨"BlockBellsModel", "isOffered", "(I)Z"⟩, 10), (⟨"BlockBellsModel", "nextSection", "(I)I"⟩, 10)]
theorem lw_r2 : ∀ q ∈ lw_privs_2, lw_okq q := List.forall_mem_cons.mpr ⟨lw_p16, List.forall_mem_cons.mpr ⟨lw_p17, List.forall_mem_cons.mpr ⟨lw_p18, List.forall_mem_cons.mpr ⟨lw_p19, List.forall_mem_cons.mpr ⟨lw_p20, List.forall_mem_cons.mpr ⟨lw_p21, List.forall_mem_cons.mpr ⟨lw_p22, List.forall_mem_cons.mpr ⟨lw_p23, List.forall_mem_cons.mpr ⟨lw_p24, List.forall_mem_cons.mpr ⟨lw_p25, List.forall_mem_cons.mpr ⟨lw_p26, List.forall_mem_cons.mpr ⟨lw_p27, List.forall_mem_cons.mpr ⟨lw_p28, List.forall_mem_cons.mpr ⟨lw_p29, List.forall_mem_cons.mpr ⟨lw_p30, List.forall_mem_cons.mpr ⟨lw_p31, fun _ h => absurd h List.not_mem_nil⟩⟩⟩⟩⟩⟩⟩⟩⟩⟩⟩⟩⟩⟩⟩⟩
theorem lw_p32 : lw_okq (⟨"BlockBellsModel", "isClearFor", "(I)Z"⟩, 10) := ⟨⟨by decide +kernel, by decide +kernel⟩, List.mem_of_getElem? (i := 770) (by decide +kernel), List.mem_of_getElem? (i := 924) (by decide +kernel), List.mem_of_getElem? (i := 925) (by decide +kernel)⟩
theorem lw_p33 : lw_okq (⟨"BlockBellsModel", "isCalmBehind", "(I)Z"⟩, 10) := ⟨⟨by decide +kernel, by decide +kernel⟩, List.mem_of_getElem? (i := 770) (by decide +kernel), List.mem_of_getElem? (i := 928) (by decide +kernel), List.mem_of_getElem? (i := 929) (by decide +kernel)⟩
theorem lw_p34 : lw_okq (⟨"BlockBellsModel", "ring", "(IIII)I"⟩, 10) := ⟨⟨by decide +kernel, by decide +kernel⟩, List.mem_of_getElem? (i := 770) (by decide +kernel), List.mem_of_getElem? (i := 950) (by decide +kernel), List.mem_of_getElem? (i := 951) (by decide +kernel)⟩
theorem lw_p35 : lw_okq (⟨"BlockBellsModel", "canAccept", "(II)Z"⟩, 10) := ⟨⟨by decide +kernel, by decide +kernel⟩, List.mem_of_getElem? (i := 770) (by decide +kernel), List.mem_of_getElem? (i := 958) (by decide +kernel), List.mem_of_getElem? (i := 959) (by decide +kernel)⟩
theorem lw_p36 : lw_okq (⟨"BlockBellsModel", "unclear", "(II)V"⟩, 10) := ⟨⟨by decide +kernel, by decide +kernel⟩, List.mem_of_getElem? (i := 770) (by decide +kernel), List.mem_of_getElem? (i := 972) (by decide +kernel), List.mem_of_getElem? (i := 973) (by decide +kernel)⟩
theorem lw_p37 : lw_okq (⟨"BlockBellsModel", "isInside", "(II)Z"⟩, 10) := ⟨⟨by decide +kernel, by decide +kernel⟩, List.mem_of_getElem? (i := 770) (by decide +kernel), List.mem_of_getElem? (i := 984) (by decide +kernel), List.mem_of_getElem? (i := 985) (by decide +kernel)⟩
theorem lw_p38 : lw_okq (⟨"BlockBellsModel", "tick", "()V"⟩, 10) := ⟨⟨by decide +kernel, by decide +kernel⟩, List.mem_of_getElem? (i := 770) (by decide +kernel), List.mem_of_getElem? (i := 1009) (by decide +kernel), List.mem_of_getElem? (i := 1010) (by decide +kernel)⟩
theorem lw_p39 : lw_okq (⟨"BlockBellsModel", "trainsAt", "(I)I"⟩, 10) := ⟨⟨by decide +kernel, by decide +kernel⟩, List.mem_of_getElem? (i := 770) (by decide +kernel), List.mem_of_getElem? (i := 1025) (by decide +kernel), List.mem_of_getElem? (i := 1026) (by decide +kernel)⟩
theorem lw_p40 : lw_okq (⟨"BlockBellsModel", "workTick", "()V"⟩, 10) := ⟨⟨by decide +kernel, by decide +kernel⟩, List.mem_of_getElem? (i := 770) (by decide +kernel), List.mem_of_getElem? (i := 1029) (by decide +kernel), List.mem_of_getElem? (i := 1030) (by decide +kernel)⟩
theorem lw_p41 : lw_okq (⟨"BlockBellsModel", "workBlocks", "(I)V"⟩, 10) := ⟨⟨by decide +kernel, by decide +kernel⟩, List.mem_of_getElem? (i := 770) (by decide +kernel), List.mem_of_getElem? (i := 1033) (by decide +kernel), List.mem_of_getElem? (i := 1034) (by decide +kernel)⟩
theorem lw_p42 : lw_okq (⟨"BlockBellsModel", "workTrains", "(I)V"⟩, 10) := ⟨⟨by decide +kernel, by decide +kernel⟩, List.mem_of_getElem? (i := 770) (by decide +kernel), List.mem_of_getElem? (i := 1041) (by decide +kernel), List.mem_of_getElem? (i := 1042) (by decide +kernel)⟩
theorem lw_p43 : lw_okq (⟨"BlockBellsModel", "putAside", "()V"⟩, 10) := ⟨⟨by decide +kernel, by decide +kernel⟩, List.mem_of_getElem? (i := 770) (by decide +kernel), List.mem_of_getElem? (i := 1052) (by decide +kernel), List.mem_of_getElem? (i := 1053) (by decide +kernel)⟩
theorem lw_p44 : lw_okq (⟨"BlockBellsModel", "putBack", "()V"⟩, 10) := ⟨⟨by decide +kernel, by decide +kernel⟩, List.mem_of_getElem? (i := 770) (by decide +kernel), List.mem_of_getElem? (i := 1056) (by decide +kernel), List.mem_of_getElem? (i := 1057) (by decide +kernel)⟩
theorem lw_p45 : lw_okq (⟨"BlockBellsModel", "readOrder", "()V"⟩, 10) := ⟨⟨by decide +kernel, by decide +kernel⟩, List.mem_of_getElem? (i := 770) (by decide +kernel), List.mem_of_getElem? (i := 1076) (by decide +kernel), List.mem_of_getElem? (i := 1077) (by decide +kernel)⟩
theorem lw_p46 : lw_okq (⟨"BlockBellsModel", "nextSign", "()I"⟩, 10) := ⟨⟨by decide +kernel, by decide +kernel⟩, List.mem_of_getElem? (i := 770) (by decide +kernel), List.mem_of_getElem? (i := 1080) (by decide +kernel), List.mem_of_getElem? (i := 1081) (by decide +kernel)⟩
theorem lw_p47 : lw_okq (⟨"BlockBellsModel", "takeNumber", "(II)I"⟩, 10) := ⟨⟨by decide +kernel, by decide +kernel⟩, List.mem_of_getElem? (i := 770) (by decide +kernel), List.mem_of_getElem? (i := 1090) (by decide +kernel), List.mem_of_getElem? (i := 1091) (by decide +kernel)⟩
def lw_privs_3 : List (MethodName × Nat) := [(⟨"BlockBellsModel", "isClearFor", "(I)Z"⟩, 10), (⟨"BlockBellsModel", "isCalmBehind", "(I)Z"⟩, 10), (⟨"BlockBellsModel", "ring", "(IIII)I"⟩, 10), (⟨"BlockBellsModel", "canAccept", "(II)Z"⟩, 10), (⟨"BlockBellsModel", "unclear", "(II)V"⟩, 10), (⟨"BlockBellsModel", "isInside", "(II)Z"⟩, 10), (⟨"BlockBellsModel", "tick", "()V"⟩, 10), (⟨"BlockBellsModel", "trainsAt", "(I)I"⟩, 10), (⟨"BlockBellsModel", "workTick", "()V"⟩, 10), (⟨"BlockBellsModel", "workBlocks", "(I)V"⟩, 10), (⟨"BlockBellsModel", "workTrains", "(I)V"⟩, 10), (⟨"BlockBellsModel", "putAside", "()V"⟩, 10), (⟨"BlockBellsModel", "putBack", "()V"⟩, 10), (⟨"BlockBellsModel", "readOrder", "()V"⟩, 10), (⟨"BlockBellsModel", "nextSign", "()I"⟩, 10), (⟨"BlockBellsModel", "takeNumber", "(II)I"⟩, 10)]
theorem lw_r3 : ∀ q ∈ lw_privs_3, lw_okq q := List.forall_mem_cons.mpr ⟨lw_p32, List.forall_mem_cons.mpr ⟨lw_p33, List.forall_mem_cons.mpr ⟨lw_p34, List.forall_mem_cons.mpr ⟨lw_p35, List.forall_mem_cons.mpr ⟨lw_p36, List.forall_mem_cons.mpr ⟨lw_p37, List.forall_mem_cons.mpr ⟨lw_p38, List.forall_mem_cons.mpr ⟨lw_p39, List.forall_mem_cons.mpr ⟨lw_p40, List.forall_mem_cons.mpr ⟨lw_p41, List.forall_mem_cons.mpr ⟨lw_p42, List.forall_mem_cons.mpr ⟨lw_p43, List.forall_mem_cons.mpr ⟨lw_p44, List.forall_mem_cons.mpr ⟨lw_p45, List.forall_mem_cons.mpr ⟨lw_p46, List.forall_mem_cons.mpr ⟨lw_p47, fun _ h => absurd h List.not_mem_nil⟩⟩⟩⟩⟩⟩⟩⟩⟩⟩⟩⟩⟩⟩⟩⟩
theorem lw_p48 : lw_okq (⟨"BlockBellsModel", "takeSide", "()I"⟩, 10) := ⟨⟨by decide +kernel, by decide +kernel⟩, List.mem_of_getElem? (i := 770) (by decide +kernel), List.mem_of_getElem? (i := 1094) (by decide +kernel), List.mem_of_getElem? (i := 1095) (by decide +kernel)⟩
theorem lw_p49 : lw_okq (⟨"BlockBellsModel", "carryOutOne", "(III)I"⟩, 10) := ⟨⟨by decide +kernel, by decide +kernel⟩, List.mem_of_getElem? (i := 770) (by decide +kernel), List.mem_of_getElem? (i := 1103) (by decide +kernel), List.mem_of_getElem? (i := 1104) (by decide +kernel)⟩
theorem lw_p50 : lw_okq (⟨"BlockBellsModel", "blocksWith", "(I)I"⟩, 10) := ⟨⟨by decide +kernel, by decide +kernel⟩, List.mem_of_getElem? (i := 770) (by decide +kernel), List.mem_of_getElem? (i := 1114) (by decide +kernel), List.mem_of_getElem? (i := 1115) (by decide +kernel)⟩
def lw_privs_4 : List (MethodName × Nat) := [(⟨"BlockBellsModel", "takeSide", "()I"⟩, 10), (⟨"BlockBellsModel", "carryOutOne", "(III)I"⟩, 10), (⟨"BlockBellsModel", "blocksWith", "(I)I"⟩, 10)]
theorem lw_r4 : ∀ q ∈ lw_privs_4, lw_okq q := List.forall_mem_cons.mpr ⟨lw_p48, List.forall_mem_cons.mpr ⟨lw_p49, List.forall_mem_cons.mpr ⟨lw_p50, fun _ h => absurd h List.not_mem_nil⟩⟩⟩
def lw_privs : List (MethodName × Nat) := lw_privs_1 ++ (lw_privs_2 ++ (lw_privs_3 ++ (lw_privs_4)))
def lw_tbl : List Cond := k2_sels lw_privs ++ tables_1
theorem lw_privs_ok : ∀ q ∈ lw_privs, lw_okq q := by
  show ∀ q ∈ lw_privs_1 ++ (lw_privs_2 ++ (lw_privs_3 ++ (lw_privs_4))), lw_okq q
  exact List.forall_mem_append.mpr ⟨lw_r1, List.forall_mem_append.mpr ⟨lw_r2, List.forall_mem_append.mpr ⟨lw_r3, lw_r4⟩⟩⟩
/-! ===== BEGIN words of one list among another's, by their places ===== -/
theorem goodIn_r {big : List Cond} (ws : List Cond) (ps : List Nat) (hp : ws = ps.filterMap (fun i => big[i]?)) (h : ws.all goodWord = true) : GoodIn big ws := by
  intro w hw
  have h1 := List.all_eq_true.mp h w hw
  rw [hp] at hw
  obtain ⟨i, -, hi⟩ := List.mem_filterMap.mp hw
  have hm : w ∈ big := by first | exact List.mem_of_getElem? hi | exact List.getElem?_mem hi
  exact ⟨hm, good_of_word h1⟩
theorem goodIn_app {big a b : List Cond} (ha : GoodIn big a) (hb : GoodIn big b) : GoodIn big (a ++ b) := fun w h => (List.mem_append.mp h).elim (ha w) (hb w)
theorem goodIn_ca {big a b : List Cond} {c : Cond} (ha : GoodIn big (c :: a)) (hb : GoodIn big b) : GoodIn big (c :: (a ++ b)) := fun w h => (List.mem_cons.mp h).elim (fun e => ha w (List.mem_cons.mpr (Or.inl e))) (fun h => (List.mem_append.mp h).elim (fun h => ha w (List.mem_cons.mpr (Or.inr h))) (hb w))
theorem goodIn_sub {big ws : List Cond} (hm : ∀ w ∈ ws, w ∈ big) (h : ws.all goodWord = true) : GoodIn big ws := fun w hw => ⟨hm w hw, good_of_word (List.all_eq_true.mp h w hw)⟩
/-! ===== END ===== -/

/-! ===== BEGIN printed: names, fields, word lists, decode rows ===== -/
def RX0 : String := "BlockBells$Block"
def TX0 : u_T := fun k => match k with
  | 0 => ("BlockBells$Block", "section", "LBlockBells$Section;", true)
  | 1 => ("BlockBells$Block", "direction", "I", true)
  | 2 => ("BlockBells$Block", "state", "I", false)
  | 3 => ("BlockBells$Block", "offered", "I", false)
  | 4 => ("BlockBells$Block", "holder", "I", false)
  | 5 => ("BlockBells$Block", "part", "Z", false)
  | _ => ("BlockBells$Block", "engineTicks", "I", false)
def tyX0 : Nat → FieldType := fun k => match k with
  | 0 => .object "BlockBells$Section"
  | 1 => .int
  | 2 => .int
  | 3 => .int
  | 4 => .int
  | 5 => .boolean
  | _ => .int
abbrev wsX00 : List Cond := u_ws RX0 TX0 7
theorem nmX0 : ∀ a, a < 7 → ∀ b, b < 7 → a ≠ b → (TX0 a).2.1 ≠ (TX0 b).2.1 := by decide +kernel
theorem tyX0_ok : ∀ k, k < 7 → parseFieldDescriptor (TX0 k).2.2.1 = some (tyX0 k) := by decide +kernel
abbrev cX0_init : ByteArray := prog_2_method_1_code
def yX0_init : MethodName := ⟨RX0, "<init>", "(LBlockBells$Section;I)V"⟩
abbrev cX0_reset : ByteArray := prog_2_method_2_code
def yX0_reset : MethodName := ⟨RX0, "reset", "()V"⟩
abbrev cX0_copyFrom : ByteArray := prog_2_method_3_code
def yX0_copyFrom : MethodName := ⟨RX0, "copyFrom", "(LBlockBells$Block;)V"⟩
abbrev cX0_property : ByteArray := prog_2_method_4_code
def yX0_property : MethodName := ⟨RX0, "property", "(I)I"⟩
abbrev cX0_rearBox : ByteArray := prog_2_method_5_code
def yX0_rearBox : MethodName := ⟨RX0, "rearBox", "()I"⟩
abbrev cX0_boxAhead : ByteArray := prog_2_method_6_code
def yX0_boxAhead : MethodName := ⟨RX0, "boxAhead", "()I"⟩
abbrev cX0_rearEnd : ByteArray := prog_2_method_7_code
def yX0_rearEnd : MethodName := ⟨RX0, "rearEnd", "()I"⟩
abbrev cX0_endAhead : ByteArray := prog_2_method_8_code
def yX0_endAhead : MethodName := ⟨RX0, "endAhead", "()I"⟩
abbrev cX0_makeClear : ByteArray := prog_2_method_9_code
def yX0_makeClear : MethodName := ⟨RX0, "makeClear", "()V"⟩
abbrev cX0_takeBack : ByteArray := prog_2_method_10_code
def yX0_takeBack : MethodName := ⟨RX0, "takeBack", "(I)V"⟩
abbrev cX0_makeFree : ByteArray := prog_2_method_11_code
def yX0_makeFree : MethodName := ⟨RX0, "makeFree", "()V"⟩
abbrev cX0_letPass : ByteArray := prog_2_method_12_code
def yX0_letPass : MethodName := ⟨RX0, "letPass", "(I)V"⟩
def RX1 : String := "BlockBells$Line"
def TX1 : u_T := fun k => match k with
  | 0 => ("BlockBells$Line", "sections", "[LBlockBells$Section;", true)
  | 1 => ("BlockBells$Line", "blocks", "[LBlockBells$Block;", true)
  | 2 => ("BlockBells$Line", "trains", "[LBlockBells$Train;", true)
  | 3 => ("BlockBells$Line", "loops", "[I", true)
  | 4 => ("BlockBells$Line", "register", "LBlockBells$Register;", true)
  | 5 => ("BlockBells$Line", "boxes", "I", false)
  | 6 => ("BlockBells$Line", "appeared", "I", false)
  | _ => ("BlockBells$Line", "time", "I", false)
def tyX1 : Nat → FieldType := fun k => match k with
  | 0 => .array (.object "BlockBells$Section")
  | 1 => .array (.object "BlockBells$Block")
  | 2 => .array (.object "BlockBells$Train")
  | 3 => .array .int
  | 4 => .object "BlockBells$Register"
  | 5 => .int
  | 6 => .int
  | _ => .int
abbrev wsX10 : List Cond := u_ws RX1 TX1 8
theorem nmX1 : ∀ a, a < 8 → ∀ b, b < 8 → a ≠ b → (TX1 a).2.1 ≠ (TX1 b).2.1 := by decide +kernel
theorem tyX1_ok : ∀ k, k < 8 → parseFieldDescriptor (TX1 k).2.2.1 = some (tyX1 k) := by decide +kernel
abbrev cX1_init : ByteArray := prog_3_method_1_code
def yX1_init : MethodName := ⟨RX1, "<init>", "()V"⟩
abbrev cX1_layOut : ByteArray := prog_3_method_2_code
def yX1_layOut : MethodName := ⟨RX1, "layOut", "(II)V"⟩
abbrev cX1_clearTraffic : ByteArray := prog_3_method_3_code
def yX1_clearTraffic : MethodName := ⟨RX1, "clearTraffic", "()V"⟩
abbrev cX1_copyFrom : ByteArray := prog_3_method_4_code
def yX1_copyFrom : MethodName := ⟨RX1, "copyFrom", "(LBlockBells$Line;)V"⟩
abbrev cX1_hasBox : ByteArray := prog_3_method_5_code
def yX1_hasBox : MethodName := ⟨RX1, "hasBox", "(I)Z"⟩
abbrev cX1_sectionAt : ByteArray := prog_3_method_6_code
def yX1_sectionAt : MethodName := ⟨RX1, "sectionAt", "(I)LBlockBells$Section;"⟩
abbrev cX1_blockAt : ByteArray := prog_3_method_7_code
def yX1_blockAt : MethodName := ⟨RX1, "blockAt", "(II)LBlockBells$Block;"⟩
abbrev cX1_trainAt : ByteArray := prog_3_method_8_code
def yX1_trainAt : MethodName := ⟨RX1, "trainAt", "(I)LBlockBells$Train;"⟩
abbrev cX1_isGone : ByteArray := prog_3_method_9_code
def yX1_isGone : MethodName := ⟨RX1, "isGone", "(I)Z"⟩
abbrev cX1_blockCount : ByteArray := prog_3_method_10_code
def yX1_blockCount : MethodName := ⟨RX1, "blockCount", "()I"⟩
abbrev cX1_firstBox : ByteArray := prog_3_method_11_code
def yX1_firstBox : MethodName := ⟨RX1, "firstBox", "(I)I"⟩
abbrev cX1_lastBox : ByteArray := prog_3_method_12_code
def yX1_lastBox : MethodName := ⟨RX1, "lastBox", "(I)I"⟩
abbrev cX1_isLineFree : ByteArray := prog_3_method_13_code
def yX1_isLineFree : MethodName := ⟨RX1, "isLineFree", "(II)Z"⟩
abbrev cX1_trainsStanding : ByteArray := prog_3_method_14_code
def yX1_trainsStanding : MethodName := ⟨RX1, "trainsStanding", "(III)I"⟩
abbrev cX1_nextBlock : ByteArray := prog_3_method_15_code
def yX1_nextBlock : MethodName := ⟨RX1, "nextBlock", "(LBlockBells$Train;)LBlockBells$Block;"⟩
abbrev cX1_blockTo : ByteArray := prog_3_method_16_code
def yX1_blockTo : MethodName := ⟨RX1, "blockTo", "(II)LBlockBells$Block;"⟩
abbrev cX1_trainInside : ByteArray := prog_3_method_17_code
def yX1_trainInside : MethodName := ⟨RX1, "trainInside", "(LBlockBells$Block;)LBlockBells$Train;"⟩
abbrev cX1_trainsThatAre : ByteArray := prog_3_method_18_code
def yX1_trainsThatAre : MethodName := ⟨RX1, "trainsThatAre", "(I)I"⟩
abbrev cX1_blocksOtherThan : ByteArray := prog_3_method_19_code
def yX1_blocksOtherThan : MethodName := ⟨RX1, "blocksOtherThan", "(II)I"⟩
abbrev cX1_changeLoops : ByteArray := prog_3_method_20_code
def yX1_changeLoops : MethodName := ⟨RX1, "changeLoops", "(III)I"⟩
abbrev cX1_bringNew : ByteArray := prog_3_method_21_code
def yX1_bringNew : MethodName := ⟨RX1, "bringNew", "(II)I"⟩
abbrev cX1_bringSpare : ByteArray := prog_3_method_22_code
def yX1_bringSpare : MethodName := ⟨RX1, "bringSpare", "(II)V"⟩
abbrev cX1_shuntTrain : ByteArray := prog_3_method_23_code
def yX1_shuntTrain : MethodName := ⟨RX1, "shuntTrain", "(LBlockBells$Train;)I"⟩
abbrev cX1_shuntToLoop : ByteArray := prog_3_method_24_code
def yX1_shuntToLoop : MethodName := ⟨RX1, "shuntToLoop", "(LBlockBells$Train;)I"⟩
abbrev cX1_shuntBack : ByteArray := prog_3_method_25_code
def yX1_shuntBack : MethodName := ⟨RX1, "shuntBack", "(LBlockBells$Train;)I"⟩
abbrev cX1_letLeave : ByteArray := prog_3_method_26_code
def yX1_letLeave : MethodName := ⟨RX1, "letLeave", "(LBlockBells$Train;)I"⟩
abbrev cX1_divideTrain : ByteArray := prog_3_method_27_code
def yX1_divideTrain : MethodName := ⟨RX1, "divideTrain", "(LBlockBells$Train;)I"⟩
abbrev cX1_ringRear : ByteArray := prog_3_method_28_code
def yX1_ringRear : MethodName := ⟨RX1, "ringRear", "(LBlockBells$Block;I)I"⟩
abbrev cX1_ringAhead : ByteArray := prog_3_method_29_code
def yX1_ringAhead : MethodName := ⟨RX1, "ringAhead", "(LBlockBells$Block;I)I"⟩
abbrev cX1_offerTrain : ByteArray := prog_3_method_30_code
def yX1_offerTrain : MethodName := ⟨RX1, "offerTrain", "(LBlockBells$Train;)I"⟩
abbrev cX1_accept : ByteArray := prog_3_method_31_code
def yX1_accept : MethodName := ⟨RX1, "accept", "(LBlockBells$Block;)I"⟩
abbrev cX1_isTokenReady : ByteArray := prog_3_method_32_code
def yX1_isTokenReady : MethodName := ⟨RX1, "isTokenReady", "(LBlockBells$Block;)Z"⟩
abbrev cX1_refuse : ByteArray := prog_3_method_33_code
def yX1_refuse : MethodName := ⟨RX1, "refuse", "(LBlockBells$Block;)I"⟩
abbrev cX1_cancelBlock : ByteArray := prog_3_method_34_code
def yX1_cancelBlock : MethodName := ⟨RX1, "cancelBlock", "(LBlockBells$Block;)I"⟩
abbrev cX1_letDepart : ByteArray := prog_3_method_35_code
def yX1_letDepart : MethodName := ⟨RX1, "letDepart", "(LBlockBells$Train;)I"⟩
abbrev cX1_admitTrain : ByteArray := prog_3_method_36_code
def yX1_admitTrain : MethodName := ⟨RX1, "admitTrain", "(LBlockBells$Block;)I"⟩
abbrev cX1_reportOut : ByteArray := prog_3_method_37_code
def yX1_reportOut : MethodName := ⟨RX1, "reportOut", "(LBlockBells$Block;)I"⟩
abbrev cX1_sendEngine : ByteArray := prog_3_method_38_code
def yX1_sendEngine : MethodName := ⟨RX1, "sendEngine", "(LBlockBells$Block;)I"⟩
abbrev cX1_obstructBlock : ByteArray := prog_3_method_39_code
def yX1_obstructBlock : MethodName := ⟨RX1, "obstructBlock", "(LBlockBells$Block;)I"⟩
abbrev cX1_liftBlock : ByteArray := prog_3_method_40_code
def yX1_liftBlock : MethodName := ⟨RX1, "liftBlock", "(LBlockBells$Block;)I"⟩
abbrev cX1_letPass : ByteArray := prog_3_method_41_code
def yX1_letPass : MethodName := ⟨RX1, "letPass", "(I)V"⟩
abbrev cX1_workTick : ByteArray := prog_3_method_42_code
def yX1_workTick : MethodName := ⟨RX1, "workTick", "()I"⟩
abbrev cX1_clearSections : ByteArray := prog_3_method_43_code
def yX1_clearSections : MethodName := ⟨RX1, "clearSections", "()V"⟩
abbrev cX1_leaveAll : ByteArray := prog_3_method_44_code
def yX1_leaveAll : MethodName := ⟨RX1, "leaveAll", "()I"⟩
abbrev cX1_offerAll : ByteArray := prog_3_method_45_code
def yX1_offerAll : MethodName := ⟨RX1, "offerAll", "()V"⟩
abbrev cX1_answerAll : ByteArray := prog_3_method_46_code
def yX1_answerAll : MethodName := ⟨RX1, "answerAll", "()V"⟩
abbrev cX1_departAll : ByteArray := prog_3_method_47_code
def yX1_departAll : MethodName := ⟨RX1, "departAll", "()V"⟩
def RX2 : String := "BlockBells$Pad"
def TX2 : u_T := fun k => match k with
  | 0 => ("BlockBells$Pad", "signs", "[I", true)
  | 1 => ("BlockBells$Pad", "length", "I", false)
  | 2 => ("BlockBells$Pad", "at", "I", false)
  | 3 => ("BlockBells$Pad", "letter", "I", false)
  | 4 => ("BlockBells$Pad", "number", "I", false)
  | _ => ("BlockBells$Pad", "direction", "I", false)
def tyX2 : Nat → FieldType := fun k => match k with
  | 0 => .array .int
  | 1 => .int
  | 2 => .int
  | 3 => .int
  | 4 => .int
  | _ => .int
abbrev wsX20 : List Cond := u_ws RX2 TX2 6
theorem nmX2 : ∀ a, a < 6 → ∀ b, b < 6 → a ≠ b → (TX2 a).2.1 ≠ (TX2 b).2.1 := by decide +kernel
theorem tyX2_ok : ∀ k, k < 6 → parseFieldDescriptor (TX2 k).2.2.1 = some (tyX2 k) := by decide +kernel
abbrev cX2_init : ByteArray := prog_4_method_1_code
def yX2_init : MethodName := ⟨RX2, "<init>", "()V"⟩
abbrev cX2_append : ByteArray := prog_4_method_2_code
def yX2_append : MethodName := ⟨RX2, "append", "(I)I"⟩
abbrev cX2_empty : ByteArray := prog_4_method_3_code
def yX2_empty : MethodName := ⟨RX2, "empty", "()I"⟩
abbrev cX2_firstFault : ByteArray := prog_4_method_4_code
def yX2_firstFault : MethodName := ⟨RX2, "firstFault", "()I"⟩
abbrev cX2_after : ByteArray := prog_4_method_5_code
def yX2_after : MethodName := ⟨RX2, "after", "(II)I"⟩
abbrev cX2_afterLetter : ByteArray := prog_4_method_6_code
def yX2_afterLetter : MethodName := ⟨RX2, "afterLetter", "(I)I"⟩
abbrev cX2_afterOrder : ByteArray := prog_4_method_7_code
def yX2_afterOrder : MethodName := ⟨RX2, "afterOrder", "(I)I"⟩
abbrev cX2_isBetween : ByteArray := prog_4_method_8_code
def yX2_isBetween : MethodName := ⟨RX2, "isBetween", "(III)Z"⟩
abbrev cX2_rewind : ByteArray := prog_4_method_9_code
def yX2_rewind : MethodName := ⟨RX2, "rewind", "()V"⟩
abbrev cX2_readOrder : ByteArray := prog_4_method_10_code
def yX2_readOrder : MethodName := ⟨RX2, "readOrder", "()Z"⟩
abbrev cX2_readSign : ByteArray := prog_4_method_11_code
def yX2_readSign : MethodName := ⟨RX2, "readSign", "(I)V"⟩
def RX3 : String := "BlockBells$Register"
def TX3 : u_T := fun k => match k with
  | 0 => ("BlockBells$Register", "rows", "[I", true)
  | _ => ("BlockBells$Register", "total", "I", false)
def tyX3 : Nat → FieldType := fun k => match k with
  | 0 => .array .int
  | _ => .int
abbrev wsX30 : List Cond := u_ws RX3 TX3 2
theorem nmX3 : ∀ a, a < 2 → ∀ b, b < 2 → a ≠ b → (TX3 a).2.1 ≠ (TX3 b).2.1 := by decide +kernel
theorem tyX3_ok : ∀ k, k < 2 → parseFieldDescriptor (TX3 k).2.2.1 = some (tyX3 k) := by decide +kernel
abbrev cX3_init : ByteArray := prog_5_method_1_code
def yX3_init : MethodName := ⟨RX3, "<init>", "()V"⟩
abbrev cX3_copyFrom : ByteArray := prog_5_method_2_code
def yX3_copyFrom : MethodName := ⟨RX3, "copyFrom", "(LBlockBells$Register;)V"⟩
abbrev cX3_record : ByteArray := prog_5_method_3_code
def yX3_record : MethodName := ⟨RX3, "record", "(ILBlockBells$Block;II)V"⟩
abbrev cX3_property : ByteArray := prog_5_method_4_code
def yX3_property : MethodName := ⟨RX3, "property", "(II)I"⟩
abbrev cX3_countOf : ByteArray := prog_5_method_5_code
def yX3_countOf : MethodName := ⟨RX3, "countOf", "(II)I"⟩
abbrev cX3_oldest : ByteArray := prog_5_method_6_code
def yX3_oldest : MethodName := ⟨RX3, "oldest", "()I"⟩
abbrev cX3_rowOf : ByteArray := prog_5_method_7_code
def yX3_rowOf : MethodName := ⟨RX3, "rowOf", "(I)I"⟩
def RX4 : String := "BlockBells$Section"
def TX4 : u_T := fun k => match k with
  | 0 => ("BlockBells$Section", "number", "I", true)
  | 1 => ("BlockBells$Section", "single", "Z", false)
  | 2 => ("BlockBells$Section", "runningTime", "I", false)
  | 3 => ("BlockBells$Section", "lowerTokens", "I", false)
  | 4 => ("BlockBells$Section", "higherTokens", "I", false)
  | _ => ("BlockBells$Section", "tokenOut", "Z", false)
def tyX4 : Nat → FieldType := fun k => match k with
  | 0 => .int
  | 1 => .boolean
  | 2 => .int
  | 3 => .int
  | 4 => .int
  | _ => .boolean
abbrev wsX40 : List Cond := u_ws RX4 TX4 6
theorem nmX4 : ∀ a, a < 6 → ∀ b, b < 6 → a ≠ b → (TX4 a).2.1 ≠ (TX4 b).2.1 := by decide +kernel
theorem tyX4_ok : ∀ k, k < 6 → parseFieldDescriptor (TX4 k).2.2.1 = some (tyX4 k) := by decide +kernel
abbrev cX4_init : ByteArray := prog_6_method_1_code
def yX4_init : MethodName := ⟨RX4, "<init>", "(I)V"⟩
abbrev cX4_layOut : ByteArray := prog_6_method_2_code
def yX4_layOut : MethodName := ⟨RX4, "layOut", "(Z)V"⟩
abbrev cX4_copyFrom : ByteArray := prog_6_method_3_code
def yX4_copyFrom : MethodName := ⟨RX4, "copyFrom", "(LBlockBells$Section;)V"⟩
abbrev cX4_property : ByteArray := prog_6_method_4_code
def yX4_property : MethodName := ⟨RX4, "property", "(I)I"⟩
abbrev cX4_moveUp : ByteArray := prog_6_method_5_code
def yX4_moveUp : MethodName := ⟨RX4, "moveUp", "(I)I"⟩
abbrev cX4_hasToken : ByteArray := prog_6_method_6_code
def yX4_hasToken : MethodName := ⟨RX4, "hasToken", "(I)Z"⟩
abbrev cX4_takeToken : ByteArray := prog_6_method_7_code
def yX4_takeToken : MethodName := ⟨RX4, "takeToken", "(I)V"⟩
abbrev cX4_putToken : ByteArray := prog_6_method_8_code
def yX4_putToken : MethodName := ⟨RX4, "putToken", "(I)V"⟩
abbrev cX4_addTokens : ByteArray := prog_6_method_9_code
def yX4_addTokens : MethodName := ⟨RX4, "addTokens", "(II)V"⟩
def RX5 : String := "BlockBells$Train"
def TX5 : u_T := fun k => match k with
  | 0 => ("BlockBells$Train", "number", "I", true)
  | 1 => ("BlockBells$Train", "kind", "I", false)
  | 2 => ("BlockBells$Train", "direction", "I", false)
  | 3 => ("BlockBells$Train", "where", "I", false)
  | 4 => ("BlockBells$Train", "place", "I", false)
  | 5 => ("BlockBells$Train", "ticksLeft", "I", false)
  | 6 => ("BlockBells$Train", "whole", "Z", false)
  | 7 => ("BlockBells$Train", "appearedAt", "I", false)
  | _ => ("BlockBells$Train", "leftAt", "I", false)
def tyX5 : Nat → FieldType := fun k => match k with
  | 0 => .int
  | 1 => .int
  | 2 => .int
  | 3 => .int
  | 4 => .int
  | 5 => .int
  | 6 => .boolean
  | 7 => .int
  | _ => .int
abbrev wsX50 : List Cond := u_ws RX5 TX5 9
theorem nmX5 : ∀ a, a < 9 → ∀ b, b < 9 → a ≠ b → (TX5 a).2.1 ≠ (TX5 b).2.1 := by decide +kernel
theorem tyX5_ok : ∀ k, k < 9 → parseFieldDescriptor (TX5 k).2.2.1 = some (tyX5 k) := by decide +kernel
abbrev cX5_init : ByteArray := prog_7_method_1_code
def yX5_init : MethodName := ⟨RX5, "<init>", "(I)V"⟩
abbrev cX5_start : ByteArray := prog_7_method_2_code
def yX5_start : MethodName := ⟨RX5, "start", "(IIII)V"⟩
abbrev cX5_copyFrom : ByteArray := prog_7_method_3_code
def yX5_copyFrom : MethodName := ⟨RX5, "copyFrom", "(LBlockBells$Train;)V"⟩
abbrev cX5_property : ByteArray := prog_7_method_4_code
def yX5_property : MethodName := ⟨RX5, "property", "(I)I"⟩
abbrev cX5_stands : ByteArray := prog_7_method_5_code
def yX5_stands : MethodName := ⟨RX5, "stands", "(III)Z"⟩
abbrev cX5_standAt : ByteArray := prog_7_method_6_code
def yX5_standAt : MethodName := ⟨RX5, "standAt", "(II)V"⟩
abbrev cX5_enter : ByteArray := prog_7_method_7_code
def yX5_enter : MethodName := ⟨RX5, "enter", "(LBlockBells$Section;)V"⟩
abbrev cX5_go : ByteArray := prog_7_method_8_code
def yX5_go : MethodName := ⟨RX5, "go", "(I)V"⟩
abbrev cX5_letPass : ByteArray := prog_7_method_9_code
def yX5_letPass : MethodName := ⟨RX5, "letPass", "(I)V"⟩
def RX6 : String := "BlockBells"
def TX6 : u_T := fun k => match k with
  | 0 => ("BlockBells", "line", "LBlockBells$Line;", true)
  | 1 => ("BlockBells", "trial", "LBlockBells$Line;", true)
  | 2 => ("BlockBells", "slots", "[LBlockBells$Line;", true)
  | 3 => ("BlockBells", "saved", "[Z", true)
  | _ => ("BlockBells", "pad", "LBlockBells$Pad;", true)
def tyX6 : Nat → FieldType := fun k => match k with
  | 0 => .object "BlockBells$Line"
  | 1 => .object "BlockBells$Line"
  | 2 => .array (.object "BlockBells$Line")
  | 3 => .array .boolean
  | _ => .object "BlockBells$Pad"
abbrev wsX60 : List Cond := u_ws RX6 TX6 5
theorem nmX6 : ∀ a, a < 5 → ∀ b, b < 5 → a ≠ b → (TX6 a).2.1 ≠ (TX6 b).2.1 := by decide +kernel
theorem tyX6_ok : ∀ k, k < 5 → parseFieldDescriptor (TX6 k).2.2.1 = some (tyX6 k) := by decide +kernel
abbrev cX6_init : ByteArray := prog_1_method_1_code
def yX6_init : MethodName := ⟨RX6, "<init>", "()V"⟩
abbrev cX6_setUp : ByteArray := prog_1_method_2_code
def yX6_setUp : MethodName := ⟨RX6, "setUp", "(II)I"⟩
abbrev cX6_setTime : ByteArray := prog_1_method_3_code
def yX6_setTime : MethodName := ⟨RX6, "setTime", "(II)I"⟩
abbrev cX6_setLoops : ByteArray := prog_1_method_4_code
def yX6_setLoops : MethodName := ⟨RX6, "setLoops", "(III)I"⟩
abbrev cX6_moveTokens : ByteArray := prog_1_method_5_code
def yX6_moveTokens : MethodName := ⟨RX6, "moveTokens", "(II)I"⟩
abbrev cX6_section : ByteArray := prog_1_method_6_code
def yX6_section : MethodName := ⟨RX6, "section", "(II)I"⟩
abbrev cX6_block : ByteArray := prog_1_method_7_code
def yX6_block : MethodName := ⟨RX6, "block", "(III)I"⟩
abbrev cX6_appear : ByteArray := prog_1_method_8_code
def yX6_appear : MethodName := ⟨RX6, "appear", "(II)I"⟩
abbrev cX6_train : ByteArray := prog_1_method_9_code
def yX6_train : MethodName := ⟨RX6, "train", "(II)I"⟩
abbrev cX6_shunt : ByteArray := prog_1_method_10_code
def yX6_shunt : MethodName := ⟨RX6, "shunt", "(I)I"⟩
abbrev cX6_leave : ByteArray := prog_1_method_11_code
def yX6_leave : MethodName := ⟨RX6, "leave", "(I)I"⟩
abbrev cX6_divide : ByteArray := prog_1_method_12_code
def yX6_divide : MethodName := ⟨RX6, "divide", "(I)I"⟩
abbrev cX6_offer : ByteArray := prog_1_method_13_code
def yX6_offer : MethodName := ⟨RX6, "offer", "(I)I"⟩
abbrev cX6_answer : ByteArray := prog_1_method_14_code
def yX6_answer : MethodName := ⟨RX6, "answer", "(IIZ)I"⟩
abbrev cX6_cancel : ByteArray := prog_1_method_15_code
def yX6_cancel : MethodName := ⟨RX6, "cancel", "(II)I"⟩
abbrev cX6_depart : ByteArray := prog_1_method_16_code
def yX6_depart : MethodName := ⟨RX6, "depart", "(I)I"⟩
abbrev cX6_admit : ByteArray := prog_1_method_17_code
def yX6_admit : MethodName := ⟨RX6, "admit", "(II)I"⟩
abbrev cX6_out : ByteArray := prog_1_method_18_code
def yX6_out : MethodName := ⟨RX6, "out", "(II)I"⟩
abbrev cX6_assist : ByteArray := prog_1_method_19_code
def yX6_assist : MethodName := ⟨RX6, "assist", "(II)I"⟩
abbrev cX6_obstruct : ByteArray := prog_1_method_20_code
def yX6_obstruct : MethodName := ⟨RX6, "obstruct", "(II)I"⟩
abbrev cX6_lift : ByteArray := prog_1_method_21_code
def yX6_lift : MethodName := ⟨RX6, "lift", "(II)I"⟩
abbrev cX6_pass : ByteArray := prog_1_method_22_code
def yX6_pass : MethodName := ⟨RX6, "pass", "(I)I"⟩
abbrev cX6_signal : ByteArray := prog_1_method_23_code
def yX6_signal : MethodName := ⟨RX6, "signal", "(II)I"⟩
abbrev cX6_rung : ByteArray := prog_1_method_24_code
def yX6_rung : MethodName := ⟨RX6, "rung", "(II)I"⟩
abbrev cX6_work : ByteArray := prog_1_method_25_code
def yX6_work : MethodName := ⟨RX6, "work", "(I)I"⟩
abbrev cX6_forecast : ByteArray := prog_1_method_26_code
def yX6_forecast : MethodName := ⟨RX6, "forecast", "(II)I"⟩
abbrev cX6_capacity : ByteArray := prog_1_method_27_code
def yX6_capacity : MethodName := ⟨RX6, "capacity", "(III)I"⟩
abbrev cX6_say : ByteArray := prog_1_method_28_code
def yX6_say : MethodName := ⟨RX6, "say", "(I)I"⟩
abbrev cX6_wipe : ByteArray := prog_1_method_29_code
def yX6_wipe : MethodName := ⟨RX6, "wipe", "()I"⟩
abbrev cX6_fault : ByteArray := prog_1_method_30_code
def yX6_fault : MethodName := ⟨RX6, "fault", "()I"⟩
abbrev cX6_carryOut : ByteArray := prog_1_method_31_code
def yX6_carryOut : MethodName := ⟨RX6, "carryOut", "()I"⟩
abbrev cX6_obey : ByteArray := prog_1_method_32_code
def yX6_obey : MethodName := ⟨RX6, "obey", "(III)I"⟩
abbrev cX6_count : ByteArray := prog_1_method_33_code
def yX6_count : MethodName := ⟨RX6, "count", "(I)I"⟩
abbrev cX6_save : ByteArray := prog_1_method_34_code
def yX6_save : MethodName := ⟨RX6, "save", "(I)I"⟩
abbrev cX6_restore : ByteArray := prog_1_method_35_code
def yX6_restore : MethodName := ⟨RX6, "restore", "(I)I"⟩
abbrev cX6_isDirection : ByteArray := prog_1_method_36_code
def yX6_isDirection : MethodName := ⟨RX6, "isDirection", "(I)Z"⟩
abbrev cX6_isKind : ByteArray := prog_1_method_37_code
def yX6_isKind : MethodName := ⟨RX6, "isKind", "(I)Z"⟩
abbrev cX6_offerCode : ByteArray := prog_1_method_38_code
def yX6_offerCode : MethodName := ⟨RX6, "offerCode", "(I)I"⟩
def RX7 : String := "BlockBellsModel"
def TX7 : u_T := fun k => match k with
  | 0 => ("BlockBellsModel", "at", "[I", true)
  | 1 => ("BlockBellsModel", "aside", "[I", true)
  | 2 => ("BlockBellsModel", "slots", "[I", true)
  | 3 => ("BlockBellsModel", "isSaved", "[Z", true)
  | 4 => ("BlockBellsModel", "pad", "[I", true)
  | 5 => ("BlockBellsModel", "padMany", "I", false)
  | 6 => ("BlockBellsModel", "reading", "I", false)
  | 7 => ("BlockBellsModel", "isWrong", "Z", false)
  | 8 => ("BlockBellsModel", "orders", "[I", true)
  | _ => ("BlockBellsModel", "orderMany", "I", false)
def tyX7 : Nat → FieldType := fun k => match k with
  | 0 => .array .int
  | 1 => .array .int
  | 2 => .array .int
  | 3 => .array .boolean
  | 4 => .array .int
  | 5 => .int
  | 6 => .int
  | 7 => .boolean
  | 8 => .array .int
  | _ => .int
abbrev wsX70 : List Cond := u_ws RX7 TX7 10
theorem nmX7 : ∀ a, a < 10 → ∀ b, b < 10 → a ≠ b → (TX7 a).2.1 ≠ (TX7 b).2.1 := by decide +kernel
theorem tyX7_ok : ∀ k, k < 10 → parseFieldDescriptor (TX7 k).2.2.1 = some (tyX7 k) := by decide +kernel
abbrev cX7_init : ByteArray := prog_9_method_1_code
def yX7_init : MethodName := ⟨RX7, "<init>", "()V"⟩
abbrev cX7_in : ByteArray := prog_9_method_2_code
def yX7_in : MethodName := ⟨RX7, "in", "(III)Z"⟩
abbrev cX7_putAside : ByteArray := prog_9_method_3_code
def yX7_putAside : MethodName := ⟨RX7, "putAside", "()V"⟩
abbrev cX7_putBack : ByteArray := prog_9_method_4_code
def yX7_putBack : MethodName := ⟨RX7, "putBack", "()V"⟩
abbrev cX7_lay : ByteArray := prog_9_method_5_code
def yX7_lay : MethodName := ⟨RX7, "lay", "(II)V"⟩
abbrev cX7_layBlocks : ByteArray := prog_9_method_6_code
def yX7_layBlocks : MethodName := ⟨RX7, "layBlocks", "()V"⟩
abbrev cX7_sections : ByteArray := prog_9_method_7_code
def yX7_sections : MethodName := ⟨RX7, "sections", "()I"⟩
abbrev cX7_isSection : ByteArray := prog_9_method_8_code
def yX7_isSection : MethodName := ⟨RX7, "isSection", "(I)Z"⟩
abbrev cX7_isWay : ByteArray := prog_9_method_9_code
def yX7_isWay : MethodName := ⟨RX7, "isWay", "(I)Z"⟩
abbrev cX7_isBlock : ByteArray := prog_9_method_10_code
def yX7_isBlock : MethodName := ⟨RX7, "isBlock", "(II)Z"⟩
abbrev cX7_isTrain : ByteArray := prog_9_method_11_code
def yX7_isTrain : MethodName := ⟨RX7, "isTrain", "(I)Z"⟩
abbrev cX7_rear : ByteArray := prog_9_method_12_code
def yX7_rear : MethodName := ⟨RX7, "rear", "(II)I"⟩
abbrev cX7_ahead : ByteArray := prog_9_method_13_code
def yX7_ahead : MethodName := ⟨RX7, "ahead", "(II)I"⟩
abbrev cX7_place : ByteArray := prog_9_method_14_code
def yX7_place : MethodName := ⟨RX7, "place", "(III)I"⟩
abbrev cX7_ofBlock : ByteArray := prog_9_method_15_code
def yX7_ofBlock : MethodName := ⟨RX7, "ofBlock", "(III)I"⟩
abbrev cX7_ofTrain : ByteArray := prog_9_method_16_code
def yX7_ofTrain : MethodName := ⟨RX7, "ofTrain", "(II)I"⟩
abbrev cX7_layTrain : ByteArray := prog_9_method_17_code
def yX7_layTrain : MethodName := ⟨RX7, "layTrain", "(III)V"⟩
abbrev cX7_isSingle : ByteArray := prog_9_method_18_code
def yX7_isSingle : MethodName := ⟨RX7, "isSingle", "(I)Z"⟩
abbrev cX7_isTokenOut : ByteArray := prog_9_method_19_code
def yX7_isTokenOut : MethodName := ⟨RX7, "isTokenOut", "(I)Z"⟩
abbrev cX7_tokensAt : ByteArray := prog_9_method_20_code
def yX7_tokensAt : MethodName := ⟨RX7, "tokensAt", "(II)I"⟩
abbrev cX7_setUp : ByteArray := prog_9_method_21_code
def yX7_setUp : MethodName := ⟨RX7, "setUp", "(II)I"⟩
abbrev cX7_setTime : ByteArray := prog_9_method_22_code
def yX7_setTime : MethodName := ⟨RX7, "setTime", "(II)I"⟩
abbrev cX7_many : ByteArray := prog_9_method_23_code
def yX7_many : MethodName := ⟨RX7, "many", "(III)I"⟩
abbrev cX7_setLoops : ByteArray := prog_9_method_24_code
def yX7_setLoops : MethodName := ⟨RX7, "setLoops", "(III)I"⟩
abbrev cX7_moveTokens : ByteArray := prog_9_method_25_code
def yX7_moveTokens : MethodName := ⟨RX7, "moveTokens", "(II)I"⟩
abbrev cX7_section : ByteArray := prog_9_method_26_code
def yX7_section : MethodName := ⟨RX7, "section", "(II)I"⟩
abbrev cX7_block : ByteArray := prog_9_method_27_code
def yX7_block : MethodName := ⟨RX7, "block", "(III)I"⟩
abbrev cX7_firstBox : ByteArray := prog_9_method_28_code
def yX7_firstBox : MethodName := ⟨RX7, "firstBox", "(I)I"⟩
abbrev cX7_isFree : ByteArray := prog_9_method_29_code
def yX7_isFree : MethodName := ⟨RX7, "isFree", "(II)Z"⟩
abbrev cX7_add : ByteArray := prog_9_method_30_code
def yX7_add : MethodName := ⟨RX7, "add", "(II)I"⟩
abbrev cX7_appear : ByteArray := prog_9_method_31_code
def yX7_appear : MethodName := ⟨RX7, "appear", "(II)I"⟩
abbrev cX7_train : ByteArray := prog_9_method_32_code
def yX7_train : MethodName := ⟨RX7, "train", "(II)I"⟩
abbrev cX7_nextSection : ByteArray := prog_9_method_33_code
def yX7_nextSection : MethodName := ⟨RX7, "nextSection", "(I)I"⟩
abbrev cX7_isCalmBehind : ByteArray := prog_9_method_34_code
def yX7_isCalmBehind : MethodName := ⟨RX7, "isCalmBehind", "(I)Z"⟩
abbrev cX7_isOffered : ByteArray := prog_9_method_35_code
def yX7_isOffered : MethodName := ⟨RX7, "isOffered", "(I)Z"⟩
abbrev cX7_isClearFor : ByteArray := prog_9_method_36_code
def yX7_isClearFor : MethodName := ⟨RX7, "isClearFor", "(I)Z"⟩
abbrev cX7_canGoIn : ByteArray := prog_9_method_37_code
def yX7_canGoIn : MethodName := ⟨RX7, "canGoIn", "(I)Z"⟩
abbrev cX7_shunt : ByteArray := prog_9_method_38_code
def yX7_shunt : MethodName := ⟨RX7, "shunt", "(I)I"⟩
abbrev cX7_leave : ByteArray := prog_9_method_39_code
def yX7_leave : MethodName := ⟨RX7, "leave", "(I)I"⟩
abbrev cX7_divide : ByteArray := prog_9_method_40_code
def yX7_divide : MethodName := ⟨RX7, "divide", "(I)I"⟩
abbrev cX7_codeOf : ByteArray := prog_9_method_41_code
def yX7_codeOf : MethodName := ⟨RX7, "codeOf", "(I)I"⟩
abbrev cX7_ring : ByteArray := prog_9_method_42_code
def yX7_ring : MethodName := ⟨RX7, "ring", "(IIII)I"⟩
abbrev cX7_offer : ByteArray := prog_9_method_43_code
def yX7_offer : MethodName := ⟨RX7, "offer", "(I)I"⟩
abbrev cX7_canAccept : ByteArray := prog_9_method_44_code
def yX7_canAccept : MethodName := ⟨RX7, "canAccept", "(II)Z"⟩
abbrev cX7_answer : ByteArray := prog_9_method_45_code
def yX7_answer : MethodName := ⟨RX7, "answer", "(IIZ)I"⟩
abbrev cX7_unclear : ByteArray := prog_9_method_46_code
def yX7_unclear : MethodName := ⟨RX7, "unclear", "(II)V"⟩
abbrev cX7_cancel : ByteArray := prog_9_method_47_code
def yX7_cancel : MethodName := ⟨RX7, "cancel", "(II)I"⟩
abbrev cX7_depart : ByteArray := prog_9_method_48_code
def yX7_depart : MethodName := ⟨RX7, "depart", "(I)I"⟩
abbrev cX7_isInside : ByteArray := prog_9_method_49_code
def yX7_isInside : MethodName := ⟨RX7, "isInside", "(II)Z"⟩
abbrev cX7_admit : ByteArray := prog_9_method_50_code
def yX7_admit : MethodName := ⟨RX7, "admit", "(II)I"⟩
abbrev cX7_out : ByteArray := prog_9_method_51_code
def yX7_out : MethodName := ⟨RX7, "out", "(II)I"⟩
abbrev cX7_assist : ByteArray := prog_9_method_52_code
def yX7_assist : MethodName := ⟨RX7, "assist", "(II)I"⟩
abbrev cX7_obstruct : ByteArray := prog_9_method_53_code
def yX7_obstruct : MethodName := ⟨RX7, "obstruct", "(II)I"⟩
abbrev cX7_lift : ByteArray := prog_9_method_54_code
def yX7_lift : MethodName := ⟨RX7, "lift", "(II)I"⟩
abbrev cX7_tick : ByteArray := prog_9_method_55_code
def yX7_tick : MethodName := ⟨RX7, "tick", "()V"⟩
abbrev cX7_pass : ByteArray := prog_9_method_56_code
def yX7_pass : MethodName := ⟨RX7, "pass", "(I)I"⟩
abbrev cX7_signal : ByteArray := prog_9_method_57_code
def yX7_signal : MethodName := ⟨RX7, "signal", "(II)I"⟩
abbrev cX7_rung : ByteArray := prog_9_method_58_code
def yX7_rung : MethodName := ⟨RX7, "rung", "(II)I"⟩
abbrev cX7_workBlocks : ByteArray := prog_9_method_59_code
def yX7_workBlocks : MethodName := ⟨RX7, "workBlocks", "(I)V"⟩
abbrev cX7_workTrains : ByteArray := prog_9_method_60_code
def yX7_workTrains : MethodName := ⟨RX7, "workTrains", "(I)V"⟩
abbrev cX7_workTick : ByteArray := prog_9_method_61_code
def yX7_workTick : MethodName := ⟨RX7, "workTick", "()V"⟩
abbrev cX7_trainsAt : ByteArray := prog_9_method_62_code
def yX7_trainsAt : MethodName := ⟨RX7, "trainsAt", "(I)I"⟩
abbrev cX7_work : ByteArray := prog_9_method_63_code
def yX7_work : MethodName := ⟨RX7, "work", "(I)I"⟩
abbrev cX7_forecast : ByteArray := prog_9_method_64_code
def yX7_forecast : MethodName := ⟨RX7, "forecast", "(II)I"⟩
abbrev cX7_capacity : ByteArray := prog_9_method_65_code
def yX7_capacity : MethodName := ⟨RX7, "capacity", "(III)I"⟩
abbrev cX7_say : ByteArray := prog_9_method_66_code
def yX7_say : MethodName := ⟨RX7, "say", "(I)I"⟩
abbrev cX7_wipe : ByteArray := prog_9_method_67_code
def yX7_wipe : MethodName := ⟨RX7, "wipe", "()I"⟩
abbrev cX7_nextSign : ByteArray := prog_9_method_68_code
def yX7_nextSign : MethodName := ⟨RX7, "nextSign", "()I"⟩
abbrev cX7_takeNumber : ByteArray := prog_9_method_69_code
def yX7_takeNumber : MethodName := ⟨RX7, "takeNumber", "(II)I"⟩
abbrev cX7_takeSide : ByteArray := prog_9_method_70_code
def yX7_takeSide : MethodName := ⟨RX7, "takeSide", "()I"⟩
abbrev cX7_isForTrain : ByteArray := prog_9_method_71_code
def yX7_isForTrain : MethodName := ⟨RX7, "isForTrain", "(I)Z"⟩
abbrev cX7_isForBlock : ByteArray := prog_9_method_72_code
def yX7_isForBlock : MethodName := ⟨RX7, "isForBlock", "(I)Z"⟩
abbrev cX7_readOrder : ByteArray := prog_9_method_73_code
def yX7_readOrder : MethodName := ⟨RX7, "readOrder", "()V"⟩
abbrev cX7_fault : ByteArray := prog_9_method_74_code
def yX7_fault : MethodName := ⟨RX7, "fault", "()I"⟩
abbrev cX7_carryOutOne : ByteArray := prog_9_method_75_code
def yX7_carryOutOne : MethodName := ⟨RX7, "carryOutOne", "(III)I"⟩
abbrev cX7_carryOut : ByteArray := prog_9_method_76_code
def yX7_carryOut : MethodName := ⟨RX7, "carryOut", "()I"⟩
abbrev cX7_blocksWith : ByteArray := prog_9_method_77_code
def yX7_blocksWith : MethodName := ⟨RX7, "blocksWith", "(I)I"⟩
abbrev cX7_count : ByteArray := prog_9_method_78_code
def yX7_count : MethodName := ⟨RX7, "count", "(I)I"⟩
abbrev cX7_save : ByteArray := prog_9_method_79_code
def yX7_save : MethodName := ⟨RX7, "save", "(I)I"⟩
abbrev cX7_restore : ByteArray := prog_9_method_80_code
def yX7_restore : MethodName := ⟨RX7, "restore", "(I)I"⟩
def RJ9 : String := "java/lang/Math"
def TJ9 : u_T := fun k => match k with
  | _ => ("", "", "", false)
def tyJ9 : Nat → FieldType := fun k => match k with
  | _ => .int
abbrev wsJ90 : List Cond := u_ws RJ9 TJ9 0
theorem nmJ9 : ∀ a, a < 0 → ∀ b, b < 0 → a ≠ b → (TJ9 a).2.1 ≠ (TJ9 b).2.1 := by decide +kernel
theorem tyJ9_ok : ∀ k, k < 0 → parseFieldDescriptor (TJ9 k).2.2.1 = some (tyJ9 k) := by decide +kernel
abbrev cJ9_max_7cf53 : ByteArray := prog_10_method_65_code
def yJ9_max_7cf53 : MethodName := ⟨RJ9, "max", "(II)I"⟩
def RJ10 : String := "java/lang/System"
def TJ10 : u_T := fun k => match k with
  | _ => ("", "", "", false)
def tyJ10 : Nat → FieldType := fun k => match k with
  | _ => .int
abbrev wsJ100 : List Cond := u_ws RJ10 TJ10 0
theorem nmJ10 : ∀ a, a < 0 → ∀ b, b < 0 → a ≠ b → (TJ10 a).2.1 ≠ (TJ10 b).2.1 := by decide +kernel
theorem tyJ10_ok : ∀ k, k < 0 → parseFieldDescriptor (TJ10 k).2.2.1 = some (tyJ10 k) := by decide +kernel
def RL : String := "BlockBellsLaw"
abbrev cL_law : ByteArray := code
def yL_law : MethodName := ⟨RL, "law", "([I)Z"⟩
abbrev vwCl : List vw_C := [(RX0, TX0, 7), (RX1, TX1, 8), (RX2, TX2, 6), (RX3, TX3, 2), (RX4, TX4, 6), (RX5, TX5, 9), (RX6, TX6, 5), (RX7, TX7, 10)]
end
section
theorem dX0_init_0 : decode cX0_init 0 = .ok (.aload_n 0, 1) := by decide +kernel
theorem dX0_init_1 : decode cX0_init 1 = .ok (.invokespecial 3, 3) := by decide +kernel
theorem dX0_init_4 : decode cX0_init 4 = .ok (.aload_n 0, 1) := by decide +kernel
theorem dX0_init_5 : decode cX0_init 5 = .ok (.aload_n 1, 1) := by decide +kernel
theorem dX0_init_6 : decode cX0_init 6 = .ok (.putfield 9, 3) := by decide +kernel
theorem dX0_init_9 : decode cX0_init 9 = .ok (.aload_n 0, 1) := by decide +kernel
theorem dX0_init_10 : decode cX0_init 10 = .ok (.iload_n 2, 1) := by decide +kernel
theorem dX0_init_11 : decode cX0_init 11 = .ok (.putfield 15, 3) := by decide +kernel
theorem dX0_init_14 : decode cX0_init 14 = .ok (.return_, 1) := by decide +kernel
theorem dX0_reset_0 : decode cX0_reset 0 = .ok (.aload_n 0, 1) := by decide +kernel
theorem dX0_reset_1 : decode cX0_reset 1 = .ok (.iconst 0, 1) := by decide +kernel
theorem dX0_reset_2 : decode cX0_reset 2 = .ok (.putfield 19, 3) := by decide +kernel
theorem dX0_reset_5 : decode cX0_reset 5 = .ok (.aload_n 0, 1) := by decide +kernel
theorem dX0_reset_6 : decode cX0_reset 6 = .ok (.bipush (-6), 2) := by decide +kernel
theorem dX0_reset_8 : decode cX0_reset 8 = .ok (.putfield 22, 3) := by decide +kernel
theorem dX0_reset_11 : decode cX0_reset 11 = .ok (.aload_n 0, 1) := by decide +kernel
theorem dX0_reset_12 : decode cX0_reset 12 = .ok (.bipush (-6), 2) := by decide +kernel
theorem dX0_reset_14 : decode cX0_reset 14 = .ok (.putfield 25, 3) := by decide +kernel
theorem dX0_reset_17 : decode cX0_reset 17 = .ok (.aload_n 0, 1) := by decide +kernel
theorem dX0_reset_18 : decode cX0_reset 18 = .ok (.iconst 0, 1) := by decide +kernel
theorem dX0_reset_19 : decode cX0_reset 19 = .ok (.putfield 28, 3) := by decide +kernel
theorem dX0_reset_22 : decode cX0_reset 22 = .ok (.aload_n 0, 1) := by decide +kernel
theorem dX0_reset_23 : decode cX0_reset 23 = .ok (.iconst 0, 1) := by decide +kernel
theorem dX0_reset_24 : decode cX0_reset 24 = .ok (.putfield 32, 3) := by decide +kernel
theorem dX0_reset_27 : decode cX0_reset 27 = .ok (.return_, 1) := by decide +kernel
theorem dX0_copyFrom_0 : decode cX0_copyFrom 0 = .ok (.aload_n 0, 1) := by decide +kernel
theorem dX0_copyFrom_1 : decode cX0_copyFrom 1 = .ok (.aload_n 1, 1) := by decide +kernel
theorem dX0_copyFrom_2 : decode cX0_copyFrom 2 = .ok (.getfield 19, 3) := by decide +kernel
theorem dX0_copyFrom_5 : decode cX0_copyFrom 5 = .ok (.putfield 19, 3) := by decide +kernel
theorem dX0_copyFrom_8 : decode cX0_copyFrom 8 = .ok (.aload_n 0, 1) := by decide +kernel
theorem dX0_copyFrom_9 : decode cX0_copyFrom 9 = .ok (.aload_n 1, 1) := by decide +kernel
theorem dX0_copyFrom_10 : decode cX0_copyFrom 10 = .ok (.getfield 22, 3) := by decide +kernel
theorem dX0_copyFrom_13 : decode cX0_copyFrom 13 = .ok (.putfield 22, 3) := by decide +kernel
theorem dX0_copyFrom_16 : decode cX0_copyFrom 16 = .ok (.aload_n 0, 1) := by decide +kernel
theorem dX0_copyFrom_17 : decode cX0_copyFrom 17 = .ok (.aload_n 1, 1) := by decide +kernel
theorem dX0_copyFrom_18 : decode cX0_copyFrom 18 = .ok (.getfield 25, 3) := by decide +kernel
theorem dX0_copyFrom_21 : decode cX0_copyFrom 21 = .ok (.putfield 25, 3) := by decide +kernel
theorem dX0_copyFrom_24 : decode cX0_copyFrom 24 = .ok (.aload_n 0, 1) := by decide +kernel
theorem dX0_copyFrom_25 : decode cX0_copyFrom 25 = .ok (.aload_n 1, 1) := by decide +kernel
theorem dX0_copyFrom_26 : decode cX0_copyFrom 26 = .ok (.getfield 28, 3) := by decide +kernel
theorem dX0_copyFrom_29 : decode cX0_copyFrom 29 = .ok (.putfield 28, 3) := by decide +kernel
theorem dX0_copyFrom_32 : decode cX0_copyFrom 32 = .ok (.aload_n 0, 1) := by decide +kernel
theorem dX0_copyFrom_33 : decode cX0_copyFrom 33 = .ok (.aload_n 1, 1) := by decide +kernel
theorem dX0_copyFrom_34 : decode cX0_copyFrom 34 = .ok (.getfield 32, 3) := by decide +kernel
theorem dX0_copyFrom_37 : decode cX0_copyFrom 37 = .ok (.putfield 32, 3) := by decide +kernel
theorem dX0_copyFrom_40 : decode cX0_copyFrom 40 = .ok (.return_, 1) := by decide +kernel
theorem dX0_property_0 : decode cX0_property 0 = .ok (.iload_n 1, 1) := by decide +kernel
theorem dX0_property_1 : decode cX0_property 1 = .ok (.tableswitch 68 0 4 #[35, 40, 45, 50, 63], 35) := by decide +kernel
theorem dX0_property_36 : decode cX0_property 36 = .ok (.aload_n 0, 1) := by decide +kernel
theorem dX0_property_37 : decode cX0_property 37 = .ok (.getfield 19, 3) := by decide +kernel
theorem dX0_property_40 : decode cX0_property 40 = .ok (.ireturn, 1) := by decide +kernel
theorem dX0_property_41 : decode cX0_property 41 = .ok (.aload_n 0, 1) := by decide +kernel
theorem dX0_property_42 : decode cX0_property 42 = .ok (.getfield 22, 3) := by decide +kernel
theorem dX0_property_45 : decode cX0_property 45 = .ok (.ireturn, 1) := by decide +kernel
theorem dX0_property_46 : decode cX0_property 46 = .ok (.aload_n 0, 1) := by decide +kernel
theorem dX0_property_47 : decode cX0_property 47 = .ok (.getfield 25, 3) := by decide +kernel
theorem dX0_property_50 : decode cX0_property 50 = .ok (.ireturn, 1) := by decide +kernel
theorem dX0_property_51 : decode cX0_property 51 = .ok (.aload_n 0, 1) := by decide +kernel
theorem dX0_property_52 : decode cX0_property 52 = .ok (.getfield 28, 3) := by decide +kernel
theorem dX0_property_55 : decode cX0_property 55 = .ok (.ifCond .eq 7, 3) := by decide +kernel
theorem dX0_property_58 : decode cX0_property 58 = .ok (.iconst 1, 1) := by decide +kernel
theorem dX0_property_59 : decode cX0_property 59 = .ok (.goto 4, 3) := by decide +kernel
theorem dX0_property_62 : decode cX0_property 62 = .ok (.iconst 0, 1) := by decide +kernel
theorem dX0_property_63 : decode cX0_property 63 = .ok (.ireturn, 1) := by decide +kernel
theorem dX0_property_64 : decode cX0_property 64 = .ok (.aload_n 0, 1) := by decide +kernel
theorem dX0_property_65 : decode cX0_property 65 = .ok (.getfield 32, 3) := by decide +kernel
theorem dX0_property_68 : decode cX0_property 68 = .ok (.ireturn, 1) := by decide +kernel
theorem dX0_property_69 : decode cX0_property 69 = .ok (.bipush (-2), 2) := by decide +kernel
theorem dX0_property_71 : decode cX0_property 71 = .ok (.ireturn, 1) := by decide +kernel
theorem dX0_rearBox_0 : decode cX0_rearBox 0 = .ok (.aload_n 0, 1) := by decide +kernel
theorem dX0_rearBox_1 : decode cX0_rearBox 1 = .ok (.getfield 9, 3) := by decide +kernel
theorem dX0_rearBox_4 : decode cX0_rearBox 4 = .ok (.getfield 35, 3) := by decide +kernel
theorem dX0_rearBox_7 : decode cX0_rearBox 7 = .ok (.aload_n 0, 1) := by decide +kernel
theorem dX0_rearBox_8 : decode cX0_rearBox 8 = .ok (.getfield 15, 3) := by decide +kernel
theorem dX0_rearBox_11 : decode cX0_rearBox 11 = .ok (.iadd, 1) := by decide +kernel
theorem dX0_rearBox_12 : decode cX0_rearBox 12 = .ok (.ireturn, 1) := by decide +kernel
theorem dX0_boxAhead_0 : decode cX0_boxAhead 0 = .ok (.aload_n 0, 1) := by decide +kernel
theorem dX0_boxAhead_1 : decode cX0_boxAhead 1 = .ok (.getfield 9, 3) := by decide +kernel
theorem dX0_boxAhead_4 : decode cX0_boxAhead 4 = .ok (.getfield 35, 3) := by decide +kernel
theorem dX0_boxAhead_7 : decode cX0_boxAhead 7 = .ok (.iconst 1, 1) := by decide +kernel
theorem dX0_boxAhead_8 : decode cX0_boxAhead 8 = .ok (.iadd, 1) := by decide +kernel
theorem dX0_boxAhead_9 : decode cX0_boxAhead 9 = .ok (.aload_n 0, 1) := by decide +kernel
theorem dX0_boxAhead_10 : decode cX0_boxAhead 10 = .ok (.getfield 15, 3) := by decide +kernel
theorem dX0_boxAhead_13 : decode cX0_boxAhead 13 = .ok (.isub, 1) := by decide +kernel
theorem dX0_boxAhead_14 : decode cX0_boxAhead 14 = .ok (.ireturn, 1) := by decide +kernel
theorem dX0_rearEnd_0 : decode cX0_rearEnd 0 = .ok (.aload_n 0, 1) := by decide +kernel
theorem dX0_rearEnd_1 : decode cX0_rearEnd 1 = .ok (.getfield 15, 3) := by decide +kernel
theorem dX0_rearEnd_4 : decode cX0_rearEnd 4 = .ok (.ireturn, 1) := by decide +kernel
theorem dX0_endAhead_0 : decode cX0_endAhead 0 = .ok (.iconst 1, 1) := by decide +kernel
theorem dX0_endAhead_1 : decode cX0_endAhead 1 = .ok (.aload_n 0, 1) := by decide +kernel
theorem dX0_endAhead_2 : decode cX0_endAhead 2 = .ok (.getfield 15, 3) := by decide +kernel
theorem dX0_endAhead_5 : decode cX0_endAhead 5 = .ok (.isub, 1) := by decide +kernel
theorem dX0_endAhead_6 : decode cX0_endAhead 6 = .ok (.ireturn, 1) := by decide +kernel
theorem dX0_makeClear_0 : decode cX0_makeClear 0 = .ok (.aload_n 0, 1) := by decide +kernel
theorem dX0_makeClear_1 : decode cX0_makeClear 1 = .ok (.iconst 1, 1) := by decide +kernel
theorem dX0_makeClear_2 : decode cX0_makeClear 2 = .ok (.putfield 19, 3) := by decide +kernel
theorem dX0_makeClear_5 : decode cX0_makeClear 5 = .ok (.aload_n 0, 1) := by decide +kernel
theorem dX0_makeClear_6 : decode cX0_makeClear 6 = .ok (.aload_n 0, 1) := by decide +kernel
theorem dX0_makeClear_7 : decode cX0_makeClear 7 = .ok (.getfield 22, 3) := by decide +kernel
theorem dX0_makeClear_10 : decode cX0_makeClear 10 = .ok (.putfield 25, 3) := by decide +kernel
theorem dX0_makeClear_13 : decode cX0_makeClear 13 = .ok (.aload_n 0, 1) := by decide +kernel
theorem dX0_makeClear_14 : decode cX0_makeClear 14 = .ok (.bipush (-6), 2) := by decide +kernel
theorem dX0_makeClear_16 : decode cX0_makeClear 16 = .ok (.putfield 22, 3) := by decide +kernel
theorem dX0_makeClear_19 : decode cX0_makeClear 19 = .ok (.aload_n 0, 1) := by decide +kernel
theorem dX0_makeClear_20 : decode cX0_makeClear 20 = .ok (.getfield 9, 3) := by decide +kernel
theorem dX0_makeClear_23 : decode cX0_makeClear 23 = .ok (.aload_n 0, 1) := by decide +kernel
theorem dX0_makeClear_24 : decode cX0_makeClear 24 = .ok (.invokevirtual 40, 3) := by decide +kernel
theorem dX0_makeClear_27 : decode cX0_makeClear 27 = .ok (.invokevirtual 44, 3) := by decide +kernel
theorem dX0_makeClear_30 : decode cX0_makeClear 30 = .ok (.return_, 1) := by decide +kernel
theorem dX0_takeBack_0 : decode cX0_takeBack 0 = .ok (.aload_n 0, 1) := by decide +kernel
theorem dX0_takeBack_1 : decode cX0_takeBack 1 = .ok (.getfield 19, 3) := by decide +kernel
theorem dX0_takeBack_4 : decode cX0_takeBack 4 = .ok (.iconst 1, 1) := by decide +kernel
theorem dX0_takeBack_5 : decode cX0_takeBack 5 = .ok (.if_icmp .ne 14, 3) := by decide +kernel
theorem dX0_takeBack_8 : decode cX0_takeBack 8 = .ok (.aload_n 0, 1) := by decide +kernel
theorem dX0_takeBack_9 : decode cX0_takeBack 9 = .ok (.getfield 9, 3) := by decide +kernel
theorem dX0_takeBack_12 : decode cX0_takeBack 12 = .ok (.aload_n 0, 1) := by decide +kernel
theorem dX0_takeBack_13 : decode cX0_takeBack 13 = .ok (.invokevirtual 40, 3) := by decide +kernel
theorem dX0_takeBack_16 : decode cX0_takeBack 16 = .ok (.invokevirtual 48, 3) := by decide +kernel
theorem dX0_takeBack_19 : decode cX0_takeBack 19 = .ok (.aload_n 0, 1) := by decide +kernel
theorem dX0_takeBack_20 : decode cX0_takeBack 20 = .ok (.iload_n 1, 1) := by decide +kernel
theorem dX0_takeBack_21 : decode cX0_takeBack 21 = .ok (.putfield 19, 3) := by decide +kernel
theorem dX0_takeBack_24 : decode cX0_takeBack 24 = .ok (.aload_n 0, 1) := by decide +kernel
theorem dX0_takeBack_25 : decode cX0_takeBack 25 = .ok (.bipush (-6), 2) := by decide +kernel
theorem dX0_takeBack_27 : decode cX0_takeBack 27 = .ok (.putfield 22, 3) := by decide +kernel
theorem dX0_takeBack_30 : decode cX0_takeBack 30 = .ok (.aload_n 0, 1) := by decide +kernel
theorem dX0_takeBack_31 : decode cX0_takeBack 31 = .ok (.bipush (-6), 2) := by decide +kernel
theorem dX0_takeBack_33 : decode cX0_takeBack 33 = .ok (.putfield 25, 3) := by decide +kernel
theorem dX0_takeBack_36 : decode cX0_takeBack 36 = .ok (.return_, 1) := by decide +kernel
theorem dX0_makeFree_0 : decode cX0_makeFree 0 = .ok (.aload_n 0, 1) := by decide +kernel
theorem dX0_makeFree_1 : decode cX0_makeFree 1 = .ok (.iconst 0, 1) := by decide +kernel
theorem dX0_makeFree_2 : decode cX0_makeFree 2 = .ok (.putfield 19, 3) := by decide +kernel
theorem dX0_makeFree_5 : decode cX0_makeFree 5 = .ok (.aload_n 0, 1) := by decide +kernel
theorem dX0_makeFree_6 : decode cX0_makeFree 6 = .ok (.bipush (-6), 2) := by decide +kernel
theorem dX0_makeFree_8 : decode cX0_makeFree 8 = .ok (.putfield 25, 3) := by decide +kernel
theorem dX0_makeFree_11 : decode cX0_makeFree 11 = .ok (.aload_n 0, 1) := by decide +kernel
theorem dX0_makeFree_12 : decode cX0_makeFree 12 = .ok (.getfield 9, 3) := by decide +kernel
theorem dX0_makeFree_15 : decode cX0_makeFree 15 = .ok (.aload_n 0, 1) := by decide +kernel
theorem dX0_makeFree_16 : decode cX0_makeFree 16 = .ok (.invokevirtual 51, 3) := by decide +kernel
theorem dX0_makeFree_19 : decode cX0_makeFree 19 = .ok (.invokevirtual 48, 3) := by decide +kernel
theorem dX0_makeFree_22 : decode cX0_makeFree 22 = .ok (.return_, 1) := by decide +kernel
theorem dX0_letPass_0 : decode cX0_letPass 0 = .ok (.aload_n 0, 1) := by decide +kernel
theorem dX0_letPass_1 : decode cX0_letPass 1 = .ok (.getfield 32, 3) := by decide +kernel
theorem dX0_letPass_4 : decode cX0_letPass 4 = .ok (.ifCond .ne 4, 3) := by decide +kernel
theorem dX0_letPass_7 : decode cX0_letPass 7 = .ok (.return_, 1) := by decide +kernel
theorem dX0_letPass_8 : decode cX0_letPass 8 = .ok (.aload_n 0, 1) := by decide +kernel
theorem dX0_letPass_9 : decode cX0_letPass 9 = .ok (.iconst 0, 1) := by decide +kernel
theorem dX0_letPass_10 : decode cX0_letPass 10 = .ok (.aload_n 0, 1) := by decide +kernel
theorem dX0_letPass_11 : decode cX0_letPass 11 = .ok (.getfield 32, 3) := by decide +kernel
theorem dX0_letPass_14 : decode cX0_letPass 14 = .ok (.iload_n 1, 1) := by decide +kernel
theorem dX0_letPass_15 : decode cX0_letPass 15 = .ok (.isub, 1) := by decide +kernel
theorem dX0_letPass_16 : decode cX0_letPass 16 = .ok (.invokestatic 54, 3) := by decide +kernel
theorem dX0_letPass_19 : decode cX0_letPass 19 = .ok (.putfield 32, 3) := by decide +kernel
theorem dX0_letPass_22 : decode cX0_letPass 22 = .ok (.aload_n 0, 1) := by decide +kernel
theorem dX0_letPass_23 : decode cX0_letPass 23 = .ok (.getfield 32, 3) := by decide +kernel
theorem dX0_letPass_26 : decode cX0_letPass 26 = .ok (.ifCond .ne 8, 3) := by decide +kernel
theorem dX0_letPass_29 : decode cX0_letPass 29 = .ok (.aload_n 0, 1) := by decide +kernel
theorem dX0_letPass_30 : decode cX0_letPass 30 = .ok (.iconst 0, 1) := by decide +kernel
theorem dX0_letPass_31 : decode cX0_letPass 31 = .ok (.putfield 28, 3) := by decide +kernel
theorem dX0_letPass_34 : decode cX0_letPass 34 = .ok (.return_, 1) := by decide +kernel
theorem dX1_init_0 : decode cX1_init 0 = .ok (.aload_n 0, 1) := by decide +kernel
theorem dX1_init_1 : decode cX1_init 1 = .ok (.invokespecial 3, 3) := by decide +kernel
theorem dX1_init_4 : decode cX1_init 4 = .ok (.aload_n 0, 1) := by decide +kernel
theorem dX1_init_5 : decode cX1_init 5 = .ok (.iconst 5, 1) := by decide +kernel
theorem dX1_init_6 : decode cX1_init 6 = .ok (.anewarray 9, 3) := by decide +kernel
theorem dX1_init_9 : decode cX1_init 9 = .ok (.putfield 11, 3) := by decide +kernel
theorem dX1_init_12 : decode cX1_init 12 = .ok (.aload_n 0, 1) := by decide +kernel
theorem dX1_init_13 : decode cX1_init 13 = .ok (.bipush 10, 2) := by decide +kernel
theorem dX1_init_15 : decode cX1_init 15 = .ok (.anewarray 17, 3) := by decide +kernel
theorem dX1_init_18 : decode cX1_init 18 = .ok (.putfield 19, 3) := by decide +kernel
theorem dX1_init_21 : decode cX1_init 21 = .ok (.iconst 0, 1) := by decide +kernel
theorem dX1_init_22 : decode cX1_init 22 = .ok (.istore_n 1, 1) := by decide +kernel
theorem dX1_init_23 : decode cX1_init 23 = .ok (.iload_n 1, 1) := by decide +kernel
theorem dX1_init_24 : decode cX1_init 24 = .ok (.iconst 5, 1) := by decide +kernel
theorem dX1_init_25 : decode cX1_init 25 = .ok (.if_icmp .ge 69, 3) := by decide +kernel
theorem dX1_init_28 : decode cX1_init 28 = .ok (.aload_n 0, 1) := by decide +kernel
theorem dX1_init_29 : decode cX1_init 29 = .ok (.getfield 11, 3) := by decide +kernel
theorem dX1_init_32 : decode cX1_init 32 = .ok (.iload_n 1, 1) := by decide +kernel
theorem dX1_init_33 : decode cX1_init 33 = .ok (.new 9, 3) := by decide +kernel
theorem dX1_init_36 : decode cX1_init 36 = .ok (.dup, 1) := by decide +kernel
theorem dX1_init_37 : decode cX1_init 37 = .ok (.iload_n 1, 1) := by decide +kernel
theorem dX1_init_38 : decode cX1_init 38 = .ok (.invokespecial 23, 3) := by decide +kernel
theorem dX1_init_41 : decode cX1_init 41 = .ok (.aastore, 1) := by decide +kernel
theorem dX1_init_42 : decode cX1_init 42 = .ok (.aload_n 0, 1) := by decide +kernel
theorem dX1_init_43 : decode cX1_init 43 = .ok (.getfield 19, 3) := by decide +kernel
theorem dX1_init_46 : decode cX1_init 46 = .ok (.iconst 2, 1) := by decide +kernel
theorem dX1_init_47 : decode cX1_init 47 = .ok (.iload_n 1, 1) := by decide +kernel
theorem dX1_init_48 : decode cX1_init 48 = .ok (.imul, 1) := by decide +kernel
theorem dX1_init_49 : decode cX1_init 49 = .ok (.new 17, 3) := by decide +kernel
theorem dX1_init_52 : decode cX1_init 52 = .ok (.dup, 1) := by decide +kernel
theorem dX1_init_53 : decode cX1_init 53 = .ok (.aload_n 0, 1) := by decide +kernel
theorem dX1_init_54 : decode cX1_init 54 = .ok (.getfield 11, 3) := by decide +kernel
theorem dX1_init_57 : decode cX1_init 57 = .ok (.iload_n 1, 1) := by decide +kernel
theorem dX1_init_58 : decode cX1_init 58 = .ok (.aaload, 1) := by decide +kernel
theorem dX1_init_59 : decode cX1_init 59 = .ok (.iconst 0, 1) := by decide +kernel
theorem dX1_init_60 : decode cX1_init 60 = .ok (.invokespecial 26, 3) := by decide +kernel
theorem dX1_init_63 : decode cX1_init 63 = .ok (.aastore, 1) := by decide +kernel
theorem dX1_init_64 : decode cX1_init 64 = .ok (.aload_n 0, 1) := by decide +kernel
theorem dX1_init_65 : decode cX1_init 65 = .ok (.getfield 19, 3) := by decide +kernel
theorem dX1_init_68 : decode cX1_init 68 = .ok (.iconst 2, 1) := by decide +kernel
theorem dX1_init_69 : decode cX1_init 69 = .ok (.iload_n 1, 1) := by decide +kernel
theorem dX1_init_70 : decode cX1_init 70 = .ok (.imul, 1) := by decide +kernel
theorem dX1_init_71 : decode cX1_init 71 = .ok (.iconst 1, 1) := by decide +kernel
theorem dX1_init_72 : decode cX1_init 72 = .ok (.iadd, 1) := by decide +kernel
theorem dX1_init_73 : decode cX1_init 73 = .ok (.new 17, 3) := by decide +kernel
theorem dX1_init_76 : decode cX1_init 76 = .ok (.dup, 1) := by decide +kernel
theorem dX1_init_77 : decode cX1_init 77 = .ok (.aload_n 0, 1) := by decide +kernel
theorem dX1_init_78 : decode cX1_init 78 = .ok (.getfield 11, 3) := by decide +kernel
theorem dX1_init_81 : decode cX1_init 81 = .ok (.iload_n 1, 1) := by decide +kernel
theorem dX1_init_82 : decode cX1_init 82 = .ok (.aaload, 1) := by decide +kernel
theorem dX1_init_83 : decode cX1_init 83 = .ok (.iconst 1, 1) := by decide +kernel
theorem dX1_init_84 : decode cX1_init 84 = .ok (.invokespecial 26, 3) := by decide +kernel
theorem dX1_init_87 : decode cX1_init 87 = .ok (.aastore, 1) := by decide +kernel
theorem dX1_init_88 : decode cX1_init 88 = .ok (.iinc 1 1, 3) := by decide +kernel
theorem dX1_init_91 : decode cX1_init 91 = .ok (.goto (-68), 3) := by decide +kernel
theorem dX1_init_94 : decode cX1_init 94 = .ok (.aload_n 0, 1) := by decide +kernel
theorem dX1_init_95 : decode cX1_init 95 = .ok (.bipush 12, 2) := by decide +kernel
theorem dX1_init_97 : decode cX1_init 97 = .ok (.anewarray 29, 3) := by decide +kernel
theorem dX1_init_100 : decode cX1_init 100 = .ok (.putfield 31, 3) := by decide +kernel
theorem dX1_init_103 : decode cX1_init 103 = .ok (.iconst 0, 1) := by decide +kernel
theorem dX1_init_104 : decode cX1_init 104 = .ok (.istore_n 1, 1) := by decide +kernel
theorem dX1_init_105 : decode cX1_init 105 = .ok (.iload_n 1, 1) := by decide +kernel
theorem dX1_init_106 : decode cX1_init 106 = .ok (.bipush 12, 2) := by decide +kernel
theorem dX1_init_108 : decode cX1_init 108 = .ok (.if_icmp .ge 23, 3) := by decide +kernel
theorem dX1_init_111 : decode cX1_init 111 = .ok (.aload_n 0, 1) := by decide +kernel
theorem dX1_init_112 : decode cX1_init 112 = .ok (.getfield 31, 3) := by decide +kernel
theorem dX1_init_115 : decode cX1_init 115 = .ok (.iload_n 1, 1) := by decide +kernel
theorem dX1_init_116 : decode cX1_init 116 = .ok (.new 29, 3) := by decide +kernel
theorem dX1_init_119 : decode cX1_init 119 = .ok (.dup, 1) := by decide +kernel
theorem dX1_init_120 : decode cX1_init 120 = .ok (.iload_n 1, 1) := by decide +kernel
theorem dX1_init_121 : decode cX1_init 121 = .ok (.invokespecial 35, 3) := by decide +kernel
theorem dX1_init_124 : decode cX1_init 124 = .ok (.aastore, 1) := by decide +kernel
theorem dX1_init_125 : decode cX1_init 125 = .ok (.iinc 1 1, 3) := by decide +kernel
theorem dX1_init_128 : decode cX1_init 128 = .ok (.goto (-23), 3) := by decide +kernel
theorem dX1_init_131 : decode cX1_init 131 = .ok (.aload_n 0, 1) := by decide +kernel
theorem dX1_init_132 : decode cX1_init 132 = .ok (.bipush 12, 2) := by decide +kernel
theorem dX1_init_134 : decode cX1_init 134 = .ok (.newarray .int, 2) := by decide +kernel
theorem dX1_init_136 : decode cX1_init 136 = .ok (.putfield 36, 3) := by decide +kernel
theorem dX1_init_139 : decode cX1_init 139 = .ok (.aload_n 0, 1) := by decide +kernel
theorem dX1_init_140 : decode cX1_init 140 = .ok (.new 40, 3) := by decide +kernel
theorem dX1_init_143 : decode cX1_init 143 = .ok (.dup, 1) := by decide +kernel
theorem dX1_init_144 : decode cX1_init 144 = .ok (.invokespecial 42, 3) := by decide +kernel
theorem dX1_init_147 : decode cX1_init 147 = .ok (.putfield 43, 3) := by decide +kernel
theorem dX1_init_150 : decode cX1_init 150 = .ok (.aload_n 0, 1) := by decide +kernel
theorem dX1_init_151 : decode cX1_init 151 = .ok (.iconst 4, 1) := by decide +kernel
theorem dX1_init_152 : decode cX1_init 152 = .ok (.iconst 0, 1) := by decide +kernel
theorem dX1_init_153 : decode cX1_init 153 = .ok (.invokevirtual 47, 3) := by decide +kernel
theorem dX1_init_156 : decode cX1_init 156 = .ok (.return_, 1) := by decide +kernel
theorem dX1_layOut_0 : decode cX1_layOut 0 = .ok (.aload_n 0, 1) := by decide +kernel
theorem dX1_layOut_1 : decode cX1_layOut 1 = .ok (.iload_n 1, 1) := by decide +kernel
theorem dX1_layOut_2 : decode cX1_layOut 2 = .ok (.putfield 51, 3) := by decide +kernel
theorem dX1_layOut_5 : decode cX1_layOut 5 = .ok (.iconst 0, 1) := by decide +kernel
theorem dX1_layOut_6 : decode cX1_layOut 6 = .ok (.istore_n 3, 1) := by decide +kernel
theorem dX1_layOut_7 : decode cX1_layOut 7 = .ok (.iload_n 3, 1) := by decide +kernel
theorem dX1_layOut_8 : decode cX1_layOut 8 = .ok (.iconst 5, 1) := by decide +kernel
theorem dX1_layOut_9 : decode cX1_layOut 9 = .ok (.if_icmp .ge 32, 3) := by decide +kernel
theorem dX1_layOut_12 : decode cX1_layOut 12 = .ok (.aload_n 0, 1) := by decide +kernel
theorem dX1_layOut_13 : decode cX1_layOut 13 = .ok (.getfield 11, 3) := by decide +kernel
theorem dX1_layOut_16 : decode cX1_layOut 16 = .ok (.iload_n 3, 1) := by decide +kernel
theorem dX1_layOut_17 : decode cX1_layOut 17 = .ok (.aaload, 1) := by decide +kernel
theorem dX1_layOut_18 : decode cX1_layOut 18 = .ok (.iload_n 2, 1) := by decide +kernel
theorem dX1_layOut_19 : decode cX1_layOut 19 = .ok (.iload_n 3, 1) := by decide +kernel
theorem dX1_layOut_20 : decode cX1_layOut 20 = .ok (.ishr, 1) := by decide +kernel
theorem dX1_layOut_21 : decode cX1_layOut 21 = .ok (.iconst 1, 1) := by decide +kernel
theorem dX1_layOut_22 : decode cX1_layOut 22 = .ok (.iand, 1) := by decide +kernel
theorem dX1_layOut_23 : decode cX1_layOut 23 = .ok (.iconst 1, 1) := by decide +kernel
theorem dX1_layOut_24 : decode cX1_layOut 24 = .ok (.if_icmp .ne 7, 3) := by decide +kernel
theorem dX1_layOut_27 : decode cX1_layOut 27 = .ok (.iconst 1, 1) := by decide +kernel
theorem dX1_layOut_28 : decode cX1_layOut 28 = .ok (.goto 4, 3) := by decide +kernel
theorem dX1_layOut_31 : decode cX1_layOut 31 = .ok (.iconst 0, 1) := by decide +kernel
theorem dX1_layOut_32 : decode cX1_layOut 32 = .ok (.invokevirtual 55, 3) := by decide +kernel
theorem dX1_layOut_35 : decode cX1_layOut 35 = .ok (.iinc 3 1, 3) := by decide +kernel
theorem dX1_layOut_38 : decode cX1_layOut 38 = .ok (.goto (-31), 3) := by decide +kernel
theorem dX1_layOut_41 : decode cX1_layOut 41 = .ok (.iconst 0, 1) := by decide +kernel
theorem dX1_layOut_42 : decode cX1_layOut 42 = .ok (.istore_n 3, 1) := by decide +kernel
theorem dX1_layOut_43 : decode cX1_layOut 43 = .ok (.iload_n 3, 1) := by decide +kernel
theorem dX1_layOut_44 : decode cX1_layOut 44 = .ok (.bipush 12, 2) := by decide +kernel
theorem dX1_layOut_46 : decode cX1_layOut 46 = .ok (.if_icmp .ge 16, 3) := by decide +kernel
theorem dX1_layOut_49 : decode cX1_layOut 49 = .ok (.aload_n 0, 1) := by decide +kernel
theorem dX1_layOut_50 : decode cX1_layOut 50 = .ok (.getfield 36, 3) := by decide +kernel
theorem dX1_layOut_53 : decode cX1_layOut 53 = .ok (.iload_n 3, 1) := by decide +kernel
theorem dX1_layOut_54 : decode cX1_layOut 54 = .ok (.iconst 1, 1) := by decide +kernel
theorem dX1_layOut_55 : decode cX1_layOut 55 = .ok (.iastore, 1) := by decide +kernel
theorem dX1_layOut_56 : decode cX1_layOut 56 = .ok (.iinc 3 1, 3) := by decide +kernel
theorem dX1_layOut_59 : decode cX1_layOut 59 = .ok (.goto (-16), 3) := by decide +kernel
theorem dX1_layOut_62 : decode cX1_layOut 62 = .ok (.aload_n 0, 1) := by decide +kernel
theorem dX1_layOut_63 : decode cX1_layOut 63 = .ok (.invokevirtual 58, 3) := by decide +kernel
theorem dX1_layOut_66 : decode cX1_layOut 66 = .ok (.aload_n 0, 1) := by decide +kernel
theorem dX1_layOut_67 : decode cX1_layOut 67 = .ok (.iconst 0, 1) := by decide +kernel
theorem dX1_layOut_68 : decode cX1_layOut 68 = .ok (.putfield 61, 3) := by decide +kernel
theorem dX1_layOut_71 : decode cX1_layOut 71 = .ok (.aload_n 0, 1) := by decide +kernel
theorem dX1_layOut_72 : decode cX1_layOut 72 = .ok (.getfield 43, 3) := by decide +kernel
theorem dX1_layOut_75 : decode cX1_layOut 75 = .ok (.iconst 0, 1) := by decide +kernel
theorem dX1_layOut_76 : decode cX1_layOut 76 = .ok (.putfield 64, 3) := by decide +kernel
theorem dX1_layOut_79 : decode cX1_layOut 79 = .ok (.return_, 1) := by decide +kernel
theorem dX1_clearTraffic_0 : decode cX1_clearTraffic 0 = .ok (.aload_n 0, 1) := by decide +kernel
theorem dX1_clearTraffic_1 : decode cX1_clearTraffic 1 = .ok (.iconst 0, 1) := by decide +kernel
theorem dX1_clearTraffic_2 : decode cX1_clearTraffic 2 = .ok (.putfield 67, 3) := by decide +kernel
theorem dX1_clearTraffic_5 : decode cX1_clearTraffic 5 = .ok (.iconst 0, 1) := by decide +kernel
theorem dX1_clearTraffic_6 : decode cX1_clearTraffic 6 = .ok (.istore_n 1, 1) := by decide +kernel
theorem dX1_clearTraffic_7 : decode cX1_clearTraffic 7 = .ok (.iload_n 1, 1) := by decide +kernel
theorem dX1_clearTraffic_8 : decode cX1_clearTraffic 8 = .ok (.iconst 5, 1) := by decide +kernel
theorem dX1_clearTraffic_9 : decode cX1_clearTraffic 9 = .ok (.if_icmp .ge 19, 3) := by decide +kernel
theorem dX1_clearTraffic_12 : decode cX1_clearTraffic 12 = .ok (.aload_n 0, 1) := by decide +kernel
theorem dX1_clearTraffic_13 : decode cX1_clearTraffic 13 = .ok (.getfield 11, 3) := by decide +kernel
theorem dX1_clearTraffic_16 : decode cX1_clearTraffic 16 = .ok (.iload_n 1, 1) := by decide +kernel
theorem dX1_clearTraffic_17 : decode cX1_clearTraffic 17 = .ok (.aaload, 1) := by decide +kernel
theorem dX1_clearTraffic_18 : decode cX1_clearTraffic 18 = .ok (.iconst 0, 1) := by decide +kernel
theorem dX1_clearTraffic_19 : decode cX1_clearTraffic 19 = .ok (.putfield 70, 3) := by decide +kernel
theorem dX1_clearTraffic_22 : decode cX1_clearTraffic 22 = .ok (.iinc 1 1, 3) := by decide +kernel
theorem dX1_clearTraffic_25 : decode cX1_clearTraffic 25 = .ok (.goto (-18), 3) := by decide +kernel
theorem dX1_clearTraffic_28 : decode cX1_clearTraffic 28 = .ok (.iconst 0, 1) := by decide +kernel
theorem dX1_clearTraffic_29 : decode cX1_clearTraffic 29 = .ok (.istore_n 1, 1) := by decide +kernel
theorem dX1_clearTraffic_30 : decode cX1_clearTraffic 30 = .ok (.iload_n 1, 1) := by decide +kernel
theorem dX1_clearTraffic_31 : decode cX1_clearTraffic 31 = .ok (.bipush 10, 2) := by decide +kernel
theorem dX1_clearTraffic_33 : decode cX1_clearTraffic 33 = .ok (.if_icmp .ge 18, 3) := by decide +kernel
theorem dX1_clearTraffic_36 : decode cX1_clearTraffic 36 = .ok (.aload_n 0, 1) := by decide +kernel
theorem dX1_clearTraffic_37 : decode cX1_clearTraffic 37 = .ok (.getfield 19, 3) := by decide +kernel
theorem dX1_clearTraffic_40 : decode cX1_clearTraffic 40 = .ok (.iload_n 1, 1) := by decide +kernel
theorem dX1_clearTraffic_41 : decode cX1_clearTraffic 41 = .ok (.aaload, 1) := by decide +kernel
theorem dX1_clearTraffic_42 : decode cX1_clearTraffic 42 = .ok (.invokevirtual 74, 3) := by decide +kernel
theorem dX1_clearTraffic_45 : decode cX1_clearTraffic 45 = .ok (.iinc 1 1, 3) := by decide +kernel
theorem dX1_clearTraffic_48 : decode cX1_clearTraffic 48 = .ok (.goto (-18), 3) := by decide +kernel
theorem dX1_clearTraffic_51 : decode cX1_clearTraffic 51 = .ok (.return_, 1) := by decide +kernel
theorem dX1_copyFrom_0 : decode cX1_copyFrom 0 = .ok (.aload_n 0, 1) := by decide +kernel
theorem dX1_copyFrom_1 : decode cX1_copyFrom 1 = .ok (.aload_n 1, 1) := by decide +kernel
theorem dX1_copyFrom_2 : decode cX1_copyFrom 2 = .ok (.getfield 51, 3) := by decide +kernel
theorem dX1_copyFrom_5 : decode cX1_copyFrom 5 = .ok (.putfield 51, 3) := by decide +kernel
theorem dX1_copyFrom_8 : decode cX1_copyFrom 8 = .ok (.aload_n 0, 1) := by decide +kernel
theorem dX1_copyFrom_9 : decode cX1_copyFrom 9 = .ok (.aload_n 1, 1) := by decide +kernel
theorem dX1_copyFrom_10 : decode cX1_copyFrom 10 = .ok (.getfield 67, 3) := by decide +kernel
theorem dX1_copyFrom_13 : decode cX1_copyFrom 13 = .ok (.putfield 67, 3) := by decide +kernel
theorem dX1_copyFrom_16 : decode cX1_copyFrom 16 = .ok (.aload_n 0, 1) := by decide +kernel
theorem dX1_copyFrom_17 : decode cX1_copyFrom 17 = .ok (.aload_n 1, 1) := by decide +kernel
theorem dX1_copyFrom_18 : decode cX1_copyFrom 18 = .ok (.getfield 61, 3) := by decide +kernel
theorem dX1_copyFrom_21 : decode cX1_copyFrom 21 = .ok (.putfield 61, 3) := by decide +kernel
theorem dX1_copyFrom_24 : decode cX1_copyFrom 24 = .ok (.iconst 0, 1) := by decide +kernel
theorem dX1_copyFrom_25 : decode cX1_copyFrom 25 = .ok (.istore_n 2, 1) := by decide +kernel
theorem dX1_copyFrom_26 : decode cX1_copyFrom 26 = .ok (.iload_n 2, 1) := by decide +kernel
theorem dX1_copyFrom_27 : decode cX1_copyFrom 27 = .ok (.iconst 5, 1) := by decide +kernel
theorem dX1_copyFrom_28 : decode cX1_copyFrom 28 = .ok (.if_icmp .ge 24, 3) := by decide +kernel
theorem dX1_copyFrom_31 : decode cX1_copyFrom 31 = .ok (.aload_n 0, 1) := by decide +kernel
theorem dX1_copyFrom_32 : decode cX1_copyFrom 32 = .ok (.getfield 11, 3) := by decide +kernel
theorem dX1_copyFrom_35 : decode cX1_copyFrom 35 = .ok (.iload_n 2, 1) := by decide +kernel
theorem dX1_copyFrom_36 : decode cX1_copyFrom 36 = .ok (.aaload, 1) := by decide +kernel
theorem dX1_copyFrom_37 : decode cX1_copyFrom 37 = .ok (.aload_n 1, 1) := by decide +kernel
theorem dX1_copyFrom_38 : decode cX1_copyFrom 38 = .ok (.getfield 11, 3) := by decide +kernel
theorem dX1_copyFrom_41 : decode cX1_copyFrom 41 = .ok (.iload_n 2, 1) := by decide +kernel
theorem dX1_copyFrom_42 : decode cX1_copyFrom 42 = .ok (.aaload, 1) := by decide +kernel
theorem dX1_copyFrom_43 : decode cX1_copyFrom 43 = .ok (.invokevirtual 77, 3) := by decide +kernel
theorem dX1_copyFrom_46 : decode cX1_copyFrom 46 = .ok (.iinc 2 1, 3) := by decide +kernel
theorem dX1_copyFrom_49 : decode cX1_copyFrom 49 = .ok (.goto (-23), 3) := by decide +kernel
theorem dX1_copyFrom_52 : decode cX1_copyFrom 52 = .ok (.iconst 0, 1) := by decide +kernel
theorem dX1_copyFrom_53 : decode cX1_copyFrom 53 = .ok (.istore_n 2, 1) := by decide +kernel
theorem dX1_copyFrom_54 : decode cX1_copyFrom 54 = .ok (.iload_n 2, 1) := by decide +kernel
theorem dX1_copyFrom_55 : decode cX1_copyFrom 55 = .ok (.bipush 10, 2) := by decide +kernel
theorem dX1_copyFrom_57 : decode cX1_copyFrom 57 = .ok (.if_icmp .ge 24, 3) := by decide +kernel
theorem dX1_copyFrom_60 : decode cX1_copyFrom 60 = .ok (.aload_n 0, 1) := by decide +kernel
theorem dX1_copyFrom_61 : decode cX1_copyFrom 61 = .ok (.getfield 19, 3) := by decide +kernel
theorem dX1_copyFrom_64 : decode cX1_copyFrom 64 = .ok (.iload_n 2, 1) := by decide +kernel
theorem dX1_copyFrom_65 : decode cX1_copyFrom 65 = .ok (.aaload, 1) := by decide +kernel
theorem dX1_copyFrom_66 : decode cX1_copyFrom 66 = .ok (.aload_n 1, 1) := by decide +kernel
theorem dX1_copyFrom_67 : decode cX1_copyFrom 67 = .ok (.getfield 19, 3) := by decide +kernel
theorem dX1_copyFrom_70 : decode cX1_copyFrom 70 = .ok (.iload_n 2, 1) := by decide +kernel
theorem dX1_copyFrom_71 : decode cX1_copyFrom 71 = .ok (.aaload, 1) := by decide +kernel
theorem dX1_copyFrom_72 : decode cX1_copyFrom 72 = .ok (.invokevirtual 81, 3) := by decide +kernel
theorem dX1_copyFrom_75 : decode cX1_copyFrom 75 = .ok (.iinc 2 1, 3) := by decide +kernel
theorem dX1_copyFrom_78 : decode cX1_copyFrom 78 = .ok (.goto (-24), 3) := by decide +kernel
theorem dX1_copyFrom_81 : decode cX1_copyFrom 81 = .ok (.iconst 0, 1) := by decide +kernel
theorem dX1_copyFrom_82 : decode cX1_copyFrom 82 = .ok (.istore_n 2, 1) := by decide +kernel
theorem dX1_copyFrom_83 : decode cX1_copyFrom 83 = .ok (.iload_n 2, 1) := by decide +kernel
theorem dX1_copyFrom_84 : decode cX1_copyFrom 84 = .ok (.bipush 12, 2) := by decide +kernel
theorem dX1_copyFrom_86 : decode cX1_copyFrom 86 = .ok (.if_icmp .ge 24, 3) := by decide +kernel
theorem dX1_copyFrom_89 : decode cX1_copyFrom 89 = .ok (.aload_n 0, 1) := by decide +kernel
theorem dX1_copyFrom_90 : decode cX1_copyFrom 90 = .ok (.getfield 31, 3) := by decide +kernel
theorem dX1_copyFrom_93 : decode cX1_copyFrom 93 = .ok (.iload_n 2, 1) := by decide +kernel
theorem dX1_copyFrom_94 : decode cX1_copyFrom 94 = .ok (.aaload, 1) := by decide +kernel
theorem dX1_copyFrom_95 : decode cX1_copyFrom 95 = .ok (.aload_n 1, 1) := by decide +kernel
theorem dX1_copyFrom_96 : decode cX1_copyFrom 96 = .ok (.getfield 31, 3) := by decide +kernel
theorem dX1_copyFrom_99 : decode cX1_copyFrom 99 = .ok (.iload_n 2, 1) := by decide +kernel
theorem dX1_copyFrom_100 : decode cX1_copyFrom 100 = .ok (.aaload, 1) := by decide +kernel
theorem dX1_copyFrom_101 : decode cX1_copyFrom 101 = .ok (.invokevirtual 84, 3) := by decide +kernel
theorem dX1_copyFrom_104 : decode cX1_copyFrom 104 = .ok (.iinc 2 1, 3) := by decide +kernel
theorem dX1_copyFrom_107 : decode cX1_copyFrom 107 = .ok (.goto (-24), 3) := by decide +kernel
theorem dX1_copyFrom_110 : decode cX1_copyFrom 110 = .ok (.aload_n 1, 1) := by decide +kernel
theorem dX1_copyFrom_111 : decode cX1_copyFrom 111 = .ok (.getfield 36, 3) := by decide +kernel
theorem dX1_copyFrom_114 : decode cX1_copyFrom 114 = .ok (.iconst 0, 1) := by decide +kernel
theorem dX1_copyFrom_115 : decode cX1_copyFrom 115 = .ok (.aload_n 0, 1) := by decide +kernel
theorem dX1_copyFrom_116 : decode cX1_copyFrom 116 = .ok (.getfield 36, 3) := by decide +kernel
theorem dX1_copyFrom_119 : decode cX1_copyFrom 119 = .ok (.iconst 0, 1) := by decide +kernel
theorem dX1_copyFrom_120 : decode cX1_copyFrom 120 = .ok (.bipush 12, 2) := by decide +kernel
theorem dX1_copyFrom_122 : decode cX1_copyFrom 122 = .ok (.invokestatic 87, 3) := by decide +kernel
theorem dX1_copyFrom_125 : decode cX1_copyFrom 125 = .ok (.aload_n 0, 1) := by decide +kernel
theorem dX1_copyFrom_126 : decode cX1_copyFrom 126 = .ok (.getfield 43, 3) := by decide +kernel
theorem dX1_copyFrom_129 : decode cX1_copyFrom 129 = .ok (.aload_n 1, 1) := by decide +kernel
theorem dX1_copyFrom_130 : decode cX1_copyFrom 130 = .ok (.getfield 43, 3) := by decide +kernel
theorem dX1_copyFrom_133 : decode cX1_copyFrom 133 = .ok (.invokevirtual 93, 3) := by decide +kernel
theorem dX1_copyFrom_136 : decode cX1_copyFrom 136 = .ok (.return_, 1) := by decide +kernel
theorem dX1_hasBox_0 : decode cX1_hasBox 0 = .ok (.iload_n 1, 1) := by decide +kernel
theorem dX1_hasBox_1 : decode cX1_hasBox 1 = .ok (.ifCond .lt 15, 3) := by decide +kernel
theorem dX1_hasBox_4 : decode cX1_hasBox 4 = .ok (.iload_n 1, 1) := by decide +kernel
theorem dX1_hasBox_5 : decode cX1_hasBox 5 = .ok (.aload_n 0, 1) := by decide +kernel
theorem dX1_hasBox_6 : decode cX1_hasBox 6 = .ok (.getfield 51, 3) := by decide +kernel
theorem dX1_hasBox_9 : decode cX1_hasBox 9 = .ok (.if_icmp .ge 7, 3) := by decide +kernel
theorem dX1_hasBox_12 : decode cX1_hasBox 12 = .ok (.iconst 1, 1) := by decide +kernel
theorem dX1_hasBox_13 : decode cX1_hasBox 13 = .ok (.goto 4, 3) := by decide +kernel
theorem dX1_hasBox_16 : decode cX1_hasBox 16 = .ok (.iconst 0, 1) := by decide +kernel
theorem dX1_hasBox_17 : decode cX1_hasBox 17 = .ok (.ireturn, 1) := by decide +kernel
theorem dX1_sectionAt_0 : decode cX1_sectionAt 0 = .ok (.iload_n 1, 1) := by decide +kernel
theorem dX1_sectionAt_1 : decode cX1_sectionAt 1 = .ok (.ifCond .lt 22, 3) := by decide +kernel
theorem dX1_sectionAt_4 : decode cX1_sectionAt 4 = .ok (.iload_n 1, 1) := by decide +kernel
theorem dX1_sectionAt_5 : decode cX1_sectionAt 5 = .ok (.aload_n 0, 1) := by decide +kernel
theorem dX1_sectionAt_6 : decode cX1_sectionAt 6 = .ok (.getfield 51, 3) := by decide +kernel
theorem dX1_sectionAt_9 : decode cX1_sectionAt 9 = .ok (.iconst 1, 1) := by decide +kernel
theorem dX1_sectionAt_10 : decode cX1_sectionAt 10 = .ok (.isub, 1) := by decide +kernel
theorem dX1_sectionAt_11 : decode cX1_sectionAt 11 = .ok (.if_icmp .ge 12, 3) := by decide +kernel
theorem dX1_sectionAt_14 : decode cX1_sectionAt 14 = .ok (.aload_n 0, 1) := by decide +kernel
theorem dX1_sectionAt_15 : decode cX1_sectionAt 15 = .ok (.getfield 11, 3) := by decide +kernel
theorem dX1_sectionAt_18 : decode cX1_sectionAt 18 = .ok (.iload_n 1, 1) := by decide +kernel
theorem dX1_sectionAt_19 : decode cX1_sectionAt 19 = .ok (.aaload, 1) := by decide +kernel
theorem dX1_sectionAt_20 : decode cX1_sectionAt 20 = .ok (.goto 4, 3) := by decide +kernel
theorem dX1_sectionAt_23 : decode cX1_sectionAt 23 = .ok (.aconst_null, 1) := by decide +kernel
theorem dX1_sectionAt_24 : decode cX1_sectionAt 24 = .ok (.areturn, 1) := by decide +kernel
theorem dX1_blockAt_0 : decode cX1_blockAt 0 = .ok (.iload_n 1, 1) := by decide +kernel
theorem dX1_blockAt_1 : decode cX1_blockAt 1 = .ok (.ifCond .lt 22, 3) := by decide +kernel
theorem dX1_blockAt_4 : decode cX1_blockAt 4 = .ok (.iload_n 1, 1) := by decide +kernel
theorem dX1_blockAt_5 : decode cX1_blockAt 5 = .ok (.aload_n 0, 1) := by decide +kernel
theorem dX1_blockAt_6 : decode cX1_blockAt 6 = .ok (.getfield 51, 3) := by decide +kernel
theorem dX1_blockAt_9 : decode cX1_blockAt 9 = .ok (.iconst 1, 1) := by decide +kernel
theorem dX1_blockAt_10 : decode cX1_blockAt 10 = .ok (.isub, 1) := by decide +kernel
theorem dX1_blockAt_11 : decode cX1_blockAt 11 = .ok (.if_icmp .ge 12, 3) := by decide +kernel
theorem dX1_blockAt_14 : decode cX1_blockAt 14 = .ok (.iload_n 2, 1) := by decide +kernel
theorem dX1_blockAt_15 : decode cX1_blockAt 15 = .ok (.ifCond .lt 8, 3) := by decide +kernel
theorem dX1_blockAt_18 : decode cX1_blockAt 18 = .ok (.iload_n 2, 1) := by decide +kernel
theorem dX1_blockAt_19 : decode cX1_blockAt 19 = .ok (.iconst 1, 1) := by decide +kernel
theorem dX1_blockAt_20 : decode cX1_blockAt 20 = .ok (.if_icmp .le 5, 3) := by decide +kernel
theorem dX1_blockAt_23 : decode cX1_blockAt 23 = .ok (.aconst_null, 1) := by decide +kernel
theorem dX1_blockAt_24 : decode cX1_blockAt 24 = .ok (.areturn, 1) := by decide +kernel
theorem dX1_blockAt_25 : decode cX1_blockAt 25 = .ok (.aload_n 0, 1) := by decide +kernel
theorem dX1_blockAt_26 : decode cX1_blockAt 26 = .ok (.getfield 19, 3) := by decide +kernel
theorem dX1_blockAt_29 : decode cX1_blockAt 29 = .ok (.iconst 2, 1) := by decide +kernel
theorem dX1_blockAt_30 : decode cX1_blockAt 30 = .ok (.iload_n 1, 1) := by decide +kernel
theorem dX1_blockAt_31 : decode cX1_blockAt 31 = .ok (.imul, 1) := by decide +kernel
theorem dX1_blockAt_32 : decode cX1_blockAt 32 = .ok (.iload_n 2, 1) := by decide +kernel
theorem dX1_blockAt_33 : decode cX1_blockAt 33 = .ok (.iadd, 1) := by decide +kernel
theorem dX1_blockAt_34 : decode cX1_blockAt 34 = .ok (.aaload, 1) := by decide +kernel
theorem dX1_blockAt_35 : decode cX1_blockAt 35 = .ok (.areturn, 1) := by decide +kernel
theorem dX1_trainAt_0 : decode cX1_trainAt 0 = .ok (.iload_n 1, 1) := by decide +kernel
theorem dX1_trainAt_1 : decode cX1_trainAt 1 = .ok (.ifCond .lt 20, 3) := by decide +kernel
theorem dX1_trainAt_4 : decode cX1_trainAt 4 = .ok (.iload_n 1, 1) := by decide +kernel
theorem dX1_trainAt_5 : decode cX1_trainAt 5 = .ok (.aload_n 0, 1) := by decide +kernel
theorem dX1_trainAt_6 : decode cX1_trainAt 6 = .ok (.getfield 67, 3) := by decide +kernel
theorem dX1_trainAt_9 : decode cX1_trainAt 9 = .ok (.if_icmp .ge 12, 3) := by decide +kernel
theorem dX1_trainAt_12 : decode cX1_trainAt 12 = .ok (.aload_n 0, 1) := by decide +kernel
theorem dX1_trainAt_13 : decode cX1_trainAt 13 = .ok (.getfield 31, 3) := by decide +kernel
theorem dX1_trainAt_16 : decode cX1_trainAt 16 = .ok (.iload_n 1, 1) := by decide +kernel
theorem dX1_trainAt_17 : decode cX1_trainAt 17 = .ok (.aaload, 1) := by decide +kernel
theorem dX1_trainAt_18 : decode cX1_trainAt 18 = .ok (.goto 4, 3) := by decide +kernel
theorem dX1_trainAt_21 : decode cX1_trainAt 21 = .ok (.aconst_null, 1) := by decide +kernel
theorem dX1_trainAt_22 : decode cX1_trainAt 22 = .ok (.areturn, 1) := by decide +kernel
theorem dX1_isGone_0 : decode cX1_isGone 0 = .ok (.aload_n 0, 1) := by decide +kernel
theorem dX1_isGone_1 : decode cX1_isGone 1 = .ok (.iload_n 1, 1) := by decide +kernel
theorem dX1_isGone_2 : decode cX1_isGone 2 = .ok (.invokevirtual 96, 3) := by decide +kernel
theorem dX1_isGone_5 : decode cX1_isGone 5 = .ok (.astore_n 2, 1) := by decide +kernel
theorem dX1_isGone_6 : decode cX1_isGone 6 = .ok (.aload_n 2, 1) := by decide +kernel
theorem dX1_isGone_7 : decode cX1_isGone 7 = .ok (.ifnull 15, 3) := by decide +kernel
theorem dX1_isGone_10 : decode cX1_isGone 10 = .ok (.aload_n 2, 1) := by decide +kernel
theorem dX1_isGone_11 : decode cX1_isGone 11 = .ok (.getfield 100, 3) := by decide +kernel
theorem dX1_isGone_14 : decode cX1_isGone 14 = .ok (.iconst 3, 1) := by decide +kernel
theorem dX1_isGone_15 : decode cX1_isGone 15 = .ok (.if_icmp .ne 7, 3) := by decide +kernel
theorem dX1_isGone_18 : decode cX1_isGone 18 = .ok (.iconst 1, 1) := by decide +kernel
theorem dX1_isGone_19 : decode cX1_isGone 19 = .ok (.goto 4, 3) := by decide +kernel
theorem dX1_isGone_22 : decode cX1_isGone 22 = .ok (.iconst 0, 1) := by decide +kernel
theorem dX1_isGone_23 : decode cX1_isGone 23 = .ok (.ireturn, 1) := by decide +kernel
theorem dX1_blockCount_0 : decode cX1_blockCount 0 = .ok (.iconst 2, 1) := by decide +kernel
theorem dX1_blockCount_1 : decode cX1_blockCount 1 = .ok (.aload_n 0, 1) := by decide +kernel
theorem dX1_blockCount_2 : decode cX1_blockCount 2 = .ok (.getfield 51, 3) := by decide +kernel
theorem dX1_blockCount_5 : decode cX1_blockCount 5 = .ok (.iconst 1, 1) := by decide +kernel
theorem dX1_blockCount_6 : decode cX1_blockCount 6 = .ok (.isub, 1) := by decide +kernel
theorem dX1_blockCount_7 : decode cX1_blockCount 7 = .ok (.imul, 1) := by decide +kernel
theorem dX1_blockCount_8 : decode cX1_blockCount 8 = .ok (.ireturn, 1) := by decide +kernel
theorem dX1_firstBox_0 : decode cX1_firstBox 0 = .ok (.iload_n 1, 1) := by decide +kernel
theorem dX1_firstBox_1 : decode cX1_firstBox 1 = .ok (.ifCond .ne 7, 3) := by decide +kernel
theorem dX1_firstBox_4 : decode cX1_firstBox 4 = .ok (.iconst 0, 1) := by decide +kernel
theorem dX1_firstBox_5 : decode cX1_firstBox 5 = .ok (.goto 9, 3) := by decide +kernel
theorem dX1_firstBox_8 : decode cX1_firstBox 8 = .ok (.aload_n 0, 1) := by decide +kernel
theorem dX1_firstBox_9 : decode cX1_firstBox 9 = .ok (.getfield 51, 3) := by decide +kernel
theorem dX1_firstBox_12 : decode cX1_firstBox 12 = .ok (.iconst 1, 1) := by decide +kernel
theorem dX1_firstBox_13 : decode cX1_firstBox 13 = .ok (.isub, 1) := by decide +kernel
theorem dX1_firstBox_14 : decode cX1_firstBox 14 = .ok (.ireturn, 1) := by decide +kernel
theorem dX1_lastBox_0 : decode cX1_lastBox 0 = .ok (.aload_n 0, 1) := by decide +kernel
theorem dX1_lastBox_1 : decode cX1_lastBox 1 = .ok (.iconst 1, 1) := by decide +kernel
theorem dX1_lastBox_2 : decode cX1_lastBox 2 = .ok (.iload_n 1, 1) := by decide +kernel
theorem dX1_lastBox_3 : decode cX1_lastBox 3 = .ok (.isub, 1) := by decide +kernel
theorem dX1_lastBox_4 : decode cX1_lastBox 4 = .ok (.invokevirtual 103, 3) := by decide +kernel
theorem dX1_lastBox_7 : decode cX1_lastBox 7 = .ok (.ireturn, 1) := by decide +kernel
theorem dX1_isLineFree_0 : decode cX1_isLineFree 0 = .ok (.aload_n 0, 1) := by decide +kernel
theorem dX1_isLineFree_1 : decode cX1_isLineFree 1 = .ok (.iconst 0, 1) := by decide +kernel
theorem dX1_isLineFree_2 : decode cX1_isLineFree 2 = .ok (.iload_n 1, 1) := by decide +kernel
theorem dX1_isLineFree_3 : decode cX1_isLineFree 3 = .ok (.iload_n 2, 1) := by decide +kernel
theorem dX1_isLineFree_4 : decode cX1_isLineFree 4 = .ok (.invokevirtual 107, 3) := by decide +kernel
theorem dX1_isLineFree_7 : decode cX1_isLineFree 7 = .ok (.ifCond .ne 7, 3) := by decide +kernel
theorem dX1_isLineFree_10 : decode cX1_isLineFree 10 = .ok (.iconst 1, 1) := by decide +kernel
theorem dX1_isLineFree_11 : decode cX1_isLineFree 11 = .ok (.goto 4, 3) := by decide +kernel
theorem dX1_isLineFree_14 : decode cX1_isLineFree 14 = .ok (.iconst 0, 1) := by decide +kernel
theorem dX1_isLineFree_15 : decode cX1_isLineFree 15 = .ok (.ireturn, 1) := by decide +kernel
theorem dX1_trainsStanding_0 : decode cX1_trainsStanding 0 = .ok (.iconst 0, 1) := by decide +kernel
theorem dX1_trainsStanding_1 : decode cX1_trainsStanding 1 = .ok (.istore 4, 2) := by decide +kernel
theorem dX1_trainsStanding_3 : decode cX1_trainsStanding 3 = .ok (.iconst 0, 1) := by decide +kernel
theorem dX1_trainsStanding_4 : decode cX1_trainsStanding 4 = .ok (.istore 5, 2) := by decide +kernel
theorem dX1_trainsStanding_6 : decode cX1_trainsStanding 6 = .ok (.iload 5, 2) := by decide +kernel
theorem dX1_trainsStanding_8 : decode cX1_trainsStanding 8 = .ok (.aload_n 0, 1) := by decide +kernel
theorem dX1_trainsStanding_9 : decode cX1_trainsStanding 9 = .ok (.getfield 67, 3) := by decide +kernel
theorem dX1_trainsStanding_12 : decode cX1_trainsStanding 12 = .ok (.if_icmp .ge 28, 3) := by decide +kernel
theorem dX1_trainsStanding_15 : decode cX1_trainsStanding 15 = .ok (.aload_n 0, 1) := by decide +kernel
theorem dX1_trainsStanding_16 : decode cX1_trainsStanding 16 = .ok (.getfield 31, 3) := by decide +kernel
theorem dX1_trainsStanding_19 : decode cX1_trainsStanding 19 = .ok (.iload 5, 2) := by decide +kernel
theorem dX1_trainsStanding_21 : decode cX1_trainsStanding 21 = .ok (.aaload, 1) := by decide +kernel
theorem dX1_trainsStanding_22 : decode cX1_trainsStanding 22 = .ok (.iload_n 1, 1) := by decide +kernel
theorem dX1_trainsStanding_23 : decode cX1_trainsStanding 23 = .ok (.iload_n 2, 1) := by decide +kernel
theorem dX1_trainsStanding_24 : decode cX1_trainsStanding 24 = .ok (.iload_n 3, 1) := by decide +kernel
theorem dX1_trainsStanding_25 : decode cX1_trainsStanding 25 = .ok (.invokevirtual 111, 3) := by decide +kernel
theorem dX1_trainsStanding_28 : decode cX1_trainsStanding 28 = .ok (.ifCond .eq 6, 3) := by decide +kernel
theorem dX1_trainsStanding_31 : decode cX1_trainsStanding 31 = .ok (.iinc 4 1, 3) := by decide +kernel
theorem dX1_trainsStanding_34 : decode cX1_trainsStanding 34 = .ok (.iinc 5 1, 3) := by decide +kernel
theorem dX1_trainsStanding_37 : decode cX1_trainsStanding 37 = .ok (.goto (-31), 3) := by decide +kernel
theorem dX1_trainsStanding_40 : decode cX1_trainsStanding 40 = .ok (.iload 4, 2) := by decide +kernel
theorem dX1_trainsStanding_42 : decode cX1_trainsStanding 42 = .ok (.ireturn, 1) := by decide +kernel
theorem dX1_nextBlock_0 : decode cX1_nextBlock 0 = .ok (.aload_n 1, 1) := by decide +kernel
theorem dX1_nextBlock_1 : decode cX1_nextBlock 1 = .ok (.getfield 100, 3) := by decide +kernel
theorem dX1_nextBlock_4 : decode cX1_nextBlock 4 = .ok (.ifCond .ne 23, 3) := by decide +kernel
theorem dX1_nextBlock_7 : decode cX1_nextBlock 7 = .ok (.aload_n 0, 1) := by decide +kernel
theorem dX1_nextBlock_8 : decode cX1_nextBlock 8 = .ok (.aload_n 1, 1) := by decide +kernel
theorem dX1_nextBlock_9 : decode cX1_nextBlock 9 = .ok (.getfield 115, 3) := by decide +kernel
theorem dX1_nextBlock_12 : decode cX1_nextBlock 12 = .ok (.aload_n 1, 1) := by decide +kernel
theorem dX1_nextBlock_13 : decode cX1_nextBlock 13 = .ok (.getfield 118, 3) := by decide +kernel
theorem dX1_nextBlock_16 : decode cX1_nextBlock 16 = .ok (.isub, 1) := by decide +kernel
theorem dX1_nextBlock_17 : decode cX1_nextBlock 17 = .ok (.aload_n 1, 1) := by decide +kernel
theorem dX1_nextBlock_18 : decode cX1_nextBlock 18 = .ok (.getfield 118, 3) := by decide +kernel
theorem dX1_nextBlock_21 : decode cX1_nextBlock 21 = .ok (.invokevirtual 121, 3) := by decide +kernel
theorem dX1_nextBlock_24 : decode cX1_nextBlock 24 = .ok (.goto 4, 3) := by decide +kernel
theorem dX1_nextBlock_27 : decode cX1_nextBlock 27 = .ok (.aconst_null, 1) := by decide +kernel
theorem dX1_nextBlock_28 : decode cX1_nextBlock 28 = .ok (.areturn, 1) := by decide +kernel
theorem dX1_blockTo_0 : decode cX1_blockTo 0 = .ok (.aload_n 0, 1) := by decide +kernel
theorem dX1_blockTo_1 : decode cX1_blockTo 1 = .ok (.iload_n 1, 1) := by decide +kernel
theorem dX1_blockTo_2 : decode cX1_blockTo 2 = .ok (.iconst 1, 1) := by decide +kernel
theorem dX1_blockTo_3 : decode cX1_blockTo 3 = .ok (.isub, 1) := by decide +kernel
theorem dX1_blockTo_4 : decode cX1_blockTo 4 = .ok (.iload_n 2, 1) := by decide +kernel
theorem dX1_blockTo_5 : decode cX1_blockTo 5 = .ok (.iadd, 1) := by decide +kernel
theorem dX1_blockTo_6 : decode cX1_blockTo 6 = .ok (.iload_n 2, 1) := by decide +kernel
theorem dX1_blockTo_7 : decode cX1_blockTo 7 = .ok (.invokevirtual 121, 3) := by decide +kernel
theorem dX1_blockTo_10 : decode cX1_blockTo 10 = .ok (.areturn, 1) := by decide +kernel
theorem dX1_trainInside_0 : decode cX1_trainInside 0 = .ok (.aload_n 1, 1) := by decide +kernel
theorem dX1_trainInside_1 : decode cX1_trainInside 1 = .ok (.getfield 125, 3) := by decide +kernel
theorem dX1_trainInside_4 : decode cX1_trainInside 4 = .ok (.iconst 2, 1) := by decide +kernel
theorem dX1_trainInside_5 : decode cX1_trainInside 5 = .ok (.if_icmp .ne 14, 3) := by decide +kernel
theorem dX1_trainInside_8 : decode cX1_trainInside 8 = .ok (.aload_n 0, 1) := by decide +kernel
theorem dX1_trainInside_9 : decode cX1_trainInside 9 = .ok (.aload_n 1, 1) := by decide +kernel
theorem dX1_trainInside_10 : decode cX1_trainInside 10 = .ok (.getfield 128, 3) := by decide +kernel
theorem dX1_trainInside_13 : decode cX1_trainInside 13 = .ok (.invokevirtual 96, 3) := by decide +kernel
theorem dX1_trainInside_16 : decode cX1_trainInside 16 = .ok (.goto 4, 3) := by decide +kernel
theorem dX1_trainInside_19 : decode cX1_trainInside 19 = .ok (.aconst_null, 1) := by decide +kernel
theorem dX1_trainInside_20 : decode cX1_trainInside 20 = .ok (.astore_n 2, 1) := by decide +kernel
theorem dX1_trainInside_21 : decode cX1_trainInside 21 = .ok (.aload_n 2, 1) := by decide +kernel
theorem dX1_trainInside_22 : decode cX1_trainInside 22 = .ok (.ifnull 25, 3) := by decide +kernel
theorem dX1_trainInside_25 : decode cX1_trainInside 25 = .ok (.aload_n 2, 1) := by decide +kernel
theorem dX1_trainInside_26 : decode cX1_trainInside 26 = .ok (.getfield 100, 3) := by decide +kernel
theorem dX1_trainInside_29 : decode cX1_trainInside 29 = .ok (.iconst 2, 1) := by decide +kernel
theorem dX1_trainInside_30 : decode cX1_trainInside 30 = .ok (.if_icmp .ne 17, 3) := by decide +kernel
theorem dX1_trainInside_33 : decode cX1_trainInside 33 = .ok (.aload_n 2, 1) := by decide +kernel
theorem dX1_trainInside_34 : decode cX1_trainInside 34 = .ok (.getfield 115, 3) := by decide +kernel
theorem dX1_trainInside_37 : decode cX1_trainInside 37 = .ok (.aload_n 1, 1) := by decide +kernel
theorem dX1_trainInside_38 : decode cX1_trainInside 38 = .ok (.getfield 131, 3) := by decide +kernel
theorem dX1_trainInside_41 : decode cX1_trainInside 41 = .ok (.getfield 135, 3) := by decide +kernel
theorem dX1_trainInside_44 : decode cX1_trainInside 44 = .ok (.if_icmp .eq 5, 3) := by decide +kernel
theorem dX1_trainInside_47 : decode cX1_trainInside 47 = .ok (.aconst_null, 1) := by decide +kernel
theorem dX1_trainInside_48 : decode cX1_trainInside 48 = .ok (.areturn, 1) := by decide +kernel
theorem dX1_trainInside_49 : decode cX1_trainInside 49 = .ok (.aload_n 2, 1) := by decide +kernel
theorem dX1_trainInside_50 : decode cX1_trainInside 50 = .ok (.areturn, 1) := by decide +kernel
theorem dX1_trainsThatAre_0 : decode cX1_trainsThatAre 0 = .ok (.iconst 0, 1) := by decide +kernel
theorem dX1_trainsThatAre_1 : decode cX1_trainsThatAre 1 = .ok (.istore_n 2, 1) := by decide +kernel
theorem dX1_trainsThatAre_2 : decode cX1_trainsThatAre 2 = .ok (.iconst 0, 1) := by decide +kernel
theorem dX1_trainsThatAre_3 : decode cX1_trainsThatAre 3 = .ok (.istore_n 3, 1) := by decide +kernel
theorem dX1_trainsThatAre_4 : decode cX1_trainsThatAre 4 = .ok (.iload_n 3, 1) := by decide +kernel
theorem dX1_trainsThatAre_5 : decode cX1_trainsThatAre 5 = .ok (.aload_n 0, 1) := by decide +kernel
theorem dX1_trainsThatAre_6 : decode cX1_trainsThatAre 6 = .ok (.getfield 67, 3) := by decide +kernel
theorem dX1_trainsThatAre_9 : decode cX1_trainsThatAre 9 = .ok (.if_icmp .ge 25, 3) := by decide +kernel
theorem dX1_trainsThatAre_12 : decode cX1_trainsThatAre 12 = .ok (.aload_n 0, 1) := by decide +kernel
theorem dX1_trainsThatAre_13 : decode cX1_trainsThatAre 13 = .ok (.getfield 31, 3) := by decide +kernel
theorem dX1_trainsThatAre_16 : decode cX1_trainsThatAre 16 = .ok (.iload_n 3, 1) := by decide +kernel
theorem dX1_trainsThatAre_17 : decode cX1_trainsThatAre 17 = .ok (.aaload, 1) := by decide +kernel
theorem dX1_trainsThatAre_18 : decode cX1_trainsThatAre 18 = .ok (.getfield 100, 3) := by decide +kernel
theorem dX1_trainsThatAre_21 : decode cX1_trainsThatAre 21 = .ok (.iload_n 1, 1) := by decide +kernel
theorem dX1_trainsThatAre_22 : decode cX1_trainsThatAre 22 = .ok (.if_icmp .ne 6, 3) := by decide +kernel
theorem dX1_trainsThatAre_25 : decode cX1_trainsThatAre 25 = .ok (.iinc 2 1, 3) := by decide +kernel
theorem dX1_trainsThatAre_28 : decode cX1_trainsThatAre 28 = .ok (.iinc 3 1, 3) := by decide +kernel
theorem dX1_trainsThatAre_31 : decode cX1_trainsThatAre 31 = .ok (.goto (-27), 3) := by decide +kernel
theorem dX1_trainsThatAre_34 : decode cX1_trainsThatAre 34 = .ok (.iload_n 2, 1) := by decide +kernel
theorem dX1_trainsThatAre_35 : decode cX1_trainsThatAre 35 = .ok (.ireturn, 1) := by decide +kernel
theorem dX1_blocksOtherThan_0 : decode cX1_blocksOtherThan 0 = .ok (.iconst 0, 1) := by decide +kernel
theorem dX1_blocksOtherThan_1 : decode cX1_blocksOtherThan 1 = .ok (.istore_n 3, 1) := by decide +kernel
theorem dX1_blocksOtherThan_2 : decode cX1_blocksOtherThan 2 = .ok (.iconst 0, 1) := by decide +kernel
theorem dX1_blocksOtherThan_3 : decode cX1_blocksOtherThan 3 = .ok (.istore 4, 2) := by decide +kernel
theorem dX1_blocksOtherThan_5 : decode cX1_blocksOtherThan 5 = .ok (.iload 4, 2) := by decide +kernel
theorem dX1_blocksOtherThan_7 : decode cX1_blocksOtherThan 7 = .ok (.aload_n 0, 1) := by decide +kernel
theorem dX1_blocksOtherThan_8 : decode cX1_blocksOtherThan 8 = .ok (.invokevirtual 138, 3) := by decide +kernel
theorem dX1_blocksOtherThan_11 : decode cX1_blocksOtherThan 11 = .ok (.if_icmp .ge 27, 3) := by decide +kernel
theorem dX1_blocksOtherThan_14 : decode cX1_blocksOtherThan 14 = .ok (.aload_n 0, 1) := by decide +kernel
theorem dX1_blocksOtherThan_15 : decode cX1_blocksOtherThan 15 = .ok (.getfield 19, 3) := by decide +kernel
theorem dX1_blocksOtherThan_18 : decode cX1_blocksOtherThan 18 = .ok (.iload 4, 2) := by decide +kernel
theorem dX1_blocksOtherThan_20 : decode cX1_blocksOtherThan 20 = .ok (.aaload, 1) := by decide +kernel
theorem dX1_blocksOtherThan_21 : decode cX1_blocksOtherThan 21 = .ok (.iload_n 1, 1) := by decide +kernel
theorem dX1_blocksOtherThan_22 : decode cX1_blocksOtherThan 22 = .ok (.invokevirtual 142, 3) := by decide +kernel
theorem dX1_blocksOtherThan_25 : decode cX1_blocksOtherThan 25 = .ok (.iload_n 2, 1) := by decide +kernel
theorem dX1_blocksOtherThan_26 : decode cX1_blocksOtherThan 26 = .ok (.if_icmp .eq 6, 3) := by decide +kernel
theorem dX1_blocksOtherThan_29 : decode cX1_blocksOtherThan 29 = .ok (.iinc 3 1, 3) := by decide +kernel
theorem dX1_blocksOtherThan_32 : decode cX1_blocksOtherThan 32 = .ok (.iinc 4 1, 3) := by decide +kernel
theorem dX1_blocksOtherThan_35 : decode cX1_blocksOtherThan 35 = .ok (.goto (-30), 3) := by decide +kernel
theorem dX1_blocksOtherThan_38 : decode cX1_blocksOtherThan 38 = .ok (.iload_n 3, 1) := by decide +kernel
theorem dX1_blocksOtherThan_39 : decode cX1_blocksOtherThan 39 = .ok (.ireturn, 1) := by decide +kernel
theorem dX1_changeLoops_0 : decode cX1_changeLoops 0 = .ok (.aload_n 0, 1) := by decide +kernel
theorem dX1_changeLoops_1 : decode cX1_changeLoops 1 = .ok (.iconst 1, 1) := by decide +kernel
theorem dX1_changeLoops_2 : decode cX1_changeLoops 2 = .ok (.iload_n 1, 1) := by decide +kernel
theorem dX1_changeLoops_3 : decode cX1_changeLoops 3 = .ok (.iload_n 2, 1) := by decide +kernel
theorem dX1_changeLoops_4 : decode cX1_changeLoops 4 = .ok (.invokevirtual 107, 3) := by decide +kernel
theorem dX1_changeLoops_7 : decode cX1_changeLoops 7 = .ok (.iload_n 3, 1) := by decide +kernel
theorem dX1_changeLoops_8 : decode cX1_changeLoops 8 = .ok (.if_icmp .le 6, 3) := by decide +kernel
theorem dX1_changeLoops_11 : decode cX1_changeLoops 11 = .ok (.bipush (-5), 2) := by decide +kernel
theorem dX1_changeLoops_13 : decode cX1_changeLoops 13 = .ok (.ireturn, 1) := by decide +kernel
theorem dX1_changeLoops_14 : decode cX1_changeLoops 14 = .ok (.aload_n 0, 1) := by decide +kernel
theorem dX1_changeLoops_15 : decode cX1_changeLoops 15 = .ok (.getfield 36, 3) := by decide +kernel
theorem dX1_changeLoops_18 : decode cX1_changeLoops 18 = .ok (.iconst 2, 1) := by decide +kernel
theorem dX1_changeLoops_19 : decode cX1_changeLoops 19 = .ok (.iload_n 1, 1) := by decide +kernel
theorem dX1_changeLoops_20 : decode cX1_changeLoops 20 = .ok (.imul, 1) := by decide +kernel
theorem dX1_changeLoops_21 : decode cX1_changeLoops 21 = .ok (.iload_n 2, 1) := by decide +kernel
theorem dX1_changeLoops_22 : decode cX1_changeLoops 22 = .ok (.iadd, 1) := by decide +kernel
theorem dX1_changeLoops_23 : decode cX1_changeLoops 23 = .ok (.iaload, 1) := by decide +kernel
theorem dX1_changeLoops_24 : decode cX1_changeLoops 24 = .ok (.istore 4, 2) := by decide +kernel
theorem dX1_changeLoops_26 : decode cX1_changeLoops 26 = .ok (.aload_n 0, 1) := by decide +kernel
theorem dX1_changeLoops_27 : decode cX1_changeLoops 27 = .ok (.getfield 36, 3) := by decide +kernel
theorem dX1_changeLoops_30 : decode cX1_changeLoops 30 = .ok (.iconst 2, 1) := by decide +kernel
theorem dX1_changeLoops_31 : decode cX1_changeLoops 31 = .ok (.iload_n 1, 1) := by decide +kernel
theorem dX1_changeLoops_32 : decode cX1_changeLoops 32 = .ok (.imul, 1) := by decide +kernel
theorem dX1_changeLoops_33 : decode cX1_changeLoops 33 = .ok (.iload_n 2, 1) := by decide +kernel
theorem dX1_changeLoops_34 : decode cX1_changeLoops 34 = .ok (.iadd, 1) := by decide +kernel
theorem dX1_changeLoops_35 : decode cX1_changeLoops 35 = .ok (.iload_n 3, 1) := by decide +kernel
theorem dX1_changeLoops_36 : decode cX1_changeLoops 36 = .ok (.iastore, 1) := by decide +kernel
theorem dX1_changeLoops_37 : decode cX1_changeLoops 37 = .ok (.iload 4, 2) := by decide +kernel
theorem dX1_changeLoops_39 : decode cX1_changeLoops 39 = .ok (.ireturn, 1) := by decide +kernel
theorem dX1_bringNew_0 : decode cX1_bringNew 0 = .ok (.aload_n 0, 1) := by decide +kernel
theorem dX1_bringNew_1 : decode cX1_bringNew 1 = .ok (.iload_n 2, 1) := by decide +kernel
theorem dX1_bringNew_2 : decode cX1_bringNew 2 = .ok (.invokevirtual 103, 3) := by decide +kernel
theorem dX1_bringNew_5 : decode cX1_bringNew 5 = .ok (.istore_n 3, 1) := by decide +kernel
theorem dX1_bringNew_6 : decode cX1_bringNew 6 = .ok (.aload_n 0, 1) := by decide +kernel
theorem dX1_bringNew_7 : decode cX1_bringNew 7 = .ok (.getfield 67, 3) := by decide +kernel
theorem dX1_bringNew_10 : decode cX1_bringNew 10 = .ok (.bipush 12, 2) := by decide +kernel
theorem dX1_bringNew_12 : decode cX1_bringNew 12 = .ok (.if_icmp .ge 12, 3) := by decide +kernel
theorem dX1_bringNew_15 : decode cX1_bringNew 15 = .ok (.aload_n 0, 1) := by decide +kernel
theorem dX1_bringNew_16 : decode cX1_bringNew 16 = .ok (.iload_n 3, 1) := by decide +kernel
theorem dX1_bringNew_17 : decode cX1_bringNew 17 = .ok (.iload_n 2, 1) := by decide +kernel
theorem dX1_bringNew_18 : decode cX1_bringNew 18 = .ok (.invokevirtual 145, 3) := by decide +kernel
theorem dX1_bringNew_21 : decode cX1_bringNew 21 = .ok (.ifCond .ne 6, 3) := by decide +kernel
theorem dX1_bringNew_24 : decode cX1_bringNew 24 = .ok (.bipush (-5), 2) := by decide +kernel
theorem dX1_bringNew_26 : decode cX1_bringNew 26 = .ok (.ireturn, 1) := by decide +kernel
theorem dX1_bringNew_27 : decode cX1_bringNew 27 = .ok (.aload_n 0, 1) := by decide +kernel
theorem dX1_bringNew_28 : decode cX1_bringNew 28 = .ok (.getfield 31, 3) := by decide +kernel
theorem dX1_bringNew_31 : decode cX1_bringNew 31 = .ok (.aload_n 0, 1) := by decide +kernel
theorem dX1_bringNew_32 : decode cX1_bringNew 32 = .ok (.getfield 67, 3) := by decide +kernel
theorem dX1_bringNew_35 : decode cX1_bringNew 35 = .ok (.aaload, 1) := by decide +kernel
theorem dX1_bringNew_36 : decode cX1_bringNew 36 = .ok (.astore 4, 2) := by decide +kernel
theorem dX1_bringNew_38 : decode cX1_bringNew 38 = .ok (.aload 4, 2) := by decide +kernel
theorem dX1_bringNew_40 : decode cX1_bringNew 40 = .ok (.iload_n 1, 1) := by decide +kernel
theorem dX1_bringNew_41 : decode cX1_bringNew 41 = .ok (.iload_n 2, 1) := by decide +kernel
theorem dX1_bringNew_42 : decode cX1_bringNew 42 = .ok (.iload_n 3, 1) := by decide +kernel
theorem dX1_bringNew_43 : decode cX1_bringNew 43 = .ok (.aload_n 0, 1) := by decide +kernel
theorem dX1_bringNew_44 : decode cX1_bringNew 44 = .ok (.getfield 61, 3) := by decide +kernel
theorem dX1_bringNew_47 : decode cX1_bringNew 47 = .ok (.invokevirtual 149, 3) := by decide +kernel
theorem dX1_bringNew_50 : decode cX1_bringNew 50 = .ok (.aload_n 0, 1) := by decide +kernel
theorem dX1_bringNew_51 : decode cX1_bringNew 51 = .ok (.dup, 1) := by decide +kernel
theorem dX1_bringNew_52 : decode cX1_bringNew 52 = .ok (.getfield 67, 3) := by decide +kernel
theorem dX1_bringNew_55 : decode cX1_bringNew 55 = .ok (.iconst 1, 1) := by decide +kernel
theorem dX1_bringNew_56 : decode cX1_bringNew 56 = .ok (.iadd, 1) := by decide +kernel
theorem dX1_bringNew_57 : decode cX1_bringNew 57 = .ok (.putfield 67, 3) := by decide +kernel
theorem dX1_bringNew_60 : decode cX1_bringNew 60 = .ok (.aload 4, 2) := by decide +kernel
theorem dX1_bringNew_62 : decode cX1_bringNew 62 = .ok (.getfield 153, 3) := by decide +kernel
theorem dX1_bringNew_65 : decode cX1_bringNew 65 = .ok (.ireturn, 1) := by decide +kernel
theorem dX1_bringSpare_0 : decode cX1_bringSpare 0 = .ok (.aload_n 0, 1) := by decide +kernel
theorem dX1_bringSpare_1 : decode cX1_bringSpare 1 = .ok (.iload_n 2, 1) := by decide +kernel
theorem dX1_bringSpare_2 : decode cX1_bringSpare 2 = .ok (.invokevirtual 103, 3) := by decide +kernel
theorem dX1_bringSpare_5 : decode cX1_bringSpare 5 = .ok (.istore_n 3, 1) := by decide +kernel
theorem dX1_bringSpare_6 : decode cX1_bringSpare 6 = .ok (.aload_n 0, 1) := by decide +kernel
theorem dX1_bringSpare_7 : decode cX1_bringSpare 7 = .ok (.iload_n 3, 1) := by decide +kernel
theorem dX1_bringSpare_8 : decode cX1_bringSpare 8 = .ok (.iload_n 2, 1) := by decide +kernel
theorem dX1_bringSpare_9 : decode cX1_bringSpare 9 = .ok (.invokevirtual 145, 3) := by decide +kernel
theorem dX1_bringSpare_12 : decode cX1_bringSpare 12 = .ok (.ifCond .ne 4, 3) := by decide +kernel
theorem dX1_bringSpare_15 : decode cX1_bringSpare 15 = .ok (.return_, 1) := by decide +kernel
theorem dX1_bringSpare_16 : decode cX1_bringSpare 16 = .ok (.iconst 0, 1) := by decide +kernel
theorem dX1_bringSpare_17 : decode cX1_bringSpare 17 = .ok (.istore 4, 2) := by decide +kernel
theorem dX1_bringSpare_19 : decode cX1_bringSpare 19 = .ok (.iload 4, 2) := by decide +kernel
theorem dX1_bringSpare_21 : decode cX1_bringSpare 21 = .ok (.aload_n 0, 1) := by decide +kernel
theorem dX1_bringSpare_22 : decode cX1_bringSpare 22 = .ok (.getfield 67, 3) := by decide +kernel
theorem dX1_bringSpare_25 : decode cX1_bringSpare 25 = .ok (.if_icmp .ge 41, 3) := by decide +kernel
theorem dX1_bringSpare_28 : decode cX1_bringSpare 28 = .ok (.aload_n 0, 1) := by decide +kernel
theorem dX1_bringSpare_29 : decode cX1_bringSpare 29 = .ok (.getfield 31, 3) := by decide +kernel
theorem dX1_bringSpare_32 : decode cX1_bringSpare 32 = .ok (.iload 4, 2) := by decide +kernel
theorem dX1_bringSpare_34 : decode cX1_bringSpare 34 = .ok (.aaload, 1) := by decide +kernel
theorem dX1_bringSpare_35 : decode cX1_bringSpare 35 = .ok (.getfield 100, 3) := by decide +kernel
theorem dX1_bringSpare_38 : decode cX1_bringSpare 38 = .ok (.iconst 3, 1) := by decide +kernel
theorem dX1_bringSpare_39 : decode cX1_bringSpare 39 = .ok (.if_icmp .ne 21, 3) := by decide +kernel
theorem dX1_bringSpare_42 : decode cX1_bringSpare 42 = .ok (.aload_n 0, 1) := by decide +kernel
theorem dX1_bringSpare_43 : decode cX1_bringSpare 43 = .ok (.getfield 31, 3) := by decide +kernel
theorem dX1_bringSpare_46 : decode cX1_bringSpare 46 = .ok (.iload 4, 2) := by decide +kernel
theorem dX1_bringSpare_48 : decode cX1_bringSpare 48 = .ok (.aaload, 1) := by decide +kernel
theorem dX1_bringSpare_49 : decode cX1_bringSpare 49 = .ok (.iload_n 1, 1) := by decide +kernel
theorem dX1_bringSpare_50 : decode cX1_bringSpare 50 = .ok (.iload_n 2, 1) := by decide +kernel
theorem dX1_bringSpare_51 : decode cX1_bringSpare 51 = .ok (.iload_n 3, 1) := by decide +kernel
theorem dX1_bringSpare_52 : decode cX1_bringSpare 52 = .ok (.aload_n 0, 1) := by decide +kernel
theorem dX1_bringSpare_53 : decode cX1_bringSpare 53 = .ok (.getfield 61, 3) := by decide +kernel
theorem dX1_bringSpare_56 : decode cX1_bringSpare 56 = .ok (.invokevirtual 149, 3) := by decide +kernel
theorem dX1_bringSpare_59 : decode cX1_bringSpare 59 = .ok (.return_, 1) := by decide +kernel
theorem dX1_bringSpare_60 : decode cX1_bringSpare 60 = .ok (.iinc 4 1, 3) := by decide +kernel
theorem dX1_bringSpare_63 : decode cX1_bringSpare 63 = .ok (.goto (-44), 3) := by decide +kernel
theorem dX1_bringSpare_66 : decode cX1_bringSpare 66 = .ok (.aload_n 0, 1) := by decide +kernel
theorem dX1_bringSpare_67 : decode cX1_bringSpare 67 = .ok (.iload_n 1, 1) := by decide +kernel
theorem dX1_bringSpare_68 : decode cX1_bringSpare 68 = .ok (.iload_n 2, 1) := by decide +kernel
theorem dX1_bringSpare_69 : decode cX1_bringSpare 69 = .ok (.invokevirtual 154, 3) := by decide +kernel
theorem dX1_bringSpare_72 : decode cX1_bringSpare 72 = .ok (.pop, 1) := by decide +kernel
theorem dX1_bringSpare_73 : decode cX1_bringSpare 73 = .ok (.return_, 1) := by decide +kernel
theorem dX1_shuntTrain_0 : decode cX1_shuntTrain 0 = .ok (.aload_n 1, 1) := by decide +kernel
theorem dX1_shuntTrain_1 : decode cX1_shuntTrain 1 = .ok (.getfield 100, 3) := by decide +kernel
theorem dX1_shuntTrain_4 : decode cX1_shuntTrain 4 = .ok (.ifCond .ne 9, 3) := by decide +kernel
theorem dX1_shuntTrain_7 : decode cX1_shuntTrain 7 = .ok (.aload_n 0, 1) := by decide +kernel
theorem dX1_shuntTrain_8 : decode cX1_shuntTrain 8 = .ok (.aload_n 1, 1) := by decide +kernel
theorem dX1_shuntTrain_9 : decode cX1_shuntTrain 9 = .ok (.invokevirtual 158, 3) := by decide +kernel
theorem dX1_shuntTrain_12 : decode cX1_shuntTrain 12 = .ok (.ireturn, 1) := by decide +kernel
theorem dX1_shuntTrain_13 : decode cX1_shuntTrain 13 = .ok (.aload_n 1, 1) := by decide +kernel
theorem dX1_shuntTrain_14 : decode cX1_shuntTrain 14 = .ok (.getfield 100, 3) := by decide +kernel
theorem dX1_shuntTrain_17 : decode cX1_shuntTrain 17 = .ok (.iconst 1, 1) := by decide +kernel
theorem dX1_shuntTrain_18 : decode cX1_shuntTrain 18 = .ok (.if_icmp .ne 11, 3) := by decide +kernel
theorem dX1_shuntTrain_21 : decode cX1_shuntTrain 21 = .ok (.aload_n 0, 1) := by decide +kernel
theorem dX1_shuntTrain_22 : decode cX1_shuntTrain 22 = .ok (.aload_n 1, 1) := by decide +kernel
theorem dX1_shuntTrain_23 : decode cX1_shuntTrain 23 = .ok (.invokevirtual 162, 3) := by decide +kernel
theorem dX1_shuntTrain_26 : decode cX1_shuntTrain 26 = .ok (.goto 5, 3) := by decide +kernel
theorem dX1_shuntTrain_29 : decode cX1_shuntTrain 29 = .ok (.bipush (-5), 2) := by decide +kernel
theorem dX1_shuntTrain_31 : decode cX1_shuntTrain 31 = .ok (.ireturn, 1) := by decide +kernel
theorem dX1_shuntToLoop_0 : decode cX1_shuntToLoop 0 = .ok (.aload_n 0, 1) := by decide +kernel
theorem dX1_shuntToLoop_1 : decode cX1_shuntToLoop 1 = .ok (.aload_n 1, 1) := by decide +kernel
theorem dX1_shuntToLoop_2 : decode cX1_shuntToLoop 2 = .ok (.invokevirtual 165, 3) := by decide +kernel
theorem dX1_shuntToLoop_5 : decode cX1_shuntToLoop 5 = .ok (.astore_n 2, 1) := by decide +kernel
theorem dX1_shuntToLoop_6 : decode cX1_shuntToLoop 6 = .ok (.aload_n 2, 1) := by decide +kernel
theorem dX1_shuntToLoop_7 : decode cX1_shuntToLoop 7 = .ok (.ifnull 36, 3) := by decide +kernel
theorem dX1_shuntToLoop_10 : decode cX1_shuntToLoop 10 = .ok (.aload_n 2, 1) := by decide +kernel
theorem dX1_shuntToLoop_11 : decode cX1_shuntToLoop 11 = .ok (.getfield 169, 3) := by decide +kernel
theorem dX1_shuntToLoop_14 : decode cX1_shuntToLoop 14 = .ok (.aload_n 1, 1) := by decide +kernel
theorem dX1_shuntToLoop_15 : decode cX1_shuntToLoop 15 = .ok (.getfield 153, 3) := by decide +kernel
theorem dX1_shuntToLoop_18 : decode cX1_shuntToLoop 18 = .ok (.if_icmp .eq 22, 3) := by decide +kernel
theorem dX1_shuntToLoop_21 : decode cX1_shuntToLoop 21 = .ok (.aload_n 2, 1) := by decide +kernel
theorem dX1_shuntToLoop_22 : decode cX1_shuntToLoop 22 = .ok (.getfield 125, 3) := by decide +kernel
theorem dX1_shuntToLoop_25 : decode cX1_shuntToLoop 25 = .ok (.iconst 1, 1) := by decide +kernel
theorem dX1_shuntToLoop_26 : decode cX1_shuntToLoop 26 = .ok (.if_icmp .ne 17, 3) := by decide +kernel
theorem dX1_shuntToLoop_29 : decode cX1_shuntToLoop 29 = .ok (.aload_n 2, 1) := by decide +kernel
theorem dX1_shuntToLoop_30 : decode cX1_shuntToLoop 30 = .ok (.getfield 128, 3) := by decide +kernel
theorem dX1_shuntToLoop_33 : decode cX1_shuntToLoop 33 = .ok (.aload_n 1, 1) := by decide +kernel
theorem dX1_shuntToLoop_34 : decode cX1_shuntToLoop 34 = .ok (.getfield 153, 3) := by decide +kernel
theorem dX1_shuntToLoop_37 : decode cX1_shuntToLoop 37 = .ok (.if_icmp .ne 6, 3) := by decide +kernel
theorem dX1_shuntToLoop_40 : decode cX1_shuntToLoop 40 = .ok (.bipush (-5), 2) := by decide +kernel
theorem dX1_shuntToLoop_42 : decode cX1_shuntToLoop 42 = .ok (.ireturn, 1) := by decide +kernel
theorem dX1_shuntToLoop_43 : decode cX1_shuntToLoop 43 = .ok (.aload_n 0, 1) := by decide +kernel
theorem dX1_shuntToLoop_44 : decode cX1_shuntToLoop 44 = .ok (.aload_n 1, 1) := by decide +kernel
theorem dX1_shuntToLoop_45 : decode cX1_shuntToLoop 45 = .ok (.getfield 115, 3) := by decide +kernel
theorem dX1_shuntToLoop_48 : decode cX1_shuntToLoop 48 = .ok (.invokevirtual 172, 3) := by decide +kernel
theorem dX1_shuntToLoop_51 : decode cX1_shuntToLoop 51 = .ok (.ifCond .eq 13, 3) := by decide +kernel
theorem dX1_shuntToLoop_54 : decode cX1_shuntToLoop 54 = .ok (.aload_n 1, 1) := by decide +kernel
theorem dX1_shuntToLoop_55 : decode cX1_shuntToLoop 55 = .ok (.getfield 118, 3) := by decide +kernel
theorem dX1_shuntToLoop_58 : decode cX1_shuntToLoop 58 = .ok (.invokestatic 176, 3) := by decide +kernel
theorem dX1_shuntToLoop_61 : decode cX1_shuntToLoop 61 = .ok (.ifCond .ne 6, 3) := by decide +kernel
theorem dX1_shuntToLoop_64 : decode cX1_shuntToLoop 64 = .ok (.bipush (-5), 2) := by decide +kernel
theorem dX1_shuntToLoop_66 : decode cX1_shuntToLoop 66 = .ok (.ireturn, 1) := by decide +kernel
theorem dX1_shuntToLoop_67 : decode cX1_shuntToLoop 67 = .ok (.aload_n 0, 1) := by decide +kernel
theorem dX1_shuntToLoop_68 : decode cX1_shuntToLoop 68 = .ok (.getfield 36, 3) := by decide +kernel
theorem dX1_shuntToLoop_71 : decode cX1_shuntToLoop 71 = .ok (.iconst 2, 1) := by decide +kernel
theorem dX1_shuntToLoop_72 : decode cX1_shuntToLoop 72 = .ok (.aload_n 1, 1) := by decide +kernel
theorem dX1_shuntToLoop_73 : decode cX1_shuntToLoop 73 = .ok (.getfield 115, 3) := by decide +kernel
theorem dX1_shuntToLoop_76 : decode cX1_shuntToLoop 76 = .ok (.imul, 1) := by decide +kernel
theorem dX1_shuntToLoop_77 : decode cX1_shuntToLoop 77 = .ok (.aload_n 1, 1) := by decide +kernel
theorem dX1_shuntToLoop_78 : decode cX1_shuntToLoop 78 = .ok (.getfield 118, 3) := by decide +kernel
theorem dX1_shuntToLoop_81 : decode cX1_shuntToLoop 81 = .ok (.iadd, 1) := by decide +kernel
theorem dX1_shuntToLoop_82 : decode cX1_shuntToLoop 82 = .ok (.iaload, 1) := by decide +kernel
theorem dX1_shuntToLoop_83 : decode cX1_shuntToLoop 83 = .ok (.istore_n 3, 1) := by decide +kernel
theorem dX1_shuntToLoop_84 : decode cX1_shuntToLoop 84 = .ok (.aload_n 0, 1) := by decide +kernel
theorem dX1_shuntToLoop_85 : decode cX1_shuntToLoop 85 = .ok (.iconst 1, 1) := by decide +kernel
theorem dX1_shuntToLoop_86 : decode cX1_shuntToLoop 86 = .ok (.aload_n 1, 1) := by decide +kernel
theorem dX1_shuntToLoop_87 : decode cX1_shuntToLoop 87 = .ok (.getfield 115, 3) := by decide +kernel
theorem dX1_shuntToLoop_90 : decode cX1_shuntToLoop 90 = .ok (.aload_n 1, 1) := by decide +kernel
theorem dX1_shuntToLoop_91 : decode cX1_shuntToLoop 91 = .ok (.getfield 118, 3) := by decide +kernel
theorem dX1_shuntToLoop_94 : decode cX1_shuntToLoop 94 = .ok (.invokevirtual 107, 3) := by decide +kernel
theorem dX1_shuntToLoop_97 : decode cX1_shuntToLoop 97 = .ok (.iload_n 3, 1) := by decide +kernel
theorem dX1_shuntToLoop_98 : decode cX1_shuntToLoop 98 = .ok (.if_icmp .lt 6, 3) := by decide +kernel
theorem dX1_shuntToLoop_101 : decode cX1_shuntToLoop 101 = .ok (.bipush (-5), 2) := by decide +kernel
theorem dX1_shuntToLoop_103 : decode cX1_shuntToLoop 103 = .ok (.ireturn, 1) := by decide +kernel
theorem dX1_shuntToLoop_104 : decode cX1_shuntToLoop 104 = .ok (.aload_n 1, 1) := by decide +kernel
theorem dX1_shuntToLoop_105 : decode cX1_shuntToLoop 105 = .ok (.iconst 1, 1) := by decide +kernel
theorem dX1_shuntToLoop_106 : decode cX1_shuntToLoop 106 = .ok (.aload_n 1, 1) := by decide +kernel
theorem dX1_shuntToLoop_107 : decode cX1_shuntToLoop 107 = .ok (.getfield 115, 3) := by decide +kernel
theorem dX1_shuntToLoop_110 : decode cX1_shuntToLoop 110 = .ok (.invokevirtual 179, 3) := by decide +kernel
theorem dX1_shuntToLoop_113 : decode cX1_shuntToLoop 113 = .ok (.iconst 1, 1) := by decide +kernel
theorem dX1_shuntToLoop_114 : decode cX1_shuntToLoop 114 = .ok (.ireturn, 1) := by decide +kernel
theorem dX1_shuntBack_0 : decode cX1_shuntBack 0 = .ok (.aload_n 0, 1) := by decide +kernel
theorem dX1_shuntBack_1 : decode cX1_shuntBack 1 = .ok (.aload_n 1, 1) := by decide +kernel
theorem dX1_shuntBack_2 : decode cX1_shuntBack 2 = .ok (.getfield 115, 3) := by decide +kernel
theorem dX1_shuntBack_5 : decode cX1_shuntBack 5 = .ok (.aload_n 1, 1) := by decide +kernel
theorem dX1_shuntBack_6 : decode cX1_shuntBack 6 = .ok (.getfield 118, 3) := by decide +kernel
theorem dX1_shuntBack_9 : decode cX1_shuntBack 9 = .ok (.invokevirtual 182, 3) := by decide +kernel
theorem dX1_shuntBack_12 : decode cX1_shuntBack 12 = .ok (.astore_n 2, 1) := by decide +kernel
theorem dX1_shuntBack_13 : decode cX1_shuntBack 13 = .ok (.aload_n 2, 1) := by decide +kernel
theorem dX1_shuntBack_14 : decode cX1_shuntBack 14 = .ok (.ifnull 18, 3) := by decide +kernel
theorem dX1_shuntBack_17 : decode cX1_shuntBack 17 = .ok (.aload_n 2, 1) := by decide +kernel
theorem dX1_shuntBack_18 : decode cX1_shuntBack 18 = .ok (.getfield 125, 3) := by decide +kernel
theorem dX1_shuntBack_21 : decode cX1_shuntBack 21 = .ok (.ifCond .eq 11, 3) := by decide +kernel
theorem dX1_shuntBack_24 : decode cX1_shuntBack 24 = .ok (.aload_n 2, 1) := by decide +kernel
theorem dX1_shuntBack_25 : decode cX1_shuntBack 25 = .ok (.getfield 125, 3) := by decide +kernel
theorem dX1_shuntBack_28 : decode cX1_shuntBack 28 = .ok (.iconst 3, 1) := by decide +kernel
theorem dX1_shuntBack_29 : decode cX1_shuntBack 29 = .ok (.if_icmp .ne 7, 3) := by decide +kernel
theorem dX1_shuntBack_32 : decode cX1_shuntBack 32 = .ok (.iconst 1, 1) := by decide +kernel
theorem dX1_shuntBack_33 : decode cX1_shuntBack 33 = .ok (.goto 4, 3) := by decide +kernel
theorem dX1_shuntBack_36 : decode cX1_shuntBack 36 = .ok (.iconst 0, 1) := by decide +kernel
theorem dX1_shuntBack_37 : decode cX1_shuntBack 37 = .ok (.istore_n 3, 1) := by decide +kernel
theorem dX1_shuntBack_38 : decode cX1_shuntBack 38 = .ok (.iload_n 3, 1) := by decide +kernel
theorem dX1_shuntBack_39 : decode cX1_shuntBack 39 = .ok (.ifCond .eq 18, 3) := by decide +kernel
theorem dX1_shuntBack_42 : decode cX1_shuntBack 42 = .ok (.aload_n 0, 1) := by decide +kernel
theorem dX1_shuntBack_43 : decode cX1_shuntBack 43 = .ok (.aload_n 1, 1) := by decide +kernel
theorem dX1_shuntBack_44 : decode cX1_shuntBack 44 = .ok (.getfield 115, 3) := by decide +kernel
theorem dX1_shuntBack_47 : decode cX1_shuntBack 47 = .ok (.aload_n 1, 1) := by decide +kernel
theorem dX1_shuntBack_48 : decode cX1_shuntBack 48 = .ok (.getfield 118, 3) := by decide +kernel
theorem dX1_shuntBack_51 : decode cX1_shuntBack 51 = .ok (.invokevirtual 145, 3) := by decide +kernel
theorem dX1_shuntBack_54 : decode cX1_shuntBack 54 = .ok (.ifCond .ne 6, 3) := by decide +kernel
theorem dX1_shuntBack_57 : decode cX1_shuntBack 57 = .ok (.bipush (-5), 2) := by decide +kernel
theorem dX1_shuntBack_59 : decode cX1_shuntBack 59 = .ok (.ireturn, 1) := by decide +kernel
theorem dX1_shuntBack_60 : decode cX1_shuntBack 60 = .ok (.aload_n 1, 1) := by decide +kernel
theorem dX1_shuntBack_61 : decode cX1_shuntBack 61 = .ok (.iconst 0, 1) := by decide +kernel
theorem dX1_shuntBack_62 : decode cX1_shuntBack 62 = .ok (.aload_n 1, 1) := by decide +kernel
theorem dX1_shuntBack_63 : decode cX1_shuntBack 63 = .ok (.getfield 115, 3) := by decide +kernel
theorem dX1_shuntBack_66 : decode cX1_shuntBack 66 = .ok (.invokevirtual 179, 3) := by decide +kernel
theorem dX1_shuntBack_69 : decode cX1_shuntBack 69 = .ok (.iconst 0, 1) := by decide +kernel
theorem dX1_shuntBack_70 : decode cX1_shuntBack 70 = .ok (.ireturn, 1) := by decide +kernel
theorem dX1_letLeave_0 : decode cX1_letLeave 0 = .ok (.aload_n 1, 1) := by decide +kernel
theorem dX1_letLeave_1 : decode cX1_letLeave 1 = .ok (.iconst 0, 1) := by decide +kernel
theorem dX1_letLeave_2 : decode cX1_letLeave 2 = .ok (.aload_n 0, 1) := by decide +kernel
theorem dX1_letLeave_3 : decode cX1_letLeave 3 = .ok (.aload_n 1, 1) := by decide +kernel
theorem dX1_letLeave_4 : decode cX1_letLeave 4 = .ok (.getfield 118, 3) := by decide +kernel
theorem dX1_letLeave_7 : decode cX1_letLeave 7 = .ok (.invokevirtual 185, 3) := by decide +kernel
theorem dX1_letLeave_10 : decode cX1_letLeave 10 = .ok (.aload_n 1, 1) := by decide +kernel
theorem dX1_letLeave_11 : decode cX1_letLeave 11 = .ok (.getfield 118, 3) := by decide +kernel
theorem dX1_letLeave_14 : decode cX1_letLeave 14 = .ok (.invokevirtual 111, 3) := by decide +kernel
theorem dX1_letLeave_17 : decode cX1_letLeave 17 = .ok (.ifCond .ne 6, 3) := by decide +kernel
theorem dX1_letLeave_20 : decode cX1_letLeave 20 = .ok (.bipush (-5), 2) := by decide +kernel
theorem dX1_letLeave_22 : decode cX1_letLeave 22 = .ok (.ireturn, 1) := by decide +kernel
theorem dX1_letLeave_23 : decode cX1_letLeave 23 = .ok (.aload_n 1, 1) := by decide +kernel
theorem dX1_letLeave_24 : decode cX1_letLeave 24 = .ok (.aload_n 0, 1) := by decide +kernel
theorem dX1_letLeave_25 : decode cX1_letLeave 25 = .ok (.getfield 61, 3) := by decide +kernel
theorem dX1_letLeave_28 : decode cX1_letLeave 28 = .ok (.invokevirtual 188, 3) := by decide +kernel
theorem dX1_letLeave_31 : decode cX1_letLeave 31 = .ok (.aload_n 0, 1) := by decide +kernel
theorem dX1_letLeave_32 : decode cX1_letLeave 32 = .ok (.getfield 61, 3) := by decide +kernel
theorem dX1_letLeave_35 : decode cX1_letLeave 35 = .ok (.aload_n 1, 1) := by decide +kernel
theorem dX1_letLeave_36 : decode cX1_letLeave 36 = .ok (.getfield 191, 3) := by decide +kernel
theorem dX1_letLeave_39 : decode cX1_letLeave 39 = .ok (.isub, 1) := by decide +kernel
theorem dX1_letLeave_40 : decode cX1_letLeave 40 = .ok (.ireturn, 1) := by decide +kernel
theorem dX1_divideTrain_0 : decode cX1_divideTrain 0 = .ok (.aload_n 1, 1) := by decide +kernel
theorem dX1_divideTrain_1 : decode cX1_divideTrain 1 = .ok (.getfield 100, 3) := by decide +kernel
theorem dX1_divideTrain_4 : decode cX1_divideTrain 4 = .ok (.iconst 2, 1) := by decide +kernel
theorem dX1_divideTrain_5 : decode cX1_divideTrain 5 = .ok (.if_icmp .ne 18, 3) := by decide +kernel
theorem dX1_divideTrain_8 : decode cX1_divideTrain 8 = .ok (.aload_n 0, 1) := by decide +kernel
theorem dX1_divideTrain_9 : decode cX1_divideTrain 9 = .ok (.aload_n 1, 1) := by decide +kernel
theorem dX1_divideTrain_10 : decode cX1_divideTrain 10 = .ok (.getfield 115, 3) := by decide +kernel
theorem dX1_divideTrain_13 : decode cX1_divideTrain 13 = .ok (.aload_n 1, 1) := by decide +kernel
theorem dX1_divideTrain_14 : decode cX1_divideTrain 14 = .ok (.getfield 118, 3) := by decide +kernel
theorem dX1_divideTrain_17 : decode cX1_divideTrain 17 = .ok (.invokevirtual 121, 3) := by decide +kernel
theorem dX1_divideTrain_20 : decode cX1_divideTrain 20 = .ok (.goto 4, 3) := by decide +kernel
theorem dX1_divideTrain_23 : decode cX1_divideTrain 23 = .ok (.aconst_null, 1) := by decide +kernel
theorem dX1_divideTrain_24 : decode cX1_divideTrain 24 = .ok (.astore_n 2, 1) := by decide +kernel
theorem dX1_divideTrain_25 : decode cX1_divideTrain 25 = .ok (.aload_n 2, 1) := by decide +kernel
theorem dX1_divideTrain_26 : decode cX1_divideTrain 26 = .ok (.ifnull 10, 3) := by decide +kernel
theorem dX1_divideTrain_29 : decode cX1_divideTrain 29 = .ok (.aload_n 1, 1) := by decide +kernel
theorem dX1_divideTrain_30 : decode cX1_divideTrain 30 = .ok (.getfield 194, 3) := by decide +kernel
theorem dX1_divideTrain_33 : decode cX1_divideTrain 33 = .ok (.ifCond .ne 6, 3) := by decide +kernel
theorem dX1_divideTrain_36 : decode cX1_divideTrain 36 = .ok (.bipush (-5), 2) := by decide +kernel
theorem dX1_divideTrain_38 : decode cX1_divideTrain 38 = .ok (.ireturn, 1) := by decide +kernel
theorem dX1_divideTrain_39 : decode cX1_divideTrain 39 = .ok (.aload_n 1, 1) := by decide +kernel
theorem dX1_divideTrain_40 : decode cX1_divideTrain 40 = .ok (.iconst 0, 1) := by decide +kernel
theorem dX1_divideTrain_41 : decode cX1_divideTrain 41 = .ok (.putfield 194, 3) := by decide +kernel
theorem dX1_divideTrain_44 : decode cX1_divideTrain 44 = .ok (.aload_n 2, 1) := by decide +kernel
theorem dX1_divideTrain_45 : decode cX1_divideTrain 45 = .ok (.iconst 1, 1) := by decide +kernel
theorem dX1_divideTrain_46 : decode cX1_divideTrain 46 = .ok (.putfield 197, 3) := by decide +kernel
theorem dX1_divideTrain_49 : decode cX1_divideTrain 49 = .ok (.aload_n 2, 1) := by decide +kernel
theorem dX1_divideTrain_50 : decode cX1_divideTrain 50 = .ok (.getfield 131, 3) := by decide +kernel
theorem dX1_divideTrain_53 : decode cX1_divideTrain 53 = .ok (.getfield 135, 3) := by decide +kernel
theorem dX1_divideTrain_56 : decode cX1_divideTrain 56 = .ok (.ireturn, 1) := by decide +kernel
theorem dX1_ringRear_0 : decode cX1_ringRear 0 = .ok (.aload_n 0, 1) := by decide +kernel
theorem dX1_ringRear_1 : decode cX1_ringRear 1 = .ok (.getfield 43, 3) := by decide +kernel
theorem dX1_ringRear_4 : decode cX1_ringRear 4 = .ok (.aload_n 0, 1) := by decide +kernel
theorem dX1_ringRear_5 : decode cX1_ringRear 5 = .ok (.getfield 61, 3) := by decide +kernel
theorem dX1_ringRear_8 : decode cX1_ringRear 8 = .ok (.aload_n 1, 1) := by decide +kernel
theorem dX1_ringRear_9 : decode cX1_ringRear 9 = .ok (.aload_n 1, 1) := by decide +kernel
theorem dX1_ringRear_10 : decode cX1_ringRear 10 = .ok (.invokevirtual 200, 3) := by decide +kernel
theorem dX1_ringRear_13 : decode cX1_ringRear 13 = .ok (.iload_n 2, 1) := by decide +kernel
theorem dX1_ringRear_14 : decode cX1_ringRear 14 = .ok (.invokevirtual 203, 3) := by decide +kernel
theorem dX1_ringRear_17 : decode cX1_ringRear 17 = .ok (.iload_n 2, 1) := by decide +kernel
theorem dX1_ringRear_18 : decode cX1_ringRear 18 = .ok (.ireturn, 1) := by decide +kernel
theorem dX1_ringAhead_0 : decode cX1_ringAhead 0 = .ok (.aload_n 0, 1) := by decide +kernel
theorem dX1_ringAhead_1 : decode cX1_ringAhead 1 = .ok (.getfield 43, 3) := by decide +kernel
theorem dX1_ringAhead_4 : decode cX1_ringAhead 4 = .ok (.aload_n 0, 1) := by decide +kernel
theorem dX1_ringAhead_5 : decode cX1_ringAhead 5 = .ok (.getfield 61, 3) := by decide +kernel
theorem dX1_ringAhead_8 : decode cX1_ringAhead 8 = .ok (.aload_n 1, 1) := by decide +kernel
theorem dX1_ringAhead_9 : decode cX1_ringAhead 9 = .ok (.aload_n 1, 1) := by decide +kernel
theorem dX1_ringAhead_10 : decode cX1_ringAhead 10 = .ok (.invokevirtual 207, 3) := by decide +kernel
theorem dX1_ringAhead_13 : decode cX1_ringAhead 13 = .ok (.iload_n 2, 1) := by decide +kernel
theorem dX1_ringAhead_14 : decode cX1_ringAhead 14 = .ok (.invokevirtual 203, 3) := by decide +kernel
theorem dX1_ringAhead_17 : decode cX1_ringAhead 17 = .ok (.iload_n 2, 1) := by decide +kernel
theorem dX1_ringAhead_18 : decode cX1_ringAhead 18 = .ok (.ireturn, 1) := by decide +kernel
theorem dX1_offerTrain_0 : decode cX1_offerTrain 0 = .ok (.aload_n 0, 1) := by decide +kernel
theorem dX1_offerTrain_1 : decode cX1_offerTrain 1 = .ok (.aload_n 1, 1) := by decide +kernel
theorem dX1_offerTrain_2 : decode cX1_offerTrain 2 = .ok (.invokevirtual 165, 3) := by decide +kernel
theorem dX1_offerTrain_5 : decode cX1_offerTrain 5 = .ok (.astore_n 2, 1) := by decide +kernel
theorem dX1_offerTrain_6 : decode cX1_offerTrain 6 = .ok (.aload_n 2, 1) := by decide +kernel
theorem dX1_offerTrain_7 : decode cX1_offerTrain 7 = .ok (.ifnull 19, 3) := by decide +kernel
theorem dX1_offerTrain_10 : decode cX1_offerTrain 10 = .ok (.aload_n 2, 1) := by decide +kernel
theorem dX1_offerTrain_11 : decode cX1_offerTrain 11 = .ok (.getfield 125, 3) := by decide +kernel
theorem dX1_offerTrain_14 : decode cX1_offerTrain 14 = .ok (.ifCond .ne 12, 3) := by decide +kernel
theorem dX1_offerTrain_17 : decode cX1_offerTrain 17 = .ok (.aload_n 2, 1) := by decide +kernel
theorem dX1_offerTrain_18 : decode cX1_offerTrain 18 = .ok (.getfield 169, 3) := by decide +kernel
theorem dX1_offerTrain_21 : decode cX1_offerTrain 21 = .ok (.bipush (-6), 2) := by decide +kernel
theorem dX1_offerTrain_23 : decode cX1_offerTrain 23 = .ok (.if_icmp .eq 6, 3) := by decide +kernel
theorem dX1_offerTrain_26 : decode cX1_offerTrain 26 = .ok (.bipush (-5), 2) := by decide +kernel
theorem dX1_offerTrain_28 : decode cX1_offerTrain 28 = .ok (.ireturn, 1) := by decide +kernel
theorem dX1_offerTrain_29 : decode cX1_offerTrain 29 = .ok (.aload_n 2, 1) := by decide +kernel
theorem dX1_offerTrain_30 : decode cX1_offerTrain 30 = .ok (.aload_n 1, 1) := by decide +kernel
theorem dX1_offerTrain_31 : decode cX1_offerTrain 31 = .ok (.getfield 153, 3) := by decide +kernel
theorem dX1_offerTrain_34 : decode cX1_offerTrain 34 = .ok (.putfield 169, 3) := by decide +kernel
theorem dX1_offerTrain_37 : decode cX1_offerTrain 37 = .ok (.aload_n 0, 1) := by decide +kernel
theorem dX1_offerTrain_38 : decode cX1_offerTrain 38 = .ok (.aload_n 2, 1) := by decide +kernel
theorem dX1_offerTrain_39 : decode cX1_offerTrain 39 = .ok (.aload_n 1, 1) := by decide +kernel
theorem dX1_offerTrain_40 : decode cX1_offerTrain 40 = .ok (.getfield 210, 3) := by decide +kernel
theorem dX1_offerTrain_43 : decode cX1_offerTrain 43 = .ok (.invokestatic 213, 3) := by decide +kernel
theorem dX1_offerTrain_46 : decode cX1_offerTrain 46 = .ok (.invokevirtual 216, 3) := by decide +kernel
theorem dX1_offerTrain_49 : decode cX1_offerTrain 49 = .ok (.ireturn, 1) := by decide +kernel
theorem dX1_accept_0 : decode cX1_accept 0 = .ok (.aload_n 0, 1) := by decide +kernel
theorem dX1_accept_1 : decode cX1_accept 1 = .ok (.aload_n 1, 1) := by decide +kernel
theorem dX1_accept_2 : decode cX1_accept 2 = .ok (.getfield 169, 3) := by decide +kernel
theorem dX1_accept_5 : decode cX1_accept 5 = .ok (.invokevirtual 96, 3) := by decide +kernel
theorem dX1_accept_8 : decode cX1_accept 8 = .ok (.astore_n 2, 1) := by decide +kernel
theorem dX1_accept_9 : decode cX1_accept 9 = .ok (.aload_n 2, 1) := by decide +kernel
theorem dX1_accept_10 : decode cX1_accept 10 = .ok (.ifnull 26, 3) := by decide +kernel
theorem dX1_accept_13 : decode cX1_accept 13 = .ok (.aload_n 0, 1) := by decide +kernel
theorem dX1_accept_14 : decode cX1_accept 14 = .ok (.aload_n 1, 1) := by decide +kernel
theorem dX1_accept_15 : decode cX1_accept 15 = .ok (.invokevirtual 207, 3) := by decide +kernel
theorem dX1_accept_18 : decode cX1_accept 18 = .ok (.aload_n 1, 1) := by decide +kernel
theorem dX1_accept_19 : decode cX1_accept 19 = .ok (.getfield 220, 3) := by decide +kernel
theorem dX1_accept_22 : decode cX1_accept 22 = .ok (.invokevirtual 145, 3) := by decide +kernel
theorem dX1_accept_25 : decode cX1_accept 25 = .ok (.ifCond .eq 11, 3) := by decide +kernel
theorem dX1_accept_28 : decode cX1_accept 28 = .ok (.aload_n 0, 1) := by decide +kernel
theorem dX1_accept_29 : decode cX1_accept 29 = .ok (.aload_n 1, 1) := by decide +kernel
theorem dX1_accept_30 : decode cX1_accept 30 = .ok (.invokevirtual 221, 3) := by decide +kernel
theorem dX1_accept_33 : decode cX1_accept 33 = .ok (.ifCond .ne 6, 3) := by decide +kernel
theorem dX1_accept_36 : decode cX1_accept 36 = .ok (.bipush (-5), 2) := by decide +kernel
theorem dX1_accept_38 : decode cX1_accept 38 = .ok (.ireturn, 1) := by decide +kernel
theorem dX1_accept_39 : decode cX1_accept 39 = .ok (.aload_n 1, 1) := by decide +kernel
theorem dX1_accept_40 : decode cX1_accept 40 = .ok (.invokevirtual 225, 3) := by decide +kernel
theorem dX1_accept_43 : decode cX1_accept 43 = .ok (.aload_n 0, 1) := by decide +kernel
theorem dX1_accept_44 : decode cX1_accept 44 = .ok (.aload_n 1, 1) := by decide +kernel
theorem dX1_accept_45 : decode cX1_accept 45 = .ok (.aload_n 2, 1) := by decide +kernel
theorem dX1_accept_46 : decode cX1_accept 46 = .ok (.getfield 210, 3) := by decide +kernel
theorem dX1_accept_49 : decode cX1_accept 49 = .ok (.invokestatic 213, 3) := by decide +kernel
theorem dX1_accept_52 : decode cX1_accept 52 = .ok (.invokevirtual 228, 3) := by decide +kernel
theorem dX1_accept_55 : decode cX1_accept 55 = .ok (.ireturn, 1) := by decide +kernel
theorem dX1_isTokenReady_0 : decode cX1_isTokenReady 0 = .ok (.aload_n 1, 1) := by decide +kernel
theorem dX1_isTokenReady_1 : decode cX1_isTokenReady 1 = .ok (.getfield 131, 3) := by decide +kernel
theorem dX1_isTokenReady_4 : decode cX1_isTokenReady 4 = .ok (.astore_n 2, 1) := by decide +kernel
theorem dX1_isTokenReady_5 : decode cX1_isTokenReady 5 = .ok (.aload_n 2, 1) := by decide +kernel
theorem dX1_isTokenReady_6 : decode cX1_isTokenReady 6 = .ok (.getfield 231, 3) := by decide +kernel
theorem dX1_isTokenReady_9 : decode cX1_isTokenReady 9 = .ok (.ifCond .ne 5, 3) := by decide +kernel
theorem dX1_isTokenReady_12 : decode cX1_isTokenReady 12 = .ok (.iconst 1, 1) := by decide +kernel
theorem dX1_isTokenReady_13 : decode cX1_isTokenReady 13 = .ok (.ireturn, 1) := by decide +kernel
theorem dX1_isTokenReady_14 : decode cX1_isTokenReady 14 = .ok (.aload_n 0, 1) := by decide +kernel
theorem dX1_isTokenReady_15 : decode cX1_isTokenReady 15 = .ok (.aload_n 2, 1) := by decide +kernel
theorem dX1_isTokenReady_16 : decode cX1_isTokenReady 16 = .ok (.getfield 135, 3) := by decide +kernel
theorem dX1_isTokenReady_19 : decode cX1_isTokenReady 19 = .ok (.iconst 1, 1) := by decide +kernel
theorem dX1_isTokenReady_20 : decode cX1_isTokenReady 20 = .ok (.aload_n 1, 1) := by decide +kernel
theorem dX1_isTokenReady_21 : decode cX1_isTokenReady 21 = .ok (.getfield 220, 3) := by decide +kernel
theorem dX1_isTokenReady_24 : decode cX1_isTokenReady 24 = .ok (.isub, 1) := by decide +kernel
theorem dX1_isTokenReady_25 : decode cX1_isTokenReady 25 = .ok (.invokevirtual 121, 3) := by decide +kernel
theorem dX1_isTokenReady_28 : decode cX1_isTokenReady 28 = .ok (.astore_n 3, 1) := by decide +kernel
theorem dX1_isTokenReady_29 : decode cX1_isTokenReady 29 = .ok (.aload_n 3, 1) := by decide +kernel
theorem dX1_isTokenReady_30 : decode cX1_isTokenReady 30 = .ok (.ifnull 14, 3) := by decide +kernel
theorem dX1_isTokenReady_33 : decode cX1_isTokenReady 33 = .ok (.aload_n 3, 1) := by decide +kernel
theorem dX1_isTokenReady_34 : decode cX1_isTokenReady 34 = .ok (.getfield 125, 3) := by decide +kernel
theorem dX1_isTokenReady_37 : decode cX1_isTokenReady 37 = .ok (.ifCond .ne 7, 3) := by decide +kernel
theorem dX1_isTokenReady_40 : decode cX1_isTokenReady 40 = .ok (.iconst 1, 1) := by decide +kernel
theorem dX1_isTokenReady_41 : decode cX1_isTokenReady 41 = .ok (.goto 4, 3) := by decide +kernel
theorem dX1_isTokenReady_44 : decode cX1_isTokenReady 44 = .ok (.iconst 0, 1) := by decide +kernel
theorem dX1_isTokenReady_45 : decode cX1_isTokenReady 45 = .ok (.istore 4, 2) := by decide +kernel
theorem dX1_isTokenReady_47 : decode cX1_isTokenReady 47 = .ok (.iload 4, 2) := by decide +kernel
theorem dX1_isTokenReady_49 : decode cX1_isTokenReady 49 = .ok (.ifCond .eq 25, 3) := by decide +kernel
theorem dX1_isTokenReady_52 : decode cX1_isTokenReady 52 = .ok (.aload_n 2, 1) := by decide +kernel
theorem dX1_isTokenReady_53 : decode cX1_isTokenReady 53 = .ok (.getfield 70, 3) := by decide +kernel
theorem dX1_isTokenReady_56 : decode cX1_isTokenReady 56 = .ok (.ifCond .ne 18, 3) := by decide +kernel
theorem dX1_isTokenReady_59 : decode cX1_isTokenReady 59 = .ok (.aload_n 2, 1) := by decide +kernel
theorem dX1_isTokenReady_60 : decode cX1_isTokenReady 60 = .ok (.aload_n 1, 1) := by decide +kernel
theorem dX1_isTokenReady_61 : decode cX1_isTokenReady 61 = .ok (.invokevirtual 234, 3) := by decide +kernel
theorem dX1_isTokenReady_64 : decode cX1_isTokenReady 64 = .ok (.invokevirtual 237, 3) := by decide +kernel
theorem dX1_isTokenReady_67 : decode cX1_isTokenReady 67 = .ok (.ifCond .eq 7, 3) := by decide +kernel
theorem dX1_isTokenReady_70 : decode cX1_isTokenReady 70 = .ok (.iconst 1, 1) := by decide +kernel
theorem dX1_isTokenReady_71 : decode cX1_isTokenReady 71 = .ok (.goto 4, 3) := by decide +kernel
theorem dX1_isTokenReady_74 : decode cX1_isTokenReady 74 = .ok (.iconst 0, 1) := by decide +kernel
theorem dX1_isTokenReady_75 : decode cX1_isTokenReady 75 = .ok (.ireturn, 1) := by decide +kernel
theorem dX1_refuse_0 : decode cX1_refuse 0 = .ok (.aload_n 1, 1) := by decide +kernel
theorem dX1_refuse_1 : decode cX1_refuse 1 = .ok (.getfield 169, 3) := by decide +kernel
theorem dX1_refuse_4 : decode cX1_refuse 4 = .ok (.bipush (-6), 2) := by decide +kernel
theorem dX1_refuse_6 : decode cX1_refuse 6 = .ok (.if_icmp .ne 6, 3) := by decide +kernel
theorem dX1_refuse_9 : decode cX1_refuse 9 = .ok (.bipush (-5), 2) := by decide +kernel
theorem dX1_refuse_11 : decode cX1_refuse 11 = .ok (.ireturn, 1) := by decide +kernel
theorem dX1_refuse_12 : decode cX1_refuse 12 = .ok (.aload_n 1, 1) := by decide +kernel
theorem dX1_refuse_13 : decode cX1_refuse 13 = .ok (.bipush (-6), 2) := by decide +kernel
theorem dX1_refuse_15 : decode cX1_refuse 15 = .ok (.putfield 169, 3) := by decide +kernel
theorem dX1_refuse_18 : decode cX1_refuse 18 = .ok (.aload_n 0, 1) := by decide +kernel
theorem dX1_refuse_19 : decode cX1_refuse 19 = .ok (.aload_n 1, 1) := by decide +kernel
theorem dX1_refuse_20 : decode cX1_refuse 20 = .ok (.iconst 1, 1) := by decide +kernel
theorem dX1_refuse_21 : decode cX1_refuse 21 = .ok (.invokevirtual 228, 3) := by decide +kernel
theorem dX1_refuse_24 : decode cX1_refuse 24 = .ok (.ireturn, 1) := by decide +kernel
theorem dX1_cancelBlock_0 : decode cX1_cancelBlock 0 = .ok (.aload_n 1, 1) := by decide +kernel
theorem dX1_cancelBlock_1 : decode cX1_cancelBlock 1 = .ok (.getfield 169, 3) := by decide +kernel
theorem dX1_cancelBlock_4 : decode cX1_cancelBlock 4 = .ok (.bipush (-6), 2) := by decide +kernel
theorem dX1_cancelBlock_6 : decode cX1_cancelBlock 6 = .ok (.if_icmp .ne 14, 3) := by decide +kernel
theorem dX1_cancelBlock_9 : decode cX1_cancelBlock 9 = .ok (.aload_n 1, 1) := by decide +kernel
theorem dX1_cancelBlock_10 : decode cX1_cancelBlock 10 = .ok (.getfield 125, 3) := by decide +kernel
theorem dX1_cancelBlock_13 : decode cX1_cancelBlock 13 = .ok (.iconst 1, 1) := by decide +kernel
theorem dX1_cancelBlock_14 : decode cX1_cancelBlock 14 = .ok (.if_icmp .eq 6, 3) := by decide +kernel
theorem dX1_cancelBlock_17 : decode cX1_cancelBlock 17 = .ok (.bipush (-5), 2) := by decide +kernel
theorem dX1_cancelBlock_19 : decode cX1_cancelBlock 19 = .ok (.ireturn, 1) := by decide +kernel
theorem dX1_cancelBlock_20 : decode cX1_cancelBlock 20 = .ok (.aload_n 1, 1) := by decide +kernel
theorem dX1_cancelBlock_21 : decode cX1_cancelBlock 21 = .ok (.iconst 0, 1) := by decide +kernel
theorem dX1_cancelBlock_22 : decode cX1_cancelBlock 22 = .ok (.invokevirtual 240, 3) := by decide +kernel
theorem dX1_cancelBlock_25 : decode cX1_cancelBlock 25 = .ok (.aload_n 0, 1) := by decide +kernel
theorem dX1_cancelBlock_26 : decode cX1_cancelBlock 26 = .ok (.aload_n 1, 1) := by decide +kernel
theorem dX1_cancelBlock_27 : decode cX1_cancelBlock 27 = .ok (.bipush 35, 2) := by decide +kernel
theorem dX1_cancelBlock_29 : decode cX1_cancelBlock 29 = .ok (.invokevirtual 216, 3) := by decide +kernel
theorem dX1_cancelBlock_32 : decode cX1_cancelBlock 32 = .ok (.ireturn, 1) := by decide +kernel
theorem dX1_letDepart_0 : decode cX1_letDepart 0 = .ok (.aload_n 0, 1) := by decide +kernel
theorem dX1_letDepart_1 : decode cX1_letDepart 1 = .ok (.aload_n 1, 1) := by decide +kernel
theorem dX1_letDepart_2 : decode cX1_letDepart 2 = .ok (.invokevirtual 165, 3) := by decide +kernel
theorem dX1_letDepart_5 : decode cX1_letDepart 5 = .ok (.astore_n 2, 1) := by decide +kernel
theorem dX1_letDepart_6 : decode cX1_letDepart 6 = .ok (.aload_n 2, 1) := by decide +kernel
theorem dX1_letDepart_7 : decode cX1_letDepart 7 = .ok (.ifnull 22, 3) := by decide +kernel
theorem dX1_letDepart_10 : decode cX1_letDepart 10 = .ok (.aload_n 2, 1) := by decide +kernel
theorem dX1_letDepart_11 : decode cX1_letDepart 11 = .ok (.getfield 125, 3) := by decide +kernel
theorem dX1_letDepart_14 : decode cX1_letDepart 14 = .ok (.iconst 1, 1) := by decide +kernel
theorem dX1_letDepart_15 : decode cX1_letDepart 15 = .ok (.if_icmp .ne 14, 3) := by decide +kernel
theorem dX1_letDepart_18 : decode cX1_letDepart 18 = .ok (.aload_n 2, 1) := by decide +kernel
theorem dX1_letDepart_19 : decode cX1_letDepart 19 = .ok (.getfield 128, 3) := by decide +kernel
theorem dX1_letDepart_22 : decode cX1_letDepart 22 = .ok (.aload_n 1, 1) := by decide +kernel
theorem dX1_letDepart_23 : decode cX1_letDepart 23 = .ok (.getfield 153, 3) := by decide +kernel
theorem dX1_letDepart_26 : decode cX1_letDepart 26 = .ok (.if_icmp .eq 6, 3) := by decide +kernel
theorem dX1_letDepart_29 : decode cX1_letDepart 29 = .ok (.bipush (-5), 2) := by decide +kernel
theorem dX1_letDepart_31 : decode cX1_letDepart 31 = .ok (.ireturn, 1) := by decide +kernel
theorem dX1_letDepart_32 : decode cX1_letDepart 32 = .ok (.aload_n 2, 1) := by decide +kernel
theorem dX1_letDepart_33 : decode cX1_letDepart 33 = .ok (.iconst 2, 1) := by decide +kernel
theorem dX1_letDepart_34 : decode cX1_letDepart 34 = .ok (.putfield 125, 3) := by decide +kernel
theorem dX1_letDepart_37 : decode cX1_letDepart 37 = .ok (.aload_n 1, 1) := by decide +kernel
theorem dX1_letDepart_38 : decode cX1_letDepart 38 = .ok (.aload_n 2, 1) := by decide +kernel
theorem dX1_letDepart_39 : decode cX1_letDepart 39 = .ok (.getfield 131, 3) := by decide +kernel
theorem dX1_letDepart_42 : decode cX1_letDepart 42 = .ok (.invokevirtual 243, 3) := by decide +kernel
theorem dX1_letDepart_45 : decode cX1_letDepart 45 = .ok (.aload_n 0, 1) := by decide +kernel
theorem dX1_letDepart_46 : decode cX1_letDepart 46 = .ok (.aload_n 2, 1) := by decide +kernel
theorem dX1_letDepart_47 : decode cX1_letDepart 47 = .ok (.iconst 2, 1) := by decide +kernel
theorem dX1_letDepart_48 : decode cX1_letDepart 48 = .ok (.invokevirtual 216, 3) := by decide +kernel
theorem dX1_letDepart_51 : decode cX1_letDepart 51 = .ok (.pop, 1) := by decide +kernel
theorem dX1_letDepart_52 : decode cX1_letDepart 52 = .ok (.aload_n 1, 1) := by decide +kernel
theorem dX1_letDepart_53 : decode cX1_letDepart 53 = .ok (.getfield 246, 3) := by decide +kernel
theorem dX1_letDepart_56 : decode cX1_letDepart 56 = .ok (.ireturn, 1) := by decide +kernel
theorem dX1_admitTrain_0 : decode cX1_admitTrain 0 = .ok (.aload_n 0, 1) := by decide +kernel
theorem dX1_admitTrain_1 : decode cX1_admitTrain 1 = .ok (.aload_n 1, 1) := by decide +kernel
theorem dX1_admitTrain_2 : decode cX1_admitTrain 2 = .ok (.invokevirtual 249, 3) := by decide +kernel
theorem dX1_admitTrain_5 : decode cX1_admitTrain 5 = .ok (.astore_n 2, 1) := by decide +kernel
theorem dX1_admitTrain_6 : decode cX1_admitTrain 6 = .ok (.aload_n 2, 1) := by decide +kernel
theorem dX1_admitTrain_7 : decode cX1_admitTrain 7 = .ok (.ifnull 25, 3) := by decide +kernel
theorem dX1_admitTrain_10 : decode cX1_admitTrain 10 = .ok (.aload_n 2, 1) := by decide +kernel
theorem dX1_admitTrain_11 : decode cX1_admitTrain 11 = .ok (.getfield 246, 3) := by decide +kernel
theorem dX1_admitTrain_14 : decode cX1_admitTrain 14 = .ok (.ifCond .gt 18, 3) := by decide +kernel
theorem dX1_admitTrain_17 : decode cX1_admitTrain 17 = .ok (.aload_n 0, 1) := by decide +kernel
theorem dX1_admitTrain_18 : decode cX1_admitTrain 18 = .ok (.aload_n 1, 1) := by decide +kernel
theorem dX1_admitTrain_19 : decode cX1_admitTrain 19 = .ok (.invokevirtual 207, 3) := by decide +kernel
theorem dX1_admitTrain_22 : decode cX1_admitTrain 22 = .ok (.aload_n 1, 1) := by decide +kernel
theorem dX1_admitTrain_23 : decode cX1_admitTrain 23 = .ok (.getfield 220, 3) := by decide +kernel
theorem dX1_admitTrain_26 : decode cX1_admitTrain 26 = .ok (.invokevirtual 145, 3) := by decide +kernel
theorem dX1_admitTrain_29 : decode cX1_admitTrain 29 = .ok (.ifCond .ne 6, 3) := by decide +kernel
theorem dX1_admitTrain_32 : decode cX1_admitTrain 32 = .ok (.bipush (-5), 2) := by decide +kernel
theorem dX1_admitTrain_34 : decode cX1_admitTrain 34 = .ok (.ireturn, 1) := by decide +kernel
theorem dX1_admitTrain_35 : decode cX1_admitTrain 35 = .ok (.aload_n 2, 1) := by decide +kernel
theorem dX1_admitTrain_36 : decode cX1_admitTrain 36 = .ok (.iconst 0, 1) := by decide +kernel
theorem dX1_admitTrain_37 : decode cX1_admitTrain 37 = .ok (.aload_n 1, 1) := by decide +kernel
theorem dX1_admitTrain_38 : decode cX1_admitTrain 38 = .ok (.invokevirtual 207, 3) := by decide +kernel
theorem dX1_admitTrain_41 : decode cX1_admitTrain 41 = .ok (.invokevirtual 179, 3) := by decide +kernel
theorem dX1_admitTrain_44 : decode cX1_admitTrain 44 = .ok (.aload_n 2, 1) := by decide +kernel
theorem dX1_admitTrain_45 : decode cX1_admitTrain 45 = .ok (.getfield 153, 3) := by decide +kernel
theorem dX1_admitTrain_48 : decode cX1_admitTrain 48 = .ok (.ireturn, 1) := by decide +kernel
theorem dX1_reportOut_0 : decode cX1_reportOut 0 = .ok (.aload_n 1, 1) := by decide +kernel
theorem dX1_reportOut_1 : decode cX1_reportOut 1 = .ok (.getfield 125, 3) := by decide +kernel
theorem dX1_reportOut_4 : decode cX1_reportOut 4 = .ok (.iconst 2, 1) := by decide +kernel
theorem dX1_reportOut_5 : decode cX1_reportOut 5 = .ok (.if_icmp .ne 18, 3) := by decide +kernel
theorem dX1_reportOut_8 : decode cX1_reportOut 8 = .ok (.aload_n 1, 1) := by decide +kernel
theorem dX1_reportOut_9 : decode cX1_reportOut 9 = .ok (.getfield 197, 3) := by decide +kernel
theorem dX1_reportOut_12 : decode cX1_reportOut 12 = .ok (.ifCond .ne 11, 3) := by decide +kernel
theorem dX1_reportOut_15 : decode cX1_reportOut 15 = .ok (.aload_n 0, 1) := by decide +kernel
theorem dX1_reportOut_16 : decode cX1_reportOut 16 = .ok (.aload_n 1, 1) := by decide +kernel
theorem dX1_reportOut_17 : decode cX1_reportOut 17 = .ok (.invokevirtual 249, 3) := by decide +kernel
theorem dX1_reportOut_20 : decode cX1_reportOut 20 = .ok (.ifnull 6, 3) := by decide +kernel
theorem dX1_reportOut_23 : decode cX1_reportOut 23 = .ok (.bipush (-5), 2) := by decide +kernel
theorem dX1_reportOut_25 : decode cX1_reportOut 25 = .ok (.ireturn, 1) := by decide +kernel
theorem dX1_reportOut_26 : decode cX1_reportOut 26 = .ok (.aload_n 1, 1) := by decide +kernel
theorem dX1_reportOut_27 : decode cX1_reportOut 27 = .ok (.invokevirtual 253, 3) := by decide +kernel
theorem dX1_reportOut_30 : decode cX1_reportOut 30 = .ok (.aload_n 0, 1) := by decide +kernel
theorem dX1_reportOut_31 : decode cX1_reportOut 31 = .ok (.aload_n 1, 1) := by decide +kernel
theorem dX1_reportOut_32 : decode cX1_reportOut 32 = .ok (.bipush 21, 2) := by decide +kernel
theorem dX1_reportOut_34 : decode cX1_reportOut 34 = .ok (.invokevirtual 228, 3) := by decide +kernel
theorem dX1_reportOut_37 : decode cX1_reportOut 37 = .ok (.ireturn, 1) := by decide +kernel
theorem dX1_sendEngine_0 : decode cX1_sendEngine 0 = .ok (.aload_n 1, 1) := by decide +kernel
theorem dX1_sendEngine_1 : decode cX1_sendEngine 1 = .ok (.getfield 197, 3) := by decide +kernel
theorem dX1_sendEngine_4 : decode cX1_sendEngine 4 = .ok (.ifCond .eq 18, 3) := by decide +kernel
theorem dX1_sendEngine_7 : decode cX1_sendEngine 7 = .ok (.aload_n 1, 1) := by decide +kernel
theorem dX1_sendEngine_8 : decode cX1_sendEngine 8 = .ok (.getfield 256, 3) := by decide +kernel
theorem dX1_sendEngine_11 : decode cX1_sendEngine 11 = .ok (.ifCond .gt 11, 3) := by decide +kernel
theorem dX1_sendEngine_14 : decode cX1_sendEngine 14 = .ok (.aload_n 0, 1) := by decide +kernel
theorem dX1_sendEngine_15 : decode cX1_sendEngine 15 = .ok (.aload_n 1, 1) := by decide +kernel
theorem dX1_sendEngine_16 : decode cX1_sendEngine 16 = .ok (.invokevirtual 249, 3) := by decide +kernel
theorem dX1_sendEngine_19 : decode cX1_sendEngine 19 = .ok (.ifnull 6, 3) := by decide +kernel
theorem dX1_sendEngine_22 : decode cX1_sendEngine 22 = .ok (.bipush (-5), 2) := by decide +kernel
theorem dX1_sendEngine_24 : decode cX1_sendEngine 24 = .ok (.ireturn, 1) := by decide +kernel
theorem dX1_sendEngine_25 : decode cX1_sendEngine 25 = .ok (.aload_n 1, 1) := by decide +kernel
theorem dX1_sendEngine_26 : decode cX1_sendEngine 26 = .ok (.iconst 2, 1) := by decide +kernel
theorem dX1_sendEngine_27 : decode cX1_sendEngine 27 = .ok (.aload_n 1, 1) := by decide +kernel
theorem dX1_sendEngine_28 : decode cX1_sendEngine 28 = .ok (.getfield 131, 3) := by decide +kernel
theorem dX1_sendEngine_31 : decode cX1_sendEngine 31 = .ok (.getfield 259, 3) := by decide +kernel
theorem dX1_sendEngine_34 : decode cX1_sendEngine 34 = .ok (.imul, 1) := by decide +kernel
theorem dX1_sendEngine_35 : decode cX1_sendEngine 35 = .ok (.putfield 256, 3) := by decide +kernel
theorem dX1_sendEngine_38 : decode cX1_sendEngine 38 = .ok (.aload_n 0, 1) := by decide +kernel
theorem dX1_sendEngine_39 : decode cX1_sendEngine 39 = .ok (.aload_n 1, 1) := by decide +kernel
theorem dX1_sendEngine_40 : decode cX1_sendEngine 40 = .ok (.bipush 22, 2) := by decide +kernel
theorem dX1_sendEngine_42 : decode cX1_sendEngine 42 = .ok (.invokevirtual 216, 3) := by decide +kernel
theorem dX1_sendEngine_45 : decode cX1_sendEngine 45 = .ok (.pop, 1) := by decide +kernel
theorem dX1_sendEngine_46 : decode cX1_sendEngine 46 = .ok (.aload_n 1, 1) := by decide +kernel
theorem dX1_sendEngine_47 : decode cX1_sendEngine 47 = .ok (.getfield 256, 3) := by decide +kernel
theorem dX1_sendEngine_50 : decode cX1_sendEngine 50 = .ok (.ireturn, 1) := by decide +kernel
theorem dX1_obstructBlock_0 : decode cX1_obstructBlock 0 = .ok (.aload_n 1, 1) := by decide +kernel
theorem dX1_obstructBlock_1 : decode cX1_obstructBlock 1 = .ok (.getfield 125, 3) := by decide +kernel
theorem dX1_obstructBlock_4 : decode cX1_obstructBlock 4 = .ok (.istore_n 2, 1) := by decide +kernel
theorem dX1_obstructBlock_5 : decode cX1_obstructBlock 5 = .ok (.iload_n 2, 1) := by decide +kernel
theorem dX1_obstructBlock_6 : decode cX1_obstructBlock 6 = .ok (.ifCond .eq 11, 3) := by decide +kernel
theorem dX1_obstructBlock_9 : decode cX1_obstructBlock 9 = .ok (.iload_n 2, 1) := by decide +kernel
theorem dX1_obstructBlock_10 : decode cX1_obstructBlock 10 = .ok (.iconst 1, 1) := by decide +kernel
theorem dX1_obstructBlock_11 : decode cX1_obstructBlock 11 = .ok (.if_icmp .eq 6, 3) := by decide +kernel
theorem dX1_obstructBlock_14 : decode cX1_obstructBlock 14 = .ok (.bipush (-5), 2) := by decide +kernel
theorem dX1_obstructBlock_16 : decode cX1_obstructBlock 16 = .ok (.ireturn, 1) := by decide +kernel
theorem dX1_obstructBlock_17 : decode cX1_obstructBlock 17 = .ok (.aload_n 1, 1) := by decide +kernel
theorem dX1_obstructBlock_18 : decode cX1_obstructBlock 18 = .ok (.iconst 3, 1) := by decide +kernel
theorem dX1_obstructBlock_19 : decode cX1_obstructBlock 19 = .ok (.invokevirtual 240, 3) := by decide +kernel
theorem dX1_obstructBlock_22 : decode cX1_obstructBlock 22 = .ok (.aload_n 0, 1) := by decide +kernel
theorem dX1_obstructBlock_23 : decode cX1_obstructBlock 23 = .ok (.aload_n 1, 1) := by decide +kernel
theorem dX1_obstructBlock_24 : decode cX1_obstructBlock 24 = .ok (.bipush 6, 2) := by decide +kernel
theorem dX1_obstructBlock_26 : decode cX1_obstructBlock 26 = .ok (.invokevirtual 228, 3) := by decide +kernel
theorem dX1_obstructBlock_29 : decode cX1_obstructBlock 29 = .ok (.pop, 1) := by decide +kernel
theorem dX1_obstructBlock_30 : decode cX1_obstructBlock 30 = .ok (.iload_n 2, 1) := by decide +kernel
theorem dX1_obstructBlock_31 : decode cX1_obstructBlock 31 = .ok (.ireturn, 1) := by decide +kernel
theorem dX1_liftBlock_0 : decode cX1_liftBlock 0 = .ok (.aload_n 1, 1) := by decide +kernel
theorem dX1_liftBlock_1 : decode cX1_liftBlock 1 = .ok (.getfield 125, 3) := by decide +kernel
theorem dX1_liftBlock_4 : decode cX1_liftBlock 4 = .ok (.iconst 3, 1) := by decide +kernel
theorem dX1_liftBlock_5 : decode cX1_liftBlock 5 = .ok (.if_icmp .eq 6, 3) := by decide +kernel
theorem dX1_liftBlock_8 : decode cX1_liftBlock 8 = .ok (.bipush (-5), 2) := by decide +kernel
theorem dX1_liftBlock_10 : decode cX1_liftBlock 10 = .ok (.ireturn, 1) := by decide +kernel
theorem dX1_liftBlock_11 : decode cX1_liftBlock 11 = .ok (.aload_n 1, 1) := by decide +kernel
theorem dX1_liftBlock_12 : decode cX1_liftBlock 12 = .ok (.iconst 0, 1) := by decide +kernel
theorem dX1_liftBlock_13 : decode cX1_liftBlock 13 = .ok (.putfield 125, 3) := by decide +kernel
theorem dX1_liftBlock_16 : decode cX1_liftBlock 16 = .ok (.aload_n 0, 1) := by decide +kernel
theorem dX1_liftBlock_17 : decode cX1_liftBlock 17 = .ok (.aload_n 1, 1) := by decide +kernel
theorem dX1_liftBlock_18 : decode cX1_liftBlock 18 = .ok (.bipush 13, 2) := by decide +kernel
theorem dX1_liftBlock_20 : decode cX1_liftBlock 20 = .ok (.invokevirtual 228, 3) := by decide +kernel
theorem dX1_liftBlock_23 : decode cX1_liftBlock 23 = .ok (.ireturn, 1) := by decide +kernel
theorem dX1_letPass_0 : decode cX1_letPass 0 = .ok (.iconst 0, 1) := by decide +kernel
theorem dX1_letPass_1 : decode cX1_letPass 1 = .ok (.istore_n 2, 1) := by decide +kernel
theorem dX1_letPass_2 : decode cX1_letPass 2 = .ok (.iload_n 2, 1) := by decide +kernel
theorem dX1_letPass_3 : decode cX1_letPass 3 = .ok (.aload_n 0, 1) := by decide +kernel
theorem dX1_letPass_4 : decode cX1_letPass 4 = .ok (.getfield 67, 3) := by decide +kernel
theorem dX1_letPass_7 : decode cX1_letPass 7 = .ok (.if_icmp .ge 19, 3) := by decide +kernel
theorem dX1_letPass_10 : decode cX1_letPass 10 = .ok (.aload_n 0, 1) := by decide +kernel
theorem dX1_letPass_11 : decode cX1_letPass 11 = .ok (.getfield 31, 3) := by decide +kernel
theorem dX1_letPass_14 : decode cX1_letPass 14 = .ok (.iload_n 2, 1) := by decide +kernel
theorem dX1_letPass_15 : decode cX1_letPass 15 = .ok (.aaload, 1) := by decide +kernel
theorem dX1_letPass_16 : decode cX1_letPass 16 = .ok (.iload_n 1, 1) := by decide +kernel
theorem dX1_letPass_17 : decode cX1_letPass 17 = .ok (.invokevirtual 262, 3) := by decide +kernel
theorem dX1_letPass_20 : decode cX1_letPass 20 = .ok (.iinc 2 1, 3) := by decide +kernel
theorem dX1_letPass_23 : decode cX1_letPass 23 = .ok (.goto (-21), 3) := by decide +kernel
theorem dX1_letPass_26 : decode cX1_letPass 26 = .ok (.iconst 0, 1) := by decide +kernel
theorem dX1_letPass_27 : decode cX1_letPass 27 = .ok (.istore_n 2, 1) := by decide +kernel
theorem dX1_letPass_28 : decode cX1_letPass 28 = .ok (.iload_n 2, 1) := by decide +kernel
theorem dX1_letPass_29 : decode cX1_letPass 29 = .ok (.aload_n 0, 1) := by decide +kernel
theorem dX1_letPass_30 : decode cX1_letPass 30 = .ok (.invokevirtual 138, 3) := by decide +kernel
theorem dX1_letPass_33 : decode cX1_letPass 33 = .ok (.if_icmp .ge 19, 3) := by decide +kernel
theorem dX1_letPass_36 : decode cX1_letPass 36 = .ok (.aload_n 0, 1) := by decide +kernel
theorem dX1_letPass_37 : decode cX1_letPass 37 = .ok (.getfield 19, 3) := by decide +kernel
theorem dX1_letPass_40 : decode cX1_letPass 40 = .ok (.iload_n 2, 1) := by decide +kernel
theorem dX1_letPass_41 : decode cX1_letPass 41 = .ok (.aaload, 1) := by decide +kernel
theorem dX1_letPass_42 : decode cX1_letPass 42 = .ok (.iload_n 1, 1) := by decide +kernel
theorem dX1_letPass_43 : decode cX1_letPass 43 = .ok (.invokevirtual 265, 3) := by decide +kernel
theorem dX1_letPass_46 : decode cX1_letPass 46 = .ok (.iinc 2 1, 3) := by decide +kernel
theorem dX1_letPass_49 : decode cX1_letPass 49 = .ok (.goto (-21), 3) := by decide +kernel
theorem dX1_letPass_52 : decode cX1_letPass 52 = .ok (.aload_n 0, 1) := by decide +kernel
theorem dX1_letPass_53 : decode cX1_letPass 53 = .ok (.dup, 1) := by decide +kernel
theorem dX1_letPass_54 : decode cX1_letPass 54 = .ok (.getfield 61, 3) := by decide +kernel
theorem dX1_letPass_57 : decode cX1_letPass 57 = .ok (.iload_n 1, 1) := by decide +kernel
theorem dX1_letPass_58 : decode cX1_letPass 58 = .ok (.iadd, 1) := by decide +kernel
theorem dX1_letPass_59 : decode cX1_letPass 59 = .ok (.putfield 61, 3) := by decide +kernel
theorem dX1_letPass_62 : decode cX1_letPass 62 = .ok (.return_, 1) := by decide +kernel
theorem dX1_workTick_0 : decode cX1_workTick 0 = .ok (.aload_n 0, 1) := by decide +kernel
theorem dX1_workTick_1 : decode cX1_workTick 1 = .ok (.invokevirtual 266, 3) := by decide +kernel
theorem dX1_workTick_4 : decode cX1_workTick 4 = .ok (.aload_n 0, 1) := by decide +kernel
theorem dX1_workTick_5 : decode cX1_workTick 5 = .ok (.invokevirtual 269, 3) := by decide +kernel
theorem dX1_workTick_8 : decode cX1_workTick 8 = .ok (.istore_n 1, 1) := by decide +kernel
theorem dX1_workTick_9 : decode cX1_workTick 9 = .ok (.aload_n 0, 1) := by decide +kernel
theorem dX1_workTick_10 : decode cX1_workTick 10 = .ok (.invokevirtual 272, 3) := by decide +kernel
theorem dX1_workTick_13 : decode cX1_workTick 13 = .ok (.aload_n 0, 1) := by decide +kernel
theorem dX1_workTick_14 : decode cX1_workTick 14 = .ok (.invokevirtual 275, 3) := by decide +kernel
theorem dX1_workTick_17 : decode cX1_workTick 17 = .ok (.aload_n 0, 1) := by decide +kernel
theorem dX1_workTick_18 : decode cX1_workTick 18 = .ok (.invokevirtual 278, 3) := by decide +kernel
theorem dX1_workTick_21 : decode cX1_workTick 21 = .ok (.aload_n 0, 1) := by decide +kernel
theorem dX1_workTick_22 : decode cX1_workTick 22 = .ok (.iconst 1, 1) := by decide +kernel
theorem dX1_workTick_23 : decode cX1_workTick 23 = .ok (.invokevirtual 281, 3) := by decide +kernel
theorem dX1_workTick_26 : decode cX1_workTick 26 = .ok (.iload_n 1, 1) := by decide +kernel
theorem dX1_workTick_27 : decode cX1_workTick 27 = .ok (.ireturn, 1) := by decide +kernel
theorem dX1_clearSections_0 : decode cX1_clearSections 0 = .ok (.aload_n 0, 1) := by decide +kernel
theorem dX1_clearSections_1 : decode cX1_clearSections 1 = .ok (.invokevirtual 138, 3) := by decide +kernel
theorem dX1_clearSections_4 : decode cX1_clearSections 4 = .ok (.istore_n 1, 1) := by decide +kernel
theorem dX1_clearSections_5 : decode cX1_clearSections 5 = .ok (.iconst 0, 1) := by decide +kernel
theorem dX1_clearSections_6 : decode cX1_clearSections 6 = .ok (.istore_n 2, 1) := by decide +kernel
theorem dX1_clearSections_7 : decode cX1_clearSections 7 = .ok (.iload_n 2, 1) := by decide +kernel
theorem dX1_clearSections_8 : decode cX1_clearSections 8 = .ok (.iload_n 1, 1) := by decide +kernel
theorem dX1_clearSections_9 : decode cX1_clearSections 9 = .ok (.if_icmp .ge 20, 3) := by decide +kernel
theorem dX1_clearSections_12 : decode cX1_clearSections 12 = .ok (.aload_n 0, 1) := by decide +kernel
theorem dX1_clearSections_13 : decode cX1_clearSections 13 = .ok (.aload_n 0, 1) := by decide +kernel
theorem dX1_clearSections_14 : decode cX1_clearSections 14 = .ok (.getfield 19, 3) := by decide +kernel
theorem dX1_clearSections_17 : decode cX1_clearSections 17 = .ok (.iload_n 2, 1) := by decide +kernel
theorem dX1_clearSections_18 : decode cX1_clearSections 18 = .ok (.aaload, 1) := by decide +kernel
theorem dX1_clearSections_19 : decode cX1_clearSections 19 = .ok (.invokevirtual 282, 3) := by decide +kernel
theorem dX1_clearSections_22 : decode cX1_clearSections 22 = .ok (.pop, 1) := by decide +kernel
theorem dX1_clearSections_23 : decode cX1_clearSections 23 = .ok (.iinc 2 1, 3) := by decide +kernel
theorem dX1_clearSections_26 : decode cX1_clearSections 26 = .ok (.goto (-19), 3) := by decide +kernel
theorem dX1_clearSections_29 : decode cX1_clearSections 29 = .ok (.iconst 0, 1) := by decide +kernel
theorem dX1_clearSections_30 : decode cX1_clearSections 30 = .ok (.istore_n 2, 1) := by decide +kernel
theorem dX1_clearSections_31 : decode cX1_clearSections 31 = .ok (.iload_n 2, 1) := by decide +kernel
theorem dX1_clearSections_32 : decode cX1_clearSections 32 = .ok (.iload_n 1, 1) := by decide +kernel
theorem dX1_clearSections_33 : decode cX1_clearSections 33 = .ok (.if_icmp .ge 20, 3) := by decide +kernel
theorem dX1_clearSections_36 : decode cX1_clearSections 36 = .ok (.aload_n 0, 1) := by decide +kernel
theorem dX1_clearSections_37 : decode cX1_clearSections 37 = .ok (.aload_n 0, 1) := by decide +kernel
theorem dX1_clearSections_38 : decode cX1_clearSections 38 = .ok (.getfield 19, 3) := by decide +kernel
theorem dX1_clearSections_41 : decode cX1_clearSections 41 = .ok (.iload_n 2, 1) := by decide +kernel
theorem dX1_clearSections_42 : decode cX1_clearSections 42 = .ok (.aaload, 1) := by decide +kernel
theorem dX1_clearSections_43 : decode cX1_clearSections 43 = .ok (.invokevirtual 286, 3) := by decide +kernel
theorem dX1_clearSections_46 : decode cX1_clearSections 46 = .ok (.pop, 1) := by decide +kernel
theorem dX1_clearSections_47 : decode cX1_clearSections 47 = .ok (.iinc 2 1, 3) := by decide +kernel
theorem dX1_clearSections_50 : decode cX1_clearSections 50 = .ok (.goto (-19), 3) := by decide +kernel
theorem dX1_clearSections_53 : decode cX1_clearSections 53 = .ok (.iconst 0, 1) := by decide +kernel
theorem dX1_clearSections_54 : decode cX1_clearSections 54 = .ok (.istore_n 2, 1) := by decide +kernel
theorem dX1_clearSections_55 : decode cX1_clearSections 55 = .ok (.iload_n 2, 1) := by decide +kernel
theorem dX1_clearSections_56 : decode cX1_clearSections 56 = .ok (.iload_n 1, 1) := by decide +kernel
theorem dX1_clearSections_57 : decode cX1_clearSections 57 = .ok (.if_icmp .ge 20, 3) := by decide +kernel
theorem dX1_clearSections_60 : decode cX1_clearSections 60 = .ok (.aload_n 0, 1) := by decide +kernel
theorem dX1_clearSections_61 : decode cX1_clearSections 61 = .ok (.aload_n 0, 1) := by decide +kernel
theorem dX1_clearSections_62 : decode cX1_clearSections 62 = .ok (.getfield 19, 3) := by decide +kernel
theorem dX1_clearSections_65 : decode cX1_clearSections 65 = .ok (.iload_n 2, 1) := by decide +kernel
theorem dX1_clearSections_66 : decode cX1_clearSections 66 = .ok (.aaload, 1) := by decide +kernel
theorem dX1_clearSections_67 : decode cX1_clearSections 67 = .ok (.invokevirtual 289, 3) := by decide +kernel
theorem dX1_clearSections_70 : decode cX1_clearSections 70 = .ok (.pop, 1) := by decide +kernel
theorem dX1_clearSections_71 : decode cX1_clearSections 71 = .ok (.iinc 2 1, 3) := by decide +kernel
theorem dX1_clearSections_74 : decode cX1_clearSections 74 = .ok (.goto (-19), 3) := by decide +kernel
theorem dX1_clearSections_77 : decode cX1_clearSections 77 = .ok (.return_, 1) := by decide +kernel
theorem dX1_leaveAll_0 : decode cX1_leaveAll 0 = .ok (.iconst 0, 1) := by decide +kernel
theorem dX1_leaveAll_1 : decode cX1_leaveAll 1 = .ok (.istore_n 1, 1) := by decide +kernel
theorem dX1_leaveAll_2 : decode cX1_leaveAll 2 = .ok (.iconst 0, 1) := by decide +kernel
theorem dX1_leaveAll_3 : decode cX1_leaveAll 3 = .ok (.istore_n 2, 1) := by decide +kernel
theorem dX1_leaveAll_4 : decode cX1_leaveAll 4 = .ok (.iload_n 2, 1) := by decide +kernel
theorem dX1_leaveAll_5 : decode cX1_leaveAll 5 = .ok (.aload_n 0, 1) := by decide +kernel
theorem dX1_leaveAll_6 : decode cX1_leaveAll 6 = .ok (.getfield 67, 3) := by decide +kernel
theorem dX1_leaveAll_9 : decode cX1_leaveAll 9 = .ok (.if_icmp .ge 25, 3) := by decide +kernel
theorem dX1_leaveAll_12 : decode cX1_leaveAll 12 = .ok (.aload_n 0, 1) := by decide +kernel
theorem dX1_leaveAll_13 : decode cX1_leaveAll 13 = .ok (.aload_n 0, 1) := by decide +kernel
theorem dX1_leaveAll_14 : decode cX1_leaveAll 14 = .ok (.getfield 31, 3) := by decide +kernel
theorem dX1_leaveAll_17 : decode cX1_leaveAll 17 = .ok (.iload_n 2, 1) := by decide +kernel
theorem dX1_leaveAll_18 : decode cX1_leaveAll 18 = .ok (.aaload, 1) := by decide +kernel
theorem dX1_leaveAll_19 : decode cX1_leaveAll 19 = .ok (.invokevirtual 292, 3) := by decide +kernel
theorem dX1_leaveAll_22 : decode cX1_leaveAll 22 = .ok (.ifCond .lt 6, 3) := by decide +kernel
theorem dX1_leaveAll_25 : decode cX1_leaveAll 25 = .ok (.iinc 1 1, 3) := by decide +kernel
theorem dX1_leaveAll_28 : decode cX1_leaveAll 28 = .ok (.iinc 2 1, 3) := by decide +kernel
theorem dX1_leaveAll_31 : decode cX1_leaveAll 31 = .ok (.goto (-27), 3) := by decide +kernel
theorem dX1_leaveAll_34 : decode cX1_leaveAll 34 = .ok (.iload_n 1, 1) := by decide +kernel
theorem dX1_leaveAll_35 : decode cX1_leaveAll 35 = .ok (.ireturn, 1) := by decide +kernel
theorem dX1_offerAll_0 : decode cX1_offerAll 0 = .ok (.iconst 0, 1) := by decide +kernel
theorem dX1_offerAll_1 : decode cX1_offerAll 1 = .ok (.istore_n 1, 1) := by decide +kernel
theorem dX1_offerAll_2 : decode cX1_offerAll 2 = .ok (.iload_n 1, 1) := by decide +kernel
theorem dX1_offerAll_3 : decode cX1_offerAll 3 = .ok (.aload_n 0, 1) := by decide +kernel
theorem dX1_offerAll_4 : decode cX1_offerAll 4 = .ok (.getfield 67, 3) := by decide +kernel
theorem dX1_offerAll_7 : decode cX1_offerAll 7 = .ok (.if_icmp .ge 20, 3) := by decide +kernel
theorem dX1_offerAll_10 : decode cX1_offerAll 10 = .ok (.aload_n 0, 1) := by decide +kernel
theorem dX1_offerAll_11 : decode cX1_offerAll 11 = .ok (.aload_n 0, 1) := by decide +kernel
theorem dX1_offerAll_12 : decode cX1_offerAll 12 = .ok (.getfield 31, 3) := by decide +kernel
theorem dX1_offerAll_15 : decode cX1_offerAll 15 = .ok (.iload_n 1, 1) := by decide +kernel
theorem dX1_offerAll_16 : decode cX1_offerAll 16 = .ok (.aaload, 1) := by decide +kernel
theorem dX1_offerAll_17 : decode cX1_offerAll 17 = .ok (.invokevirtual 295, 3) := by decide +kernel
theorem dX1_offerAll_20 : decode cX1_offerAll 20 = .ok (.pop, 1) := by decide +kernel
theorem dX1_offerAll_21 : decode cX1_offerAll 21 = .ok (.iinc 1 1, 3) := by decide +kernel
theorem dX1_offerAll_24 : decode cX1_offerAll 24 = .ok (.goto (-22), 3) := by decide +kernel
theorem dX1_offerAll_27 : decode cX1_offerAll 27 = .ok (.return_, 1) := by decide +kernel
theorem dX1_answerAll_0 : decode cX1_answerAll 0 = .ok (.iconst 0, 1) := by decide +kernel
theorem dX1_answerAll_1 : decode cX1_answerAll 1 = .ok (.istore_n 1, 1) := by decide +kernel
theorem dX1_answerAll_2 : decode cX1_answerAll 2 = .ok (.iload_n 1, 1) := by decide +kernel
theorem dX1_answerAll_3 : decode cX1_answerAll 3 = .ok (.aload_n 0, 1) := by decide +kernel
theorem dX1_answerAll_4 : decode cX1_answerAll 4 = .ok (.invokevirtual 138, 3) := by decide +kernel
theorem dX1_answerAll_7 : decode cX1_answerAll 7 = .ok (.if_icmp .ge 33, 3) := by decide +kernel
theorem dX1_answerAll_10 : decode cX1_answerAll 10 = .ok (.aload_n 0, 1) := by decide +kernel
theorem dX1_answerAll_11 : decode cX1_answerAll 11 = .ok (.aload_n 0, 1) := by decide +kernel
theorem dX1_answerAll_12 : decode cX1_answerAll 12 = .ok (.getfield 19, 3) := by decide +kernel
theorem dX1_answerAll_15 : decode cX1_answerAll 15 = .ok (.iload_n 1, 1) := by decide +kernel
theorem dX1_answerAll_16 : decode cX1_answerAll 16 = .ok (.aaload, 1) := by decide +kernel
theorem dX1_answerAll_17 : decode cX1_answerAll 17 = .ok (.invokevirtual 298, 3) := by decide +kernel
theorem dX1_answerAll_20 : decode cX1_answerAll 20 = .ok (.ifCond .ge 14, 3) := by decide +kernel
theorem dX1_answerAll_23 : decode cX1_answerAll 23 = .ok (.aload_n 0, 1) := by decide +kernel
theorem dX1_answerAll_24 : decode cX1_answerAll 24 = .ok (.aload_n 0, 1) := by decide +kernel
theorem dX1_answerAll_25 : decode cX1_answerAll 25 = .ok (.getfield 19, 3) := by decide +kernel
theorem dX1_answerAll_28 : decode cX1_answerAll 28 = .ok (.iload_n 1, 1) := by decide +kernel
theorem dX1_answerAll_29 : decode cX1_answerAll 29 = .ok (.aaload, 1) := by decide +kernel
theorem dX1_answerAll_30 : decode cX1_answerAll 30 = .ok (.invokevirtual 301, 3) := by decide +kernel
theorem dX1_answerAll_33 : decode cX1_answerAll 33 = .ok (.pop, 1) := by decide +kernel
theorem dX1_answerAll_34 : decode cX1_answerAll 34 = .ok (.iinc 1 1, 3) := by decide +kernel
theorem dX1_answerAll_37 : decode cX1_answerAll 37 = .ok (.goto (-35), 3) := by decide +kernel
theorem dX1_answerAll_40 : decode cX1_answerAll 40 = .ok (.return_, 1) := by decide +kernel
theorem dX1_departAll_0 : decode cX1_departAll 0 = .ok (.iconst 0, 1) := by decide +kernel
theorem dX1_departAll_1 : decode cX1_departAll 1 = .ok (.istore_n 1, 1) := by decide +kernel
theorem dX1_departAll_2 : decode cX1_departAll 2 = .ok (.iload_n 1, 1) := by decide +kernel
theorem dX1_departAll_3 : decode cX1_departAll 3 = .ok (.aload_n 0, 1) := by decide +kernel
theorem dX1_departAll_4 : decode cX1_departAll 4 = .ok (.getfield 67, 3) := by decide +kernel
theorem dX1_departAll_7 : decode cX1_departAll 7 = .ok (.if_icmp .ge 20, 3) := by decide +kernel
theorem dX1_departAll_10 : decode cX1_departAll 10 = .ok (.aload_n 0, 1) := by decide +kernel
theorem dX1_departAll_11 : decode cX1_departAll 11 = .ok (.aload_n 0, 1) := by decide +kernel
theorem dX1_departAll_12 : decode cX1_departAll 12 = .ok (.getfield 31, 3) := by decide +kernel
theorem dX1_departAll_15 : decode cX1_departAll 15 = .ok (.iload_n 1, 1) := by decide +kernel
theorem dX1_departAll_16 : decode cX1_departAll 16 = .ok (.aaload, 1) := by decide +kernel
theorem dX1_departAll_17 : decode cX1_departAll 17 = .ok (.invokevirtual 304, 3) := by decide +kernel
theorem dX1_departAll_20 : decode cX1_departAll 20 = .ok (.pop, 1) := by decide +kernel
theorem dX1_departAll_21 : decode cX1_departAll 21 = .ok (.iinc 1 1, 3) := by decide +kernel
theorem dX1_departAll_24 : decode cX1_departAll 24 = .ok (.goto (-22), 3) := by decide +kernel
theorem dX1_departAll_27 : decode cX1_departAll 27 = .ok (.return_, 1) := by decide +kernel
theorem dX2_init_0 : decode cX2_init 0 = .ok (.aload_n 0, 1) := by decide +kernel
theorem dX2_init_1 : decode cX2_init 1 = .ok (.invokespecial 3, 3) := by decide +kernel
theorem dX2_init_4 : decode cX2_init 4 = .ok (.aload_n 0, 1) := by decide +kernel
theorem dX2_init_5 : decode cX2_init 5 = .ok (.bipush 60, 2) := by decide +kernel
theorem dX2_init_7 : decode cX2_init 7 = .ok (.newarray .int, 2) := by decide +kernel
theorem dX2_init_9 : decode cX2_init 9 = .ok (.putfield 9, 3) := by decide +kernel
theorem dX2_init_12 : decode cX2_init 12 = .ok (.return_, 1) := by decide +kernel
theorem dX2_append_0 : decode cX2_append 0 = .ok (.aload_n 0, 1) := by decide +kernel
theorem dX2_append_1 : decode cX2_append 1 = .ok (.getfield 15, 3) := by decide +kernel
theorem dX2_append_4 : decode cX2_append 4 = .ok (.bipush 60, 2) := by decide +kernel
theorem dX2_append_6 : decode cX2_append 6 = .ok (.if_icmp .lt 6, 3) := by decide +kernel
theorem dX2_append_9 : decode cX2_append 9 = .ok (.bipush (-4), 2) := by decide +kernel
theorem dX2_append_11 : decode cX2_append 11 = .ok (.ireturn, 1) := by decide +kernel
theorem dX2_append_12 : decode cX2_append 12 = .ok (.aload_n 0, 1) := by decide +kernel
theorem dX2_append_13 : decode cX2_append 13 = .ok (.getfield 9, 3) := by decide +kernel
theorem dX2_append_16 : decode cX2_append 16 = .ok (.aload_n 0, 1) := by decide +kernel
theorem dX2_append_17 : decode cX2_append 17 = .ok (.getfield 15, 3) := by decide +kernel
theorem dX2_append_20 : decode cX2_append 20 = .ok (.iload_n 1, 1) := by decide +kernel
theorem dX2_append_21 : decode cX2_append 21 = .ok (.iastore, 1) := by decide +kernel
theorem dX2_append_22 : decode cX2_append 22 = .ok (.aload_n 0, 1) := by decide +kernel
theorem dX2_append_23 : decode cX2_append 23 = .ok (.dup, 1) := by decide +kernel
theorem dX2_append_24 : decode cX2_append 24 = .ok (.getfield 15, 3) := by decide +kernel
theorem dX2_append_27 : decode cX2_append 27 = .ok (.iconst 1, 1) := by decide +kernel
theorem dX2_append_28 : decode cX2_append 28 = .ok (.iadd, 1) := by decide +kernel
theorem dX2_append_29 : decode cX2_append 29 = .ok (.putfield 15, 3) := by decide +kernel
theorem dX2_append_32 : decode cX2_append 32 = .ok (.aload_n 0, 1) := by decide +kernel
theorem dX2_append_33 : decode cX2_append 33 = .ok (.getfield 15, 3) := by decide +kernel
theorem dX2_append_36 : decode cX2_append 36 = .ok (.ireturn, 1) := by decide +kernel
theorem dX2_empty_0 : decode cX2_empty 0 = .ok (.aload_n 0, 1) := by decide +kernel
theorem dX2_empty_1 : decode cX2_empty 1 = .ok (.getfield 15, 3) := by decide +kernel
theorem dX2_empty_4 : decode cX2_empty 4 = .ok (.istore_n 1, 1) := by decide +kernel
theorem dX2_empty_5 : decode cX2_empty 5 = .ok (.aload_n 0, 1) := by decide +kernel
theorem dX2_empty_6 : decode cX2_empty 6 = .ok (.iconst 0, 1) := by decide +kernel
theorem dX2_empty_7 : decode cX2_empty 7 = .ok (.putfield 15, 3) := by decide +kernel
theorem dX2_empty_10 : decode cX2_empty 10 = .ok (.iload_n 1, 1) := by decide +kernel
theorem dX2_empty_11 : decode cX2_empty 11 = .ok (.ireturn, 1) := by decide +kernel
theorem dX2_firstFault_0 : decode cX2_firstFault 0 = .ok (.iconst 0, 1) := by decide +kernel
theorem dX2_firstFault_1 : decode cX2_firstFault 1 = .ok (.istore_n 1, 1) := by decide +kernel
theorem dX2_firstFault_2 : decode cX2_firstFault 2 = .ok (.iconst 0, 1) := by decide +kernel
theorem dX2_firstFault_3 : decode cX2_firstFault 3 = .ok (.istore_n 2, 1) := by decide +kernel
theorem dX2_firstFault_4 : decode cX2_firstFault 4 = .ok (.iload_n 2, 1) := by decide +kernel
theorem dX2_firstFault_5 : decode cX2_firstFault 5 = .ok (.aload_n 0, 1) := by decide +kernel
theorem dX2_firstFault_6 : decode cX2_firstFault 6 = .ok (.getfield 15, 3) := by decide +kernel
theorem dX2_firstFault_9 : decode cX2_firstFault 9 = .ok (.if_icmp .ge 27, 3) := by decide +kernel
theorem dX2_firstFault_12 : decode cX2_firstFault 12 = .ok (.iload_n 1, 1) := by decide +kernel
theorem dX2_firstFault_13 : decode cX2_firstFault 13 = .ok (.aload_n 0, 1) := by decide +kernel
theorem dX2_firstFault_14 : decode cX2_firstFault 14 = .ok (.getfield 9, 3) := by decide +kernel
theorem dX2_firstFault_17 : decode cX2_firstFault 17 = .ok (.iload_n 2, 1) := by decide +kernel
theorem dX2_firstFault_18 : decode cX2_firstFault 18 = .ok (.iaload, 1) := by decide +kernel
theorem dX2_firstFault_19 : decode cX2_firstFault 19 = .ok (.invokestatic 19, 3) := by decide +kernel
theorem dX2_firstFault_22 : decode cX2_firstFault 22 = .ok (.istore_n 1, 1) := by decide +kernel
theorem dX2_firstFault_23 : decode cX2_firstFault 23 = .ok (.iload_n 1, 1) := by decide +kernel
theorem dX2_firstFault_24 : decode cX2_firstFault 24 = .ok (.iconst (-1), 1) := by decide +kernel
theorem dX2_firstFault_25 : decode cX2_firstFault 25 = .ok (.if_icmp .ne 5, 3) := by decide +kernel
theorem dX2_firstFault_28 : decode cX2_firstFault 28 = .ok (.iload_n 2, 1) := by decide +kernel
theorem dX2_firstFault_29 : decode cX2_firstFault 29 = .ok (.ireturn, 1) := by decide +kernel
theorem dX2_firstFault_30 : decode cX2_firstFault 30 = .ok (.iinc 2 1, 3) := by decide +kernel
theorem dX2_firstFault_33 : decode cX2_firstFault 33 = .ok (.goto (-29), 3) := by decide +kernel
theorem dX2_firstFault_36 : decode cX2_firstFault 36 = .ok (.iload_n 1, 1) := by decide +kernel
theorem dX2_firstFault_37 : decode cX2_firstFault 37 = .ok (.bipush 7, 2) := by decide +kernel
theorem dX2_firstFault_39 : decode cX2_firstFault 39 = .ok (.if_icmp .eq 14, 3) := by decide +kernel
theorem dX2_firstFault_42 : decode cX2_firstFault 42 = .ok (.iload_n 1, 1) := by decide +kernel
theorem dX2_firstFault_43 : decode cX2_firstFault 43 = .ok (.iconst 2, 1) := by decide +kernel
theorem dX2_firstFault_44 : decode cX2_firstFault 44 = .ok (.if_icmp .eq 9, 3) := by decide +kernel
theorem dX2_firstFault_47 : decode cX2_firstFault 47 = .ok (.iload_n 1, 1) := by decide +kernel
theorem dX2_firstFault_48 : decode cX2_firstFault 48 = .ok (.bipush 6, 2) := by decide +kernel
theorem dX2_firstFault_50 : decode cX2_firstFault 50 = .ok (.if_icmp .ne 7, 3) := by decide +kernel
theorem dX2_firstFault_53 : decode cX2_firstFault 53 = .ok (.iconst 1, 1) := by decide +kernel
theorem dX2_firstFault_54 : decode cX2_firstFault 54 = .ok (.goto 4, 3) := by decide +kernel
theorem dX2_firstFault_57 : decode cX2_firstFault 57 = .ok (.iconst 0, 1) := by decide +kernel
theorem dX2_firstFault_58 : decode cX2_firstFault 58 = .ok (.istore_n 2, 1) := by decide +kernel
theorem dX2_firstFault_59 : decode cX2_firstFault 59 = .ok (.iload_n 2, 1) := by decide +kernel
theorem dX2_firstFault_60 : decode cX2_firstFault 60 = .ok (.ifCond .eq 8, 3) := by decide +kernel
theorem dX2_firstFault_63 : decode cX2_firstFault 63 = .ok (.bipush (-6), 2) := by decide +kernel
theorem dX2_firstFault_65 : decode cX2_firstFault 65 = .ok (.goto 7, 3) := by decide +kernel
theorem dX2_firstFault_68 : decode cX2_firstFault 68 = .ok (.aload_n 0, 1) := by decide +kernel
theorem dX2_firstFault_69 : decode cX2_firstFault 69 = .ok (.getfield 15, 3) := by decide +kernel
theorem dX2_firstFault_72 : decode cX2_firstFault 72 = .ok (.ireturn, 1) := by decide +kernel
theorem dX2_after_0 : decode cX2_after 0 = .ok (.iload_n 0, 1) := by decide +kernel
theorem dX2_after_1 : decode cX2_after 1 = .ok (.tableswitch 172 0 6 #[43, 48, 76, 97, 114, 133, 151], 43) := by decide +kernel
theorem dX2_after_44 : decode cX2_after 44 = .ok (.iload_n 1, 1) := by decide +kernel
theorem dX2_after_45 : decode cX2_after 45 = .ok (.invokestatic 23, 3) := by decide +kernel
theorem dX2_after_48 : decode cX2_after 48 = .ok (.ireturn, 1) := by decide +kernel
theorem dX2_after_49 : decode cX2_after 49 = .ok (.iload_n 1, 1) := by decide +kernel
theorem dX2_after_50 : decode cX2_after 50 = .ok (.bipush 49, 2) := by decide +kernel
theorem dX2_after_52 : decode cX2_after 52 = .ok (.if_icmp .ne 7, 3) := by decide +kernel
theorem dX2_after_55 : decode cX2_after 55 = .ok (.iconst 2, 1) := by decide +kernel
theorem dX2_after_56 : decode cX2_after 56 = .ok (.goto 20, 3) := by decide +kernel
theorem dX2_after_59 : decode cX2_after 59 = .ok (.iload_n 1, 1) := by decide +kernel
theorem dX2_after_60 : decode cX2_after 60 = .ok (.bipush 48, 2) := by decide +kernel
theorem dX2_after_62 : decode cX2_after 62 = .ok (.bipush 57, 2) := by decide +kernel
theorem dX2_after_64 : decode cX2_after 64 = .ok (.invokestatic 27, 3) := by decide +kernel
theorem dX2_after_67 : decode cX2_after 67 = .ok (.ifCond .eq 8, 3) := by decide +kernel
theorem dX2_after_70 : decode cX2_after 70 = .ok (.bipush 7, 2) := by decide +kernel
theorem dX2_after_72 : decode cX2_after 72 = .ok (.goto 4, 3) := by decide +kernel
theorem dX2_after_75 : decode cX2_after 75 = .ok (.iconst (-1), 1) := by decide +kernel
theorem dX2_after_76 : decode cX2_after 76 = .ok (.ireturn, 1) := by decide +kernel
theorem dX2_after_77 : decode cX2_after 77 = .ok (.iload_n 1, 1) := by decide +kernel
theorem dX2_after_78 : decode cX2_after 78 = .ok (.bipush 48, 2) := by decide +kernel
theorem dX2_after_80 : decode cX2_after 80 = .ok (.bipush 49, 2) := by decide +kernel
theorem dX2_after_82 : decode cX2_after 82 = .ok (.invokestatic 27, 3) := by decide +kernel
theorem dX2_after_85 : decode cX2_after 85 = .ok (.ifCond .eq 8, 3) := by decide +kernel
theorem dX2_after_88 : decode cX2_after 88 = .ok (.bipush 7, 2) := by decide +kernel
theorem dX2_after_90 : decode cX2_after 90 = .ok (.goto 7, 3) := by decide +kernel
theorem dX2_after_93 : decode cX2_after 93 = .ok (.iload_n 1, 1) := by decide +kernel
theorem dX2_after_94 : decode cX2_after 94 = .ok (.invokestatic 31, 3) := by decide +kernel
theorem dX2_after_97 : decode cX2_after 97 = .ok (.ireturn, 1) := by decide +kernel
theorem dX2_after_98 : decode cX2_after 98 = .ok (.iload_n 1, 1) := by decide +kernel
theorem dX2_after_99 : decode cX2_after 99 = .ok (.bipush 48, 2) := by decide +kernel
theorem dX2_after_101 : decode cX2_after 101 = .ok (.bipush 52, 2) := by decide +kernel
theorem dX2_after_103 : decode cX2_after 103 = .ok (.invokestatic 27, 3) := by decide +kernel
theorem dX2_after_106 : decode cX2_after 106 = .ok (.ifCond .eq 7, 3) := by decide +kernel
theorem dX2_after_109 : decode cX2_after 109 = .ok (.iconst 4, 1) := by decide +kernel
theorem dX2_after_110 : decode cX2_after 110 = .ok (.goto 4, 3) := by decide +kernel
theorem dX2_after_113 : decode cX2_after 113 = .ok (.iconst (-1), 1) := by decide +kernel
theorem dX2_after_114 : decode cX2_after 114 = .ok (.ireturn, 1) := by decide +kernel
theorem dX2_after_115 : decode cX2_after 115 = .ok (.iload_n 1, 1) := by decide +kernel
theorem dX2_after_116 : decode cX2_after 116 = .ok (.bipush 43, 2) := by decide +kernel
theorem dX2_after_118 : decode cX2_after 118 = .ok (.if_icmp .eq 9, 3) := by decide +kernel
theorem dX2_after_121 : decode cX2_after 121 = .ok (.iload_n 1, 1) := by decide +kernel
theorem dX2_after_122 : decode cX2_after 122 = .ok (.bipush 45, 2) := by decide +kernel
theorem dX2_after_124 : decode cX2_after 124 = .ok (.if_icmp .ne 8, 3) := by decide +kernel
theorem dX2_after_127 : decode cX2_after 127 = .ok (.bipush 7, 2) := by decide +kernel
theorem dX2_after_129 : decode cX2_after 129 = .ok (.goto 4, 3) := by decide +kernel
theorem dX2_after_132 : decode cX2_after 132 = .ok (.iconst (-1), 1) := by decide +kernel
theorem dX2_after_133 : decode cX2_after 133 = .ok (.ireturn, 1) := by decide +kernel
theorem dX2_after_134 : decode cX2_after 134 = .ok (.iload_n 1, 1) := by decide +kernel
theorem dX2_after_135 : decode cX2_after 135 = .ok (.bipush 49, 2) := by decide +kernel
theorem dX2_after_137 : decode cX2_after 137 = .ok (.bipush 57, 2) := by decide +kernel
theorem dX2_after_139 : decode cX2_after 139 = .ok (.invokestatic 27, 3) := by decide +kernel
theorem dX2_after_142 : decode cX2_after 142 = .ok (.ifCond .eq 8, 3) := by decide +kernel
theorem dX2_after_145 : decode cX2_after 145 = .ok (.bipush 6, 2) := by decide +kernel
theorem dX2_after_147 : decode cX2_after 147 = .ok (.goto 4, 3) := by decide +kernel
theorem dX2_after_150 : decode cX2_after 150 = .ok (.iconst (-1), 1) := by decide +kernel
theorem dX2_after_151 : decode cX2_after 151 = .ok (.ireturn, 1) := by decide +kernel
theorem dX2_after_152 : decode cX2_after 152 = .ok (.iload_n 1, 1) := by decide +kernel
theorem dX2_after_153 : decode cX2_after 153 = .ok (.bipush 48, 2) := by decide +kernel
theorem dX2_after_155 : decode cX2_after 155 = .ok (.bipush 57, 2) := by decide +kernel
theorem dX2_after_157 : decode cX2_after 157 = .ok (.invokestatic 27, 3) := by decide +kernel
theorem dX2_after_160 : decode cX2_after 160 = .ok (.ifCond .eq 8, 3) := by decide +kernel
theorem dX2_after_163 : decode cX2_after 163 = .ok (.bipush 7, 2) := by decide +kernel
theorem dX2_after_165 : decode cX2_after 165 = .ok (.goto 7, 3) := by decide +kernel
theorem dX2_after_168 : decode cX2_after 168 = .ok (.iload_n 1, 1) := by decide +kernel
theorem dX2_after_169 : decode cX2_after 169 = .ok (.invokestatic 31, 3) := by decide +kernel
theorem dX2_after_172 : decode cX2_after 172 = .ok (.ireturn, 1) := by decide +kernel
theorem dX2_after_173 : decode cX2_after 173 = .ok (.iload_n 1, 1) := by decide +kernel
theorem dX2_after_174 : decode cX2_after 174 = .ok (.invokestatic 31, 3) := by decide +kernel
theorem dX2_after_177 : decode cX2_after 177 = .ok (.ireturn, 1) := by decide +kernel
end
section
theorem dX2_afterLetter_0 : decode cX2_afterLetter 0 = .ok (.iload_n 0, 1) := by decide +kernel
theorem dX2_afterLetter_1 : decode cX2_afterLetter 1 = .ok (.tableswitch 121 97 121 #[117, 121, 117, 115, 117, 121, 121, 121, 121, 121, 121, 115, 121, 117, 115, 121, 121, 121, 115, 119, 117, 121, 121, 121, 117], 115) := by decide +kernel
theorem dX2_afterLetter_116 : decode cX2_afterLetter 116 = .ok (.iconst 1, 1) := by decide +kernel
theorem dX2_afterLetter_117 : decode cX2_afterLetter 117 = .ok (.ireturn, 1) := by decide +kernel
theorem dX2_afterLetter_118 : decode cX2_afterLetter 118 = .ok (.iconst 3, 1) := by decide +kernel
theorem dX2_afterLetter_119 : decode cX2_afterLetter 119 = .ok (.ireturn, 1) := by decide +kernel
theorem dX2_afterLetter_120 : decode cX2_afterLetter 120 = .ok (.iconst 5, 1) := by decide +kernel
theorem dX2_afterLetter_121 : decode cX2_afterLetter 121 = .ok (.ireturn, 1) := by decide +kernel
theorem dX2_afterLetter_122 : decode cX2_afterLetter 122 = .ok (.iconst (-1), 1) := by decide +kernel
theorem dX2_afterLetter_123 : decode cX2_afterLetter 123 = .ok (.ireturn, 1) := by decide +kernel
theorem dX2_afterOrder_0 : decode cX2_afterOrder 0 = .ok (.iload_n 0, 1) := by decide +kernel
theorem dX2_afterOrder_1 : decode cX2_afterOrder 1 = .ok (.bipush 44, 2) := by decide +kernel
theorem dX2_afterOrder_3 : decode cX2_afterOrder 3 = .ok (.if_icmp .ne 7, 3) := by decide +kernel
theorem dX2_afterOrder_6 : decode cX2_afterOrder 6 = .ok (.iconst 0, 1) := by decide +kernel
theorem dX2_afterOrder_7 : decode cX2_afterOrder 7 = .ok (.goto 4, 3) := by decide +kernel
theorem dX2_afterOrder_10 : decode cX2_afterOrder 10 = .ok (.iconst (-1), 1) := by decide +kernel
theorem dX2_afterOrder_11 : decode cX2_afterOrder 11 = .ok (.ireturn, 1) := by decide +kernel
theorem dX2_isBetween_0 : decode cX2_isBetween 0 = .ok (.iload_n 0, 1) := by decide +kernel
theorem dX2_isBetween_1 : decode cX2_isBetween 1 = .ok (.iload_n 1, 1) := by decide +kernel
theorem dX2_isBetween_2 : decode cX2_isBetween 2 = .ok (.if_icmp .lt 12, 3) := by decide +kernel
theorem dX2_isBetween_5 : decode cX2_isBetween 5 = .ok (.iload_n 0, 1) := by decide +kernel
theorem dX2_isBetween_6 : decode cX2_isBetween 6 = .ok (.iload_n 2, 1) := by decide +kernel
theorem dX2_isBetween_7 : decode cX2_isBetween 7 = .ok (.if_icmp .gt 7, 3) := by decide +kernel
theorem dX2_isBetween_10 : decode cX2_isBetween 10 = .ok (.iconst 1, 1) := by decide +kernel
theorem dX2_isBetween_11 : decode cX2_isBetween 11 = .ok (.goto 4, 3) := by decide +kernel
theorem dX2_isBetween_14 : decode cX2_isBetween 14 = .ok (.iconst 0, 1) := by decide +kernel
theorem dX2_isBetween_15 : decode cX2_isBetween 15 = .ok (.ireturn, 1) := by decide +kernel
theorem dX2_rewind_0 : decode cX2_rewind 0 = .ok (.aload_n 0, 1) := by decide +kernel
theorem dX2_rewind_1 : decode cX2_rewind 1 = .ok (.iconst 0, 1) := by decide +kernel
theorem dX2_rewind_2 : decode cX2_rewind 2 = .ok (.putfield 34, 3) := by decide +kernel
theorem dX2_rewind_5 : decode cX2_rewind 5 = .ok (.return_, 1) := by decide +kernel
theorem dX2_readOrder_0 : decode cX2_readOrder 0 = .ok (.aload_n 0, 1) := by decide +kernel
theorem dX2_readOrder_1 : decode cX2_readOrder 1 = .ok (.getfield 34, 3) := by decide +kernel
theorem dX2_readOrder_4 : decode cX2_readOrder 4 = .ok (.aload_n 0, 1) := by decide +kernel
theorem dX2_readOrder_5 : decode cX2_readOrder 5 = .ok (.getfield 15, 3) := by decide +kernel
theorem dX2_readOrder_8 : decode cX2_readOrder 8 = .ok (.if_icmp .lt 5, 3) := by decide +kernel
theorem dX2_readOrder_11 : decode cX2_readOrder 11 = .ok (.iconst 0, 1) := by decide +kernel
theorem dX2_readOrder_12 : decode cX2_readOrder 12 = .ok (.ireturn, 1) := by decide +kernel
theorem dX2_readOrder_13 : decode cX2_readOrder 13 = .ok (.aload_n 0, 1) := by decide +kernel
theorem dX2_readOrder_14 : decode cX2_readOrder 14 = .ok (.aload_n 0, 1) := by decide +kernel
theorem dX2_readOrder_15 : decode cX2_readOrder 15 = .ok (.getfield 9, 3) := by decide +kernel
theorem dX2_readOrder_18 : decode cX2_readOrder 18 = .ok (.aload_n 0, 1) := by decide +kernel
theorem dX2_readOrder_19 : decode cX2_readOrder 19 = .ok (.getfield 34, 3) := by decide +kernel
theorem dX2_readOrder_22 : decode cX2_readOrder 22 = .ok (.iaload, 1) := by decide +kernel
theorem dX2_readOrder_23 : decode cX2_readOrder 23 = .ok (.putfield 37, 3) := by decide +kernel
theorem dX2_readOrder_26 : decode cX2_readOrder 26 = .ok (.aload_n 0, 1) := by decide +kernel
theorem dX2_readOrder_27 : decode cX2_readOrder 27 = .ok (.iconst 0, 1) := by decide +kernel
theorem dX2_readOrder_28 : decode cX2_readOrder 28 = .ok (.putfield 40, 3) := by decide +kernel
theorem dX2_readOrder_31 : decode cX2_readOrder 31 = .ok (.aload_n 0, 1) := by decide +kernel
theorem dX2_readOrder_32 : decode cX2_readOrder 32 = .ok (.iconst 0, 1) := by decide +kernel
theorem dX2_readOrder_33 : decode cX2_readOrder 33 = .ok (.putfield 43, 3) := by decide +kernel
theorem dX2_readOrder_36 : decode cX2_readOrder 36 = .ok (.aload_n 0, 1) := by decide +kernel
theorem dX2_readOrder_37 : decode cX2_readOrder 37 = .ok (.dup, 1) := by decide +kernel
theorem dX2_readOrder_38 : decode cX2_readOrder 38 = .ok (.getfield 34, 3) := by decide +kernel
theorem dX2_readOrder_41 : decode cX2_readOrder 41 = .ok (.iconst 1, 1) := by decide +kernel
theorem dX2_readOrder_42 : decode cX2_readOrder 42 = .ok (.iadd, 1) := by decide +kernel
theorem dX2_readOrder_43 : decode cX2_readOrder 43 = .ok (.putfield 34, 3) := by decide +kernel
theorem dX2_readOrder_46 : decode cX2_readOrder 46 = .ok (.aload_n 0, 1) := by decide +kernel
theorem dX2_readOrder_47 : decode cX2_readOrder 47 = .ok (.getfield 34, 3) := by decide +kernel
theorem dX2_readOrder_50 : decode cX2_readOrder 50 = .ok (.aload_n 0, 1) := by decide +kernel
theorem dX2_readOrder_51 : decode cX2_readOrder 51 = .ok (.getfield 15, 3) := by decide +kernel
theorem dX2_readOrder_54 : decode cX2_readOrder 54 = .ok (.if_icmp .ge 43, 3) := by decide +kernel
theorem dX2_readOrder_57 : decode cX2_readOrder 57 = .ok (.aload_n 0, 1) := by decide +kernel
theorem dX2_readOrder_58 : decode cX2_readOrder 58 = .ok (.getfield 9, 3) := by decide +kernel
theorem dX2_readOrder_61 : decode cX2_readOrder 61 = .ok (.aload_n 0, 1) := by decide +kernel
theorem dX2_readOrder_62 : decode cX2_readOrder 62 = .ok (.getfield 34, 3) := by decide +kernel
theorem dX2_readOrder_65 : decode cX2_readOrder 65 = .ok (.iaload, 1) := by decide +kernel
theorem dX2_readOrder_66 : decode cX2_readOrder 66 = .ok (.bipush 44, 2) := by decide +kernel
theorem dX2_readOrder_68 : decode cX2_readOrder 68 = .ok (.if_icmp .eq 29, 3) := by decide +kernel
theorem dX2_readOrder_71 : decode cX2_readOrder 71 = .ok (.aload_n 0, 1) := by decide +kernel
theorem dX2_readOrder_72 : decode cX2_readOrder 72 = .ok (.aload_n 0, 1) := by decide +kernel
theorem dX2_readOrder_73 : decode cX2_readOrder 73 = .ok (.getfield 9, 3) := by decide +kernel
theorem dX2_readOrder_76 : decode cX2_readOrder 76 = .ok (.aload_n 0, 1) := by decide +kernel
theorem dX2_readOrder_77 : decode cX2_readOrder 77 = .ok (.getfield 34, 3) := by decide +kernel
theorem dX2_readOrder_80 : decode cX2_readOrder 80 = .ok (.iaload, 1) := by decide +kernel
theorem dX2_readOrder_81 : decode cX2_readOrder 81 = .ok (.invokevirtual 46, 3) := by decide +kernel
theorem dX2_readOrder_84 : decode cX2_readOrder 84 = .ok (.aload_n 0, 1) := by decide +kernel
theorem dX2_readOrder_85 : decode cX2_readOrder 85 = .ok (.dup, 1) := by decide +kernel
theorem dX2_readOrder_86 : decode cX2_readOrder 86 = .ok (.getfield 34, 3) := by decide +kernel
theorem dX2_readOrder_89 : decode cX2_readOrder 89 = .ok (.iconst 1, 1) := by decide +kernel
theorem dX2_readOrder_90 : decode cX2_readOrder 90 = .ok (.iadd, 1) := by decide +kernel
theorem dX2_readOrder_91 : decode cX2_readOrder 91 = .ok (.putfield 34, 3) := by decide +kernel
theorem dX2_readOrder_94 : decode cX2_readOrder 94 = .ok (.goto (-48), 3) := by decide +kernel
theorem dX2_readOrder_97 : decode cX2_readOrder 97 = .ok (.aload_n 0, 1) := by decide +kernel
theorem dX2_readOrder_98 : decode cX2_readOrder 98 = .ok (.dup, 1) := by decide +kernel
theorem dX2_readOrder_99 : decode cX2_readOrder 99 = .ok (.getfield 34, 3) := by decide +kernel
theorem dX2_readOrder_102 : decode cX2_readOrder 102 = .ok (.iconst 1, 1) := by decide +kernel
theorem dX2_readOrder_103 : decode cX2_readOrder 103 = .ok (.iadd, 1) := by decide +kernel
theorem dX2_readOrder_104 : decode cX2_readOrder 104 = .ok (.putfield 34, 3) := by decide +kernel
theorem dX2_readOrder_107 : decode cX2_readOrder 107 = .ok (.iconst 1, 1) := by decide +kernel
theorem dX2_readOrder_108 : decode cX2_readOrder 108 = .ok (.ireturn, 1) := by decide +kernel
theorem dX2_readSign_0 : decode cX2_readSign 0 = .ok (.iload_n 1, 1) := by decide +kernel
theorem dX2_readSign_1 : decode cX2_readSign 1 = .ok (.bipush 48, 2) := by decide +kernel
theorem dX2_readSign_3 : decode cX2_readSign 3 = .ok (.bipush 57, 2) := by decide +kernel
theorem dX2_readSign_5 : decode cX2_readSign 5 = .ok (.invokestatic 27, 3) := by decide +kernel
theorem dX2_readSign_8 : decode cX2_readSign 8 = .ok (.ifCond .eq 22, 3) := by decide +kernel
theorem dX2_readSign_11 : decode cX2_readSign 11 = .ok (.aload_n 0, 1) := by decide +kernel
theorem dX2_readSign_12 : decode cX2_readSign 12 = .ok (.bipush 10, 2) := by decide +kernel
theorem dX2_readSign_14 : decode cX2_readSign 14 = .ok (.aload_n 0, 1) := by decide +kernel
theorem dX2_readSign_15 : decode cX2_readSign 15 = .ok (.getfield 40, 3) := by decide +kernel
theorem dX2_readSign_18 : decode cX2_readSign 18 = .ok (.imul, 1) := by decide +kernel
theorem dX2_readSign_19 : decode cX2_readSign 19 = .ok (.iload_n 1, 1) := by decide +kernel
theorem dX2_readSign_20 : decode cX2_readSign 20 = .ok (.iadd, 1) := by decide +kernel
theorem dX2_readSign_21 : decode cX2_readSign 21 = .ok (.bipush 48, 2) := by decide +kernel
theorem dX2_readSign_23 : decode cX2_readSign 23 = .ok (.isub, 1) := by decide +kernel
theorem dX2_readSign_24 : decode cX2_readSign 24 = .ok (.putfield 40, 3) := by decide +kernel
theorem dX2_readSign_27 : decode cX2_readSign 27 = .ok (.goto 14, 3) := by decide +kernel
theorem dX2_readSign_30 : decode cX2_readSign 30 = .ok (.iload_n 1, 1) := by decide +kernel
theorem dX2_readSign_31 : decode cX2_readSign 31 = .ok (.bipush 45, 2) := by decide +kernel
theorem dX2_readSign_33 : decode cX2_readSign 33 = .ok (.if_icmp .ne 8, 3) := by decide +kernel
theorem dX2_readSign_36 : decode cX2_readSign 36 = .ok (.aload_n 0, 1) := by decide +kernel
theorem dX2_readSign_37 : decode cX2_readSign 37 = .ok (.iconst 1, 1) := by decide +kernel
theorem dX2_readSign_38 : decode cX2_readSign 38 = .ok (.putfield 43, 3) := by decide +kernel
theorem dX2_readSign_41 : decode cX2_readSign 41 = .ok (.return_, 1) := by decide +kernel
theorem dX3_init_0 : decode cX3_init 0 = .ok (.aload_n 0, 1) := by decide +kernel
theorem dX3_init_1 : decode cX3_init 1 = .ok (.invokespecial 3, 3) := by decide +kernel
theorem dX3_init_4 : decode cX3_init 4 = .ok (.aload_n 0, 1) := by decide +kernel
theorem dX3_init_5 : decode cX3_init 5 = .ok (.sipush 300, 3) := by decide +kernel
theorem dX3_init_8 : decode cX3_init 8 = .ok (.newarray .int, 2) := by decide +kernel
theorem dX3_init_10 : decode cX3_init 10 = .ok (.putfield 9, 3) := by decide +kernel
theorem dX3_init_13 : decode cX3_init 13 = .ok (.return_, 1) := by decide +kernel
theorem dX3_copyFrom_0 : decode cX3_copyFrom 0 = .ok (.aload_n 1, 1) := by decide +kernel
theorem dX3_copyFrom_1 : decode cX3_copyFrom 1 = .ok (.getfield 9, 3) := by decide +kernel
theorem dX3_copyFrom_4 : decode cX3_copyFrom 4 = .ok (.iconst 0, 1) := by decide +kernel
theorem dX3_copyFrom_5 : decode cX3_copyFrom 5 = .ok (.aload_n 0, 1) := by decide +kernel
theorem dX3_copyFrom_6 : decode cX3_copyFrom 6 = .ok (.getfield 9, 3) := by decide +kernel
theorem dX3_copyFrom_9 : decode cX3_copyFrom 9 = .ok (.iconst 0, 1) := by decide +kernel
theorem dX3_copyFrom_10 : decode cX3_copyFrom 10 = .ok (.sipush 300, 3) := by decide +kernel
theorem dX3_copyFrom_13 : decode cX3_copyFrom 13 = .ok (.invokestatic 15, 3) := by decide +kernel
theorem dX3_copyFrom_16 : decode cX3_copyFrom 16 = .ok (.aload_n 0, 1) := by decide +kernel
theorem dX3_copyFrom_17 : decode cX3_copyFrom 17 = .ok (.aload_n 1, 1) := by decide +kernel
theorem dX3_copyFrom_18 : decode cX3_copyFrom 18 = .ok (.getfield 21, 3) := by decide +kernel
theorem dX3_copyFrom_21 : decode cX3_copyFrom 21 = .ok (.putfield 21, 3) := by decide +kernel
theorem dX3_copyFrom_24 : decode cX3_copyFrom 24 = .ok (.return_, 1) := by decide +kernel
theorem dX3_record_0 : decode cX3_record 0 = .ok (.aload_n 0, 1) := by decide +kernel
theorem dX3_record_1 : decode cX3_record 1 = .ok (.getfield 21, 3) := by decide +kernel
theorem dX3_record_4 : decode cX3_record 4 = .ok (.invokestatic 25, 3) := by decide +kernel
theorem dX3_record_7 : decode cX3_record 7 = .ok (.istore 5, 2) := by decide +kernel
theorem dX3_record_9 : decode cX3_record 9 = .ok (.aload_n 0, 1) := by decide +kernel
theorem dX3_record_10 : decode cX3_record 10 = .ok (.getfield 9, 3) := by decide +kernel
theorem dX3_record_13 : decode cX3_record 13 = .ok (.iload 5, 2) := by decide +kernel
theorem dX3_record_15 : decode cX3_record 15 = .ok (.iload_n 1, 1) := by decide +kernel
theorem dX3_record_16 : decode cX3_record 16 = .ok (.iastore, 1) := by decide +kernel
theorem dX3_record_17 : decode cX3_record 17 = .ok (.aload_n 0, 1) := by decide +kernel
theorem dX3_record_18 : decode cX3_record 18 = .ok (.getfield 9, 3) := by decide +kernel
theorem dX3_record_21 : decode cX3_record 21 = .ok (.iload 5, 2) := by decide +kernel
theorem dX3_record_23 : decode cX3_record 23 = .ok (.iconst 1, 1) := by decide +kernel
theorem dX3_record_24 : decode cX3_record 24 = .ok (.iadd, 1) := by decide +kernel
theorem dX3_record_25 : decode cX3_record 25 = .ok (.aload_n 2, 1) := by decide +kernel
theorem dX3_record_26 : decode cX3_record 26 = .ok (.getfield 29, 3) := by decide +kernel
theorem dX3_record_29 : decode cX3_record 29 = .ok (.getfield 35, 3) := by decide +kernel
theorem dX3_record_32 : decode cX3_record 32 = .ok (.iastore, 1) := by decide +kernel
theorem dX3_record_33 : decode cX3_record 33 = .ok (.aload_n 0, 1) := by decide +kernel
theorem dX3_record_34 : decode cX3_record 34 = .ok (.getfield 9, 3) := by decide +kernel
theorem dX3_record_37 : decode cX3_record 37 = .ok (.iload 5, 2) := by decide +kernel
theorem dX3_record_39 : decode cX3_record 39 = .ok (.iconst 2, 1) := by decide +kernel
theorem dX3_record_40 : decode cX3_record 40 = .ok (.iadd, 1) := by decide +kernel
theorem dX3_record_41 : decode cX3_record 41 = .ok (.aload_n 2, 1) := by decide +kernel
theorem dX3_record_42 : decode cX3_record 42 = .ok (.getfield 40, 3) := by decide +kernel
theorem dX3_record_45 : decode cX3_record 45 = .ok (.iastore, 1) := by decide +kernel
theorem dX3_record_46 : decode cX3_record 46 = .ok (.aload_n 0, 1) := by decide +kernel
theorem dX3_record_47 : decode cX3_record 47 = .ok (.getfield 9, 3) := by decide +kernel
theorem dX3_record_50 : decode cX3_record 50 = .ok (.iload 5, 2) := by decide +kernel
theorem dX3_record_52 : decode cX3_record 52 = .ok (.iconst 3, 1) := by decide +kernel
theorem dX3_record_53 : decode cX3_record 53 = .ok (.iadd, 1) := by decide +kernel
theorem dX3_record_54 : decode cX3_record 54 = .ok (.iload_n 3, 1) := by decide +kernel
theorem dX3_record_55 : decode cX3_record 55 = .ok (.iastore, 1) := by decide +kernel
theorem dX3_record_56 : decode cX3_record 56 = .ok (.aload_n 0, 1) := by decide +kernel
theorem dX3_record_57 : decode cX3_record 57 = .ok (.getfield 9, 3) := by decide +kernel
theorem dX3_record_60 : decode cX3_record 60 = .ok (.iload 5, 2) := by decide +kernel
theorem dX3_record_62 : decode cX3_record 62 = .ok (.iconst 4, 1) := by decide +kernel
theorem dX3_record_63 : decode cX3_record 63 = .ok (.iadd, 1) := by decide +kernel
theorem dX3_record_64 : decode cX3_record 64 = .ok (.iload 4, 2) := by decide +kernel
theorem dX3_record_66 : decode cX3_record 66 = .ok (.iastore, 1) := by decide +kernel
theorem dX3_record_67 : decode cX3_record 67 = .ok (.aload_n 0, 1) := by decide +kernel
theorem dX3_record_68 : decode cX3_record 68 = .ok (.dup, 1) := by decide +kernel
theorem dX3_record_69 : decode cX3_record 69 = .ok (.getfield 21, 3) := by decide +kernel
theorem dX3_record_72 : decode cX3_record 72 = .ok (.iconst 1, 1) := by decide +kernel
theorem dX3_record_73 : decode cX3_record 73 = .ok (.iadd, 1) := by decide +kernel
theorem dX3_record_74 : decode cX3_record 74 = .ok (.putfield 21, 3) := by decide +kernel
theorem dX3_record_77 : decode cX3_record 77 = .ok (.return_, 1) := by decide +kernel
theorem dX3_property_0 : decode cX3_property 0 = .ok (.iload_n 1, 1) := by decide +kernel
theorem dX3_property_1 : decode cX3_property 1 = .ok (.aload_n 0, 1) := by decide +kernel
theorem dX3_property_2 : decode cX3_property 2 = .ok (.invokevirtual 43, 3) := by decide +kernel
theorem dX3_property_5 : decode cX3_property 5 = .ok (.if_icmp .lt 11, 3) := by decide +kernel
theorem dX3_property_8 : decode cX3_property 8 = .ok (.iload_n 1, 1) := by decide +kernel
theorem dX3_property_9 : decode cX3_property 9 = .ok (.aload_n 0, 1) := by decide +kernel
theorem dX3_property_10 : decode cX3_property 10 = .ok (.getfield 21, 3) := by decide +kernel
theorem dX3_property_13 : decode cX3_property 13 = .ok (.if_icmp .lt 6, 3) := by decide +kernel
theorem dX3_property_16 : decode cX3_property 16 = .ok (.bipush (-6), 2) := by decide +kernel
theorem dX3_property_18 : decode cX3_property 18 = .ok (.ireturn, 1) := by decide +kernel
theorem dX3_property_19 : decode cX3_property 19 = .ok (.aload_n 0, 1) := by decide +kernel
theorem dX3_property_20 : decode cX3_property 20 = .ok (.getfield 9, 3) := by decide +kernel
theorem dX3_property_23 : decode cX3_property 23 = .ok (.iload_n 1, 1) := by decide +kernel
theorem dX3_property_24 : decode cX3_property 24 = .ok (.invokestatic 25, 3) := by decide +kernel
theorem dX3_property_27 : decode cX3_property 27 = .ok (.iload_n 2, 1) := by decide +kernel
theorem dX3_property_28 : decode cX3_property 28 = .ok (.iadd, 1) := by decide +kernel
theorem dX3_property_29 : decode cX3_property 29 = .ok (.iaload, 1) := by decide +kernel
theorem dX3_property_30 : decode cX3_property 30 = .ok (.ireturn, 1) := by decide +kernel
theorem dX3_countOf_0 : decode cX3_countOf 0 = .ok (.iconst 0, 1) := by decide +kernel
theorem dX3_countOf_1 : decode cX3_countOf 1 = .ok (.istore_n 3, 1) := by decide +kernel
theorem dX3_countOf_2 : decode cX3_countOf 2 = .ok (.aload_n 0, 1) := by decide +kernel
theorem dX3_countOf_3 : decode cX3_countOf 3 = .ok (.invokevirtual 43, 3) := by decide +kernel
theorem dX3_countOf_6 : decode cX3_countOf 6 = .ok (.istore 4, 2) := by decide +kernel
theorem dX3_countOf_8 : decode cX3_countOf 8 = .ok (.iload 4, 2) := by decide +kernel
theorem dX3_countOf_10 : decode cX3_countOf 10 = .ok (.aload_n 0, 1) := by decide +kernel
theorem dX3_countOf_11 : decode cX3_countOf 11 = .ok (.getfield 21, 3) := by decide +kernel
theorem dX3_countOf_14 : decode cX3_countOf 14 = .ok (.if_icmp .ge 50, 3) := by decide +kernel
theorem dX3_countOf_17 : decode cX3_countOf 17 = .ok (.iload 4, 2) := by decide +kernel
theorem dX3_countOf_19 : decode cX3_countOf 19 = .ok (.invokestatic 25, 3) := by decide +kernel
theorem dX3_countOf_22 : decode cX3_countOf 22 = .ok (.istore 5, 2) := by decide +kernel
theorem dX3_countOf_24 : decode cX3_countOf 24 = .ok (.aload_n 0, 1) := by decide +kernel
theorem dX3_countOf_25 : decode cX3_countOf 25 = .ok (.getfield 9, 3) := by decide +kernel
theorem dX3_countOf_28 : decode cX3_countOf 28 = .ok (.iload 5, 2) := by decide +kernel
theorem dX3_countOf_30 : decode cX3_countOf 30 = .ok (.iconst 4, 1) := by decide +kernel
theorem dX3_countOf_31 : decode cX3_countOf 31 = .ok (.iadd, 1) := by decide +kernel
theorem dX3_countOf_32 : decode cX3_countOf 32 = .ok (.iaload, 1) := by decide +kernel
theorem dX3_countOf_33 : decode cX3_countOf 33 = .ok (.iload_n 1, 1) := by decide +kernel
theorem dX3_countOf_34 : decode cX3_countOf 34 = .ok (.if_icmp .ne 24, 3) := by decide +kernel
theorem dX3_countOf_37 : decode cX3_countOf 37 = .ok (.iload_n 2, 1) := by decide +kernel
theorem dX3_countOf_38 : decode cX3_countOf 38 = .ok (.iconst (-1), 1) := by decide +kernel
theorem dX3_countOf_39 : decode cX3_countOf 39 = .ok (.if_icmp .eq 16, 3) := by decide +kernel
theorem dX3_countOf_42 : decode cX3_countOf 42 = .ok (.aload_n 0, 1) := by decide +kernel
theorem dX3_countOf_43 : decode cX3_countOf 43 = .ok (.getfield 9, 3) := by decide +kernel
theorem dX3_countOf_46 : decode cX3_countOf 46 = .ok (.iload 5, 2) := by decide +kernel
theorem dX3_countOf_48 : decode cX3_countOf 48 = .ok (.iconst 1, 1) := by decide +kernel
theorem dX3_countOf_49 : decode cX3_countOf 49 = .ok (.iadd, 1) := by decide +kernel
theorem dX3_countOf_50 : decode cX3_countOf 50 = .ok (.iaload, 1) := by decide +kernel
theorem dX3_countOf_51 : decode cX3_countOf 51 = .ok (.iload_n 2, 1) := by decide +kernel
theorem dX3_countOf_52 : decode cX3_countOf 52 = .ok (.if_icmp .ne 6, 3) := by decide +kernel
theorem dX3_countOf_55 : decode cX3_countOf 55 = .ok (.iinc 3 1, 3) := by decide +kernel
theorem dX3_countOf_58 : decode cX3_countOf 58 = .ok (.iinc 4 1, 3) := by decide +kernel
theorem dX3_countOf_61 : decode cX3_countOf 61 = .ok (.goto (-53), 3) := by decide +kernel
theorem dX3_countOf_64 : decode cX3_countOf 64 = .ok (.iload_n 3, 1) := by decide +kernel
theorem dX3_countOf_65 : decode cX3_countOf 65 = .ok (.ireturn, 1) := by decide +kernel
theorem dX3_oldest_0 : decode cX3_oldest 0 = .ok (.iconst 0, 1) := by decide +kernel
theorem dX3_oldest_1 : decode cX3_oldest 1 = .ok (.aload_n 0, 1) := by decide +kernel
theorem dX3_oldest_2 : decode cX3_oldest 2 = .ok (.getfield 21, 3) := by decide +kernel
theorem dX3_oldest_5 : decode cX3_oldest 5 = .ok (.bipush 60, 2) := by decide +kernel
theorem dX3_oldest_7 : decode cX3_oldest 7 = .ok (.isub, 1) := by decide +kernel
theorem dX3_oldest_8 : decode cX3_oldest 8 = .ok (.invokestatic 47, 3) := by decide +kernel
theorem dX3_oldest_11 : decode cX3_oldest 11 = .ok (.ireturn, 1) := by decide +kernel
theorem dX3_rowOf_0 : decode cX3_rowOf 0 = .ok (.iload_n 0, 1) := by decide +kernel
theorem dX3_rowOf_1 : decode cX3_rowOf 1 = .ok (.ldc 53, 2) := by decide +kernel
theorem dX3_rowOf_3 : decode cX3_rowOf 3 = .ok (.iand, 1) := by decide +kernel
theorem dX3_rowOf_4 : decode cX3_rowOf 4 = .ok (.bipush 60, 2) := by decide +kernel
theorem dX3_rowOf_6 : decode cX3_rowOf 6 = .ok (.irem, 1) := by decide +kernel
theorem dX3_rowOf_7 : decode cX3_rowOf 7 = .ok (.iconst 5, 1) := by decide +kernel
theorem dX3_rowOf_8 : decode cX3_rowOf 8 = .ok (.imul, 1) := by decide +kernel
theorem dX3_rowOf_9 : decode cX3_rowOf 9 = .ok (.ireturn, 1) := by decide +kernel
theorem dX4_init_0 : decode cX4_init 0 = .ok (.aload_n 0, 1) := by decide +kernel
theorem dX4_init_1 : decode cX4_init 1 = .ok (.invokespecial 3, 3) := by decide +kernel
theorem dX4_init_4 : decode cX4_init 4 = .ok (.aload_n 0, 1) := by decide +kernel
theorem dX4_init_5 : decode cX4_init 5 = .ok (.iload_n 1, 1) := by decide +kernel
theorem dX4_init_6 : decode cX4_init 6 = .ok (.putfield 9, 3) := by decide +kernel
theorem dX4_init_9 : decode cX4_init 9 = .ok (.return_, 1) := by decide +kernel
theorem dX4_layOut_0 : decode cX4_layOut 0 = .ok (.aload_n 0, 1) := by decide +kernel
theorem dX4_layOut_1 : decode cX4_layOut 1 = .ok (.iload_n 1, 1) := by decide +kernel
theorem dX4_layOut_2 : decode cX4_layOut 2 = .ok (.putfield 15, 3) := by decide +kernel
theorem dX4_layOut_5 : decode cX4_layOut 5 = .ok (.aload_n 0, 1) := by decide +kernel
theorem dX4_layOut_6 : decode cX4_layOut 6 = .ok (.iconst 5, 1) := by decide +kernel
theorem dX4_layOut_7 : decode cX4_layOut 7 = .ok (.putfield 19, 3) := by decide +kernel
theorem dX4_layOut_10 : decode cX4_layOut 10 = .ok (.aload_n 0, 1) := by decide +kernel
theorem dX4_layOut_11 : decode cX4_layOut 11 = .ok (.iload_n 1, 1) := by decide +kernel
theorem dX4_layOut_12 : decode cX4_layOut 12 = .ok (.ifCond .eq 7, 3) := by decide +kernel
theorem dX4_layOut_15 : decode cX4_layOut 15 = .ok (.iconst 5, 1) := by decide +kernel
theorem dX4_layOut_16 : decode cX4_layOut 16 = .ok (.goto 4, 3) := by decide +kernel
theorem dX4_layOut_19 : decode cX4_layOut 19 = .ok (.iconst 0, 1) := by decide +kernel
theorem dX4_layOut_20 : decode cX4_layOut 20 = .ok (.putfield 22, 3) := by decide +kernel
theorem dX4_layOut_23 : decode cX4_layOut 23 = .ok (.aload_n 0, 1) := by decide +kernel
theorem dX4_layOut_24 : decode cX4_layOut 24 = .ok (.aload_n 0, 1) := by decide +kernel
theorem dX4_layOut_25 : decode cX4_layOut 25 = .ok (.getfield 22, 3) := by decide +kernel
theorem dX4_layOut_28 : decode cX4_layOut 28 = .ok (.putfield 25, 3) := by decide +kernel
theorem dX4_layOut_31 : decode cX4_layOut 31 = .ok (.return_, 1) := by decide +kernel
theorem dX4_copyFrom_0 : decode cX4_copyFrom 0 = .ok (.aload_n 0, 1) := by decide +kernel
theorem dX4_copyFrom_1 : decode cX4_copyFrom 1 = .ok (.aload_n 1, 1) := by decide +kernel
theorem dX4_copyFrom_2 : decode cX4_copyFrom 2 = .ok (.getfield 15, 3) := by decide +kernel
theorem dX4_copyFrom_5 : decode cX4_copyFrom 5 = .ok (.putfield 15, 3) := by decide +kernel
theorem dX4_copyFrom_8 : decode cX4_copyFrom 8 = .ok (.aload_n 0, 1) := by decide +kernel
theorem dX4_copyFrom_9 : decode cX4_copyFrom 9 = .ok (.aload_n 1, 1) := by decide +kernel
theorem dX4_copyFrom_10 : decode cX4_copyFrom 10 = .ok (.getfield 19, 3) := by decide +kernel
theorem dX4_copyFrom_13 : decode cX4_copyFrom 13 = .ok (.putfield 19, 3) := by decide +kernel
theorem dX4_copyFrom_16 : decode cX4_copyFrom 16 = .ok (.aload_n 0, 1) := by decide +kernel
theorem dX4_copyFrom_17 : decode cX4_copyFrom 17 = .ok (.aload_n 1, 1) := by decide +kernel
theorem dX4_copyFrom_18 : decode cX4_copyFrom 18 = .ok (.getfield 22, 3) := by decide +kernel
theorem dX4_copyFrom_21 : decode cX4_copyFrom 21 = .ok (.putfield 22, 3) := by decide +kernel
theorem dX4_copyFrom_24 : decode cX4_copyFrom 24 = .ok (.aload_n 0, 1) := by decide +kernel
theorem dX4_copyFrom_25 : decode cX4_copyFrom 25 = .ok (.aload_n 1, 1) := by decide +kernel
theorem dX4_copyFrom_26 : decode cX4_copyFrom 26 = .ok (.getfield 25, 3) := by decide +kernel
theorem dX4_copyFrom_29 : decode cX4_copyFrom 29 = .ok (.putfield 25, 3) := by decide +kernel
theorem dX4_copyFrom_32 : decode cX4_copyFrom 32 = .ok (.aload_n 0, 1) := by decide +kernel
theorem dX4_copyFrom_33 : decode cX4_copyFrom 33 = .ok (.aload_n 1, 1) := by decide +kernel
theorem dX4_copyFrom_34 : decode cX4_copyFrom 34 = .ok (.getfield 28, 3) := by decide +kernel
theorem dX4_copyFrom_37 : decode cX4_copyFrom 37 = .ok (.putfield 28, 3) := by decide +kernel
theorem dX4_copyFrom_40 : decode cX4_copyFrom 40 = .ok (.return_, 1) := by decide +kernel
theorem dX4_property_0 : decode cX4_property 0 = .ok (.iload_n 1, 1) := by decide +kernel
theorem dX4_property_1 : decode cX4_property 1 = .ok (.tableswitch 76 0 4 #[35, 48, 53, 58, 63], 35) := by decide +kernel
theorem dX4_property_36 : decode cX4_property 36 = .ok (.aload_n 0, 1) := by decide +kernel
theorem dX4_property_37 : decode cX4_property 37 = .ok (.getfield 15, 3) := by decide +kernel
theorem dX4_property_40 : decode cX4_property 40 = .ok (.ifCond .eq 7, 3) := by decide +kernel
theorem dX4_property_43 : decode cX4_property 43 = .ok (.iconst 1, 1) := by decide +kernel
theorem dX4_property_44 : decode cX4_property 44 = .ok (.goto 4, 3) := by decide +kernel
theorem dX4_property_47 : decode cX4_property 47 = .ok (.iconst 0, 1) := by decide +kernel
theorem dX4_property_48 : decode cX4_property 48 = .ok (.ireturn, 1) := by decide +kernel
theorem dX4_property_49 : decode cX4_property 49 = .ok (.aload_n 0, 1) := by decide +kernel
theorem dX4_property_50 : decode cX4_property 50 = .ok (.getfield 19, 3) := by decide +kernel
theorem dX4_property_53 : decode cX4_property 53 = .ok (.ireturn, 1) := by decide +kernel
theorem dX4_property_54 : decode cX4_property 54 = .ok (.aload_n 0, 1) := by decide +kernel
theorem dX4_property_55 : decode cX4_property 55 = .ok (.getfield 22, 3) := by decide +kernel
theorem dX4_property_58 : decode cX4_property 58 = .ok (.ireturn, 1) := by decide +kernel
theorem dX4_property_59 : decode cX4_property 59 = .ok (.aload_n 0, 1) := by decide +kernel
theorem dX4_property_60 : decode cX4_property 60 = .ok (.getfield 25, 3) := by decide +kernel
theorem dX4_property_63 : decode cX4_property 63 = .ok (.ireturn, 1) := by decide +kernel
theorem dX4_property_64 : decode cX4_property 64 = .ok (.aload_n 0, 1) := by decide +kernel
theorem dX4_property_65 : decode cX4_property 65 = .ok (.getfield 28, 3) := by decide +kernel
theorem dX4_property_68 : decode cX4_property 68 = .ok (.ifCond .eq 7, 3) := by decide +kernel
theorem dX4_property_71 : decode cX4_property 71 = .ok (.iconst 1, 1) := by decide +kernel
theorem dX4_property_72 : decode cX4_property 72 = .ok (.goto 4, 3) := by decide +kernel
theorem dX4_property_75 : decode cX4_property 75 = .ok (.iconst 0, 1) := by decide +kernel
theorem dX4_property_76 : decode cX4_property 76 = .ok (.ireturn, 1) := by decide +kernel
theorem dX4_property_77 : decode cX4_property 77 = .ok (.bipush (-2), 2) := by decide +kernel
theorem dX4_property_79 : decode cX4_property 79 = .ok (.ireturn, 1) := by decide +kernel
theorem dX4_moveUp_0 : decode cX4_moveUp 0 = .ok (.aload_n 0, 1) := by decide +kernel
theorem dX4_moveUp_1 : decode cX4_moveUp 1 = .ok (.getfield 15, 3) := by decide +kernel
theorem dX4_moveUp_4 : decode cX4_moveUp 4 = .ok (.ifCond .eq 21, 3) := by decide +kernel
theorem dX4_moveUp_7 : decode cX4_moveUp 7 = .ok (.aload_n 0, 1) := by decide +kernel
theorem dX4_moveUp_8 : decode cX4_moveUp 8 = .ok (.getfield 22, 3) := by decide +kernel
theorem dX4_moveUp_11 : decode cX4_moveUp 11 = .ok (.iload_n 1, 1) := by decide +kernel
theorem dX4_moveUp_12 : decode cX4_moveUp 12 = .ok (.isub, 1) := by decide +kernel
theorem dX4_moveUp_13 : decode cX4_moveUp 13 = .ok (.ifCond .lt 12, 3) := by decide +kernel
theorem dX4_moveUp_16 : decode cX4_moveUp 16 = .ok (.aload_n 0, 1) := by decide +kernel
theorem dX4_moveUp_17 : decode cX4_moveUp 17 = .ok (.getfield 25, 3) := by decide +kernel
theorem dX4_moveUp_20 : decode cX4_moveUp 20 = .ok (.iload_n 1, 1) := by decide +kernel
theorem dX4_moveUp_21 : decode cX4_moveUp 21 = .ok (.iadd, 1) := by decide +kernel
theorem dX4_moveUp_22 : decode cX4_moveUp 22 = .ok (.ifCond .ge 6, 3) := by decide +kernel
theorem dX4_moveUp_25 : decode cX4_moveUp 25 = .ok (.bipush (-5), 2) := by decide +kernel
theorem dX4_moveUp_27 : decode cX4_moveUp 27 = .ok (.ireturn, 1) := by decide +kernel
theorem dX4_moveUp_28 : decode cX4_moveUp 28 = .ok (.aload_n 0, 1) := by decide +kernel
theorem dX4_moveUp_29 : decode cX4_moveUp 29 = .ok (.dup, 1) := by decide +kernel
theorem dX4_moveUp_30 : decode cX4_moveUp 30 = .ok (.getfield 22, 3) := by decide +kernel
theorem dX4_moveUp_33 : decode cX4_moveUp 33 = .ok (.iload_n 1, 1) := by decide +kernel
theorem dX4_moveUp_34 : decode cX4_moveUp 34 = .ok (.isub, 1) := by decide +kernel
theorem dX4_moveUp_35 : decode cX4_moveUp 35 = .ok (.putfield 22, 3) := by decide +kernel
theorem dX4_moveUp_38 : decode cX4_moveUp 38 = .ok (.aload_n 0, 1) := by decide +kernel
theorem dX4_moveUp_39 : decode cX4_moveUp 39 = .ok (.dup, 1) := by decide +kernel
theorem dX4_moveUp_40 : decode cX4_moveUp 40 = .ok (.getfield 25, 3) := by decide +kernel
theorem dX4_moveUp_43 : decode cX4_moveUp 43 = .ok (.iload_n 1, 1) := by decide +kernel
theorem dX4_moveUp_44 : decode cX4_moveUp 44 = .ok (.iadd, 1) := by decide +kernel
theorem dX4_moveUp_45 : decode cX4_moveUp 45 = .ok (.putfield 25, 3) := by decide +kernel
theorem dX4_moveUp_48 : decode cX4_moveUp 48 = .ok (.aload_n 0, 1) := by decide +kernel
theorem dX4_moveUp_49 : decode cX4_moveUp 49 = .ok (.getfield 22, 3) := by decide +kernel
theorem dX4_moveUp_52 : decode cX4_moveUp 52 = .ok (.ireturn, 1) := by decide +kernel
theorem dX4_hasToken_0 : decode cX4_hasToken 0 = .ok (.iload_n 1, 1) := by decide +kernel
theorem dX4_hasToken_1 : decode cX4_hasToken 1 = .ok (.ifCond .ne 10, 3) := by decide +kernel
theorem dX4_hasToken_4 : decode cX4_hasToken 4 = .ok (.aload_n 0, 1) := by decide +kernel
theorem dX4_hasToken_5 : decode cX4_hasToken 5 = .ok (.getfield 22, 3) := by decide +kernel
theorem dX4_hasToken_8 : decode cX4_hasToken 8 = .ok (.goto 7, 3) := by decide +kernel
theorem dX4_hasToken_11 : decode cX4_hasToken 11 = .ok (.aload_n 0, 1) := by decide +kernel
theorem dX4_hasToken_12 : decode cX4_hasToken 12 = .ok (.getfield 25, 3) := by decide +kernel
theorem dX4_hasToken_15 : decode cX4_hasToken 15 = .ok (.ifCond .le 7, 3) := by decide +kernel
theorem dX4_hasToken_18 : decode cX4_hasToken 18 = .ok (.iconst 1, 1) := by decide +kernel
theorem dX4_hasToken_19 : decode cX4_hasToken 19 = .ok (.goto 4, 3) := by decide +kernel
theorem dX4_hasToken_22 : decode cX4_hasToken 22 = .ok (.iconst 0, 1) := by decide +kernel
theorem dX4_hasToken_23 : decode cX4_hasToken 23 = .ok (.ireturn, 1) := by decide +kernel
theorem dX4_takeToken_0 : decode cX4_takeToken 0 = .ok (.aload_n 0, 1) := by decide +kernel
theorem dX4_takeToken_1 : decode cX4_takeToken 1 = .ok (.getfield 15, 3) := by decide +kernel
theorem dX4_takeToken_4 : decode cX4_takeToken 4 = .ok (.ifCond .eq 14, 3) := by decide +kernel
theorem dX4_takeToken_7 : decode cX4_takeToken 7 = .ok (.aload_n 0, 1) := by decide +kernel
theorem dX4_takeToken_8 : decode cX4_takeToken 8 = .ok (.iload_n 1, 1) := by decide +kernel
theorem dX4_takeToken_9 : decode cX4_takeToken 9 = .ok (.iconst (-1), 1) := by decide +kernel
theorem dX4_takeToken_10 : decode cX4_takeToken 10 = .ok (.invokevirtual 31, 3) := by decide +kernel
theorem dX4_takeToken_13 : decode cX4_takeToken 13 = .ok (.aload_n 0, 1) := by decide +kernel
theorem dX4_takeToken_14 : decode cX4_takeToken 14 = .ok (.iconst 1, 1) := by decide +kernel
theorem dX4_takeToken_15 : decode cX4_takeToken 15 = .ok (.putfield 28, 3) := by decide +kernel
theorem dX4_takeToken_18 : decode cX4_takeToken 18 = .ok (.return_, 1) := by decide +kernel
theorem dX4_putToken_0 : decode cX4_putToken 0 = .ok (.aload_n 0, 1) := by decide +kernel
theorem dX4_putToken_1 : decode cX4_putToken 1 = .ok (.getfield 15, 3) := by decide +kernel
theorem dX4_putToken_4 : decode cX4_putToken 4 = .ok (.ifCond .eq 14, 3) := by decide +kernel
theorem dX4_putToken_7 : decode cX4_putToken 7 = .ok (.aload_n 0, 1) := by decide +kernel
theorem dX4_putToken_8 : decode cX4_putToken 8 = .ok (.iload_n 1, 1) := by decide +kernel
theorem dX4_putToken_9 : decode cX4_putToken 9 = .ok (.iconst 1, 1) := by decide +kernel
theorem dX4_putToken_10 : decode cX4_putToken 10 = .ok (.invokevirtual 31, 3) := by decide +kernel
theorem dX4_putToken_13 : decode cX4_putToken 13 = .ok (.aload_n 0, 1) := by decide +kernel
theorem dX4_putToken_14 : decode cX4_putToken 14 = .ok (.iconst 0, 1) := by decide +kernel
theorem dX4_putToken_15 : decode cX4_putToken 15 = .ok (.putfield 28, 3) := by decide +kernel
theorem dX4_putToken_18 : decode cX4_putToken 18 = .ok (.return_, 1) := by decide +kernel
theorem dX4_addTokens_0 : decode cX4_addTokens 0 = .ok (.iload_n 1, 1) := by decide +kernel
theorem dX4_addTokens_1 : decode cX4_addTokens 1 = .ok (.ifCond .ne 16, 3) := by decide +kernel
theorem dX4_addTokens_4 : decode cX4_addTokens 4 = .ok (.aload_n 0, 1) := by decide +kernel
theorem dX4_addTokens_5 : decode cX4_addTokens 5 = .ok (.dup, 1) := by decide +kernel
theorem dX4_addTokens_6 : decode cX4_addTokens 6 = .ok (.getfield 22, 3) := by decide +kernel
theorem dX4_addTokens_9 : decode cX4_addTokens 9 = .ok (.iload_n 2, 1) := by decide +kernel
theorem dX4_addTokens_10 : decode cX4_addTokens 10 = .ok (.iadd, 1) := by decide +kernel
theorem dX4_addTokens_11 : decode cX4_addTokens 11 = .ok (.putfield 22, 3) := by decide +kernel
theorem dX4_addTokens_14 : decode cX4_addTokens 14 = .ok (.goto 13, 3) := by decide +kernel
theorem dX4_addTokens_17 : decode cX4_addTokens 17 = .ok (.aload_n 0, 1) := by decide +kernel
theorem dX4_addTokens_18 : decode cX4_addTokens 18 = .ok (.dup, 1) := by decide +kernel
theorem dX4_addTokens_19 : decode cX4_addTokens 19 = .ok (.getfield 25, 3) := by decide +kernel
theorem dX4_addTokens_22 : decode cX4_addTokens 22 = .ok (.iload_n 2, 1) := by decide +kernel
theorem dX4_addTokens_23 : decode cX4_addTokens 23 = .ok (.iadd, 1) := by decide +kernel
theorem dX4_addTokens_24 : decode cX4_addTokens 24 = .ok (.putfield 25, 3) := by decide +kernel
theorem dX4_addTokens_27 : decode cX4_addTokens 27 = .ok (.return_, 1) := by decide +kernel
theorem dX5_init_0 : decode cX5_init 0 = .ok (.aload_n 0, 1) := by decide +kernel
theorem dX5_init_1 : decode cX5_init 1 = .ok (.invokespecial 3, 3) := by decide +kernel
theorem dX5_init_4 : decode cX5_init 4 = .ok (.aload_n 0, 1) := by decide +kernel
theorem dX5_init_5 : decode cX5_init 5 = .ok (.iload_n 1, 1) := by decide +kernel
theorem dX5_init_6 : decode cX5_init 6 = .ok (.putfield 9, 3) := by decide +kernel
theorem dX5_init_9 : decode cX5_init 9 = .ok (.return_, 1) := by decide +kernel
theorem dX5_start_0 : decode cX5_start 0 = .ok (.aload_n 0, 1) := by decide +kernel
theorem dX5_start_1 : decode cX5_start 1 = .ok (.iload_n 1, 1) := by decide +kernel
theorem dX5_start_2 : decode cX5_start 2 = .ok (.putfield 15, 3) := by decide +kernel
theorem dX5_start_5 : decode cX5_start 5 = .ok (.aload_n 0, 1) := by decide +kernel
theorem dX5_start_6 : decode cX5_start 6 = .ok (.iload_n 2, 1) := by decide +kernel
theorem dX5_start_7 : decode cX5_start 7 = .ok (.putfield 18, 3) := by decide +kernel
theorem dX5_start_10 : decode cX5_start 10 = .ok (.aload_n 0, 1) := by decide +kernel
theorem dX5_start_11 : decode cX5_start 11 = .ok (.iconst 0, 1) := by decide +kernel
theorem dX5_start_12 : decode cX5_start 12 = .ok (.iload_n 3, 1) := by decide +kernel
theorem dX5_start_13 : decode cX5_start 13 = .ok (.invokevirtual 21, 3) := by decide +kernel
theorem dX5_start_16 : decode cX5_start 16 = .ok (.aload_n 0, 1) := by decide +kernel
theorem dX5_start_17 : decode cX5_start 17 = .ok (.iconst 0, 1) := by decide +kernel
theorem dX5_start_18 : decode cX5_start 18 = .ok (.putfield 25, 3) := by decide +kernel
theorem dX5_start_21 : decode cX5_start 21 = .ok (.aload_n 0, 1) := by decide +kernel
theorem dX5_start_22 : decode cX5_start 22 = .ok (.iconst 1, 1) := by decide +kernel
theorem dX5_start_23 : decode cX5_start 23 = .ok (.putfield 28, 3) := by decide +kernel
theorem dX5_start_26 : decode cX5_start 26 = .ok (.aload_n 0, 1) := by decide +kernel
theorem dX5_start_27 : decode cX5_start 27 = .ok (.iload 4, 2) := by decide +kernel
theorem dX5_start_29 : decode cX5_start 29 = .ok (.putfield 32, 3) := by decide +kernel
theorem dX5_start_32 : decode cX5_start 32 = .ok (.aload_n 0, 1) := by decide +kernel
theorem dX5_start_33 : decode cX5_start 33 = .ok (.bipush (-6), 2) := by decide +kernel
theorem dX5_start_35 : decode cX5_start 35 = .ok (.putfield 35, 3) := by decide +kernel
theorem dX5_start_38 : decode cX5_start 38 = .ok (.return_, 1) := by decide +kernel
theorem dX5_copyFrom_0 : decode cX5_copyFrom 0 = .ok (.aload_n 0, 1) := by decide +kernel
theorem dX5_copyFrom_1 : decode cX5_copyFrom 1 = .ok (.aload_n 1, 1) := by decide +kernel
theorem dX5_copyFrom_2 : decode cX5_copyFrom 2 = .ok (.getfield 15, 3) := by decide +kernel
theorem dX5_copyFrom_5 : decode cX5_copyFrom 5 = .ok (.putfield 15, 3) := by decide +kernel
theorem dX5_copyFrom_8 : decode cX5_copyFrom 8 = .ok (.aload_n 0, 1) := by decide +kernel
theorem dX5_copyFrom_9 : decode cX5_copyFrom 9 = .ok (.aload_n 1, 1) := by decide +kernel
theorem dX5_copyFrom_10 : decode cX5_copyFrom 10 = .ok (.getfield 18, 3) := by decide +kernel
theorem dX5_copyFrom_13 : decode cX5_copyFrom 13 = .ok (.putfield 18, 3) := by decide +kernel
theorem dX5_copyFrom_16 : decode cX5_copyFrom 16 = .ok (.aload_n 0, 1) := by decide +kernel
theorem dX5_copyFrom_17 : decode cX5_copyFrom 17 = .ok (.aload_n 1, 1) := by decide +kernel
theorem dX5_copyFrom_18 : decode cX5_copyFrom 18 = .ok (.getfield 38, 3) := by decide +kernel
theorem dX5_copyFrom_21 : decode cX5_copyFrom 21 = .ok (.putfield 38, 3) := by decide +kernel
theorem dX5_copyFrom_24 : decode cX5_copyFrom 24 = .ok (.aload_n 0, 1) := by decide +kernel
theorem dX5_copyFrom_25 : decode cX5_copyFrom 25 = .ok (.aload_n 1, 1) := by decide +kernel
theorem dX5_copyFrom_26 : decode cX5_copyFrom 26 = .ok (.getfield 41, 3) := by decide +kernel
theorem dX5_copyFrom_29 : decode cX5_copyFrom 29 = .ok (.putfield 41, 3) := by decide +kernel
theorem dX5_copyFrom_32 : decode cX5_copyFrom 32 = .ok (.aload_n 0, 1) := by decide +kernel
theorem dX5_copyFrom_33 : decode cX5_copyFrom 33 = .ok (.aload_n 1, 1) := by decide +kernel
theorem dX5_copyFrom_34 : decode cX5_copyFrom 34 = .ok (.getfield 25, 3) := by decide +kernel
theorem dX5_copyFrom_37 : decode cX5_copyFrom 37 = .ok (.putfield 25, 3) := by decide +kernel
theorem dX5_copyFrom_40 : decode cX5_copyFrom 40 = .ok (.aload_n 0, 1) := by decide +kernel
theorem dX5_copyFrom_41 : decode cX5_copyFrom 41 = .ok (.aload_n 1, 1) := by decide +kernel
theorem dX5_copyFrom_42 : decode cX5_copyFrom 42 = .ok (.getfield 28, 3) := by decide +kernel
theorem dX5_copyFrom_45 : decode cX5_copyFrom 45 = .ok (.putfield 28, 3) := by decide +kernel
theorem dX5_copyFrom_48 : decode cX5_copyFrom 48 = .ok (.aload_n 0, 1) := by decide +kernel
theorem dX5_copyFrom_49 : decode cX5_copyFrom 49 = .ok (.aload_n 1, 1) := by decide +kernel
theorem dX5_copyFrom_50 : decode cX5_copyFrom 50 = .ok (.getfield 32, 3) := by decide +kernel
theorem dX5_copyFrom_53 : decode cX5_copyFrom 53 = .ok (.putfield 32, 3) := by decide +kernel
theorem dX5_copyFrom_56 : decode cX5_copyFrom 56 = .ok (.aload_n 0, 1) := by decide +kernel
theorem dX5_copyFrom_57 : decode cX5_copyFrom 57 = .ok (.aload_n 1, 1) := by decide +kernel
theorem dX5_copyFrom_58 : decode cX5_copyFrom 58 = .ok (.getfield 35, 3) := by decide +kernel
theorem dX5_copyFrom_61 : decode cX5_copyFrom 61 = .ok (.putfield 35, 3) := by decide +kernel
theorem dX5_copyFrom_64 : decode cX5_copyFrom 64 = .ok (.return_, 1) := by decide +kernel
theorem dX5_property_0 : decode cX5_property 0 = .ok (.iload_n 1, 1) := by decide +kernel
theorem dX5_property_1 : decode cX5_property 1 = .ok (.tableswitch 95 0 7 #[47, 52, 57, 62, 67, 72, 85, 90], 47) := by decide +kernel
theorem dX5_property_48 : decode cX5_property 48 = .ok (.aload_n 0, 1) := by decide +kernel
theorem dX5_property_49 : decode cX5_property 49 = .ok (.getfield 15, 3) := by decide +kernel
theorem dX5_property_52 : decode cX5_property 52 = .ok (.ireturn, 1) := by decide +kernel
theorem dX5_property_53 : decode cX5_property 53 = .ok (.aload_n 0, 1) := by decide +kernel
theorem dX5_property_54 : decode cX5_property 54 = .ok (.getfield 18, 3) := by decide +kernel
theorem dX5_property_57 : decode cX5_property 57 = .ok (.ireturn, 1) := by decide +kernel
theorem dX5_property_58 : decode cX5_property 58 = .ok (.aload_n 0, 1) := by decide +kernel
theorem dX5_property_59 : decode cX5_property 59 = .ok (.getfield 38, 3) := by decide +kernel
theorem dX5_property_62 : decode cX5_property 62 = .ok (.ireturn, 1) := by decide +kernel
theorem dX5_property_63 : decode cX5_property 63 = .ok (.aload_n 0, 1) := by decide +kernel
theorem dX5_property_64 : decode cX5_property 64 = .ok (.getfield 41, 3) := by decide +kernel
theorem dX5_property_67 : decode cX5_property 67 = .ok (.ireturn, 1) := by decide +kernel
theorem dX5_property_68 : decode cX5_property 68 = .ok (.aload_n 0, 1) := by decide +kernel
theorem dX5_property_69 : decode cX5_property 69 = .ok (.getfield 25, 3) := by decide +kernel
theorem dX5_property_72 : decode cX5_property 72 = .ok (.ireturn, 1) := by decide +kernel
theorem dX5_property_73 : decode cX5_property 73 = .ok (.aload_n 0, 1) := by decide +kernel
theorem dX5_property_74 : decode cX5_property 74 = .ok (.getfield 28, 3) := by decide +kernel
theorem dX5_property_77 : decode cX5_property 77 = .ok (.ifCond .eq 7, 3) := by decide +kernel
theorem dX5_property_80 : decode cX5_property 80 = .ok (.iconst 1, 1) := by decide +kernel
theorem dX5_property_81 : decode cX5_property 81 = .ok (.goto 4, 3) := by decide +kernel
theorem dX5_property_84 : decode cX5_property 84 = .ok (.iconst 0, 1) := by decide +kernel
theorem dX5_property_85 : decode cX5_property 85 = .ok (.ireturn, 1) := by decide +kernel
theorem dX5_property_86 : decode cX5_property 86 = .ok (.aload_n 0, 1) := by decide +kernel
theorem dX5_property_87 : decode cX5_property 87 = .ok (.getfield 32, 3) := by decide +kernel
theorem dX5_property_90 : decode cX5_property 90 = .ok (.ireturn, 1) := by decide +kernel
theorem dX5_property_91 : decode cX5_property 91 = .ok (.aload_n 0, 1) := by decide +kernel
theorem dX5_property_92 : decode cX5_property 92 = .ok (.getfield 35, 3) := by decide +kernel
theorem dX5_property_95 : decode cX5_property 95 = .ok (.ireturn, 1) := by decide +kernel
theorem dX5_property_96 : decode cX5_property 96 = .ok (.bipush (-2), 2) := by decide +kernel
theorem dX5_property_98 : decode cX5_property 98 = .ok (.ireturn, 1) := by decide +kernel
theorem dX5_stands_0 : decode cX5_stands 0 = .ok (.aload_n 0, 1) := by decide +kernel
theorem dX5_stands_1 : decode cX5_stands 1 = .ok (.getfield 38, 3) := by decide +kernel
theorem dX5_stands_4 : decode cX5_stands 4 = .ok (.iload_n 1, 1) := by decide +kernel
theorem dX5_stands_5 : decode cX5_stands 5 = .ok (.if_icmp .ne 23, 3) := by decide +kernel
theorem dX5_stands_8 : decode cX5_stands 8 = .ok (.aload_n 0, 1) := by decide +kernel
theorem dX5_stands_9 : decode cX5_stands 9 = .ok (.getfield 41, 3) := by decide +kernel
theorem dX5_stands_12 : decode cX5_stands 12 = .ok (.iload_n 2, 1) := by decide +kernel
theorem dX5_stands_13 : decode cX5_stands 13 = .ok (.if_icmp .ne 15, 3) := by decide +kernel
theorem dX5_stands_16 : decode cX5_stands 16 = .ok (.aload_n 0, 1) := by decide +kernel
theorem dX5_stands_17 : decode cX5_stands 17 = .ok (.getfield 18, 3) := by decide +kernel
theorem dX5_stands_20 : decode cX5_stands 20 = .ok (.iload_n 3, 1) := by decide +kernel
theorem dX5_stands_21 : decode cX5_stands 21 = .ok (.if_icmp .ne 7, 3) := by decide +kernel
theorem dX5_stands_24 : decode cX5_stands 24 = .ok (.iconst 1, 1) := by decide +kernel
theorem dX5_stands_25 : decode cX5_stands 25 = .ok (.goto 4, 3) := by decide +kernel
theorem dX5_stands_28 : decode cX5_stands 28 = .ok (.iconst 0, 1) := by decide +kernel
theorem dX5_stands_29 : decode cX5_stands 29 = .ok (.ireturn, 1) := by decide +kernel
theorem dX5_standAt_0 : decode cX5_standAt 0 = .ok (.aload_n 0, 1) := by decide +kernel
theorem dX5_standAt_1 : decode cX5_standAt 1 = .ok (.iload_n 1, 1) := by decide +kernel
theorem dX5_standAt_2 : decode cX5_standAt 2 = .ok (.putfield 38, 3) := by decide +kernel
theorem dX5_standAt_5 : decode cX5_standAt 5 = .ok (.aload_n 0, 1) := by decide +kernel
theorem dX5_standAt_6 : decode cX5_standAt 6 = .ok (.iload_n 2, 1) := by decide +kernel
theorem dX5_standAt_7 : decode cX5_standAt 7 = .ok (.putfield 41, 3) := by decide +kernel
theorem dX5_standAt_10 : decode cX5_standAt 10 = .ok (.return_, 1) := by decide +kernel
theorem dX5_enter_0 : decode cX5_enter 0 = .ok (.aload_n 0, 1) := by decide +kernel
theorem dX5_enter_1 : decode cX5_enter 1 = .ok (.iconst 2, 1) := by decide +kernel
theorem dX5_enter_2 : decode cX5_enter 2 = .ok (.putfield 38, 3) := by decide +kernel
theorem dX5_enter_5 : decode cX5_enter 5 = .ok (.aload_n 0, 1) := by decide +kernel
theorem dX5_enter_6 : decode cX5_enter 6 = .ok (.aload_n 1, 1) := by decide +kernel
theorem dX5_enter_7 : decode cX5_enter 7 = .ok (.getfield 44, 3) := by decide +kernel
theorem dX5_enter_10 : decode cX5_enter 10 = .ok (.putfield 41, 3) := by decide +kernel
theorem dX5_enter_13 : decode cX5_enter 13 = .ok (.aload_n 0, 1) := by decide +kernel
theorem dX5_enter_14 : decode cX5_enter 14 = .ok (.aload_n 1, 1) := by decide +kernel
theorem dX5_enter_15 : decode cX5_enter 15 = .ok (.getfield 47, 3) := by decide +kernel
theorem dX5_enter_18 : decode cX5_enter 18 = .ok (.aload_n 0, 1) := by decide +kernel
theorem dX5_enter_19 : decode cX5_enter 19 = .ok (.getfield 15, 3) := by decide +kernel
theorem dX5_enter_22 : decode cX5_enter 22 = .ok (.iadd, 1) := by decide +kernel
theorem dX5_enter_23 : decode cX5_enter 23 = .ok (.iconst 1, 1) := by decide +kernel
theorem dX5_enter_24 : decode cX5_enter 24 = .ok (.isub, 1) := by decide +kernel
theorem dX5_enter_25 : decode cX5_enter 25 = .ok (.putfield 25, 3) := by decide +kernel
theorem dX5_enter_28 : decode cX5_enter 28 = .ok (.return_, 1) := by decide +kernel
theorem dX5_go_0 : decode cX5_go 0 = .ok (.aload_n 0, 1) := by decide +kernel
theorem dX5_go_1 : decode cX5_go 1 = .ok (.iconst 3, 1) := by decide +kernel
theorem dX5_go_2 : decode cX5_go 2 = .ok (.putfield 38, 3) := by decide +kernel
theorem dX5_go_5 : decode cX5_go 5 = .ok (.aload_n 0, 1) := by decide +kernel
theorem dX5_go_6 : decode cX5_go 6 = .ok (.bipush (-6), 2) := by decide +kernel
theorem dX5_go_8 : decode cX5_go 8 = .ok (.putfield 41, 3) := by decide +kernel
theorem dX5_go_11 : decode cX5_go 11 = .ok (.aload_n 0, 1) := by decide +kernel
theorem dX5_go_12 : decode cX5_go 12 = .ok (.iload_n 1, 1) := by decide +kernel
theorem dX5_go_13 : decode cX5_go 13 = .ok (.putfield 35, 3) := by decide +kernel
theorem dX5_go_16 : decode cX5_go 16 = .ok (.return_, 1) := by decide +kernel
theorem dX5_letPass_0 : decode cX5_letPass 0 = .ok (.aload_n 0, 1) := by decide +kernel
theorem dX5_letPass_1 : decode cX5_letPass 1 = .ok (.getfield 38, 3) := by decide +kernel
theorem dX5_letPass_4 : decode cX5_letPass 4 = .ok (.iconst 2, 1) := by decide +kernel
theorem dX5_letPass_5 : decode cX5_letPass 5 = .ok (.if_icmp .ne 17, 3) := by decide +kernel
theorem dX5_letPass_8 : decode cX5_letPass 8 = .ok (.aload_n 0, 1) := by decide +kernel
theorem dX5_letPass_9 : decode cX5_letPass 9 = .ok (.iconst 0, 1) := by decide +kernel
theorem dX5_letPass_10 : decode cX5_letPass 10 = .ok (.aload_n 0, 1) := by decide +kernel
theorem dX5_letPass_11 : decode cX5_letPass 11 = .ok (.getfield 25, 3) := by decide +kernel
theorem dX5_letPass_14 : decode cX5_letPass 14 = .ok (.iload_n 1, 1) := by decide +kernel
theorem dX5_letPass_15 : decode cX5_letPass 15 = .ok (.isub, 1) := by decide +kernel
theorem dX5_letPass_16 : decode cX5_letPass 16 = .ok (.invokestatic 50, 3) := by decide +kernel
theorem dX5_letPass_19 : decode cX5_letPass 19 = .ok (.putfield 25, 3) := by decide +kernel
theorem dX5_letPass_22 : decode cX5_letPass 22 = .ok (.return_, 1) := by decide +kernel
theorem dX6_init_0 : decode cX6_init 0 = .ok (.aload_n 0, 1) := by decide +kernel
theorem dX6_init_1 : decode cX6_init 1 = .ok (.invokespecial 3, 3) := by decide +kernel
theorem dX6_init_4 : decode cX6_init 4 = .ok (.aload_n 0, 1) := by decide +kernel
theorem dX6_init_5 : decode cX6_init 5 = .ok (.new 9, 3) := by decide +kernel
theorem dX6_init_8 : decode cX6_init 8 = .ok (.dup, 1) := by decide +kernel
theorem dX6_init_9 : decode cX6_init 9 = .ok (.invokespecial 11, 3) := by decide +kernel
theorem dX6_init_12 : decode cX6_init 12 = .ok (.putfield 12, 3) := by decide +kernel
theorem dX6_init_15 : decode cX6_init 15 = .ok (.aload_n 0, 1) := by decide +kernel
theorem dX6_init_16 : decode cX6_init 16 = .ok (.new 9, 3) := by decide +kernel
theorem dX6_init_19 : decode cX6_init 19 = .ok (.dup, 1) := by decide +kernel
theorem dX6_init_20 : decode cX6_init 20 = .ok (.invokespecial 11, 3) := by decide +kernel
theorem dX6_init_23 : decode cX6_init 23 = .ok (.putfield 16, 3) := by decide +kernel
theorem dX6_init_26 : decode cX6_init 26 = .ok (.aload_n 0, 1) := by decide +kernel
theorem dX6_init_27 : decode cX6_init 27 = .ok (.iconst 2, 1) := by decide +kernel
theorem dX6_init_28 : decode cX6_init 28 = .ok (.anewarray 9, 3) := by decide +kernel
theorem dX6_init_31 : decode cX6_init 31 = .ok (.putfield 19, 3) := by decide +kernel
theorem dX6_init_34 : decode cX6_init 34 = .ok (.iconst 0, 1) := by decide +kernel
theorem dX6_init_35 : decode cX6_init 35 = .ok (.istore_n 1, 1) := by decide +kernel
theorem dX6_init_36 : decode cX6_init 36 = .ok (.iload_n 1, 1) := by decide +kernel
theorem dX6_init_37 : decode cX6_init 37 = .ok (.iconst 2, 1) := by decide +kernel
theorem dX6_init_38 : decode cX6_init 38 = .ok (.if_icmp .ge 22, 3) := by decide +kernel
theorem dX6_init_41 : decode cX6_init 41 = .ok (.aload_n 0, 1) := by decide +kernel
theorem dX6_init_42 : decode cX6_init 42 = .ok (.getfield 19, 3) := by decide +kernel
theorem dX6_init_45 : decode cX6_init 45 = .ok (.iload_n 1, 1) := by decide +kernel
theorem dX6_init_46 : decode cX6_init 46 = .ok (.new 9, 3) := by decide +kernel
theorem dX6_init_49 : decode cX6_init 49 = .ok (.dup, 1) := by decide +kernel
theorem dX6_init_50 : decode cX6_init 50 = .ok (.invokespecial 11, 3) := by decide +kernel
theorem dX6_init_53 : decode cX6_init 53 = .ok (.aastore, 1) := by decide +kernel
theorem dX6_init_54 : decode cX6_init 54 = .ok (.iinc 1 1, 3) := by decide +kernel
theorem dX6_init_57 : decode cX6_init 57 = .ok (.goto (-21), 3) := by decide +kernel
theorem dX6_init_60 : decode cX6_init 60 = .ok (.aload_n 0, 1) := by decide +kernel
theorem dX6_init_61 : decode cX6_init 61 = .ok (.iconst 2, 1) := by decide +kernel
theorem dX6_init_62 : decode cX6_init 62 = .ok (.newarray .boolean, 2) := by decide +kernel
theorem dX6_init_64 : decode cX6_init 64 = .ok (.putfield 23, 3) := by decide +kernel
theorem dX6_init_67 : decode cX6_init 67 = .ok (.aload_n 0, 1) := by decide +kernel
theorem dX6_init_68 : decode cX6_init 68 = .ok (.new 27, 3) := by decide +kernel
theorem dX6_init_71 : decode cX6_init 71 = .ok (.dup, 1) := by decide +kernel
theorem dX6_init_72 : decode cX6_init 72 = .ok (.invokespecial 29, 3) := by decide +kernel
theorem dX6_init_75 : decode cX6_init 75 = .ok (.putfield 30, 3) := by decide +kernel
theorem dX6_init_78 : decode cX6_init 78 = .ok (.return_, 1) := by decide +kernel
theorem dX6_setUp_0 : decode cX6_setUp 0 = .ok (.iload_n 1, 1) := by decide +kernel
theorem dX6_setUp_1 : decode cX6_setUp 1 = .ok (.iconst 2, 1) := by decide +kernel
theorem dX6_setUp_2 : decode cX6_setUp 2 = .ok (.if_icmp .lt 22, 3) := by decide +kernel
theorem dX6_setUp_5 : decode cX6_setUp 5 = .ok (.iload_n 1, 1) := by decide +kernel
theorem dX6_setUp_6 : decode cX6_setUp 6 = .ok (.bipush 6, 2) := by decide +kernel
theorem dX6_setUp_8 : decode cX6_setUp 8 = .ok (.if_icmp .gt 16, 3) := by decide +kernel
theorem dX6_setUp_11 : decode cX6_setUp 11 = .ok (.iload_n 2, 1) := by decide +kernel
theorem dX6_setUp_12 : decode cX6_setUp 12 = .ok (.ifCond .lt 12, 3) := by decide +kernel
theorem dX6_setUp_15 : decode cX6_setUp 15 = .ok (.iload_n 2, 1) := by decide +kernel
theorem dX6_setUp_16 : decode cX6_setUp 16 = .ok (.iconst 1, 1) := by decide +kernel
theorem dX6_setUp_17 : decode cX6_setUp 17 = .ok (.iload_n 1, 1) := by decide +kernel
theorem dX6_setUp_18 : decode cX6_setUp 18 = .ok (.iconst 1, 1) := by decide +kernel
theorem dX6_setUp_19 : decode cX6_setUp 19 = .ok (.isub, 1) := by decide +kernel
theorem dX6_setUp_20 : decode cX6_setUp 20 = .ok (.ishl, 1) := by decide +kernel
theorem dX6_setUp_21 : decode cX6_setUp 21 = .ok (.if_icmp .lt 6, 3) := by decide +kernel
theorem dX6_setUp_24 : decode cX6_setUp 24 = .ok (.bipush (-2), 2) := by decide +kernel
theorem dX6_setUp_26 : decode cX6_setUp 26 = .ok (.ireturn, 1) := by decide +kernel
theorem dX6_setUp_27 : decode cX6_setUp 27 = .ok (.aload_n 0, 1) := by decide +kernel
theorem dX6_setUp_28 : decode cX6_setUp 28 = .ok (.getfield 12, 3) := by decide +kernel
theorem dX6_setUp_31 : decode cX6_setUp 31 = .ok (.getfield 34, 3) := by decide +kernel
theorem dX6_setUp_34 : decode cX6_setUp 34 = .ok (.istore_n 3, 1) := by decide +kernel
theorem dX6_setUp_35 : decode cX6_setUp 35 = .ok (.aload_n 0, 1) := by decide +kernel
theorem dX6_setUp_36 : decode cX6_setUp 36 = .ok (.getfield 12, 3) := by decide +kernel
theorem dX6_setUp_39 : decode cX6_setUp 39 = .ok (.iload_n 1, 1) := by decide +kernel
theorem dX6_setUp_40 : decode cX6_setUp 40 = .ok (.iload_n 2, 1) := by decide +kernel
theorem dX6_setUp_41 : decode cX6_setUp 41 = .ok (.invokevirtual 38, 3) := by decide +kernel
theorem dX6_setUp_44 : decode cX6_setUp 44 = .ok (.iload_n 3, 1) := by decide +kernel
theorem dX6_setUp_45 : decode cX6_setUp 45 = .ok (.ireturn, 1) := by decide +kernel
theorem dX6_setTime_0 : decode cX6_setTime 0 = .ok (.aload_n 0, 1) := by decide +kernel
theorem dX6_setTime_1 : decode cX6_setTime 1 = .ok (.getfield 12, 3) := by decide +kernel
theorem dX6_setTime_4 : decode cX6_setTime 4 = .ok (.iload_n 1, 1) := by decide +kernel
theorem dX6_setTime_5 : decode cX6_setTime 5 = .ok (.invokevirtual 42, 3) := by decide +kernel
theorem dX6_setTime_8 : decode cX6_setTime 8 = .ok (.astore_n 3, 1) := by decide +kernel
theorem dX6_setTime_9 : decode cX6_setTime 9 = .ok (.aload_n 3, 1) := by decide +kernel
theorem dX6_setTime_10 : decode cX6_setTime 10 = .ok (.ifnonnull 5, 3) := by decide +kernel
theorem dX6_setTime_13 : decode cX6_setTime 13 = .ok (.iconst (-1), 1) := by decide +kernel
theorem dX6_setTime_14 : decode cX6_setTime 14 = .ok (.ireturn, 1) := by decide +kernel
theorem dX6_setTime_15 : decode cX6_setTime 15 = .ok (.iload_n 2, 1) := by decide +kernel
theorem dX6_setTime_16 : decode cX6_setTime 16 = .ok (.iconst 1, 1) := by decide +kernel
theorem dX6_setTime_17 : decode cX6_setTime 17 = .ok (.if_icmp .lt 9, 3) := by decide +kernel
theorem dX6_setTime_20 : decode cX6_setTime 20 = .ok (.iload_n 2, 1) := by decide +kernel
theorem dX6_setTime_21 : decode cX6_setTime 21 = .ok (.bipush 30, 2) := by decide +kernel
theorem dX6_setTime_23 : decode cX6_setTime 23 = .ok (.if_icmp .le 6, 3) := by decide +kernel
theorem dX6_setTime_26 : decode cX6_setTime 26 = .ok (.bipush (-2), 2) := by decide +kernel
theorem dX6_setTime_28 : decode cX6_setTime 28 = .ok (.ireturn, 1) := by decide +kernel
theorem dX6_setTime_29 : decode cX6_setTime 29 = .ok (.aload_n 3, 1) := by decide +kernel
theorem dX6_setTime_30 : decode cX6_setTime 30 = .ok (.getfield 46, 3) := by decide +kernel
theorem dX6_setTime_33 : decode cX6_setTime 33 = .ok (.istore 4, 2) := by decide +kernel
theorem dX6_setTime_35 : decode cX6_setTime 35 = .ok (.aload_n 3, 1) := by decide +kernel
theorem dX6_setTime_36 : decode cX6_setTime 36 = .ok (.iload_n 2, 1) := by decide +kernel
theorem dX6_setTime_37 : decode cX6_setTime 37 = .ok (.putfield 46, 3) := by decide +kernel
theorem dX6_setTime_40 : decode cX6_setTime 40 = .ok (.iload 4, 2) := by decide +kernel
theorem dX6_setTime_42 : decode cX6_setTime 42 = .ok (.ireturn, 1) := by decide +kernel
theorem dX6_setLoops_0 : decode cX6_setLoops 0 = .ok (.aload_n 0, 1) := by decide +kernel
theorem dX6_setLoops_1 : decode cX6_setLoops 1 = .ok (.getfield 12, 3) := by decide +kernel
theorem dX6_setLoops_4 : decode cX6_setLoops 4 = .ok (.iload_n 1, 1) := by decide +kernel
theorem dX6_setLoops_5 : decode cX6_setLoops 5 = .ok (.invokevirtual 51, 3) := by decide +kernel
theorem dX6_setLoops_8 : decode cX6_setLoops 8 = .ok (.ifCond .eq 10, 3) := by decide +kernel
theorem dX6_setLoops_11 : decode cX6_setLoops 11 = .ok (.iload_n 2, 1) := by decide +kernel
theorem dX6_setLoops_12 : decode cX6_setLoops 12 = .ok (.invokestatic 55, 3) := by decide +kernel
theorem dX6_setLoops_15 : decode cX6_setLoops 15 = .ok (.ifCond .ne 5, 3) := by decide +kernel
theorem dX6_setLoops_18 : decode cX6_setLoops 18 = .ok (.iconst (-1), 1) := by decide +kernel
theorem dX6_setLoops_19 : decode cX6_setLoops 19 = .ok (.ireturn, 1) := by decide +kernel
theorem dX6_setLoops_20 : decode cX6_setLoops 20 = .ok (.iload_n 3, 1) := by decide +kernel
theorem dX6_setLoops_21 : decode cX6_setLoops 21 = .ok (.ifCond .lt 8, 3) := by decide +kernel
theorem dX6_setLoops_24 : decode cX6_setLoops 24 = .ok (.iload_n 3, 1) := by decide +kernel
theorem dX6_setLoops_25 : decode cX6_setLoops 25 = .ok (.iconst 3, 1) := by decide +kernel
theorem dX6_setLoops_26 : decode cX6_setLoops 26 = .ok (.if_icmp .le 6, 3) := by decide +kernel
theorem dX6_setLoops_29 : decode cX6_setLoops 29 = .ok (.bipush (-2), 2) := by decide +kernel
theorem dX6_setLoops_31 : decode cX6_setLoops 31 = .ok (.ireturn, 1) := by decide +kernel
theorem dX6_setLoops_32 : decode cX6_setLoops 32 = .ok (.aload_n 0, 1) := by decide +kernel
theorem dX6_setLoops_33 : decode cX6_setLoops 33 = .ok (.getfield 12, 3) := by decide +kernel
theorem dX6_setLoops_36 : decode cX6_setLoops 36 = .ok (.iload_n 1, 1) := by decide +kernel
theorem dX6_setLoops_37 : decode cX6_setLoops 37 = .ok (.iload_n 2, 1) := by decide +kernel
theorem dX6_setLoops_38 : decode cX6_setLoops 38 = .ok (.iload_n 3, 1) := by decide +kernel
theorem dX6_setLoops_39 : decode cX6_setLoops 39 = .ok (.invokevirtual 58, 3) := by decide +kernel
theorem dX6_setLoops_42 : decode cX6_setLoops 42 = .ok (.ireturn, 1) := by decide +kernel
theorem dX6_moveTokens_0 : decode cX6_moveTokens 0 = .ok (.aload_n 0, 1) := by decide +kernel
theorem dX6_moveTokens_1 : decode cX6_moveTokens 1 = .ok (.getfield 12, 3) := by decide +kernel
theorem dX6_moveTokens_4 : decode cX6_moveTokens 4 = .ok (.iload_n 1, 1) := by decide +kernel
theorem dX6_moveTokens_5 : decode cX6_moveTokens 5 = .ok (.invokevirtual 42, 3) := by decide +kernel
theorem dX6_moveTokens_8 : decode cX6_moveTokens 8 = .ok (.astore_n 3, 1) := by decide +kernel
theorem dX6_moveTokens_9 : decode cX6_moveTokens 9 = .ok (.aload_n 3, 1) := by decide +kernel
theorem dX6_moveTokens_10 : decode cX6_moveTokens 10 = .ok (.ifnonnull 5, 3) := by decide +kernel
theorem dX6_moveTokens_13 : decode cX6_moveTokens 13 = .ok (.iconst (-1), 1) := by decide +kernel
theorem dX6_moveTokens_14 : decode cX6_moveTokens 14 = .ok (.ireturn, 1) := by decide +kernel
theorem dX6_moveTokens_15 : decode cX6_moveTokens 15 = .ok (.iload_n 2, 1) := by decide +kernel
theorem dX6_moveTokens_16 : decode cX6_moveTokens 16 = .ok (.bipush (-10), 2) := by decide +kernel
theorem dX6_moveTokens_18 : decode cX6_moveTokens 18 = .ok (.if_icmp .lt 9, 3) := by decide +kernel
theorem dX6_moveTokens_21 : decode cX6_moveTokens 21 = .ok (.iload_n 2, 1) := by decide +kernel
theorem dX6_moveTokens_22 : decode cX6_moveTokens 22 = .ok (.bipush 10, 2) := by decide +kernel
theorem dX6_moveTokens_24 : decode cX6_moveTokens 24 = .ok (.if_icmp .le 6, 3) := by decide +kernel
theorem dX6_moveTokens_27 : decode cX6_moveTokens 27 = .ok (.bipush (-2), 2) := by decide +kernel
theorem dX6_moveTokens_29 : decode cX6_moveTokens 29 = .ok (.ireturn, 1) := by decide +kernel
theorem dX6_moveTokens_30 : decode cX6_moveTokens 30 = .ok (.aload_n 3, 1) := by decide +kernel
theorem dX6_moveTokens_31 : decode cX6_moveTokens 31 = .ok (.iload_n 2, 1) := by decide +kernel
theorem dX6_moveTokens_32 : decode cX6_moveTokens 32 = .ok (.invokevirtual 62, 3) := by decide +kernel
theorem dX6_moveTokens_35 : decode cX6_moveTokens 35 = .ok (.ireturn, 1) := by decide +kernel
theorem dX6_section_0 : decode cX6_section 0 = .ok (.aload_n 0, 1) := by decide +kernel
theorem dX6_section_1 : decode cX6_section 1 = .ok (.getfield 12, 3) := by decide +kernel
theorem dX6_section_4 : decode cX6_section 4 = .ok (.iload_n 1, 1) := by decide +kernel
theorem dX6_section_5 : decode cX6_section 5 = .ok (.invokevirtual 42, 3) := by decide +kernel
theorem dX6_section_8 : decode cX6_section 8 = .ok (.astore_n 3, 1) := by decide +kernel
theorem dX6_section_9 : decode cX6_section 9 = .ok (.aload_n 3, 1) := by decide +kernel
theorem dX6_section_10 : decode cX6_section 10 = .ok (.ifnonnull 7, 3) := by decide +kernel
theorem dX6_section_13 : decode cX6_section 13 = .ok (.iconst (-1), 1) := by decide +kernel
theorem dX6_section_14 : decode cX6_section 14 = .ok (.goto 8, 3) := by decide +kernel
theorem dX6_section_17 : decode cX6_section 17 = .ok (.aload_n 3, 1) := by decide +kernel
theorem dX6_section_18 : decode cX6_section 18 = .ok (.iload_n 2, 1) := by decide +kernel
theorem dX6_section_19 : decode cX6_section 19 = .ok (.invokevirtual 66, 3) := by decide +kernel
theorem dX6_section_22 : decode cX6_section 22 = .ok (.ireturn, 1) := by decide +kernel
theorem dX6_block_0 : decode cX6_block 0 = .ok (.aload_n 0, 1) := by decide +kernel
theorem dX6_block_1 : decode cX6_block 1 = .ok (.getfield 12, 3) := by decide +kernel
theorem dX6_block_4 : decode cX6_block 4 = .ok (.iload_n 1, 1) := by decide +kernel
theorem dX6_block_5 : decode cX6_block 5 = .ok (.iload_n 2, 1) := by decide +kernel
theorem dX6_block_6 : decode cX6_block 6 = .ok (.invokevirtual 69, 3) := by decide +kernel
theorem dX6_block_9 : decode cX6_block 9 = .ok (.astore 4, 2) := by decide +kernel
theorem dX6_block_11 : decode cX6_block 11 = .ok (.aload 4, 2) := by decide +kernel
theorem dX6_block_13 : decode cX6_block 13 = .ok (.ifnonnull 7, 3) := by decide +kernel
theorem dX6_block_16 : decode cX6_block 16 = .ok (.iconst (-1), 1) := by decide +kernel
theorem dX6_block_17 : decode cX6_block 17 = .ok (.goto 9, 3) := by decide +kernel
theorem dX6_block_20 : decode cX6_block 20 = .ok (.aload 4, 2) := by decide +kernel
theorem dX6_block_22 : decode cX6_block 22 = .ok (.iload_n 3, 1) := by decide +kernel
theorem dX6_block_23 : decode cX6_block 23 = .ok (.invokevirtual 73, 3) := by decide +kernel
theorem dX6_block_26 : decode cX6_block 26 = .ok (.ireturn, 1) := by decide +kernel
theorem dX6_appear_0 : decode cX6_appear 0 = .ok (.iload_n 1, 1) := by decide +kernel
theorem dX6_appear_1 : decode cX6_appear 1 = .ok (.invokestatic 76, 3) := by decide +kernel
theorem dX6_appear_4 : decode cX6_appear 4 = .ok (.ifCond .eq 10, 3) := by decide +kernel
theorem dX6_appear_7 : decode cX6_appear 7 = .ok (.iload_n 2, 1) := by decide +kernel
theorem dX6_appear_8 : decode cX6_appear 8 = .ok (.invokestatic 55, 3) := by decide +kernel
theorem dX6_appear_11 : decode cX6_appear 11 = .ok (.ifCond .ne 6, 3) := by decide +kernel
theorem dX6_appear_14 : decode cX6_appear 14 = .ok (.bipush (-2), 2) := by decide +kernel
theorem dX6_appear_16 : decode cX6_appear 16 = .ok (.ireturn, 1) := by decide +kernel
theorem dX6_appear_17 : decode cX6_appear 17 = .ok (.aload_n 0, 1) := by decide +kernel
theorem dX6_appear_18 : decode cX6_appear 18 = .ok (.getfield 12, 3) := by decide +kernel
theorem dX6_appear_21 : decode cX6_appear 21 = .ok (.getfield 34, 3) := by decide +kernel
theorem dX6_appear_24 : decode cX6_appear 24 = .ok (.bipush 12, 2) := by decide +kernel
theorem dX6_appear_26 : decode cX6_appear 26 = .ok (.if_icmp .lt 6, 3) := by decide +kernel
theorem dX6_appear_29 : decode cX6_appear 29 = .ok (.bipush (-4), 2) := by decide +kernel
theorem dX6_appear_31 : decode cX6_appear 31 = .ok (.ireturn, 1) := by decide +kernel
theorem dX6_appear_32 : decode cX6_appear 32 = .ok (.aload_n 0, 1) := by decide +kernel
theorem dX6_appear_33 : decode cX6_appear 33 = .ok (.getfield 12, 3) := by decide +kernel
theorem dX6_appear_36 : decode cX6_appear 36 = .ok (.iload_n 1, 1) := by decide +kernel
theorem dX6_appear_37 : decode cX6_appear 37 = .ok (.iload_n 2, 1) := by decide +kernel
theorem dX6_appear_38 : decode cX6_appear 38 = .ok (.invokevirtual 79, 3) := by decide +kernel
theorem dX6_appear_41 : decode cX6_appear 41 = .ok (.ireturn, 1) := by decide +kernel
theorem dX6_train_0 : decode cX6_train 0 = .ok (.aload_n 0, 1) := by decide +kernel
theorem dX6_train_1 : decode cX6_train 1 = .ok (.getfield 12, 3) := by decide +kernel
theorem dX6_train_4 : decode cX6_train 4 = .ok (.iload_n 1, 1) := by decide +kernel
theorem dX6_train_5 : decode cX6_train 5 = .ok (.invokevirtual 83, 3) := by decide +kernel
theorem dX6_train_8 : decode cX6_train 8 = .ok (.astore_n 3, 1) := by decide +kernel
theorem dX6_train_9 : decode cX6_train 9 = .ok (.aload_n 3, 1) := by decide +kernel
theorem dX6_train_10 : decode cX6_train 10 = .ok (.ifnonnull 7, 3) := by decide +kernel
theorem dX6_train_13 : decode cX6_train 13 = .ok (.iconst (-1), 1) := by decide +kernel
theorem dX6_train_14 : decode cX6_train 14 = .ok (.goto 8, 3) := by decide +kernel
theorem dX6_train_17 : decode cX6_train 17 = .ok (.aload_n 3, 1) := by decide +kernel
theorem dX6_train_18 : decode cX6_train 18 = .ok (.iload_n 2, 1) := by decide +kernel
theorem dX6_train_19 : decode cX6_train 19 = .ok (.invokevirtual 87, 3) := by decide +kernel
theorem dX6_train_22 : decode cX6_train 22 = .ok (.ireturn, 1) := by decide +kernel
theorem dX6_shunt_0 : decode cX6_shunt 0 = .ok (.aload_n 0, 1) := by decide +kernel
theorem dX6_shunt_1 : decode cX6_shunt 1 = .ok (.getfield 12, 3) := by decide +kernel
theorem dX6_shunt_4 : decode cX6_shunt 4 = .ok (.iload_n 1, 1) := by decide +kernel
theorem dX6_shunt_5 : decode cX6_shunt 5 = .ok (.invokevirtual 83, 3) := by decide +kernel
theorem dX6_shunt_8 : decode cX6_shunt 8 = .ok (.astore_n 2, 1) := by decide +kernel
theorem dX6_shunt_9 : decode cX6_shunt 9 = .ok (.aload_n 2, 1) := by decide +kernel
theorem dX6_shunt_10 : decode cX6_shunt 10 = .ok (.ifnonnull 7, 3) := by decide +kernel
theorem dX6_shunt_13 : decode cX6_shunt 13 = .ok (.iconst (-1), 1) := by decide +kernel
theorem dX6_shunt_14 : decode cX6_shunt 14 = .ok (.goto 11, 3) := by decide +kernel
theorem dX6_shunt_17 : decode cX6_shunt 17 = .ok (.aload_n 0, 1) := by decide +kernel
theorem dX6_shunt_18 : decode cX6_shunt 18 = .ok (.getfield 12, 3) := by decide +kernel
theorem dX6_shunt_21 : decode cX6_shunt 21 = .ok (.aload_n 2, 1) := by decide +kernel
theorem dX6_shunt_22 : decode cX6_shunt 22 = .ok (.invokevirtual 90, 3) := by decide +kernel
theorem dX6_shunt_25 : decode cX6_shunt 25 = .ok (.ireturn, 1) := by decide +kernel
theorem dX6_leave_0 : decode cX6_leave 0 = .ok (.aload_n 0, 1) := by decide +kernel
theorem dX6_leave_1 : decode cX6_leave 1 = .ok (.getfield 12, 3) := by decide +kernel
theorem dX6_leave_4 : decode cX6_leave 4 = .ok (.iload_n 1, 1) := by decide +kernel
theorem dX6_leave_5 : decode cX6_leave 5 = .ok (.invokevirtual 83, 3) := by decide +kernel
theorem dX6_leave_8 : decode cX6_leave 8 = .ok (.astore_n 2, 1) := by decide +kernel
theorem dX6_leave_9 : decode cX6_leave 9 = .ok (.aload_n 2, 1) := by decide +kernel
theorem dX6_leave_10 : decode cX6_leave 10 = .ok (.ifnonnull 7, 3) := by decide +kernel
theorem dX6_leave_13 : decode cX6_leave 13 = .ok (.iconst (-1), 1) := by decide +kernel
theorem dX6_leave_14 : decode cX6_leave 14 = .ok (.goto 11, 3) := by decide +kernel
theorem dX6_leave_17 : decode cX6_leave 17 = .ok (.aload_n 0, 1) := by decide +kernel
theorem dX6_leave_18 : decode cX6_leave 18 = .ok (.getfield 12, 3) := by decide +kernel
theorem dX6_leave_21 : decode cX6_leave 21 = .ok (.aload_n 2, 1) := by decide +kernel
theorem dX6_leave_22 : decode cX6_leave 22 = .ok (.invokevirtual 94, 3) := by decide +kernel
theorem dX6_leave_25 : decode cX6_leave 25 = .ok (.ireturn, 1) := by decide +kernel
theorem dX6_divide_0 : decode cX6_divide 0 = .ok (.aload_n 0, 1) := by decide +kernel
theorem dX6_divide_1 : decode cX6_divide 1 = .ok (.getfield 12, 3) := by decide +kernel
theorem dX6_divide_4 : decode cX6_divide 4 = .ok (.iload_n 1, 1) := by decide +kernel
theorem dX6_divide_5 : decode cX6_divide 5 = .ok (.invokevirtual 83, 3) := by decide +kernel
theorem dX6_divide_8 : decode cX6_divide 8 = .ok (.astore_n 2, 1) := by decide +kernel
theorem dX6_divide_9 : decode cX6_divide 9 = .ok (.aload_n 2, 1) := by decide +kernel
theorem dX6_divide_10 : decode cX6_divide 10 = .ok (.ifnonnull 7, 3) := by decide +kernel
theorem dX6_divide_13 : decode cX6_divide 13 = .ok (.iconst (-1), 1) := by decide +kernel
theorem dX6_divide_14 : decode cX6_divide 14 = .ok (.goto 11, 3) := by decide +kernel
theorem dX6_divide_17 : decode cX6_divide 17 = .ok (.aload_n 0, 1) := by decide +kernel
theorem dX6_divide_18 : decode cX6_divide 18 = .ok (.getfield 12, 3) := by decide +kernel
theorem dX6_divide_21 : decode cX6_divide 21 = .ok (.aload_n 2, 1) := by decide +kernel
theorem dX6_divide_22 : decode cX6_divide 22 = .ok (.invokevirtual 97, 3) := by decide +kernel
theorem dX6_divide_25 : decode cX6_divide 25 = .ok (.ireturn, 1) := by decide +kernel
theorem dX6_offer_0 : decode cX6_offer 0 = .ok (.aload_n 0, 1) := by decide +kernel
theorem dX6_offer_1 : decode cX6_offer 1 = .ok (.getfield 12, 3) := by decide +kernel
theorem dX6_offer_4 : decode cX6_offer 4 = .ok (.iload_n 1, 1) := by decide +kernel
theorem dX6_offer_5 : decode cX6_offer 5 = .ok (.invokevirtual 83, 3) := by decide +kernel
theorem dX6_offer_8 : decode cX6_offer 8 = .ok (.astore_n 2, 1) := by decide +kernel
theorem dX6_offer_9 : decode cX6_offer 9 = .ok (.aload_n 2, 1) := by decide +kernel
theorem dX6_offer_10 : decode cX6_offer 10 = .ok (.ifnonnull 7, 3) := by decide +kernel
theorem dX6_offer_13 : decode cX6_offer 13 = .ok (.iconst (-1), 1) := by decide +kernel
theorem dX6_offer_14 : decode cX6_offer 14 = .ok (.goto 11, 3) := by decide +kernel
theorem dX6_offer_17 : decode cX6_offer 17 = .ok (.aload_n 0, 1) := by decide +kernel
theorem dX6_offer_18 : decode cX6_offer 18 = .ok (.getfield 12, 3) := by decide +kernel
theorem dX6_offer_21 : decode cX6_offer 21 = .ok (.aload_n 2, 1) := by decide +kernel
theorem dX6_offer_22 : decode cX6_offer 22 = .ok (.invokevirtual 100, 3) := by decide +kernel
theorem dX6_offer_25 : decode cX6_offer 25 = .ok (.ireturn, 1) := by decide +kernel
theorem dX6_answer_0 : decode cX6_answer 0 = .ok (.aload_n 0, 1) := by decide +kernel
theorem dX6_answer_1 : decode cX6_answer 1 = .ok (.getfield 12, 3) := by decide +kernel
theorem dX6_answer_4 : decode cX6_answer 4 = .ok (.iload_n 1, 1) := by decide +kernel
theorem dX6_answer_5 : decode cX6_answer 5 = .ok (.iload_n 2, 1) := by decide +kernel
theorem dX6_answer_6 : decode cX6_answer 6 = .ok (.invokevirtual 69, 3) := by decide +kernel
theorem dX6_answer_9 : decode cX6_answer 9 = .ok (.astore 4, 2) := by decide +kernel
theorem dX6_answer_11 : decode cX6_answer 11 = .ok (.aload 4, 2) := by decide +kernel
theorem dX6_answer_13 : decode cX6_answer 13 = .ok (.ifnonnull 5, 3) := by decide +kernel
theorem dX6_answer_16 : decode cX6_answer 16 = .ok (.iconst (-1), 1) := by decide +kernel
theorem dX6_answer_17 : decode cX6_answer 17 = .ok (.ireturn, 1) := by decide +kernel
theorem dX6_answer_18 : decode cX6_answer 18 = .ok (.iload_n 3, 1) := by decide +kernel
theorem dX6_answer_19 : decode cX6_answer 19 = .ok (.ifCond .eq 15, 3) := by decide +kernel
theorem dX6_answer_22 : decode cX6_answer 22 = .ok (.aload_n 0, 1) := by decide +kernel
theorem dX6_answer_23 : decode cX6_answer 23 = .ok (.getfield 12, 3) := by decide +kernel
theorem dX6_answer_26 : decode cX6_answer 26 = .ok (.aload 4, 2) := by decide +kernel
theorem dX6_answer_28 : decode cX6_answer 28 = .ok (.invokevirtual 103, 3) := by decide +kernel
theorem dX6_answer_31 : decode cX6_answer 31 = .ok (.goto 12, 3) := by decide +kernel
theorem dX6_answer_34 : decode cX6_answer 34 = .ok (.aload_n 0, 1) := by decide +kernel
theorem dX6_answer_35 : decode cX6_answer 35 = .ok (.getfield 12, 3) := by decide +kernel
theorem dX6_answer_38 : decode cX6_answer 38 = .ok (.aload 4, 2) := by decide +kernel
theorem dX6_answer_40 : decode cX6_answer 40 = .ok (.invokevirtual 107, 3) := by decide +kernel
theorem dX6_answer_43 : decode cX6_answer 43 = .ok (.ireturn, 1) := by decide +kernel
theorem dX6_cancel_0 : decode cX6_cancel 0 = .ok (.aload_n 0, 1) := by decide +kernel
theorem dX6_cancel_1 : decode cX6_cancel 1 = .ok (.getfield 12, 3) := by decide +kernel
theorem dX6_cancel_4 : decode cX6_cancel 4 = .ok (.iload_n 1, 1) := by decide +kernel
theorem dX6_cancel_5 : decode cX6_cancel 5 = .ok (.iload_n 2, 1) := by decide +kernel
theorem dX6_cancel_6 : decode cX6_cancel 6 = .ok (.invokevirtual 69, 3) := by decide +kernel
theorem dX6_cancel_9 : decode cX6_cancel 9 = .ok (.astore_n 3, 1) := by decide +kernel
theorem dX6_cancel_10 : decode cX6_cancel 10 = .ok (.aload_n 3, 1) := by decide +kernel
theorem dX6_cancel_11 : decode cX6_cancel 11 = .ok (.ifnonnull 7, 3) := by decide +kernel
theorem dX6_cancel_14 : decode cX6_cancel 14 = .ok (.iconst (-1), 1) := by decide +kernel
theorem dX6_cancel_15 : decode cX6_cancel 15 = .ok (.goto 11, 3) := by decide +kernel
theorem dX6_cancel_18 : decode cX6_cancel 18 = .ok (.aload_n 0, 1) := by decide +kernel
theorem dX6_cancel_19 : decode cX6_cancel 19 = .ok (.getfield 12, 3) := by decide +kernel
theorem dX6_cancel_22 : decode cX6_cancel 22 = .ok (.aload_n 3, 1) := by decide +kernel
theorem dX6_cancel_23 : decode cX6_cancel 23 = .ok (.invokevirtual 110, 3) := by decide +kernel
theorem dX6_cancel_26 : decode cX6_cancel 26 = .ok (.ireturn, 1) := by decide +kernel
theorem dX6_depart_0 : decode cX6_depart 0 = .ok (.aload_n 0, 1) := by decide +kernel
theorem dX6_depart_1 : decode cX6_depart 1 = .ok (.getfield 12, 3) := by decide +kernel
theorem dX6_depart_4 : decode cX6_depart 4 = .ok (.iload_n 1, 1) := by decide +kernel
theorem dX6_depart_5 : decode cX6_depart 5 = .ok (.invokevirtual 83, 3) := by decide +kernel
theorem dX6_depart_8 : decode cX6_depart 8 = .ok (.astore_n 2, 1) := by decide +kernel
theorem dX6_depart_9 : decode cX6_depart 9 = .ok (.aload_n 2, 1) := by decide +kernel
theorem dX6_depart_10 : decode cX6_depart 10 = .ok (.ifnonnull 7, 3) := by decide +kernel
theorem dX6_depart_13 : decode cX6_depart 13 = .ok (.iconst (-1), 1) := by decide +kernel
theorem dX6_depart_14 : decode cX6_depart 14 = .ok (.goto 11, 3) := by decide +kernel
theorem dX6_depart_17 : decode cX6_depart 17 = .ok (.aload_n 0, 1) := by decide +kernel
theorem dX6_depart_18 : decode cX6_depart 18 = .ok (.getfield 12, 3) := by decide +kernel
theorem dX6_depart_21 : decode cX6_depart 21 = .ok (.aload_n 2, 1) := by decide +kernel
theorem dX6_depart_22 : decode cX6_depart 22 = .ok (.invokevirtual 113, 3) := by decide +kernel
theorem dX6_depart_25 : decode cX6_depart 25 = .ok (.ireturn, 1) := by decide +kernel
theorem dX6_admit_0 : decode cX6_admit 0 = .ok (.aload_n 0, 1) := by decide +kernel
theorem dX6_admit_1 : decode cX6_admit 1 = .ok (.getfield 12, 3) := by decide +kernel
theorem dX6_admit_4 : decode cX6_admit 4 = .ok (.iload_n 1, 1) := by decide +kernel
theorem dX6_admit_5 : decode cX6_admit 5 = .ok (.iload_n 2, 1) := by decide +kernel
theorem dX6_admit_6 : decode cX6_admit 6 = .ok (.invokevirtual 69, 3) := by decide +kernel
theorem dX6_admit_9 : decode cX6_admit 9 = .ok (.astore_n 3, 1) := by decide +kernel
theorem dX6_admit_10 : decode cX6_admit 10 = .ok (.aload_n 3, 1) := by decide +kernel
theorem dX6_admit_11 : decode cX6_admit 11 = .ok (.ifnonnull 7, 3) := by decide +kernel
theorem dX6_admit_14 : decode cX6_admit 14 = .ok (.iconst (-1), 1) := by decide +kernel
theorem dX6_admit_15 : decode cX6_admit 15 = .ok (.goto 11, 3) := by decide +kernel
theorem dX6_admit_18 : decode cX6_admit 18 = .ok (.aload_n 0, 1) := by decide +kernel
theorem dX6_admit_19 : decode cX6_admit 19 = .ok (.getfield 12, 3) := by decide +kernel
theorem dX6_admit_22 : decode cX6_admit 22 = .ok (.aload_n 3, 1) := by decide +kernel
theorem dX6_admit_23 : decode cX6_admit 23 = .ok (.invokevirtual 116, 3) := by decide +kernel
theorem dX6_admit_26 : decode cX6_admit 26 = .ok (.ireturn, 1) := by decide +kernel
theorem dX6_out_0 : decode cX6_out 0 = .ok (.aload_n 0, 1) := by decide +kernel
theorem dX6_out_1 : decode cX6_out 1 = .ok (.getfield 12, 3) := by decide +kernel
theorem dX6_out_4 : decode cX6_out 4 = .ok (.iload_n 1, 1) := by decide +kernel
theorem dX6_out_5 : decode cX6_out 5 = .ok (.iload_n 2, 1) := by decide +kernel
theorem dX6_out_6 : decode cX6_out 6 = .ok (.invokevirtual 69, 3) := by decide +kernel
theorem dX6_out_9 : decode cX6_out 9 = .ok (.astore_n 3, 1) := by decide +kernel
theorem dX6_out_10 : decode cX6_out 10 = .ok (.aload_n 3, 1) := by decide +kernel
theorem dX6_out_11 : decode cX6_out 11 = .ok (.ifnonnull 7, 3) := by decide +kernel
theorem dX6_out_14 : decode cX6_out 14 = .ok (.iconst (-1), 1) := by decide +kernel
theorem dX6_out_15 : decode cX6_out 15 = .ok (.goto 11, 3) := by decide +kernel
theorem dX6_out_18 : decode cX6_out 18 = .ok (.aload_n 0, 1) := by decide +kernel
theorem dX6_out_19 : decode cX6_out 19 = .ok (.getfield 12, 3) := by decide +kernel
theorem dX6_out_22 : decode cX6_out 22 = .ok (.aload_n 3, 1) := by decide +kernel
theorem dX6_out_23 : decode cX6_out 23 = .ok (.invokevirtual 119, 3) := by decide +kernel
theorem dX6_out_26 : decode cX6_out 26 = .ok (.ireturn, 1) := by decide +kernel
theorem dX6_assist_0 : decode cX6_assist 0 = .ok (.aload_n 0, 1) := by decide +kernel
theorem dX6_assist_1 : decode cX6_assist 1 = .ok (.getfield 12, 3) := by decide +kernel
theorem dX6_assist_4 : decode cX6_assist 4 = .ok (.iload_n 1, 1) := by decide +kernel
theorem dX6_assist_5 : decode cX6_assist 5 = .ok (.iload_n 2, 1) := by decide +kernel
theorem dX6_assist_6 : decode cX6_assist 6 = .ok (.invokevirtual 69, 3) := by decide +kernel
theorem dX6_assist_9 : decode cX6_assist 9 = .ok (.astore_n 3, 1) := by decide +kernel
theorem dX6_assist_10 : decode cX6_assist 10 = .ok (.aload_n 3, 1) := by decide +kernel
theorem dX6_assist_11 : decode cX6_assist 11 = .ok (.ifnonnull 7, 3) := by decide +kernel
theorem dX6_assist_14 : decode cX6_assist 14 = .ok (.iconst (-1), 1) := by decide +kernel
theorem dX6_assist_15 : decode cX6_assist 15 = .ok (.goto 11, 3) := by decide +kernel
theorem dX6_assist_18 : decode cX6_assist 18 = .ok (.aload_n 0, 1) := by decide +kernel
theorem dX6_assist_19 : decode cX6_assist 19 = .ok (.getfield 12, 3) := by decide +kernel
theorem dX6_assist_22 : decode cX6_assist 22 = .ok (.aload_n 3, 1) := by decide +kernel
theorem dX6_assist_23 : decode cX6_assist 23 = .ok (.invokevirtual 122, 3) := by decide +kernel
theorem dX6_assist_26 : decode cX6_assist 26 = .ok (.ireturn, 1) := by decide +kernel
theorem dX6_obstruct_0 : decode cX6_obstruct 0 = .ok (.aload_n 0, 1) := by decide +kernel
theorem dX6_obstruct_1 : decode cX6_obstruct 1 = .ok (.getfield 12, 3) := by decide +kernel
theorem dX6_obstruct_4 : decode cX6_obstruct 4 = .ok (.iload_n 1, 1) := by decide +kernel
theorem dX6_obstruct_5 : decode cX6_obstruct 5 = .ok (.iload_n 2, 1) := by decide +kernel
theorem dX6_obstruct_6 : decode cX6_obstruct 6 = .ok (.invokevirtual 69, 3) := by decide +kernel
theorem dX6_obstruct_9 : decode cX6_obstruct 9 = .ok (.astore_n 3, 1) := by decide +kernel
theorem dX6_obstruct_10 : decode cX6_obstruct 10 = .ok (.aload_n 3, 1) := by decide +kernel
theorem dX6_obstruct_11 : decode cX6_obstruct 11 = .ok (.ifnonnull 7, 3) := by decide +kernel
theorem dX6_obstruct_14 : decode cX6_obstruct 14 = .ok (.iconst (-1), 1) := by decide +kernel
theorem dX6_obstruct_15 : decode cX6_obstruct 15 = .ok (.goto 11, 3) := by decide +kernel
theorem dX6_obstruct_18 : decode cX6_obstruct 18 = .ok (.aload_n 0, 1) := by decide +kernel
theorem dX6_obstruct_19 : decode cX6_obstruct 19 = .ok (.getfield 12, 3) := by decide +kernel
theorem dX6_obstruct_22 : decode cX6_obstruct 22 = .ok (.aload_n 3, 1) := by decide +kernel
theorem dX6_obstruct_23 : decode cX6_obstruct 23 = .ok (.invokevirtual 125, 3) := by decide +kernel
theorem dX6_obstruct_26 : decode cX6_obstruct 26 = .ok (.ireturn, 1) := by decide +kernel
theorem dX6_lift_0 : decode cX6_lift 0 = .ok (.aload_n 0, 1) := by decide +kernel
theorem dX6_lift_1 : decode cX6_lift 1 = .ok (.getfield 12, 3) := by decide +kernel
theorem dX6_lift_4 : decode cX6_lift 4 = .ok (.iload_n 1, 1) := by decide +kernel
theorem dX6_lift_5 : decode cX6_lift 5 = .ok (.iload_n 2, 1) := by decide +kernel
theorem dX6_lift_6 : decode cX6_lift 6 = .ok (.invokevirtual 69, 3) := by decide +kernel
theorem dX6_lift_9 : decode cX6_lift 9 = .ok (.astore_n 3, 1) := by decide +kernel
theorem dX6_lift_10 : decode cX6_lift 10 = .ok (.aload_n 3, 1) := by decide +kernel
theorem dX6_lift_11 : decode cX6_lift 11 = .ok (.ifnonnull 7, 3) := by decide +kernel
theorem dX6_lift_14 : decode cX6_lift 14 = .ok (.iconst (-1), 1) := by decide +kernel
theorem dX6_lift_15 : decode cX6_lift 15 = .ok (.goto 11, 3) := by decide +kernel
theorem dX6_lift_18 : decode cX6_lift 18 = .ok (.aload_n 0, 1) := by decide +kernel
theorem dX6_lift_19 : decode cX6_lift 19 = .ok (.getfield 12, 3) := by decide +kernel
theorem dX6_lift_22 : decode cX6_lift 22 = .ok (.aload_n 3, 1) := by decide +kernel
theorem dX6_lift_23 : decode cX6_lift 23 = .ok (.invokevirtual 128, 3) := by decide +kernel
theorem dX6_lift_26 : decode cX6_lift 26 = .ok (.ireturn, 1) := by decide +kernel
theorem dX6_pass_0 : decode cX6_pass 0 = .ok (.iload_n 1, 1) := by decide +kernel
theorem dX6_pass_1 : decode cX6_pass 1 = .ok (.iconst 1, 1) := by decide +kernel
theorem dX6_pass_2 : decode cX6_pass 2 = .ok (.if_icmp .lt 10, 3) := by decide +kernel
theorem dX6_pass_5 : decode cX6_pass 5 = .ok (.iload_n 1, 1) := by decide +kernel
theorem dX6_pass_6 : decode cX6_pass 6 = .ok (.sipush 1000, 3) := by decide +kernel
theorem dX6_pass_9 : decode cX6_pass 9 = .ok (.if_icmp .le 6, 3) := by decide +kernel
theorem dX6_pass_12 : decode cX6_pass 12 = .ok (.bipush (-2), 2) := by decide +kernel
theorem dX6_pass_14 : decode cX6_pass 14 = .ok (.ireturn, 1) := by decide +kernel
theorem dX6_pass_15 : decode cX6_pass 15 = .ok (.aload_n 0, 1) := by decide +kernel
theorem dX6_pass_16 : decode cX6_pass 16 = .ok (.getfield 12, 3) := by decide +kernel
theorem dX6_pass_19 : decode cX6_pass 19 = .ok (.getfield 131, 3) := by decide +kernel
theorem dX6_pass_22 : decode cX6_pass 22 = .ok (.iload_n 1, 1) := by decide +kernel
theorem dX6_pass_23 : decode cX6_pass 23 = .ok (.iadd, 1) := by decide +kernel
theorem dX6_pass_24 : decode cX6_pass 24 = .ok (.ldc 134, 2) := by decide +kernel
theorem dX6_pass_26 : decode cX6_pass 26 = .ok (.if_icmp .le 6, 3) := by decide +kernel
theorem dX6_pass_29 : decode cX6_pass 29 = .ok (.bipush (-5), 2) := by decide +kernel
theorem dX6_pass_31 : decode cX6_pass 31 = .ok (.ireturn, 1) := by decide +kernel
theorem dX6_pass_32 : decode cX6_pass 32 = .ok (.aload_n 0, 1) := by decide +kernel
theorem dX6_pass_33 : decode cX6_pass 33 = .ok (.getfield 12, 3) := by decide +kernel
theorem dX6_pass_36 : decode cX6_pass 36 = .ok (.iload_n 1, 1) := by decide +kernel
theorem dX6_pass_37 : decode cX6_pass 37 = .ok (.invokevirtual 135, 3) := by decide +kernel
theorem dX6_pass_40 : decode cX6_pass 40 = .ok (.aload_n 0, 1) := by decide +kernel
theorem dX6_pass_41 : decode cX6_pass 41 = .ok (.getfield 12, 3) := by decide +kernel
theorem dX6_pass_44 : decode cX6_pass 44 = .ok (.getfield 131, 3) := by decide +kernel
theorem dX6_pass_47 : decode cX6_pass 47 = .ok (.ireturn, 1) := by decide +kernel
theorem dX6_signal_0 : decode cX6_signal 0 = .ok (.iload_n 2, 1) := by decide +kernel
theorem dX6_signal_1 : decode cX6_signal 1 = .ok (.ifCond .lt 8, 3) := by decide +kernel
theorem dX6_signal_4 : decode cX6_signal 4 = .ok (.iload_n 2, 1) := by decide +kernel
theorem dX6_signal_5 : decode cX6_signal 5 = .ok (.iconst 5, 1) := by decide +kernel
theorem dX6_signal_6 : decode cX6_signal 6 = .ok (.if_icmp .lt 6, 3) := by decide +kernel
theorem dX6_signal_9 : decode cX6_signal 9 = .ok (.bipush (-2), 2) := by decide +kernel
theorem dX6_signal_11 : decode cX6_signal 11 = .ok (.ireturn, 1) := by decide +kernel
theorem dX6_signal_12 : decode cX6_signal 12 = .ok (.aload_n 0, 1) := by decide +kernel
theorem dX6_signal_13 : decode cX6_signal 13 = .ok (.getfield 12, 3) := by decide +kernel
theorem dX6_signal_16 : decode cX6_signal 16 = .ok (.getfield 139, 3) := by decide +kernel
theorem dX6_signal_19 : decode cX6_signal 19 = .ok (.iload_n 1, 1) := by decide +kernel
theorem dX6_signal_20 : decode cX6_signal 20 = .ok (.iload_n 2, 1) := by decide +kernel
theorem dX6_signal_21 : decode cX6_signal 21 = .ok (.invokevirtual 143, 3) := by decide +kernel
theorem dX6_signal_24 : decode cX6_signal 24 = .ok (.ireturn, 1) := by decide +kernel
theorem dX6_rung_0 : decode cX6_rung 0 = .ok (.iload_n 2, 1) := by decide +kernel
theorem dX6_rung_1 : decode cX6_rung 1 = .ok (.iconst (-1), 1) := by decide +kernel
theorem dX6_rung_2 : decode cX6_rung 2 = .ok (.if_icmp .eq 16, 3) := by decide +kernel
theorem dX6_rung_5 : decode cX6_rung 5 = .ok (.aload_n 0, 1) := by decide +kernel
theorem dX6_rung_6 : decode cX6_rung 6 = .ok (.getfield 12, 3) := by decide +kernel
theorem dX6_rung_9 : decode cX6_rung 9 = .ok (.iload_n 2, 1) := by decide +kernel
theorem dX6_rung_10 : decode cX6_rung 10 = .ok (.invokevirtual 42, 3) := by decide +kernel
theorem dX6_rung_13 : decode cX6_rung 13 = .ok (.ifnonnull 5, 3) := by decide +kernel
theorem dX6_rung_16 : decode cX6_rung 16 = .ok (.iconst (-1), 1) := by decide +kernel
theorem dX6_rung_17 : decode cX6_rung 17 = .ok (.ireturn, 1) := by decide +kernel
theorem dX6_rung_18 : decode cX6_rung 18 = .ok (.aload_n 0, 1) := by decide +kernel
theorem dX6_rung_19 : decode cX6_rung 19 = .ok (.getfield 12, 3) := by decide +kernel
theorem dX6_rung_22 : decode cX6_rung 22 = .ok (.getfield 139, 3) := by decide +kernel
theorem dX6_rung_25 : decode cX6_rung 25 = .ok (.iload_n 1, 1) := by decide +kernel
theorem dX6_rung_26 : decode cX6_rung 26 = .ok (.iload_n 2, 1) := by decide +kernel
theorem dX6_rung_27 : decode cX6_rung 27 = .ok (.invokevirtual 147, 3) := by decide +kernel
theorem dX6_rung_30 : decode cX6_rung 30 = .ok (.ireturn, 1) := by decide +kernel
theorem dX6_work_0 : decode cX6_work 0 = .ok (.iload_n 1, 1) := by decide +kernel
theorem dX6_work_1 : decode cX6_work 1 = .ok (.iconst 1, 1) := by decide +kernel
theorem dX6_work_2 : decode cX6_work 2 = .ok (.if_icmp .lt 10, 3) := by decide +kernel
theorem dX6_work_5 : decode cX6_work 5 = .ok (.iload_n 1, 1) := by decide +kernel
theorem dX6_work_6 : decode cX6_work 6 = .ok (.sipush 300, 3) := by decide +kernel
theorem dX6_work_9 : decode cX6_work 9 = .ok (.if_icmp .le 6, 3) := by decide +kernel
theorem dX6_work_12 : decode cX6_work 12 = .ok (.bipush (-2), 2) := by decide +kernel
theorem dX6_work_14 : decode cX6_work 14 = .ok (.ireturn, 1) := by decide +kernel
theorem dX6_work_15 : decode cX6_work 15 = .ok (.aload_n 0, 1) := by decide +kernel
theorem dX6_work_16 : decode cX6_work 16 = .ok (.getfield 12, 3) := by decide +kernel
theorem dX6_work_19 : decode cX6_work 19 = .ok (.getfield 131, 3) := by decide +kernel
theorem dX6_work_22 : decode cX6_work 22 = .ok (.iload_n 1, 1) := by decide +kernel
theorem dX6_work_23 : decode cX6_work 23 = .ok (.iadd, 1) := by decide +kernel
theorem dX6_work_24 : decode cX6_work 24 = .ok (.ldc 134, 2) := by decide +kernel
theorem dX6_work_26 : decode cX6_work 26 = .ok (.if_icmp .le 6, 3) := by decide +kernel
theorem dX6_work_29 : decode cX6_work 29 = .ok (.bipush (-5), 2) := by decide +kernel
theorem dX6_work_31 : decode cX6_work 31 = .ok (.ireturn, 1) := by decide +kernel
theorem dX6_work_32 : decode cX6_work 32 = .ok (.iconst 0, 1) := by decide +kernel
theorem dX6_work_33 : decode cX6_work 33 = .ok (.istore_n 2, 1) := by decide +kernel
theorem dX6_work_34 : decode cX6_work 34 = .ok (.iconst 0, 1) := by decide +kernel
theorem dX6_work_35 : decode cX6_work 35 = .ok (.istore_n 3, 1) := by decide +kernel
theorem dX6_work_36 : decode cX6_work 36 = .ok (.iload_n 3, 1) := by decide +kernel
theorem dX6_work_37 : decode cX6_work 37 = .ok (.iload_n 1, 1) := by decide +kernel
theorem dX6_work_38 : decode cX6_work 38 = .ok (.if_icmp .ge 19, 3) := by decide +kernel
theorem dX6_work_41 : decode cX6_work 41 = .ok (.iload_n 2, 1) := by decide +kernel
theorem dX6_work_42 : decode cX6_work 42 = .ok (.aload_n 0, 1) := by decide +kernel
theorem dX6_work_43 : decode cX6_work 43 = .ok (.getfield 12, 3) := by decide +kernel
theorem dX6_work_46 : decode cX6_work 46 = .ok (.invokevirtual 150, 3) := by decide +kernel
theorem dX6_work_49 : decode cX6_work 49 = .ok (.iadd, 1) := by decide +kernel
theorem dX6_work_50 : decode cX6_work 50 = .ok (.istore_n 2, 1) := by decide +kernel
theorem dX6_work_51 : decode cX6_work 51 = .ok (.iinc 3 1, 3) := by decide +kernel
theorem dX6_work_54 : decode cX6_work 54 = .ok (.goto (-18), 3) := by decide +kernel
theorem dX6_work_57 : decode cX6_work 57 = .ok (.iload_n 2, 1) := by decide +kernel
theorem dX6_work_58 : decode cX6_work 58 = .ok (.ireturn, 1) := by decide +kernel
theorem dX6_forecast_0 : decode cX6_forecast 0 = .ok (.aload_n 0, 1) := by decide +kernel
theorem dX6_forecast_1 : decode cX6_forecast 1 = .ok (.getfield 12, 3) := by decide +kernel
theorem dX6_forecast_4 : decode cX6_forecast 4 = .ok (.iload_n 1, 1) := by decide +kernel
theorem dX6_forecast_5 : decode cX6_forecast 5 = .ok (.invokevirtual 83, 3) := by decide +kernel
theorem dX6_forecast_8 : decode cX6_forecast 8 = .ok (.ifnonnull 5, 3) := by decide +kernel
theorem dX6_forecast_11 : decode cX6_forecast 11 = .ok (.iconst (-1), 1) := by decide +kernel
theorem dX6_forecast_12 : decode cX6_forecast 12 = .ok (.ireturn, 1) := by decide +kernel
theorem dX6_forecast_13 : decode cX6_forecast 13 = .ok (.iload_n 2, 1) := by decide +kernel
theorem dX6_forecast_14 : decode cX6_forecast 14 = .ok (.iconst 1, 1) := by decide +kernel
theorem dX6_forecast_15 : decode cX6_forecast 15 = .ok (.if_icmp .lt 10, 3) := by decide +kernel
theorem dX6_forecast_18 : decode cX6_forecast 18 = .ok (.iload_n 2, 1) := by decide +kernel
theorem dX6_forecast_19 : decode cX6_forecast 19 = .ok (.sipush 500, 3) := by decide +kernel
theorem dX6_forecast_22 : decode cX6_forecast 22 = .ok (.if_icmp .le 6, 3) := by decide +kernel
theorem dX6_forecast_25 : decode cX6_forecast 25 = .ok (.bipush (-2), 2) := by decide +kernel
theorem dX6_forecast_27 : decode cX6_forecast 27 = .ok (.ireturn, 1) := by decide +kernel
theorem dX6_forecast_28 : decode cX6_forecast 28 = .ok (.aload_n 0, 1) := by decide +kernel
theorem dX6_forecast_29 : decode cX6_forecast 29 = .ok (.getfield 16, 3) := by decide +kernel
theorem dX6_forecast_32 : decode cX6_forecast 32 = .ok (.aload_n 0, 1) := by decide +kernel
theorem dX6_forecast_33 : decode cX6_forecast 33 = .ok (.getfield 12, 3) := by decide +kernel
theorem dX6_forecast_36 : decode cX6_forecast 36 = .ok (.invokevirtual 154, 3) := by decide +kernel
theorem dX6_forecast_39 : decode cX6_forecast 39 = .ok (.iconst 0, 1) := by decide +kernel
theorem dX6_forecast_40 : decode cX6_forecast 40 = .ok (.istore_n 3, 1) := by decide +kernel
theorem dX6_forecast_41 : decode cX6_forecast 41 = .ok (.iload_n 3, 1) := by decide +kernel
theorem dX6_forecast_42 : decode cX6_forecast 42 = .ok (.iload_n 2, 1) := by decide +kernel
theorem dX6_forecast_43 : decode cX6_forecast 43 = .ok (.if_icmp .ge 30, 3) := by decide +kernel
theorem dX6_forecast_46 : decode cX6_forecast 46 = .ok (.aload_n 0, 1) := by decide +kernel
theorem dX6_forecast_47 : decode cX6_forecast 47 = .ok (.getfield 16, 3) := by decide +kernel
theorem dX6_forecast_50 : decode cX6_forecast 50 = .ok (.iload_n 1, 1) := by decide +kernel
theorem dX6_forecast_51 : decode cX6_forecast 51 = .ok (.invokevirtual 158, 3) := by decide +kernel
theorem dX6_forecast_54 : decode cX6_forecast 54 = .ok (.ifCond .eq 5, 3) := by decide +kernel
theorem dX6_forecast_57 : decode cX6_forecast 57 = .ok (.iload_n 3, 1) := by decide +kernel
theorem dX6_forecast_58 : decode cX6_forecast 58 = .ok (.ireturn, 1) := by decide +kernel
theorem dX6_forecast_59 : decode cX6_forecast 59 = .ok (.aload_n 0, 1) := by decide +kernel
theorem dX6_forecast_60 : decode cX6_forecast 60 = .ok (.getfield 16, 3) := by decide +kernel
theorem dX6_forecast_63 : decode cX6_forecast 63 = .ok (.invokevirtual 150, 3) := by decide +kernel
theorem dX6_forecast_66 : decode cX6_forecast 66 = .ok (.pop, 1) := by decide +kernel
theorem dX6_forecast_67 : decode cX6_forecast 67 = .ok (.iinc 3 1, 3) := by decide +kernel
theorem dX6_forecast_70 : decode cX6_forecast 70 = .ok (.goto (-29), 3) := by decide +kernel
theorem dX6_forecast_73 : decode cX6_forecast 73 = .ok (.aload_n 0, 1) := by decide +kernel
theorem dX6_forecast_74 : decode cX6_forecast 74 = .ok (.getfield 16, 3) := by decide +kernel
theorem dX6_forecast_77 : decode cX6_forecast 77 = .ok (.iload_n 1, 1) := by decide +kernel
theorem dX6_forecast_78 : decode cX6_forecast 78 = .ok (.invokevirtual 158, 3) := by decide +kernel
theorem dX6_forecast_81 : decode cX6_forecast 81 = .ok (.ifCond .eq 7, 3) := by decide +kernel
theorem dX6_forecast_84 : decode cX6_forecast 84 = .ok (.iload_n 2, 1) := by decide +kernel
theorem dX6_forecast_85 : decode cX6_forecast 85 = .ok (.goto 5, 3) := by decide +kernel
theorem dX6_forecast_88 : decode cX6_forecast 88 = .ok (.bipush (-6), 2) := by decide +kernel
theorem dX6_forecast_90 : decode cX6_forecast 90 = .ok (.ireturn, 1) := by decide +kernel
theorem dX6_capacity_0 : decode cX6_capacity 0 = .ok (.iload_n 1, 1) := by decide +kernel
theorem dX6_capacity_1 : decode cX6_capacity 1 = .ok (.invokestatic 76, 3) := by decide +kernel
theorem dX6_capacity_4 : decode cX6_capacity 4 = .ok (.ifCond .eq 22, 3) := by decide +kernel
theorem dX6_capacity_7 : decode cX6_capacity 7 = .ok (.iload_n 2, 1) := by decide +kernel
theorem dX6_capacity_8 : decode cX6_capacity 8 = .ok (.invokestatic 55, 3) := by decide +kernel
theorem dX6_capacity_11 : decode cX6_capacity 11 = .ok (.ifCond .eq 15, 3) := by decide +kernel
theorem dX6_capacity_14 : decode cX6_capacity 14 = .ok (.iload_n 3, 1) := by decide +kernel
theorem dX6_capacity_15 : decode cX6_capacity 15 = .ok (.iconst 1, 1) := by decide +kernel
theorem dX6_capacity_16 : decode cX6_capacity 16 = .ok (.if_icmp .lt 10, 3) := by decide +kernel
theorem dX6_capacity_19 : decode cX6_capacity 19 = .ok (.iload_n 3, 1) := by decide +kernel
theorem dX6_capacity_20 : decode cX6_capacity 20 = .ok (.sipush 300, 3) := by decide +kernel
theorem dX6_capacity_23 : decode cX6_capacity 23 = .ok (.if_icmp .le 6, 3) := by decide +kernel
theorem dX6_capacity_26 : decode cX6_capacity 26 = .ok (.bipush (-2), 2) := by decide +kernel
theorem dX6_capacity_28 : decode cX6_capacity 28 = .ok (.ireturn, 1) := by decide +kernel
theorem dX6_capacity_29 : decode cX6_capacity 29 = .ok (.aload_n 0, 1) := by decide +kernel
theorem dX6_capacity_30 : decode cX6_capacity 30 = .ok (.getfield 16, 3) := by decide +kernel
theorem dX6_capacity_33 : decode cX6_capacity 33 = .ok (.aload_n 0, 1) := by decide +kernel
theorem dX6_capacity_34 : decode cX6_capacity 34 = .ok (.getfield 12, 3) := by decide +kernel
theorem dX6_capacity_37 : decode cX6_capacity 37 = .ok (.invokevirtual 154, 3) := by decide +kernel
theorem dX6_capacity_40 : decode cX6_capacity 40 = .ok (.aload_n 0, 1) := by decide +kernel
theorem dX6_capacity_41 : decode cX6_capacity 41 = .ok (.getfield 16, 3) := by decide +kernel
theorem dX6_capacity_44 : decode cX6_capacity 44 = .ok (.invokevirtual 161, 3) := by decide +kernel
theorem dX6_capacity_47 : decode cX6_capacity 47 = .ok (.iconst 0, 1) := by decide +kernel
theorem dX6_capacity_48 : decode cX6_capacity 48 = .ok (.istore 4, 2) := by decide +kernel
theorem dX6_capacity_50 : decode cX6_capacity 50 = .ok (.iconst 0, 1) := by decide +kernel
theorem dX6_capacity_51 : decode cX6_capacity 51 = .ok (.istore 5, 2) := by decide +kernel
theorem dX6_capacity_53 : decode cX6_capacity 53 = .ok (.iload 5, 2) := by decide +kernel
theorem dX6_capacity_55 : decode cX6_capacity 55 = .ok (.iload_n 3, 1) := by decide +kernel
theorem dX6_capacity_56 : decode cX6_capacity 56 = .ok (.if_icmp .ge 30, 3) := by decide +kernel
theorem dX6_capacity_59 : decode cX6_capacity 59 = .ok (.aload_n 0, 1) := by decide +kernel
theorem dX6_capacity_60 : decode cX6_capacity 60 = .ok (.getfield 16, 3) := by decide +kernel
theorem dX6_capacity_63 : decode cX6_capacity 63 = .ok (.iload_n 1, 1) := by decide +kernel
theorem dX6_capacity_64 : decode cX6_capacity 64 = .ok (.iload_n 2, 1) := by decide +kernel
theorem dX6_capacity_65 : decode cX6_capacity 65 = .ok (.invokevirtual 164, 3) := by decide +kernel
theorem dX6_capacity_68 : decode cX6_capacity 68 = .ok (.iload 4, 2) := by decide +kernel
theorem dX6_capacity_70 : decode cX6_capacity 70 = .ok (.aload_n 0, 1) := by decide +kernel
theorem dX6_capacity_71 : decode cX6_capacity 71 = .ok (.getfield 16, 3) := by decide +kernel
theorem dX6_capacity_74 : decode cX6_capacity 74 = .ok (.invokevirtual 150, 3) := by decide +kernel
theorem dX6_capacity_77 : decode cX6_capacity 77 = .ok (.iadd, 1) := by decide +kernel
theorem dX6_capacity_78 : decode cX6_capacity 78 = .ok (.istore 4, 2) := by decide +kernel
theorem dX6_capacity_80 : decode cX6_capacity 80 = .ok (.iinc 5 1, 3) := by decide +kernel
theorem dX6_capacity_83 : decode cX6_capacity 83 = .ok (.goto (-30), 3) := by decide +kernel
theorem dX6_capacity_86 : decode cX6_capacity 86 = .ok (.iload 4, 2) := by decide +kernel
theorem dX6_capacity_88 : decode cX6_capacity 88 = .ok (.ireturn, 1) := by decide +kernel
theorem dX6_say_0 : decode cX6_say 0 = .ok (.iload_n 1, 1) := by decide +kernel
theorem dX6_say_1 : decode cX6_say 1 = .ok (.bipush 33, 2) := by decide +kernel
theorem dX6_say_3 : decode cX6_say 3 = .ok (.if_icmp .lt 9, 3) := by decide +kernel
theorem dX6_say_6 : decode cX6_say 6 = .ok (.iload_n 1, 1) := by decide +kernel
theorem dX6_say_7 : decode cX6_say 7 = .ok (.bipush 126, 2) := by decide +kernel
theorem dX6_say_9 : decode cX6_say 9 = .ok (.if_icmp .le 6, 3) := by decide +kernel
theorem dX6_say_12 : decode cX6_say 12 = .ok (.bipush (-2), 2) := by decide +kernel
theorem dX6_say_14 : decode cX6_say 14 = .ok (.ireturn, 1) := by decide +kernel
theorem dX6_say_15 : decode cX6_say 15 = .ok (.aload_n 0, 1) := by decide +kernel
theorem dX6_say_16 : decode cX6_say 16 = .ok (.getfield 30, 3) := by decide +kernel
theorem dX6_say_19 : decode cX6_say 19 = .ok (.iload_n 1, 1) := by decide +kernel
theorem dX6_say_20 : decode cX6_say 20 = .ok (.invokevirtual 167, 3) := by decide +kernel
theorem dX6_say_23 : decode cX6_say 23 = .ok (.ireturn, 1) := by decide +kernel
theorem dX6_wipe_0 : decode cX6_wipe 0 = .ok (.aload_n 0, 1) := by decide +kernel
theorem dX6_wipe_1 : decode cX6_wipe 1 = .ok (.getfield 30, 3) := by decide +kernel
theorem dX6_wipe_4 : decode cX6_wipe 4 = .ok (.invokevirtual 170, 3) := by decide +kernel
theorem dX6_wipe_7 : decode cX6_wipe 7 = .ok (.ireturn, 1) := by decide +kernel
theorem dX6_fault_0 : decode cX6_fault 0 = .ok (.aload_n 0, 1) := by decide +kernel
theorem dX6_fault_1 : decode cX6_fault 1 = .ok (.getfield 30, 3) := by decide +kernel
theorem dX6_fault_4 : decode cX6_fault 4 = .ok (.invokevirtual 173, 3) := by decide +kernel
theorem dX6_fault_7 : decode cX6_fault 7 = .ok (.ireturn, 1) := by decide +kernel
theorem dX6_carryOut_0 : decode cX6_carryOut 0 = .ok (.aload_n 0, 1) := by decide +kernel
theorem dX6_carryOut_1 : decode cX6_carryOut 1 = .ok (.getfield 30, 3) := by decide +kernel
theorem dX6_carryOut_4 : decode cX6_carryOut 4 = .ok (.invokevirtual 173, 3) := by decide +kernel
theorem dX6_carryOut_7 : decode cX6_carryOut 7 = .ok (.bipush (-6), 2) := by decide +kernel
theorem dX6_carryOut_9 : decode cX6_carryOut 9 = .ok (.if_icmp .eq 6, 3) := by decide +kernel
theorem dX6_carryOut_12 : decode cX6_carryOut 12 = .ok (.bipush (-3), 2) := by decide +kernel
theorem dX6_carryOut_14 : decode cX6_carryOut 14 = .ok (.ireturn, 1) := by decide +kernel
theorem dX6_carryOut_15 : decode cX6_carryOut 15 = .ok (.iconst 0, 1) := by decide +kernel
theorem dX6_carryOut_16 : decode cX6_carryOut 16 = .ok (.istore_n 1, 1) := by decide +kernel
theorem dX6_carryOut_17 : decode cX6_carryOut 17 = .ok (.aload_n 0, 1) := by decide +kernel
theorem dX6_carryOut_18 : decode cX6_carryOut 18 = .ok (.getfield 30, 3) := by decide +kernel
theorem dX6_carryOut_21 : decode cX6_carryOut 21 = .ok (.invokevirtual 176, 3) := by decide +kernel
theorem dX6_carryOut_24 : decode cX6_carryOut 24 = .ok (.iconst 0, 1) := by decide +kernel
theorem dX6_carryOut_25 : decode cX6_carryOut 25 = .ok (.istore_n 2, 1) := by decide +kernel
theorem dX6_carryOut_26 : decode cX6_carryOut 26 = .ok (.iload_n 2, 1) := by decide +kernel
theorem dX6_carryOut_27 : decode cX6_carryOut 27 = .ok (.bipush 60, 2) := by decide +kernel
theorem dX6_carryOut_29 : decode cX6_carryOut 29 = .ok (.if_icmp .ge 53, 3) := by decide +kernel
theorem dX6_carryOut_32 : decode cX6_carryOut 32 = .ok (.aload_n 0, 1) := by decide +kernel
theorem dX6_carryOut_33 : decode cX6_carryOut 33 = .ok (.getfield 30, 3) := by decide +kernel
theorem dX6_carryOut_36 : decode cX6_carryOut 36 = .ok (.invokevirtual 179, 3) := by decide +kernel
theorem dX6_carryOut_39 : decode cX6_carryOut 39 = .ok (.ifCond .eq 43, 3) := by decide +kernel
theorem dX6_carryOut_42 : decode cX6_carryOut 42 = .ok (.aload_n 0, 1) := by decide +kernel
theorem dX6_carryOut_43 : decode cX6_carryOut 43 = .ok (.aload_n 0, 1) := by decide +kernel
theorem dX6_carryOut_44 : decode cX6_carryOut 44 = .ok (.getfield 30, 3) := by decide +kernel
theorem dX6_carryOut_47 : decode cX6_carryOut 47 = .ok (.getfield 183, 3) := by decide +kernel
theorem dX6_carryOut_50 : decode cX6_carryOut 50 = .ok (.aload_n 0, 1) := by decide +kernel
theorem dX6_carryOut_51 : decode cX6_carryOut 51 = .ok (.getfield 30, 3) := by decide +kernel
theorem dX6_carryOut_54 : decode cX6_carryOut 54 = .ok (.getfield 186, 3) := by decide +kernel
theorem dX6_carryOut_57 : decode cX6_carryOut 57 = .ok (.aload_n 0, 1) := by decide +kernel
theorem dX6_carryOut_58 : decode cX6_carryOut 58 = .ok (.getfield 30, 3) := by decide +kernel
theorem dX6_carryOut_61 : decode cX6_carryOut 61 = .ok (.getfield 189, 3) := by decide +kernel
theorem dX6_carryOut_64 : decode cX6_carryOut 64 = .ok (.invokevirtual 192, 3) := by decide +kernel
theorem dX6_carryOut_67 : decode cX6_carryOut 67 = .ok (.ifCond .ge 6, 3) := by decide +kernel
theorem dX6_carryOut_70 : decode cX6_carryOut 70 = .ok (.goto 12, 3) := by decide +kernel
theorem dX6_carryOut_73 : decode cX6_carryOut 73 = .ok (.iinc 1 1, 3) := by decide +kernel
theorem dX6_carryOut_76 : decode cX6_carryOut 76 = .ok (.iinc 2 1, 3) := by decide +kernel
theorem dX6_carryOut_79 : decode cX6_carryOut 79 = .ok (.goto (-53), 3) := by decide +kernel
theorem dX6_carryOut_82 : decode cX6_carryOut 82 = .ok (.aload_n 0, 1) := by decide +kernel
theorem dX6_carryOut_83 : decode cX6_carryOut 83 = .ok (.getfield 30, 3) := by decide +kernel
theorem dX6_carryOut_86 : decode cX6_carryOut 86 = .ok (.invokevirtual 170, 3) := by decide +kernel
theorem dX6_carryOut_89 : decode cX6_carryOut 89 = .ok (.pop, 1) := by decide +kernel
theorem dX6_carryOut_90 : decode cX6_carryOut 90 = .ok (.iload_n 1, 1) := by decide +kernel
theorem dX6_carryOut_91 : decode cX6_carryOut 91 = .ok (.ireturn, 1) := by decide +kernel
theorem dX6_obey_0 : decode cX6_obey 0 = .ok (.iload_n 1, 1) := by decide +kernel
theorem dX6_obey_1 : decode cX6_obey 1 = .ok (.tableswitch 189 97 121 #[162, 189, 155, 121, 176, 189, 189, 189, 189, 189, 189, 133, 189, 147, 115, 189, 189, 189, 127, 183, 169, 189, 189, 189, 139], 115) := by decide +kernel
theorem dX6_obey_116 : decode cX6_obey 116 = .ok (.aload_n 0, 1) := by decide +kernel
theorem dX6_obey_117 : decode cX6_obey 117 = .ok (.iload_n 2, 1) := by decide +kernel
theorem dX6_obey_118 : decode cX6_obey 118 = .ok (.invokevirtual 195, 3) := by decide +kernel
theorem dX6_obey_121 : decode cX6_obey 121 = .ok (.ireturn, 1) := by decide +kernel
theorem dX6_obey_122 : decode cX6_obey 122 = .ok (.aload_n 0, 1) := by decide +kernel
theorem dX6_obey_123 : decode cX6_obey 123 = .ok (.iload_n 2, 1) := by decide +kernel
theorem dX6_obey_124 : decode cX6_obey 124 = .ok (.invokevirtual 198, 3) := by decide +kernel
theorem dX6_obey_127 : decode cX6_obey 127 = .ok (.ireturn, 1) := by decide +kernel
theorem dX6_obey_128 : decode cX6_obey 128 = .ok (.aload_n 0, 1) := by decide +kernel
theorem dX6_obey_129 : decode cX6_obey 129 = .ok (.iload_n 2, 1) := by decide +kernel
theorem dX6_obey_130 : decode cX6_obey 130 = .ok (.invokevirtual 201, 3) := by decide +kernel
theorem dX6_obey_133 : decode cX6_obey 133 = .ok (.ireturn, 1) := by decide +kernel
theorem dX6_obey_134 : decode cX6_obey 134 = .ok (.aload_n 0, 1) := by decide +kernel
theorem dX6_obey_135 : decode cX6_obey 135 = .ok (.iload_n 2, 1) := by decide +kernel
theorem dX6_obey_136 : decode cX6_obey 136 = .ok (.invokevirtual 204, 3) := by decide +kernel
theorem dX6_obey_139 : decode cX6_obey 139 = .ok (.ireturn, 1) := by decide +kernel
theorem dX6_obey_140 : decode cX6_obey 140 = .ok (.aload_n 0, 1) := by decide +kernel
theorem dX6_obey_141 : decode cX6_obey 141 = .ok (.iload_n 2, 1) := by decide +kernel
theorem dX6_obey_142 : decode cX6_obey 142 = .ok (.iload_n 3, 1) := by decide +kernel
theorem dX6_obey_143 : decode cX6_obey 143 = .ok (.iconst 1, 1) := by decide +kernel
theorem dX6_obey_144 : decode cX6_obey 144 = .ok (.invokevirtual 207, 3) := by decide +kernel
theorem dX6_obey_147 : decode cX6_obey 147 = .ok (.ireturn, 1) := by decide +kernel
theorem dX6_obey_148 : decode cX6_obey 148 = .ok (.aload_n 0, 1) := by decide +kernel
theorem dX6_obey_149 : decode cX6_obey 149 = .ok (.iload_n 2, 1) := by decide +kernel
theorem dX6_obey_150 : decode cX6_obey 150 = .ok (.iload_n 3, 1) := by decide +kernel
theorem dX6_obey_151 : decode cX6_obey 151 = .ok (.iconst 0, 1) := by decide +kernel
theorem dX6_obey_152 : decode cX6_obey 152 = .ok (.invokevirtual 207, 3) := by decide +kernel
theorem dX6_obey_155 : decode cX6_obey 155 = .ok (.ireturn, 1) := by decide +kernel
theorem dX6_obey_156 : decode cX6_obey 156 = .ok (.aload_n 0, 1) := by decide +kernel
theorem dX6_obey_157 : decode cX6_obey 157 = .ok (.iload_n 2, 1) := by decide +kernel
theorem dX6_obey_158 : decode cX6_obey 158 = .ok (.iload_n 3, 1) := by decide +kernel
theorem dX6_obey_159 : decode cX6_obey 159 = .ok (.invokevirtual 211, 3) := by decide +kernel
theorem dX6_obey_162 : decode cX6_obey 162 = .ok (.ireturn, 1) := by decide +kernel
theorem dX6_obey_163 : decode cX6_obey 163 = .ok (.aload_n 0, 1) := by decide +kernel
theorem dX6_obey_164 : decode cX6_obey 164 = .ok (.iload_n 2, 1) := by decide +kernel
theorem dX6_obey_165 : decode cX6_obey 165 = .ok (.iload_n 3, 1) := by decide +kernel
theorem dX6_obey_166 : decode cX6_obey 166 = .ok (.invokevirtual 214, 3) := by decide +kernel
theorem dX6_obey_169 : decode cX6_obey 169 = .ok (.ireturn, 1) := by decide +kernel
theorem dX6_obey_170 : decode cX6_obey 170 = .ok (.aload_n 0, 1) := by decide +kernel
theorem dX6_obey_171 : decode cX6_obey 171 = .ok (.iload_n 2, 1) := by decide +kernel
theorem dX6_obey_172 : decode cX6_obey 172 = .ok (.iload_n 3, 1) := by decide +kernel
theorem dX6_obey_173 : decode cX6_obey 173 = .ok (.invokevirtual 217, 3) := by decide +kernel
theorem dX6_obey_176 : decode cX6_obey 176 = .ok (.ireturn, 1) := by decide +kernel
theorem dX6_obey_177 : decode cX6_obey 177 = .ok (.aload_n 0, 1) := by decide +kernel
theorem dX6_obey_178 : decode cX6_obey 178 = .ok (.iload_n 2, 1) := by decide +kernel
theorem dX6_obey_179 : decode cX6_obey 179 = .ok (.iload_n 3, 1) := by decide +kernel
theorem dX6_obey_180 : decode cX6_obey 180 = .ok (.invokevirtual 220, 3) := by decide +kernel
theorem dX6_obey_183 : decode cX6_obey 183 = .ok (.ireturn, 1) := by decide +kernel
theorem dX6_obey_184 : decode cX6_obey 184 = .ok (.aload_n 0, 1) := by decide +kernel
theorem dX6_obey_185 : decode cX6_obey 185 = .ok (.iload_n 2, 1) := by decide +kernel
theorem dX6_obey_186 : decode cX6_obey 186 = .ok (.invokevirtual 223, 3) := by decide +kernel
theorem dX6_obey_189 : decode cX6_obey 189 = .ok (.ireturn, 1) := by decide +kernel
theorem dX6_obey_190 : decode cX6_obey 190 = .ok (.bipush (-3), 2) := by decide +kernel
theorem dX6_obey_192 : decode cX6_obey 192 = .ok (.ireturn, 1) := by decide +kernel
theorem dX6_count_0 : decode cX6_count 0 = .ok (.iload_n 1, 1) := by decide +kernel
theorem dX6_count_1 : decode cX6_count 1 = .ok (.tableswitch 147 0 9 #[55, 63, 71, 80, 89, 100, 110, 118, 126, 136], 55) := by decide +kernel
theorem dX6_count_56 : decode cX6_count 56 = .ok (.aload_n 0, 1) := by decide +kernel
theorem dX6_count_57 : decode cX6_count 57 = .ok (.getfield 12, 3) := by decide +kernel
theorem dX6_count_60 : decode cX6_count 60 = .ok (.getfield 131, 3) := by decide +kernel
theorem dX6_count_63 : decode cX6_count 63 = .ok (.ireturn, 1) := by decide +kernel
theorem dX6_count_64 : decode cX6_count 64 = .ok (.aload_n 0, 1) := by decide +kernel
theorem dX6_count_65 : decode cX6_count 65 = .ok (.getfield 12, 3) := by decide +kernel
theorem dX6_count_68 : decode cX6_count 68 = .ok (.getfield 34, 3) := by decide +kernel
theorem dX6_count_71 : decode cX6_count 71 = .ok (.ireturn, 1) := by decide +kernel
theorem dX6_count_72 : decode cX6_count 72 = .ok (.aload_n 0, 1) := by decide +kernel
theorem dX6_count_73 : decode cX6_count 73 = .ok (.getfield 12, 3) := by decide +kernel
theorem dX6_count_76 : decode cX6_count 76 = .ok (.iconst 3, 1) := by decide +kernel
theorem dX6_count_77 : decode cX6_count 77 = .ok (.invokevirtual 226, 3) := by decide +kernel
theorem dX6_count_80 : decode cX6_count 80 = .ok (.ireturn, 1) := by decide +kernel
theorem dX6_count_81 : decode cX6_count 81 = .ok (.aload_n 0, 1) := by decide +kernel
theorem dX6_count_82 : decode cX6_count 82 = .ok (.getfield 12, 3) := by decide +kernel
theorem dX6_count_85 : decode cX6_count 85 = .ok (.iconst 2, 1) := by decide +kernel
theorem dX6_count_86 : decode cX6_count 86 = .ok (.invokevirtual 226, 3) := by decide +kernel
theorem dX6_count_89 : decode cX6_count 89 = .ok (.ireturn, 1) := by decide +kernel
theorem dX6_count_90 : decode cX6_count 90 = .ok (.aload_n 0, 1) := by decide +kernel
theorem dX6_count_91 : decode cX6_count 91 = .ok (.getfield 12, 3) := by decide +kernel
theorem dX6_count_94 : decode cX6_count 94 = .ok (.getfield 139, 3) := by decide +kernel
theorem dX6_count_97 : decode cX6_count 97 = .ok (.getfield 229, 3) := by decide +kernel
theorem dX6_count_100 : decode cX6_count 100 = .ok (.ireturn, 1) := by decide +kernel
theorem dX6_count_101 : decode cX6_count 101 = .ok (.aload_n 0, 1) := by decide +kernel
theorem dX6_count_102 : decode cX6_count 102 = .ok (.getfield 12, 3) := by decide +kernel
theorem dX6_count_105 : decode cX6_count 105 = .ok (.iconst 0, 1) := by decide +kernel
theorem dX6_count_106 : decode cX6_count 106 = .ok (.iconst 0, 1) := by decide +kernel
theorem dX6_count_107 : decode cX6_count 107 = .ok (.invokevirtual 232, 3) := by decide +kernel
theorem dX6_count_110 : decode cX6_count 110 = .ok (.ireturn, 1) := by decide +kernel
theorem dX6_count_111 : decode cX6_count 111 = .ok (.aload_n 0, 1) := by decide +kernel
theorem dX6_count_112 : decode cX6_count 112 = .ok (.getfield 12, 3) := by decide +kernel
theorem dX6_count_115 : decode cX6_count 115 = .ok (.getfield 235, 3) := by decide +kernel
theorem dX6_count_118 : decode cX6_count 118 = .ok (.ireturn, 1) := by decide +kernel
theorem dX6_count_119 : decode cX6_count 119 = .ok (.aload_n 0, 1) := by decide +kernel
theorem dX6_count_120 : decode cX6_count 120 = .ok (.getfield 30, 3) := by decide +kernel
theorem dX6_count_123 : decode cX6_count 123 = .ok (.getfield 238, 3) := by decide +kernel
theorem dX6_count_126 : decode cX6_count 126 = .ok (.ireturn, 1) := by decide +kernel
theorem dX6_count_127 : decode cX6_count 127 = .ok (.aload_n 0, 1) := by decide +kernel
theorem dX6_count_128 : decode cX6_count 128 = .ok (.getfield 12, 3) := by decide +kernel
theorem dX6_count_131 : decode cX6_count 131 = .ok (.iconst 3, 1) := by decide +kernel
theorem dX6_count_132 : decode cX6_count 132 = .ok (.iconst 0, 1) := by decide +kernel
theorem dX6_count_133 : decode cX6_count 133 = .ok (.invokevirtual 232, 3) := by decide +kernel
theorem dX6_count_136 : decode cX6_count 136 = .ok (.ireturn, 1) := by decide +kernel
theorem dX6_count_137 : decode cX6_count 137 = .ok (.aload_n 0, 1) := by decide +kernel
theorem dX6_count_138 : decode cX6_count 138 = .ok (.getfield 12, 3) := by decide +kernel
theorem dX6_count_141 : decode cX6_count 141 = .ok (.iconst 1, 1) := by decide +kernel
theorem dX6_count_142 : decode cX6_count 142 = .ok (.bipush (-6), 2) := by decide +kernel
theorem dX6_count_144 : decode cX6_count 144 = .ok (.invokevirtual 232, 3) := by decide +kernel
theorem dX6_count_147 : decode cX6_count 147 = .ok (.ireturn, 1) := by decide +kernel
theorem dX6_count_148 : decode cX6_count 148 = .ok (.bipush (-2), 2) := by decide +kernel
theorem dX6_count_150 : decode cX6_count 150 = .ok (.ireturn, 1) := by decide +kernel
theorem dX6_save_0 : decode cX6_save 0 = .ok (.iload_n 1, 1) := by decide +kernel
theorem dX6_save_1 : decode cX6_save 1 = .ok (.ifCond .lt 8, 3) := by decide +kernel
theorem dX6_save_4 : decode cX6_save 4 = .ok (.iload_n 1, 1) := by decide +kernel
theorem dX6_save_5 : decode cX6_save 5 = .ok (.iconst 2, 1) := by decide +kernel
theorem dX6_save_6 : decode cX6_save 6 = .ok (.if_icmp .lt 6, 3) := by decide +kernel
theorem dX6_save_9 : decode cX6_save 9 = .ok (.bipush (-2), 2) := by decide +kernel
theorem dX6_save_11 : decode cX6_save 11 = .ok (.ireturn, 1) := by decide +kernel
theorem dX6_save_12 : decode cX6_save 12 = .ok (.aload_n 0, 1) := by decide +kernel
theorem dX6_save_13 : decode cX6_save 13 = .ok (.getfield 19, 3) := by decide +kernel
theorem dX6_save_16 : decode cX6_save 16 = .ok (.iload_n 1, 1) := by decide +kernel
theorem dX6_save_17 : decode cX6_save 17 = .ok (.aaload, 1) := by decide +kernel
theorem dX6_save_18 : decode cX6_save 18 = .ok (.aload_n 0, 1) := by decide +kernel
theorem dX6_save_19 : decode cX6_save 19 = .ok (.getfield 12, 3) := by decide +kernel
theorem dX6_save_22 : decode cX6_save 22 = .ok (.invokevirtual 154, 3) := by decide +kernel
theorem dX6_save_25 : decode cX6_save 25 = .ok (.aload_n 0, 1) := by decide +kernel
theorem dX6_save_26 : decode cX6_save 26 = .ok (.getfield 23, 3) := by decide +kernel
theorem dX6_save_29 : decode cX6_save 29 = .ok (.iload_n 1, 1) := by decide +kernel
theorem dX6_save_30 : decode cX6_save 30 = .ok (.iconst 1, 1) := by decide +kernel
theorem dX6_save_31 : decode cX6_save 31 = .ok (.bastore, 1) := by decide +kernel
theorem dX6_save_32 : decode cX6_save 32 = .ok (.aload_n 0, 1) := by decide +kernel
theorem dX6_save_33 : decode cX6_save 33 = .ok (.getfield 12, 3) := by decide +kernel
theorem dX6_save_36 : decode cX6_save 36 = .ok (.getfield 131, 3) := by decide +kernel
theorem dX6_save_39 : decode cX6_save 39 = .ok (.ireturn, 1) := by decide +kernel
theorem dX6_restore_0 : decode cX6_restore 0 = .ok (.iload_n 1, 1) := by decide +kernel
theorem dX6_restore_1 : decode cX6_restore 1 = .ok (.ifCond .lt 8, 3) := by decide +kernel
theorem dX6_restore_4 : decode cX6_restore 4 = .ok (.iload_n 1, 1) := by decide +kernel
theorem dX6_restore_5 : decode cX6_restore 5 = .ok (.iconst 2, 1) := by decide +kernel
theorem dX6_restore_6 : decode cX6_restore 6 = .ok (.if_icmp .lt 6, 3) := by decide +kernel
theorem dX6_restore_9 : decode cX6_restore 9 = .ok (.bipush (-2), 2) := by decide +kernel
theorem dX6_restore_11 : decode cX6_restore 11 = .ok (.ireturn, 1) := by decide +kernel
theorem dX6_restore_12 : decode cX6_restore 12 = .ok (.aload_n 0, 1) := by decide +kernel
theorem dX6_restore_13 : decode cX6_restore 13 = .ok (.getfield 23, 3) := by decide +kernel
theorem dX6_restore_16 : decode cX6_restore 16 = .ok (.iload_n 1, 1) := by decide +kernel
theorem dX6_restore_17 : decode cX6_restore 17 = .ok (.baload, 1) := by decide +kernel
theorem dX6_restore_18 : decode cX6_restore 18 = .ok (.ifCond .ne 6, 3) := by decide +kernel
theorem dX6_restore_21 : decode cX6_restore 21 = .ok (.bipush (-5), 2) := by decide +kernel
theorem dX6_restore_23 : decode cX6_restore 23 = .ok (.ireturn, 1) := by decide +kernel
theorem dX6_restore_24 : decode cX6_restore 24 = .ok (.aload_n 0, 1) := by decide +kernel
theorem dX6_restore_25 : decode cX6_restore 25 = .ok (.getfield 12, 3) := by decide +kernel
theorem dX6_restore_28 : decode cX6_restore 28 = .ok (.aload_n 0, 1) := by decide +kernel
theorem dX6_restore_29 : decode cX6_restore 29 = .ok (.getfield 19, 3) := by decide +kernel
theorem dX6_restore_32 : decode cX6_restore 32 = .ok (.iload_n 1, 1) := by decide +kernel
theorem dX6_restore_33 : decode cX6_restore 33 = .ok (.aaload, 1) := by decide +kernel
theorem dX6_restore_34 : decode cX6_restore 34 = .ok (.invokevirtual 154, 3) := by decide +kernel
theorem dX6_restore_37 : decode cX6_restore 37 = .ok (.aload_n 0, 1) := by decide +kernel
theorem dX6_restore_38 : decode cX6_restore 38 = .ok (.getfield 12, 3) := by decide +kernel
theorem dX6_restore_41 : decode cX6_restore 41 = .ok (.getfield 131, 3) := by decide +kernel
theorem dX6_restore_44 : decode cX6_restore 44 = .ok (.ireturn, 1) := by decide +kernel
theorem dX6_isDirection_0 : decode cX6_isDirection 0 = .ok (.iload_n 0, 1) := by decide +kernel
theorem dX6_isDirection_1 : decode cX6_isDirection 1 = .ok (.ifCond .eq 8, 3) := by decide +kernel
theorem dX6_isDirection_4 : decode cX6_isDirection 4 = .ok (.iload_n 0, 1) := by decide +kernel
theorem dX6_isDirection_5 : decode cX6_isDirection 5 = .ok (.iconst 1, 1) := by decide +kernel
theorem dX6_isDirection_6 : decode cX6_isDirection 6 = .ok (.if_icmp .ne 7, 3) := by decide +kernel
theorem dX6_isDirection_9 : decode cX6_isDirection 9 = .ok (.iconst 1, 1) := by decide +kernel
theorem dX6_isDirection_10 : decode cX6_isDirection 10 = .ok (.goto 4, 3) := by decide +kernel
theorem dX6_isDirection_13 : decode cX6_isDirection 13 = .ok (.iconst 0, 1) := by decide +kernel
theorem dX6_isDirection_14 : decode cX6_isDirection 14 = .ok (.ireturn, 1) := by decide +kernel
theorem dX6_isKind_0 : decode cX6_isKind 0 = .ok (.iload_n 0, 1) := by decide +kernel
theorem dX6_isKind_1 : decode cX6_isKind 1 = .ok (.iconst 1, 1) := by decide +kernel
theorem dX6_isKind_2 : decode cX6_isKind 2 = .ok (.if_icmp .lt 12, 3) := by decide +kernel
theorem dX6_isKind_5 : decode cX6_isKind 5 = .ok (.iload_n 0, 1) := by decide +kernel
theorem dX6_isKind_6 : decode cX6_isKind 6 = .ok (.iconst 5, 1) := by decide +kernel
theorem dX6_isKind_7 : decode cX6_isKind 7 = .ok (.if_icmp .gt 7, 3) := by decide +kernel
theorem dX6_isKind_10 : decode cX6_isKind 10 = .ok (.iconst 1, 1) := by decide +kernel
theorem dX6_isKind_11 : decode cX6_isKind 11 = .ok (.goto 4, 3) := by decide +kernel
theorem dX6_isKind_14 : decode cX6_isKind 14 = .ok (.iconst 0, 1) := by decide +kernel
theorem dX6_isKind_15 : decode cX6_isKind 15 = .ok (.ireturn, 1) := by decide +kernel
theorem dX6_offerCode_0 : decode cX6_offerCode 0 = .ok (.iload_n 0, 1) := by decide +kernel
theorem dX6_offerCode_1 : decode cX6_offerCode 1 = .ok (.tableswitch 41 1 4 #[31, 33, 36, 38], 31) := by decide +kernel
theorem dX6_offerCode_32 : decode cX6_offerCode 32 = .ok (.iconst 4, 1) := by decide +kernel
theorem dX6_offerCode_33 : decode cX6_offerCode 33 = .ok (.ireturn, 1) := by decide +kernel
theorem dX6_offerCode_34 : decode cX6_offerCode 34 = .ok (.bipush 31, 2) := by decide +kernel
theorem dX6_offerCode_36 : decode cX6_offerCode 36 = .ok (.ireturn, 1) := by decide +kernel
theorem dX6_offerCode_37 : decode cX6_offerCode 37 = .ok (.iconst 5, 1) := by decide +kernel
theorem dX6_offerCode_38 : decode cX6_offerCode 38 = .ok (.ireturn, 1) := by decide +kernel
theorem dX6_offerCode_39 : decode cX6_offerCode 39 = .ok (.bipush 32, 2) := by decide +kernel
theorem dX6_offerCode_41 : decode cX6_offerCode 41 = .ok (.ireturn, 1) := by decide +kernel
theorem dX6_offerCode_42 : decode cX6_offerCode 42 = .ok (.bipush 41, 2) := by decide +kernel
theorem dX6_offerCode_44 : decode cX6_offerCode 44 = .ok (.ireturn, 1) := by decide +kernel
theorem dX7_init_0 : decode cX7_init 0 = .ok (.aload_n 0, 1) := by decide +kernel
theorem dX7_init_1 : decode cX7_init 1 = .ok (.invokespecial 1, 3) := by decide +kernel
theorem dX7_init_4 : decode cX7_init 4 = .ok (.aload_n 0, 1) := by decide +kernel
theorem dX7_init_5 : decode cX7_init 5 = .ok (.sipush 2862, 3) := by decide +kernel
theorem dX7_init_8 : decode cX7_init 8 = .ok (.newarray .int, 2) := by decide +kernel
theorem dX7_init_10 : decode cX7_init 10 = .ok (.putfield 7, 3) := by decide +kernel
theorem dX7_init_13 : decode cX7_init 13 = .ok (.aload_n 0, 1) := by decide +kernel
theorem dX7_init_14 : decode cX7_init 14 = .ok (.sipush 2862, 3) := by decide +kernel
theorem dX7_init_17 : decode cX7_init 17 = .ok (.newarray .int, 2) := by decide +kernel
theorem dX7_init_19 : decode cX7_init 19 = .ok (.putfield 13, 3) := by decide +kernel
theorem dX7_init_22 : decode cX7_init 22 = .ok (.aload_n 0, 1) := by decide +kernel
theorem dX7_init_23 : decode cX7_init 23 = .ok (.sipush 5724, 3) := by decide +kernel
theorem dX7_init_26 : decode cX7_init 26 = .ok (.newarray .int, 2) := by decide +kernel
theorem dX7_init_28 : decode cX7_init 28 = .ok (.putfield 16, 3) := by decide +kernel
theorem dX7_init_31 : decode cX7_init 31 = .ok (.aload_n 0, 1) := by decide +kernel
theorem dX7_init_32 : decode cX7_init 32 = .ok (.iconst 2, 1) := by decide +kernel
theorem dX7_init_33 : decode cX7_init 33 = .ok (.newarray .boolean, 2) := by decide +kernel
theorem dX7_init_35 : decode cX7_init 35 = .ok (.putfield 19, 3) := by decide +kernel
theorem dX7_init_38 : decode cX7_init 38 = .ok (.aload_n 0, 1) := by decide +kernel
theorem dX7_init_39 : decode cX7_init 39 = .ok (.bipush 60, 2) := by decide +kernel
theorem dX7_init_41 : decode cX7_init 41 = .ok (.newarray .int, 2) := by decide +kernel
theorem dX7_init_43 : decode cX7_init 43 = .ok (.putfield 23, 3) := by decide +kernel
theorem dX7_init_46 : decode cX7_init 46 = .ok (.aload_n 0, 1) := by decide +kernel
theorem dX7_init_47 : decode cX7_init 47 = .ok (.sipush 180, 3) := by decide +kernel
theorem dX7_init_50 : decode cX7_init 50 = .ok (.newarray .int, 2) := by decide +kernel
theorem dX7_init_52 : decode cX7_init 52 = .ok (.putfield 26, 3) := by decide +kernel
theorem dX7_init_55 : decode cX7_init 55 = .ok (.aload_n 0, 1) := by decide +kernel
theorem dX7_init_56 : decode cX7_init 56 = .ok (.iconst 4, 1) := by decide +kernel
theorem dX7_init_57 : decode cX7_init 57 = .ok (.iconst 0, 1) := by decide +kernel
theorem dX7_init_58 : decode cX7_init 58 = .ok (.invokevirtual 29, 3) := by decide +kernel
theorem dX7_init_61 : decode cX7_init 61 = .ok (.return_, 1) := by decide +kernel
theorem dX7_in_0 : decode cX7_in 0 = .ok (.iload_n 0, 1) := by decide +kernel
theorem dX7_in_1 : decode cX7_in 1 = .ok (.iload_n 1, 1) := by decide +kernel
theorem dX7_in_2 : decode cX7_in 2 = .ok (.if_icmp .lt 12, 3) := by decide +kernel
theorem dX7_in_5 : decode cX7_in 5 = .ok (.iload_n 0, 1) := by decide +kernel
theorem dX7_in_6 : decode cX7_in 6 = .ok (.iload_n 2, 1) := by decide +kernel
theorem dX7_in_7 : decode cX7_in 7 = .ok (.if_icmp .gt 7, 3) := by decide +kernel
theorem dX7_in_10 : decode cX7_in 10 = .ok (.iconst 1, 1) := by decide +kernel
theorem dX7_in_11 : decode cX7_in 11 = .ok (.goto 4, 3) := by decide +kernel
theorem dX7_in_14 : decode cX7_in 14 = .ok (.iconst 0, 1) := by decide +kernel
theorem dX7_in_15 : decode cX7_in 15 = .ok (.ireturn, 1) := by decide +kernel
theorem dX7_putAside_0 : decode cX7_putAside 0 = .ok (.iconst 0, 1) := by decide +kernel
theorem dX7_putAside_1 : decode cX7_putAside 1 = .ok (.istore_n 1, 1) := by decide +kernel
theorem dX7_putAside_2 : decode cX7_putAside 2 = .ok (.iload_n 1, 1) := by decide +kernel
theorem dX7_putAside_3 : decode cX7_putAside 3 = .ok (.sipush 2862, 3) := by decide +kernel
theorem dX7_putAside_6 : decode cX7_putAside 6 = .ok (.if_icmp .ge 21, 3) := by decide +kernel
theorem dX7_putAside_9 : decode cX7_putAside 9 = .ok (.aload_n 0, 1) := by decide +kernel
theorem dX7_putAside_10 : decode cX7_putAside 10 = .ok (.getfield 13, 3) := by decide +kernel
theorem dX7_putAside_13 : decode cX7_putAside 13 = .ok (.iload_n 1, 1) := by decide +kernel
theorem dX7_putAside_14 : decode cX7_putAside 14 = .ok (.aload_n 0, 1) := by decide +kernel
theorem dX7_putAside_15 : decode cX7_putAside 15 = .ok (.getfield 7, 3) := by decide +kernel
theorem dX7_putAside_18 : decode cX7_putAside 18 = .ok (.iload_n 1, 1) := by decide +kernel
theorem dX7_putAside_19 : decode cX7_putAside 19 = .ok (.iaload, 1) := by decide +kernel
theorem dX7_putAside_20 : decode cX7_putAside 20 = .ok (.iastore, 1) := by decide +kernel
theorem dX7_putAside_21 : decode cX7_putAside 21 = .ok (.iinc 1 1, 3) := by decide +kernel
theorem dX7_putAside_24 : decode cX7_putAside 24 = .ok (.goto (-22), 3) := by decide +kernel
theorem dX7_putAside_27 : decode cX7_putAside 27 = .ok (.return_, 1) := by decide +kernel
theorem dX7_putBack_0 : decode cX7_putBack 0 = .ok (.iconst 0, 1) := by decide +kernel
theorem dX7_putBack_1 : decode cX7_putBack 1 = .ok (.istore_n 1, 1) := by decide +kernel
theorem dX7_putBack_2 : decode cX7_putBack 2 = .ok (.iload_n 1, 1) := by decide +kernel
theorem dX7_putBack_3 : decode cX7_putBack 3 = .ok (.sipush 2862, 3) := by decide +kernel
theorem dX7_putBack_6 : decode cX7_putBack 6 = .ok (.if_icmp .ge 21, 3) := by decide +kernel
theorem dX7_putBack_9 : decode cX7_putBack 9 = .ok (.aload_n 0, 1) := by decide +kernel
theorem dX7_putBack_10 : decode cX7_putBack 10 = .ok (.getfield 7, 3) := by decide +kernel
theorem dX7_putBack_13 : decode cX7_putBack 13 = .ok (.iload_n 1, 1) := by decide +kernel
theorem dX7_putBack_14 : decode cX7_putBack 14 = .ok (.aload_n 0, 1) := by decide +kernel
theorem dX7_putBack_15 : decode cX7_putBack 15 = .ok (.getfield 13, 3) := by decide +kernel
theorem dX7_putBack_18 : decode cX7_putBack 18 = .ok (.iload_n 1, 1) := by decide +kernel
theorem dX7_putBack_19 : decode cX7_putBack 19 = .ok (.iaload, 1) := by decide +kernel
theorem dX7_putBack_20 : decode cX7_putBack 20 = .ok (.iastore, 1) := by decide +kernel
theorem dX7_putBack_21 : decode cX7_putBack 21 = .ok (.iinc 1 1, 3) := by decide +kernel
theorem dX7_putBack_24 : decode cX7_putBack 24 = .ok (.goto (-22), 3) := by decide +kernel
theorem dX7_putBack_27 : decode cX7_putBack 27 = .ok (.return_, 1) := by decide +kernel
theorem dX7_lay_0 : decode cX7_lay 0 = .ok (.iconst 0, 1) := by decide +kernel
theorem dX7_lay_1 : decode cX7_lay 1 = .ok (.istore_n 3, 1) := by decide +kernel
theorem dX7_lay_2 : decode cX7_lay 2 = .ok (.iload_n 3, 1) := by decide +kernel
theorem dX7_lay_3 : decode cX7_lay 3 = .ok (.sipush 2862, 3) := by decide +kernel
theorem dX7_lay_6 : decode cX7_lay 6 = .ok (.if_icmp .ge 16, 3) := by decide +kernel
theorem dX7_lay_9 : decode cX7_lay 9 = .ok (.aload_n 0, 1) := by decide +kernel
theorem dX7_lay_10 : decode cX7_lay 10 = .ok (.getfield 7, 3) := by decide +kernel
theorem dX7_lay_13 : decode cX7_lay 13 = .ok (.iload_n 3, 1) := by decide +kernel
theorem dX7_lay_14 : decode cX7_lay 14 = .ok (.iconst 0, 1) := by decide +kernel
theorem dX7_lay_15 : decode cX7_lay 15 = .ok (.iastore, 1) := by decide +kernel
theorem dX7_lay_16 : decode cX7_lay 16 = .ok (.iinc 3 1, 3) := by decide +kernel
theorem dX7_lay_19 : decode cX7_lay 19 = .ok (.goto (-17), 3) := by decide +kernel
theorem dX7_lay_22 : decode cX7_lay 22 = .ok (.aload_n 0, 1) := by decide +kernel
theorem dX7_lay_23 : decode cX7_lay 23 = .ok (.getfield 7, 3) := by decide +kernel
theorem dX7_lay_26 : decode cX7_lay 26 = .ok (.iconst 1, 1) := by decide +kernel
theorem dX7_lay_27 : decode cX7_lay 27 = .ok (.iload_n 1, 1) := by decide +kernel
theorem dX7_lay_28 : decode cX7_lay 28 = .ok (.iastore, 1) := by decide +kernel
theorem dX7_lay_29 : decode cX7_lay 29 = .ok (.aload_n 0, 1) := by decide +kernel
theorem dX7_lay_30 : decode cX7_lay 30 = .ok (.getfield 7, 3) := by decide +kernel
theorem dX7_lay_33 : decode cX7_lay 33 = .ok (.iconst 2, 1) := by decide +kernel
theorem dX7_lay_34 : decode cX7_lay 34 = .ok (.iload_n 2, 1) := by decide +kernel
theorem dX7_lay_35 : decode cX7_lay 35 = .ok (.iastore, 1) := by decide +kernel
theorem dX7_lay_36 : decode cX7_lay 36 = .ok (.iconst 0, 1) := by decide +kernel
theorem dX7_lay_37 : decode cX7_lay 37 = .ok (.istore_n 3, 1) := by decide +kernel
theorem dX7_lay_38 : decode cX7_lay 38 = .ok (.iload_n 3, 1) := by decide +kernel
theorem dX7_lay_39 : decode cX7_lay 39 = .ok (.iconst 5, 1) := by decide +kernel
theorem dX7_lay_40 : decode cX7_lay 40 = .ok (.if_icmp .ge 44, 3) := by decide +kernel
theorem dX7_lay_43 : decode cX7_lay 43 = .ok (.aload_n 0, 1) := by decide +kernel
theorem dX7_lay_44 : decode cX7_lay 44 = .ok (.getfield 7, 3) := by decide +kernel
theorem dX7_lay_47 : decode cX7_lay 47 = .ok (.iconst 3, 1) := by decide +kernel
theorem dX7_lay_48 : decode cX7_lay 48 = .ok (.iload_n 3, 1) := by decide +kernel
theorem dX7_lay_49 : decode cX7_lay 49 = .ok (.iadd, 1) := by decide +kernel
theorem dX7_lay_50 : decode cX7_lay 50 = .ok (.iconst 5, 1) := by decide +kernel
theorem dX7_lay_51 : decode cX7_lay 51 = .ok (.iastore, 1) := by decide +kernel
theorem dX7_lay_52 : decode cX7_lay 52 = .ok (.aload_n 0, 1) := by decide +kernel
theorem dX7_lay_53 : decode cX7_lay 53 = .ok (.getfield 7, 3) := by decide +kernel
theorem dX7_lay_56 : decode cX7_lay 56 = .ok (.bipush 8, 2) := by decide +kernel
theorem dX7_lay_58 : decode cX7_lay 58 = .ok (.iconst 2, 1) := by decide +kernel
theorem dX7_lay_59 : decode cX7_lay 59 = .ok (.iload_n 3, 1) := by decide +kernel
theorem dX7_lay_60 : decode cX7_lay 60 = .ok (.imul, 1) := by decide +kernel
theorem dX7_lay_61 : decode cX7_lay 61 = .ok (.iadd, 1) := by decide +kernel
theorem dX7_lay_62 : decode cX7_lay 62 = .ok (.iconst 5, 1) := by decide +kernel
theorem dX7_lay_63 : decode cX7_lay 63 = .ok (.iastore, 1) := by decide +kernel
theorem dX7_lay_64 : decode cX7_lay 64 = .ok (.aload_n 0, 1) := by decide +kernel
theorem dX7_lay_65 : decode cX7_lay 65 = .ok (.getfield 7, 3) := by decide +kernel
theorem dX7_lay_68 : decode cX7_lay 68 = .ok (.bipush 8, 2) := by decide +kernel
theorem dX7_lay_70 : decode cX7_lay 70 = .ok (.iconst 2, 1) := by decide +kernel
theorem dX7_lay_71 : decode cX7_lay 71 = .ok (.iload_n 3, 1) := by decide +kernel
theorem dX7_lay_72 : decode cX7_lay 72 = .ok (.imul, 1) := by decide +kernel
theorem dX7_lay_73 : decode cX7_lay 73 = .ok (.iadd, 1) := by decide +kernel
theorem dX7_lay_74 : decode cX7_lay 74 = .ok (.iconst 1, 1) := by decide +kernel
theorem dX7_lay_75 : decode cX7_lay 75 = .ok (.iadd, 1) := by decide +kernel
theorem dX7_lay_76 : decode cX7_lay 76 = .ok (.iconst 5, 1) := by decide +kernel
theorem dX7_lay_77 : decode cX7_lay 77 = .ok (.iastore, 1) := by decide +kernel
theorem dX7_lay_78 : decode cX7_lay 78 = .ok (.iinc 3 1, 3) := by decide +kernel
theorem dX7_lay_81 : decode cX7_lay 81 = .ok (.goto (-43), 3) := by decide +kernel
theorem dX7_lay_84 : decode cX7_lay 84 = .ok (.iconst 0, 1) := by decide +kernel
theorem dX7_lay_85 : decode cX7_lay 85 = .ok (.istore_n 3, 1) := by decide +kernel
theorem dX7_lay_86 : decode cX7_lay 86 = .ok (.iload_n 3, 1) := by decide +kernel
theorem dX7_lay_87 : decode cX7_lay 87 = .ok (.bipush 12, 2) := by decide +kernel
theorem dX7_lay_89 : decode cX7_lay 89 = .ok (.if_icmp .ge 19, 3) := by decide +kernel
theorem dX7_lay_92 : decode cX7_lay 92 = .ok (.aload_n 0, 1) := by decide +kernel
theorem dX7_lay_93 : decode cX7_lay 93 = .ok (.getfield 7, 3) := by decide +kernel
theorem dX7_lay_96 : decode cX7_lay 96 = .ok (.bipush 18, 2) := by decide +kernel
theorem dX7_lay_98 : decode cX7_lay 98 = .ok (.iload_n 3, 1) := by decide +kernel
theorem dX7_lay_99 : decode cX7_lay 99 = .ok (.iadd, 1) := by decide +kernel
theorem dX7_lay_100 : decode cX7_lay 100 = .ok (.iconst 1, 1) := by decide +kernel
theorem dX7_lay_101 : decode cX7_lay 101 = .ok (.iastore, 1) := by decide +kernel
theorem dX7_lay_102 : decode cX7_lay 102 = .ok (.iinc 3 1, 3) := by decide +kernel
theorem dX7_lay_105 : decode cX7_lay 105 = .ok (.goto (-19), 3) := by decide +kernel
theorem dX7_lay_108 : decode cX7_lay 108 = .ok (.aload_n 0, 1) := by decide +kernel
theorem dX7_lay_109 : decode cX7_lay 109 = .ok (.invokevirtual 33, 3) := by decide +kernel
theorem dX7_lay_112 : decode cX7_lay 112 = .ok (.return_, 1) := by decide +kernel
end
section
theorem dX7_layBlocks_0 : decode cX7_layBlocks 0 = .ok (.iconst 0, 1) := by decide +kernel
theorem dX7_layBlocks_1 : decode cX7_layBlocks 1 = .ok (.istore_n 1, 1) := by decide +kernel
theorem dX7_layBlocks_2 : decode cX7_layBlocks 2 = .ok (.iload_n 1, 1) := by decide +kernel
theorem dX7_layBlocks_3 : decode cX7_layBlocks 3 = .ok (.bipush 10, 2) := by decide +kernel
theorem dX7_layBlocks_5 : decode cX7_layBlocks 5 = .ok (.if_icmp .ge 81, 3) := by decide +kernel
theorem dX7_layBlocks_8 : decode cX7_layBlocks 8 = .ok (.aload_n 0, 1) := by decide +kernel
theorem dX7_layBlocks_9 : decode cX7_layBlocks 9 = .ok (.getfield 7, 3) := by decide +kernel
theorem dX7_layBlocks_12 : decode cX7_layBlocks 12 = .ok (.bipush 30, 2) := by decide +kernel
theorem dX7_layBlocks_14 : decode cX7_layBlocks 14 = .ok (.iconst 5, 1) := by decide +kernel
theorem dX7_layBlocks_15 : decode cX7_layBlocks 15 = .ok (.iload_n 1, 1) := by decide +kernel
theorem dX7_layBlocks_16 : decode cX7_layBlocks 16 = .ok (.imul, 1) := by decide +kernel
theorem dX7_layBlocks_17 : decode cX7_layBlocks 17 = .ok (.iadd, 1) := by decide +kernel
theorem dX7_layBlocks_18 : decode cX7_layBlocks 18 = .ok (.iconst 0, 1) := by decide +kernel
theorem dX7_layBlocks_19 : decode cX7_layBlocks 19 = .ok (.iadd, 1) := by decide +kernel
theorem dX7_layBlocks_20 : decode cX7_layBlocks 20 = .ok (.iconst 0, 1) := by decide +kernel
theorem dX7_layBlocks_21 : decode cX7_layBlocks 21 = .ok (.iastore, 1) := by decide +kernel
theorem dX7_layBlocks_22 : decode cX7_layBlocks 22 = .ok (.aload_n 0, 1) := by decide +kernel
theorem dX7_layBlocks_23 : decode cX7_layBlocks 23 = .ok (.getfield 7, 3) := by decide +kernel
theorem dX7_layBlocks_26 : decode cX7_layBlocks 26 = .ok (.bipush 30, 2) := by decide +kernel
theorem dX7_layBlocks_28 : decode cX7_layBlocks 28 = .ok (.iconst 5, 1) := by decide +kernel
theorem dX7_layBlocks_29 : decode cX7_layBlocks 29 = .ok (.iload_n 1, 1) := by decide +kernel
theorem dX7_layBlocks_30 : decode cX7_layBlocks 30 = .ok (.imul, 1) := by decide +kernel
theorem dX7_layBlocks_31 : decode cX7_layBlocks 31 = .ok (.iadd, 1) := by decide +kernel
theorem dX7_layBlocks_32 : decode cX7_layBlocks 32 = .ok (.iconst 1, 1) := by decide +kernel
theorem dX7_layBlocks_33 : decode cX7_layBlocks 33 = .ok (.iadd, 1) := by decide +kernel
theorem dX7_layBlocks_34 : decode cX7_layBlocks 34 = .ok (.bipush (-6), 2) := by decide +kernel
theorem dX7_layBlocks_36 : decode cX7_layBlocks 36 = .ok (.iastore, 1) := by decide +kernel
theorem dX7_layBlocks_37 : decode cX7_layBlocks 37 = .ok (.aload_n 0, 1) := by decide +kernel
theorem dX7_layBlocks_38 : decode cX7_layBlocks 38 = .ok (.getfield 7, 3) := by decide +kernel
theorem dX7_layBlocks_41 : decode cX7_layBlocks 41 = .ok (.bipush 30, 2) := by decide +kernel
theorem dX7_layBlocks_43 : decode cX7_layBlocks 43 = .ok (.iconst 5, 1) := by decide +kernel
theorem dX7_layBlocks_44 : decode cX7_layBlocks 44 = .ok (.iload_n 1, 1) := by decide +kernel
theorem dX7_layBlocks_45 : decode cX7_layBlocks 45 = .ok (.imul, 1) := by decide +kernel
theorem dX7_layBlocks_46 : decode cX7_layBlocks 46 = .ok (.iadd, 1) := by decide +kernel
theorem dX7_layBlocks_47 : decode cX7_layBlocks 47 = .ok (.iconst 2, 1) := by decide +kernel
theorem dX7_layBlocks_48 : decode cX7_layBlocks 48 = .ok (.iadd, 1) := by decide +kernel
theorem dX7_layBlocks_49 : decode cX7_layBlocks 49 = .ok (.bipush (-6), 2) := by decide +kernel
theorem dX7_layBlocks_51 : decode cX7_layBlocks 51 = .ok (.iastore, 1) := by decide +kernel
theorem dX7_layBlocks_52 : decode cX7_layBlocks 52 = .ok (.aload_n 0, 1) := by decide +kernel
theorem dX7_layBlocks_53 : decode cX7_layBlocks 53 = .ok (.getfield 7, 3) := by decide +kernel
theorem dX7_layBlocks_56 : decode cX7_layBlocks 56 = .ok (.bipush 30, 2) := by decide +kernel
theorem dX7_layBlocks_58 : decode cX7_layBlocks 58 = .ok (.iconst 5, 1) := by decide +kernel
theorem dX7_layBlocks_59 : decode cX7_layBlocks 59 = .ok (.iload_n 1, 1) := by decide +kernel
theorem dX7_layBlocks_60 : decode cX7_layBlocks 60 = .ok (.imul, 1) := by decide +kernel
theorem dX7_layBlocks_61 : decode cX7_layBlocks 61 = .ok (.iadd, 1) := by decide +kernel
theorem dX7_layBlocks_62 : decode cX7_layBlocks 62 = .ok (.iconst 3, 1) := by decide +kernel
theorem dX7_layBlocks_63 : decode cX7_layBlocks 63 = .ok (.iadd, 1) := by decide +kernel
theorem dX7_layBlocks_64 : decode cX7_layBlocks 64 = .ok (.iconst 0, 1) := by decide +kernel
theorem dX7_layBlocks_65 : decode cX7_layBlocks 65 = .ok (.iastore, 1) := by decide +kernel
theorem dX7_layBlocks_66 : decode cX7_layBlocks 66 = .ok (.aload_n 0, 1) := by decide +kernel
theorem dX7_layBlocks_67 : decode cX7_layBlocks 67 = .ok (.getfield 7, 3) := by decide +kernel
theorem dX7_layBlocks_70 : decode cX7_layBlocks 70 = .ok (.bipush 30, 2) := by decide +kernel
theorem dX7_layBlocks_72 : decode cX7_layBlocks 72 = .ok (.iconst 5, 1) := by decide +kernel
theorem dX7_layBlocks_73 : decode cX7_layBlocks 73 = .ok (.iload_n 1, 1) := by decide +kernel
theorem dX7_layBlocks_74 : decode cX7_layBlocks 74 = .ok (.imul, 1) := by decide +kernel
theorem dX7_layBlocks_75 : decode cX7_layBlocks 75 = .ok (.iadd, 1) := by decide +kernel
theorem dX7_layBlocks_76 : decode cX7_layBlocks 76 = .ok (.iconst 4, 1) := by decide +kernel
theorem dX7_layBlocks_77 : decode cX7_layBlocks 77 = .ok (.iadd, 1) := by decide +kernel
theorem dX7_layBlocks_78 : decode cX7_layBlocks 78 = .ok (.iconst 0, 1) := by decide +kernel
theorem dX7_layBlocks_79 : decode cX7_layBlocks 79 = .ok (.iastore, 1) := by decide +kernel
theorem dX7_layBlocks_80 : decode cX7_layBlocks 80 = .ok (.iinc 1 1, 3) := by decide +kernel
theorem dX7_layBlocks_83 : decode cX7_layBlocks 83 = .ok (.goto (-81), 3) := by decide +kernel
theorem dX7_layBlocks_86 : decode cX7_layBlocks 86 = .ok (.return_, 1) := by decide +kernel
theorem dX7_sections_0 : decode cX7_sections 0 = .ok (.aload_n 0, 1) := by decide +kernel
theorem dX7_sections_1 : decode cX7_sections 1 = .ok (.getfield 7, 3) := by decide +kernel
theorem dX7_sections_4 : decode cX7_sections 4 = .ok (.iconst 1, 1) := by decide +kernel
theorem dX7_sections_5 : decode cX7_sections 5 = .ok (.iaload, 1) := by decide +kernel
theorem dX7_sections_6 : decode cX7_sections 6 = .ok (.iconst 1, 1) := by decide +kernel
theorem dX7_sections_7 : decode cX7_sections 7 = .ok (.isub, 1) := by decide +kernel
theorem dX7_sections_8 : decode cX7_sections 8 = .ok (.ireturn, 1) := by decide +kernel
theorem dX7_isSection_0 : decode cX7_isSection 0 = .ok (.iload_n 1, 1) := by decide +kernel
theorem dX7_isSection_1 : decode cX7_isSection 1 = .ok (.iconst 0, 1) := by decide +kernel
theorem dX7_isSection_2 : decode cX7_isSection 2 = .ok (.aload_n 0, 1) := by decide +kernel
theorem dX7_isSection_3 : decode cX7_isSection 3 = .ok (.invokevirtual 36, 3) := by decide +kernel
theorem dX7_isSection_6 : decode cX7_isSection 6 = .ok (.iconst 1, 1) := by decide +kernel
theorem dX7_isSection_7 : decode cX7_isSection 7 = .ok (.isub, 1) := by decide +kernel
theorem dX7_isSection_8 : decode cX7_isSection 8 = .ok (.invokestatic 40, 3) := by decide +kernel
theorem dX7_isSection_11 : decode cX7_isSection 11 = .ok (.ireturn, 1) := by decide +kernel
theorem dX7_isWay_0 : decode cX7_isWay 0 = .ok (.iload_n 0, 1) := by decide +kernel
theorem dX7_isWay_1 : decode cX7_isWay 1 = .ok (.iconst 0, 1) := by decide +kernel
theorem dX7_isWay_2 : decode cX7_isWay 2 = .ok (.iconst 1, 1) := by decide +kernel
theorem dX7_isWay_3 : decode cX7_isWay 3 = .ok (.invokestatic 40, 3) := by decide +kernel
theorem dX7_isWay_6 : decode cX7_isWay 6 = .ok (.ireturn, 1) := by decide +kernel
theorem dX7_isBlock_0 : decode cX7_isBlock 0 = .ok (.aload_n 0, 1) := by decide +kernel
theorem dX7_isBlock_1 : decode cX7_isBlock 1 = .ok (.iload_n 1, 1) := by decide +kernel
theorem dX7_isBlock_2 : decode cX7_isBlock 2 = .ok (.invokevirtual 44, 3) := by decide +kernel
theorem dX7_isBlock_5 : decode cX7_isBlock 5 = .ok (.ifCond .eq 14, 3) := by decide +kernel
theorem dX7_isBlock_8 : decode cX7_isBlock 8 = .ok (.iload_n 2, 1) := by decide +kernel
theorem dX7_isBlock_9 : decode cX7_isBlock 9 = .ok (.invokestatic 48, 3) := by decide +kernel
theorem dX7_isBlock_12 : decode cX7_isBlock 12 = .ok (.ifCond .eq 7, 3) := by decide +kernel
theorem dX7_isBlock_15 : decode cX7_isBlock 15 = .ok (.iconst 1, 1) := by decide +kernel
theorem dX7_isBlock_16 : decode cX7_isBlock 16 = .ok (.goto 4, 3) := by decide +kernel
theorem dX7_isBlock_19 : decode cX7_isBlock 19 = .ok (.iconst 0, 1) := by decide +kernel
theorem dX7_isBlock_20 : decode cX7_isBlock 20 = .ok (.ireturn, 1) := by decide +kernel
theorem dX7_isTrain_0 : decode cX7_isTrain 0 = .ok (.iload_n 1, 1) := by decide +kernel
theorem dX7_isTrain_1 : decode cX7_isTrain 1 = .ok (.iconst 0, 1) := by decide +kernel
theorem dX7_isTrain_2 : decode cX7_isTrain 2 = .ok (.aload_n 0, 1) := by decide +kernel
theorem dX7_isTrain_3 : decode cX7_isTrain 3 = .ok (.getfield 7, 3) := by decide +kernel
theorem dX7_isTrain_6 : decode cX7_isTrain 6 = .ok (.sipush 381, 3) := by decide +kernel
theorem dX7_isTrain_9 : decode cX7_isTrain 9 = .ok (.iaload, 1) := by decide +kernel
theorem dX7_isTrain_10 : decode cX7_isTrain 10 = .ok (.iconst 1, 1) := by decide +kernel
theorem dX7_isTrain_11 : decode cX7_isTrain 11 = .ok (.isub, 1) := by decide +kernel
theorem dX7_isTrain_12 : decode cX7_isTrain 12 = .ok (.invokestatic 40, 3) := by decide +kernel
theorem dX7_isTrain_15 : decode cX7_isTrain 15 = .ok (.ireturn, 1) := by decide +kernel
theorem dX7_rear_0 : decode cX7_rear 0 = .ok (.iload_n 0, 1) := by decide +kernel
theorem dX7_rear_1 : decode cX7_rear 1 = .ok (.iload_n 1, 1) := by decide +kernel
theorem dX7_rear_2 : decode cX7_rear 2 = .ok (.iadd, 1) := by decide +kernel
theorem dX7_rear_3 : decode cX7_rear 3 = .ok (.ireturn, 1) := by decide +kernel
theorem dX7_ahead_0 : decode cX7_ahead 0 = .ok (.iload_n 0, 1) := by decide +kernel
theorem dX7_ahead_1 : decode cX7_ahead 1 = .ok (.iconst 1, 1) := by decide +kernel
theorem dX7_ahead_2 : decode cX7_ahead 2 = .ok (.iadd, 1) := by decide +kernel
theorem dX7_ahead_3 : decode cX7_ahead 3 = .ok (.iload_n 1, 1) := by decide +kernel
theorem dX7_ahead_4 : decode cX7_ahead 4 = .ok (.isub, 1) := by decide +kernel
theorem dX7_ahead_5 : decode cX7_ahead 5 = .ok (.ireturn, 1) := by decide +kernel
theorem dX7_place_0 : decode cX7_place 0 = .ok (.bipush 30, 2) := by decide +kernel
theorem dX7_place_2 : decode cX7_place 2 = .ok (.iconst 5, 1) := by decide +kernel
theorem dX7_place_3 : decode cX7_place 3 = .ok (.iconst 2, 1) := by decide +kernel
theorem dX7_place_4 : decode cX7_place 4 = .ok (.iload_n 0, 1) := by decide +kernel
theorem dX7_place_5 : decode cX7_place 5 = .ok (.imul, 1) := by decide +kernel
theorem dX7_place_6 : decode cX7_place 6 = .ok (.iload_n 1, 1) := by decide +kernel
theorem dX7_place_7 : decode cX7_place 7 = .ok (.iadd, 1) := by decide +kernel
theorem dX7_place_8 : decode cX7_place 8 = .ok (.imul, 1) := by decide +kernel
theorem dX7_place_9 : decode cX7_place 9 = .ok (.iadd, 1) := by decide +kernel
theorem dX7_place_10 : decode cX7_place 10 = .ok (.iload_n 2, 1) := by decide +kernel
theorem dX7_place_11 : decode cX7_place 11 = .ok (.iadd, 1) := by decide +kernel
theorem dX7_place_12 : decode cX7_place 12 = .ok (.ireturn, 1) := by decide +kernel
theorem dX7_ofBlock_0 : decode cX7_ofBlock 0 = .ok (.aload_n 0, 1) := by decide +kernel
theorem dX7_ofBlock_1 : decode cX7_ofBlock 1 = .ok (.getfield 7, 3) := by decide +kernel
theorem dX7_ofBlock_4 : decode cX7_ofBlock 4 = .ok (.iload_n 1, 1) := by decide +kernel
theorem dX7_ofBlock_5 : decode cX7_ofBlock 5 = .ok (.iload_n 2, 1) := by decide +kernel
theorem dX7_ofBlock_6 : decode cX7_ofBlock 6 = .ok (.iload_n 3, 1) := by decide +kernel
theorem dX7_ofBlock_7 : decode cX7_ofBlock 7 = .ok (.invokestatic 51, 3) := by decide +kernel
theorem dX7_ofBlock_10 : decode cX7_ofBlock 10 = .ok (.iaload, 1) := by decide +kernel
theorem dX7_ofBlock_11 : decode cX7_ofBlock 11 = .ok (.ireturn, 1) := by decide +kernel
theorem dX7_ofTrain_0 : decode cX7_ofTrain 0 = .ok (.aload_n 0, 1) := by decide +kernel
theorem dX7_ofTrain_1 : decode cX7_ofTrain 1 = .ok (.getfield 7, 3) := by decide +kernel
theorem dX7_ofTrain_4 : decode cX7_ofTrain 4 = .ok (.sipush 382, 3) := by decide +kernel
theorem dX7_ofTrain_7 : decode cX7_ofTrain 7 = .ok (.bipush 8, 2) := by decide +kernel
theorem dX7_ofTrain_9 : decode cX7_ofTrain 9 = .ok (.iload_n 1, 1) := by decide +kernel
theorem dX7_ofTrain_10 : decode cX7_ofTrain 10 = .ok (.imul, 1) := by decide +kernel
theorem dX7_ofTrain_11 : decode cX7_ofTrain 11 = .ok (.iadd, 1) := by decide +kernel
theorem dX7_ofTrain_12 : decode cX7_ofTrain 12 = .ok (.iload_n 2, 1) := by decide +kernel
theorem dX7_ofTrain_13 : decode cX7_ofTrain 13 = .ok (.iadd, 1) := by decide +kernel
theorem dX7_ofTrain_14 : decode cX7_ofTrain 14 = .ok (.iaload, 1) := by decide +kernel
theorem dX7_ofTrain_15 : decode cX7_ofTrain 15 = .ok (.ireturn, 1) := by decide +kernel
theorem dX7_layTrain_0 : decode cX7_layTrain 0 = .ok (.aload_n 0, 1) := by decide +kernel
theorem dX7_layTrain_1 : decode cX7_layTrain 1 = .ok (.getfield 7, 3) := by decide +kernel
theorem dX7_layTrain_4 : decode cX7_layTrain 4 = .ok (.sipush 382, 3) := by decide +kernel
theorem dX7_layTrain_7 : decode cX7_layTrain 7 = .ok (.bipush 8, 2) := by decide +kernel
theorem dX7_layTrain_9 : decode cX7_layTrain 9 = .ok (.iload_n 1, 1) := by decide +kernel
theorem dX7_layTrain_10 : decode cX7_layTrain 10 = .ok (.imul, 1) := by decide +kernel
theorem dX7_layTrain_11 : decode cX7_layTrain 11 = .ok (.iadd, 1) := by decide +kernel
theorem dX7_layTrain_12 : decode cX7_layTrain 12 = .ok (.iload_n 2, 1) := by decide +kernel
theorem dX7_layTrain_13 : decode cX7_layTrain 13 = .ok (.iadd, 1) := by decide +kernel
theorem dX7_layTrain_14 : decode cX7_layTrain 14 = .ok (.iload_n 3, 1) := by decide +kernel
theorem dX7_layTrain_15 : decode cX7_layTrain 15 = .ok (.iastore, 1) := by decide +kernel
theorem dX7_layTrain_16 : decode cX7_layTrain 16 = .ok (.return_, 1) := by decide +kernel
theorem dX7_isSingle_0 : decode cX7_isSingle 0 = .ok (.aload_n 0, 1) := by decide +kernel
theorem dX7_isSingle_1 : decode cX7_isSingle 1 = .ok (.getfield 7, 3) := by decide +kernel
theorem dX7_isSingle_4 : decode cX7_isSingle 4 = .ok (.iconst 2, 1) := by decide +kernel
theorem dX7_isSingle_5 : decode cX7_isSingle 5 = .ok (.iaload, 1) := by decide +kernel
theorem dX7_isSingle_6 : decode cX7_isSingle 6 = .ok (.iload_n 1, 1) := by decide +kernel
theorem dX7_isSingle_7 : decode cX7_isSingle 7 = .ok (.ishr, 1) := by decide +kernel
theorem dX7_isSingle_8 : decode cX7_isSingle 8 = .ok (.iconst 1, 1) := by decide +kernel
theorem dX7_isSingle_9 : decode cX7_isSingle 9 = .ok (.iand, 1) := by decide +kernel
theorem dX7_isSingle_10 : decode cX7_isSingle 10 = .ok (.iconst 1, 1) := by decide +kernel
theorem dX7_isSingle_11 : decode cX7_isSingle 11 = .ok (.if_icmp .ne 7, 3) := by decide +kernel
theorem dX7_isSingle_14 : decode cX7_isSingle 14 = .ok (.iconst 1, 1) := by decide +kernel
theorem dX7_isSingle_15 : decode cX7_isSingle 15 = .ok (.goto 4, 3) := by decide +kernel
theorem dX7_isSingle_18 : decode cX7_isSingle 18 = .ok (.iconst 0, 1) := by decide +kernel
theorem dX7_isSingle_19 : decode cX7_isSingle 19 = .ok (.ireturn, 1) := by decide +kernel
theorem dX7_isTokenOut_0 : decode cX7_isTokenOut 0 = .ok (.iconst 0, 1) := by decide +kernel
theorem dX7_isTokenOut_1 : decode cX7_isTokenOut 1 = .ok (.istore_n 2, 1) := by decide +kernel
theorem dX7_isTokenOut_2 : decode cX7_isTokenOut 2 = .ok (.iconst 0, 1) := by decide +kernel
theorem dX7_isTokenOut_3 : decode cX7_isTokenOut 3 = .ok (.istore_n 3, 1) := by decide +kernel
theorem dX7_isTokenOut_4 : decode cX7_isTokenOut 4 = .ok (.iload_n 3, 1) := by decide +kernel
theorem dX7_isTokenOut_5 : decode cX7_isTokenOut 5 = .ok (.iconst 2, 1) := by decide +kernel
theorem dX7_isTokenOut_6 : decode cX7_isTokenOut 6 = .ok (.if_icmp .ge 34, 3) := by decide +kernel
theorem dX7_isTokenOut_9 : decode cX7_isTokenOut 9 = .ok (.iload_n 2, 1) := by decide +kernel
theorem dX7_isTokenOut_10 : decode cX7_isTokenOut 10 = .ok (.ifCond .ne 18, 3) := by decide +kernel
theorem dX7_isTokenOut_13 : decode cX7_isTokenOut 13 = .ok (.aload_n 0, 1) := by decide +kernel
theorem dX7_isTokenOut_14 : decode cX7_isTokenOut 14 = .ok (.iload_n 1, 1) := by decide +kernel
theorem dX7_isTokenOut_15 : decode cX7_isTokenOut 15 = .ok (.iload_n 3, 1) := by decide +kernel
theorem dX7_isTokenOut_16 : decode cX7_isTokenOut 16 = .ok (.iconst 0, 1) := by decide +kernel
theorem dX7_isTokenOut_17 : decode cX7_isTokenOut 17 = .ok (.invokevirtual 55, 3) := by decide +kernel
theorem dX7_isTokenOut_20 : decode cX7_isTokenOut 20 = .ok (.iconst 1, 1) := by decide +kernel
theorem dX7_isTokenOut_21 : decode cX7_isTokenOut 21 = .ok (.iconst 2, 1) := by decide +kernel
theorem dX7_isTokenOut_22 : decode cX7_isTokenOut 22 = .ok (.invokestatic 40, 3) := by decide +kernel
theorem dX7_isTokenOut_25 : decode cX7_isTokenOut 25 = .ok (.ifCond .eq 7, 3) := by decide +kernel
theorem dX7_isTokenOut_28 : decode cX7_isTokenOut 28 = .ok (.iconst 1, 1) := by decide +kernel
theorem dX7_isTokenOut_29 : decode cX7_isTokenOut 29 = .ok (.goto 4, 3) := by decide +kernel
theorem dX7_isTokenOut_32 : decode cX7_isTokenOut 32 = .ok (.iconst 0, 1) := by decide +kernel
theorem dX7_isTokenOut_33 : decode cX7_isTokenOut 33 = .ok (.istore_n 2, 1) := by decide +kernel
theorem dX7_isTokenOut_34 : decode cX7_isTokenOut 34 = .ok (.iinc 3 1, 3) := by decide +kernel
theorem dX7_isTokenOut_37 : decode cX7_isTokenOut 37 = .ok (.goto (-33), 3) := by decide +kernel
theorem dX7_isTokenOut_40 : decode cX7_isTokenOut 40 = .ok (.aload_n 0, 1) := by decide +kernel
theorem dX7_isTokenOut_41 : decode cX7_isTokenOut 41 = .ok (.iload_n 1, 1) := by decide +kernel
theorem dX7_isTokenOut_42 : decode cX7_isTokenOut 42 = .ok (.invokevirtual 58, 3) := by decide +kernel
theorem dX7_isTokenOut_45 : decode cX7_isTokenOut 45 = .ok (.ifCond .eq 11, 3) := by decide +kernel
theorem dX7_isTokenOut_48 : decode cX7_isTokenOut 48 = .ok (.iload_n 2, 1) := by decide +kernel
theorem dX7_isTokenOut_49 : decode cX7_isTokenOut 49 = .ok (.ifCond .eq 7, 3) := by decide +kernel
theorem dX7_isTokenOut_52 : decode cX7_isTokenOut 52 = .ok (.iconst 1, 1) := by decide +kernel
theorem dX7_isTokenOut_53 : decode cX7_isTokenOut 53 = .ok (.goto 4, 3) := by decide +kernel
theorem dX7_isTokenOut_56 : decode cX7_isTokenOut 56 = .ok (.iconst 0, 1) := by decide +kernel
theorem dX7_isTokenOut_57 : decode cX7_isTokenOut 57 = .ok (.ireturn, 1) := by decide +kernel
theorem dX7_tokensAt_0 : decode cX7_tokensAt 0 = .ok (.bipush 8, 2) := by decide +kernel
theorem dX7_tokensAt_2 : decode cX7_tokensAt 2 = .ok (.iconst 2, 1) := by decide +kernel
theorem dX7_tokensAt_3 : decode cX7_tokensAt 3 = .ok (.iload_n 0, 1) := by decide +kernel
theorem dX7_tokensAt_4 : decode cX7_tokensAt 4 = .ok (.imul, 1) := by decide +kernel
theorem dX7_tokensAt_5 : decode cX7_tokensAt 5 = .ok (.iadd, 1) := by decide +kernel
theorem dX7_tokensAt_6 : decode cX7_tokensAt 6 = .ok (.iload_n 1, 1) := by decide +kernel
theorem dX7_tokensAt_7 : decode cX7_tokensAt 7 = .ok (.iload_n 0, 1) := by decide +kernel
theorem dX7_tokensAt_8 : decode cX7_tokensAt 8 = .ok (.isub, 1) := by decide +kernel
theorem dX7_tokensAt_9 : decode cX7_tokensAt 9 = .ok (.iadd, 1) := by decide +kernel
theorem dX7_tokensAt_10 : decode cX7_tokensAt 10 = .ok (.ireturn, 1) := by decide +kernel
theorem dX7_setUp_0 : decode cX7_setUp 0 = .ok (.iload_n 1, 1) := by decide +kernel
theorem dX7_setUp_1 : decode cX7_setUp 1 = .ok (.iconst 2, 1) := by decide +kernel
theorem dX7_setUp_2 : decode cX7_setUp 2 = .ok (.bipush 6, 2) := by decide +kernel
theorem dX7_setUp_4 : decode cX7_setUp 4 = .ok (.invokestatic 40, 3) := by decide +kernel
theorem dX7_setUp_7 : decode cX7_setUp 7 = .ok (.ifCond .eq 18, 3) := by decide +kernel
theorem dX7_setUp_10 : decode cX7_setUp 10 = .ok (.iload_n 2, 1) := by decide +kernel
theorem dX7_setUp_11 : decode cX7_setUp 11 = .ok (.iconst 0, 1) := by decide +kernel
theorem dX7_setUp_12 : decode cX7_setUp 12 = .ok (.iconst 1, 1) := by decide +kernel
theorem dX7_setUp_13 : decode cX7_setUp 13 = .ok (.iload_n 1, 1) := by decide +kernel
theorem dX7_setUp_14 : decode cX7_setUp 14 = .ok (.iconst 1, 1) := by decide +kernel
theorem dX7_setUp_15 : decode cX7_setUp 15 = .ok (.isub, 1) := by decide +kernel
theorem dX7_setUp_16 : decode cX7_setUp 16 = .ok (.ishl, 1) := by decide +kernel
theorem dX7_setUp_17 : decode cX7_setUp 17 = .ok (.iconst 1, 1) := by decide +kernel
theorem dX7_setUp_18 : decode cX7_setUp 18 = .ok (.isub, 1) := by decide +kernel
theorem dX7_setUp_19 : decode cX7_setUp 19 = .ok (.invokestatic 40, 3) := by decide +kernel
theorem dX7_setUp_22 : decode cX7_setUp 22 = .ok (.ifCond .ne 6, 3) := by decide +kernel
theorem dX7_setUp_25 : decode cX7_setUp 25 = .ok (.bipush (-2), 2) := by decide +kernel
theorem dX7_setUp_27 : decode cX7_setUp 27 = .ok (.ireturn, 1) := by decide +kernel
theorem dX7_setUp_28 : decode cX7_setUp 28 = .ok (.aload_n 0, 1) := by decide +kernel
theorem dX7_setUp_29 : decode cX7_setUp 29 = .ok (.getfield 7, 3) := by decide +kernel
theorem dX7_setUp_32 : decode cX7_setUp 32 = .ok (.sipush 381, 3) := by decide +kernel
theorem dX7_setUp_35 : decode cX7_setUp 35 = .ok (.iaload, 1) := by decide +kernel
theorem dX7_setUp_36 : decode cX7_setUp 36 = .ok (.istore_n 3, 1) := by decide +kernel
theorem dX7_setUp_37 : decode cX7_setUp 37 = .ok (.aload_n 0, 1) := by decide +kernel
theorem dX7_setUp_38 : decode cX7_setUp 38 = .ok (.iload_n 1, 1) := by decide +kernel
theorem dX7_setUp_39 : decode cX7_setUp 39 = .ok (.iload_n 2, 1) := by decide +kernel
theorem dX7_setUp_40 : decode cX7_setUp 40 = .ok (.invokevirtual 29, 3) := by decide +kernel
theorem dX7_setUp_43 : decode cX7_setUp 43 = .ok (.iload_n 3, 1) := by decide +kernel
theorem dX7_setUp_44 : decode cX7_setUp 44 = .ok (.ireturn, 1) := by decide +kernel
theorem dX7_setTime_0 : decode cX7_setTime 0 = .ok (.aload_n 0, 1) := by decide +kernel
theorem dX7_setTime_1 : decode cX7_setTime 1 = .ok (.iload_n 1, 1) := by decide +kernel
theorem dX7_setTime_2 : decode cX7_setTime 2 = .ok (.invokevirtual 44, 3) := by decide +kernel
theorem dX7_setTime_5 : decode cX7_setTime 5 = .ok (.ifCond .ne 5, 3) := by decide +kernel
theorem dX7_setTime_8 : decode cX7_setTime 8 = .ok (.iconst (-1), 1) := by decide +kernel
theorem dX7_setTime_9 : decode cX7_setTime 9 = .ok (.ireturn, 1) := by decide +kernel
theorem dX7_setTime_10 : decode cX7_setTime 10 = .ok (.iload_n 2, 1) := by decide +kernel
theorem dX7_setTime_11 : decode cX7_setTime 11 = .ok (.iconst 1, 1) := by decide +kernel
theorem dX7_setTime_12 : decode cX7_setTime 12 = .ok (.bipush 30, 2) := by decide +kernel
theorem dX7_setTime_14 : decode cX7_setTime 14 = .ok (.invokestatic 40, 3) := by decide +kernel
theorem dX7_setTime_17 : decode cX7_setTime 17 = .ok (.ifCond .ne 6, 3) := by decide +kernel
theorem dX7_setTime_20 : decode cX7_setTime 20 = .ok (.bipush (-2), 2) := by decide +kernel
theorem dX7_setTime_22 : decode cX7_setTime 22 = .ok (.ireturn, 1) := by decide +kernel
theorem dX7_setTime_23 : decode cX7_setTime 23 = .ok (.aload_n 0, 1) := by decide +kernel
theorem dX7_setTime_24 : decode cX7_setTime 24 = .ok (.getfield 7, 3) := by decide +kernel
theorem dX7_setTime_27 : decode cX7_setTime 27 = .ok (.iconst 3, 1) := by decide +kernel
theorem dX7_setTime_28 : decode cX7_setTime 28 = .ok (.iload_n 1, 1) := by decide +kernel
theorem dX7_setTime_29 : decode cX7_setTime 29 = .ok (.iadd, 1) := by decide +kernel
theorem dX7_setTime_30 : decode cX7_setTime 30 = .ok (.iaload, 1) := by decide +kernel
theorem dX7_setTime_31 : decode cX7_setTime 31 = .ok (.istore_n 3, 1) := by decide +kernel
theorem dX7_setTime_32 : decode cX7_setTime 32 = .ok (.aload_n 0, 1) := by decide +kernel
theorem dX7_setTime_33 : decode cX7_setTime 33 = .ok (.getfield 7, 3) := by decide +kernel
theorem dX7_setTime_36 : decode cX7_setTime 36 = .ok (.iconst 3, 1) := by decide +kernel
theorem dX7_setTime_37 : decode cX7_setTime 37 = .ok (.iload_n 1, 1) := by decide +kernel
theorem dX7_setTime_38 : decode cX7_setTime 38 = .ok (.iadd, 1) := by decide +kernel
theorem dX7_setTime_39 : decode cX7_setTime 39 = .ok (.iload_n 2, 1) := by decide +kernel
theorem dX7_setTime_40 : decode cX7_setTime 40 = .ok (.iastore, 1) := by decide +kernel
theorem dX7_setTime_41 : decode cX7_setTime 41 = .ok (.iload_n 3, 1) := by decide +kernel
theorem dX7_setTime_42 : decode cX7_setTime 42 = .ok (.ireturn, 1) := by decide +kernel
theorem dX7_many_0 : decode cX7_many 0 = .ok (.iconst 0, 1) := by decide +kernel
theorem dX7_many_1 : decode cX7_many 1 = .ok (.istore 4, 2) := by decide +kernel
theorem dX7_many_3 : decode cX7_many 3 = .ok (.iconst 0, 1) := by decide +kernel
theorem dX7_many_4 : decode cX7_many 4 = .ok (.istore 5, 2) := by decide +kernel
theorem dX7_many_6 : decode cX7_many 6 = .ok (.iload 5, 2) := by decide +kernel
theorem dX7_many_8 : decode cX7_many 8 = .ok (.aload_n 0, 1) := by decide +kernel
theorem dX7_many_9 : decode cX7_many 9 = .ok (.getfield 7, 3) := by decide +kernel
theorem dX7_many_12 : decode cX7_many 12 = .ok (.sipush 381, 3) := by decide +kernel
theorem dX7_many_15 : decode cX7_many 15 = .ok (.iaload, 1) := by decide +kernel
theorem dX7_many_16 : decode cX7_many 16 = .ok (.if_icmp .ge 52, 3) := by decide +kernel
theorem dX7_many_19 : decode cX7_many 19 = .ok (.iload 4, 2) := by decide +kernel
theorem dX7_many_21 : decode cX7_many 21 = .ok (.aload_n 0, 1) := by decide +kernel
theorem dX7_many_22 : decode cX7_many 22 = .ok (.iload 5, 2) := by decide +kernel
theorem dX7_many_24 : decode cX7_many 24 = .ok (.iconst 2, 1) := by decide +kernel
theorem dX7_many_25 : decode cX7_many 25 = .ok (.invokevirtual 61, 3) := by decide +kernel
theorem dX7_many_28 : decode cX7_many 28 = .ok (.iload_n 3, 1) := by decide +kernel
theorem dX7_many_29 : decode cX7_many 29 = .ok (.if_icmp .ne 29, 3) := by decide +kernel
theorem dX7_many_32 : decode cX7_many 32 = .ok (.aload_n 0, 1) := by decide +kernel
theorem dX7_many_33 : decode cX7_many 33 = .ok (.iload 5, 2) := by decide +kernel
theorem dX7_many_35 : decode cX7_many 35 = .ok (.iconst 3, 1) := by decide +kernel
theorem dX7_many_36 : decode cX7_many 36 = .ok (.invokevirtual 61, 3) := by decide +kernel
theorem dX7_many_39 : decode cX7_many 39 = .ok (.iload_n 1, 1) := by decide +kernel
theorem dX7_many_40 : decode cX7_many 40 = .ok (.if_icmp .ne 18, 3) := by decide +kernel
theorem dX7_many_43 : decode cX7_many 43 = .ok (.aload_n 0, 1) := by decide +kernel
theorem dX7_many_44 : decode cX7_many 44 = .ok (.iload 5, 2) := by decide +kernel
theorem dX7_many_46 : decode cX7_many 46 = .ok (.iconst 1, 1) := by decide +kernel
theorem dX7_many_47 : decode cX7_many 47 = .ok (.invokevirtual 61, 3) := by decide +kernel
theorem dX7_many_50 : decode cX7_many 50 = .ok (.iload_n 2, 1) := by decide +kernel
theorem dX7_many_51 : decode cX7_many 51 = .ok (.if_icmp .ne 7, 3) := by decide +kernel
theorem dX7_many_54 : decode cX7_many 54 = .ok (.iconst 1, 1) := by decide +kernel
theorem dX7_many_55 : decode cX7_many 55 = .ok (.goto 4, 3) := by decide +kernel
theorem dX7_many_58 : decode cX7_many 58 = .ok (.iconst 0, 1) := by decide +kernel
theorem dX7_many_59 : decode cX7_many 59 = .ok (.iadd, 1) := by decide +kernel
theorem dX7_many_60 : decode cX7_many 60 = .ok (.istore 4, 2) := by decide +kernel
theorem dX7_many_62 : decode cX7_many 62 = .ok (.iinc 5 1, 3) := by decide +kernel
theorem dX7_many_65 : decode cX7_many 65 = .ok (.goto (-59), 3) := by decide +kernel
theorem dX7_many_68 : decode cX7_many 68 = .ok (.iload 4, 2) := by decide +kernel
theorem dX7_many_70 : decode cX7_many 70 = .ok (.ireturn, 1) := by decide +kernel
theorem dX7_setLoops_0 : decode cX7_setLoops 0 = .ok (.iload_n 1, 1) := by decide +kernel
theorem dX7_setLoops_1 : decode cX7_setLoops 1 = .ok (.iconst 0, 1) := by decide +kernel
theorem dX7_setLoops_2 : decode cX7_setLoops 2 = .ok (.aload_n 0, 1) := by decide +kernel
theorem dX7_setLoops_3 : decode cX7_setLoops 3 = .ok (.getfield 7, 3) := by decide +kernel
theorem dX7_setLoops_6 : decode cX7_setLoops 6 = .ok (.iconst 1, 1) := by decide +kernel
theorem dX7_setLoops_7 : decode cX7_setLoops 7 = .ok (.iaload, 1) := by decide +kernel
theorem dX7_setLoops_8 : decode cX7_setLoops 8 = .ok (.iconst 1, 1) := by decide +kernel
theorem dX7_setLoops_9 : decode cX7_setLoops 9 = .ok (.isub, 1) := by decide +kernel
theorem dX7_setLoops_10 : decode cX7_setLoops 10 = .ok (.invokestatic 40, 3) := by decide +kernel
theorem dX7_setLoops_13 : decode cX7_setLoops 13 = .ok (.ifCond .eq 10, 3) := by decide +kernel
theorem dX7_setLoops_16 : decode cX7_setLoops 16 = .ok (.iload_n 2, 1) := by decide +kernel
theorem dX7_setLoops_17 : decode cX7_setLoops 17 = .ok (.invokestatic 48, 3) := by decide +kernel
theorem dX7_setLoops_20 : decode cX7_setLoops 20 = .ok (.ifCond .ne 5, 3) := by decide +kernel
theorem dX7_setLoops_23 : decode cX7_setLoops 23 = .ok (.iconst (-1), 1) := by decide +kernel
theorem dX7_setLoops_24 : decode cX7_setLoops 24 = .ok (.ireturn, 1) := by decide +kernel
theorem dX7_setLoops_25 : decode cX7_setLoops 25 = .ok (.iload_n 3, 1) := by decide +kernel
theorem dX7_setLoops_26 : decode cX7_setLoops 26 = .ok (.iconst 0, 1) := by decide +kernel
theorem dX7_setLoops_27 : decode cX7_setLoops 27 = .ok (.iconst 3, 1) := by decide +kernel
theorem dX7_setLoops_28 : decode cX7_setLoops 28 = .ok (.invokestatic 40, 3) := by decide +kernel
theorem dX7_setLoops_31 : decode cX7_setLoops 31 = .ok (.ifCond .ne 6, 3) := by decide +kernel
theorem dX7_setLoops_34 : decode cX7_setLoops 34 = .ok (.bipush (-2), 2) := by decide +kernel
theorem dX7_setLoops_36 : decode cX7_setLoops 36 = .ok (.ireturn, 1) := by decide +kernel
theorem dX7_setLoops_37 : decode cX7_setLoops 37 = .ok (.aload_n 0, 1) := by decide +kernel
theorem dX7_setLoops_38 : decode cX7_setLoops 38 = .ok (.iload_n 1, 1) := by decide +kernel
theorem dX7_setLoops_39 : decode cX7_setLoops 39 = .ok (.iload_n 2, 1) := by decide +kernel
theorem dX7_setLoops_40 : decode cX7_setLoops 40 = .ok (.iconst 1, 1) := by decide +kernel
theorem dX7_setLoops_41 : decode cX7_setLoops 41 = .ok (.invokevirtual 65, 3) := by decide +kernel
theorem dX7_setLoops_44 : decode cX7_setLoops 44 = .ok (.iload_n 3, 1) := by decide +kernel
theorem dX7_setLoops_45 : decode cX7_setLoops 45 = .ok (.if_icmp .le 6, 3) := by decide +kernel
theorem dX7_setLoops_48 : decode cX7_setLoops 48 = .ok (.bipush (-5), 2) := by decide +kernel
theorem dX7_setLoops_50 : decode cX7_setLoops 50 = .ok (.ireturn, 1) := by decide +kernel
theorem dX7_setLoops_51 : decode cX7_setLoops 51 = .ok (.aload_n 0, 1) := by decide +kernel
theorem dX7_setLoops_52 : decode cX7_setLoops 52 = .ok (.getfield 7, 3) := by decide +kernel
theorem dX7_setLoops_55 : decode cX7_setLoops 55 = .ok (.bipush 18, 2) := by decide +kernel
theorem dX7_setLoops_57 : decode cX7_setLoops 57 = .ok (.iconst 2, 1) := by decide +kernel
theorem dX7_setLoops_58 : decode cX7_setLoops 58 = .ok (.iload_n 1, 1) := by decide +kernel
theorem dX7_setLoops_59 : decode cX7_setLoops 59 = .ok (.imul, 1) := by decide +kernel
theorem dX7_setLoops_60 : decode cX7_setLoops 60 = .ok (.iadd, 1) := by decide +kernel
theorem dX7_setLoops_61 : decode cX7_setLoops 61 = .ok (.iload_n 2, 1) := by decide +kernel
theorem dX7_setLoops_62 : decode cX7_setLoops 62 = .ok (.iadd, 1) := by decide +kernel
theorem dX7_setLoops_63 : decode cX7_setLoops 63 = .ok (.iaload, 1) := by decide +kernel
theorem dX7_setLoops_64 : decode cX7_setLoops 64 = .ok (.istore 4, 2) := by decide +kernel
theorem dX7_setLoops_66 : decode cX7_setLoops 66 = .ok (.aload_n 0, 1) := by decide +kernel
theorem dX7_setLoops_67 : decode cX7_setLoops 67 = .ok (.getfield 7, 3) := by decide +kernel
theorem dX7_setLoops_70 : decode cX7_setLoops 70 = .ok (.bipush 18, 2) := by decide +kernel
theorem dX7_setLoops_72 : decode cX7_setLoops 72 = .ok (.iconst 2, 1) := by decide +kernel
theorem dX7_setLoops_73 : decode cX7_setLoops 73 = .ok (.iload_n 1, 1) := by decide +kernel
theorem dX7_setLoops_74 : decode cX7_setLoops 74 = .ok (.imul, 1) := by decide +kernel
theorem dX7_setLoops_75 : decode cX7_setLoops 75 = .ok (.iadd, 1) := by decide +kernel
theorem dX7_setLoops_76 : decode cX7_setLoops 76 = .ok (.iload_n 2, 1) := by decide +kernel
theorem dX7_setLoops_77 : decode cX7_setLoops 77 = .ok (.iadd, 1) := by decide +kernel
theorem dX7_setLoops_78 : decode cX7_setLoops 78 = .ok (.iload_n 3, 1) := by decide +kernel
theorem dX7_setLoops_79 : decode cX7_setLoops 79 = .ok (.iastore, 1) := by decide +kernel
theorem dX7_setLoops_80 : decode cX7_setLoops 80 = .ok (.iload 4, 2) := by decide +kernel
theorem dX7_setLoops_82 : decode cX7_setLoops 82 = .ok (.ireturn, 1) := by decide +kernel
theorem dX7_moveTokens_0 : decode cX7_moveTokens 0 = .ok (.aload_n 0, 1) := by decide +kernel
theorem dX7_moveTokens_1 : decode cX7_moveTokens 1 = .ok (.iload_n 1, 1) := by decide +kernel
theorem dX7_moveTokens_2 : decode cX7_moveTokens 2 = .ok (.invokevirtual 44, 3) := by decide +kernel
theorem dX7_moveTokens_5 : decode cX7_moveTokens 5 = .ok (.ifCond .ne 5, 3) := by decide +kernel
theorem dX7_moveTokens_8 : decode cX7_moveTokens 8 = .ok (.iconst (-1), 1) := by decide +kernel
theorem dX7_moveTokens_9 : decode cX7_moveTokens 9 = .ok (.ireturn, 1) := by decide +kernel
theorem dX7_moveTokens_10 : decode cX7_moveTokens 10 = .ok (.iload_n 2, 1) := by decide +kernel
theorem dX7_moveTokens_11 : decode cX7_moveTokens 11 = .ok (.bipush (-10), 2) := by decide +kernel
theorem dX7_moveTokens_13 : decode cX7_moveTokens 13 = .ok (.bipush 10, 2) := by decide +kernel
theorem dX7_moveTokens_15 : decode cX7_moveTokens 15 = .ok (.invokestatic 40, 3) := by decide +kernel
theorem dX7_moveTokens_18 : decode cX7_moveTokens 18 = .ok (.ifCond .ne 6, 3) := by decide +kernel
theorem dX7_moveTokens_21 : decode cX7_moveTokens 21 = .ok (.bipush (-2), 2) := by decide +kernel
theorem dX7_moveTokens_23 : decode cX7_moveTokens 23 = .ok (.ireturn, 1) := by decide +kernel
theorem dX7_moveTokens_24 : decode cX7_moveTokens 24 = .ok (.aload_n 0, 1) := by decide +kernel
theorem dX7_moveTokens_25 : decode cX7_moveTokens 25 = .ok (.getfield 7, 3) := by decide +kernel
theorem dX7_moveTokens_28 : decode cX7_moveTokens 28 = .ok (.bipush 8, 2) := by decide +kernel
theorem dX7_moveTokens_30 : decode cX7_moveTokens 30 = .ok (.iconst 2, 1) := by decide +kernel
theorem dX7_moveTokens_31 : decode cX7_moveTokens 31 = .ok (.iload_n 1, 1) := by decide +kernel
theorem dX7_moveTokens_32 : decode cX7_moveTokens 32 = .ok (.imul, 1) := by decide +kernel
theorem dX7_moveTokens_33 : decode cX7_moveTokens 33 = .ok (.iadd, 1) := by decide +kernel
theorem dX7_moveTokens_34 : decode cX7_moveTokens 34 = .ok (.iaload, 1) := by decide +kernel
theorem dX7_moveTokens_35 : decode cX7_moveTokens 35 = .ok (.iload_n 2, 1) := by decide +kernel
theorem dX7_moveTokens_36 : decode cX7_moveTokens 36 = .ok (.isub, 1) := by decide +kernel
theorem dX7_moveTokens_37 : decode cX7_moveTokens 37 = .ok (.istore_n 3, 1) := by decide +kernel
theorem dX7_moveTokens_38 : decode cX7_moveTokens 38 = .ok (.aload_n 0, 1) := by decide +kernel
theorem dX7_moveTokens_39 : decode cX7_moveTokens 39 = .ok (.getfield 7, 3) := by decide +kernel
theorem dX7_moveTokens_42 : decode cX7_moveTokens 42 = .ok (.bipush 8, 2) := by decide +kernel
theorem dX7_moveTokens_44 : decode cX7_moveTokens 44 = .ok (.iconst 2, 1) := by decide +kernel
theorem dX7_moveTokens_45 : decode cX7_moveTokens 45 = .ok (.iload_n 1, 1) := by decide +kernel
theorem dX7_moveTokens_46 : decode cX7_moveTokens 46 = .ok (.imul, 1) := by decide +kernel
theorem dX7_moveTokens_47 : decode cX7_moveTokens 47 = .ok (.iadd, 1) := by decide +kernel
theorem dX7_moveTokens_48 : decode cX7_moveTokens 48 = .ok (.iconst 1, 1) := by decide +kernel
theorem dX7_moveTokens_49 : decode cX7_moveTokens 49 = .ok (.iadd, 1) := by decide +kernel
theorem dX7_moveTokens_50 : decode cX7_moveTokens 50 = .ok (.iaload, 1) := by decide +kernel
theorem dX7_moveTokens_51 : decode cX7_moveTokens 51 = .ok (.iload_n 2, 1) := by decide +kernel
theorem dX7_moveTokens_52 : decode cX7_moveTokens 52 = .ok (.iadd, 1) := by decide +kernel
theorem dX7_moveTokens_53 : decode cX7_moveTokens 53 = .ok (.istore 4, 2) := by decide +kernel
theorem dX7_moveTokens_55 : decode cX7_moveTokens 55 = .ok (.aload_n 0, 1) := by decide +kernel
theorem dX7_moveTokens_56 : decode cX7_moveTokens 56 = .ok (.iload_n 1, 1) := by decide +kernel
theorem dX7_moveTokens_57 : decode cX7_moveTokens 57 = .ok (.invokevirtual 58, 3) := by decide +kernel
theorem dX7_moveTokens_60 : decode cX7_moveTokens 60 = .ok (.ifCond .eq 12, 3) := by decide +kernel
theorem dX7_moveTokens_63 : decode cX7_moveTokens 63 = .ok (.iload_n 3, 1) := by decide +kernel
theorem dX7_moveTokens_64 : decode cX7_moveTokens 64 = .ok (.ifCond .lt 8, 3) := by decide +kernel
theorem dX7_moveTokens_67 : decode cX7_moveTokens 67 = .ok (.iload 4, 2) := by decide +kernel
theorem dX7_moveTokens_69 : decode cX7_moveTokens 69 = .ok (.ifCond .ge 6, 3) := by decide +kernel
theorem dX7_moveTokens_72 : decode cX7_moveTokens 72 = .ok (.bipush (-5), 2) := by decide +kernel
theorem dX7_moveTokens_74 : decode cX7_moveTokens 74 = .ok (.ireturn, 1) := by decide +kernel
theorem dX7_moveTokens_75 : decode cX7_moveTokens 75 = .ok (.aload_n 0, 1) := by decide +kernel
theorem dX7_moveTokens_76 : decode cX7_moveTokens 76 = .ok (.getfield 7, 3) := by decide +kernel
theorem dX7_moveTokens_79 : decode cX7_moveTokens 79 = .ok (.bipush 8, 2) := by decide +kernel
theorem dX7_moveTokens_81 : decode cX7_moveTokens 81 = .ok (.iconst 2, 1) := by decide +kernel
theorem dX7_moveTokens_82 : decode cX7_moveTokens 82 = .ok (.iload_n 1, 1) := by decide +kernel
theorem dX7_moveTokens_83 : decode cX7_moveTokens 83 = .ok (.imul, 1) := by decide +kernel
theorem dX7_moveTokens_84 : decode cX7_moveTokens 84 = .ok (.iadd, 1) := by decide +kernel
theorem dX7_moveTokens_85 : decode cX7_moveTokens 85 = .ok (.iload_n 3, 1) := by decide +kernel
theorem dX7_moveTokens_86 : decode cX7_moveTokens 86 = .ok (.iastore, 1) := by decide +kernel
theorem dX7_moveTokens_87 : decode cX7_moveTokens 87 = .ok (.aload_n 0, 1) := by decide +kernel
theorem dX7_moveTokens_88 : decode cX7_moveTokens 88 = .ok (.getfield 7, 3) := by decide +kernel
theorem dX7_moveTokens_91 : decode cX7_moveTokens 91 = .ok (.bipush 8, 2) := by decide +kernel
theorem dX7_moveTokens_93 : decode cX7_moveTokens 93 = .ok (.iconst 2, 1) := by decide +kernel
theorem dX7_moveTokens_94 : decode cX7_moveTokens 94 = .ok (.iload_n 1, 1) := by decide +kernel
theorem dX7_moveTokens_95 : decode cX7_moveTokens 95 = .ok (.imul, 1) := by decide +kernel
theorem dX7_moveTokens_96 : decode cX7_moveTokens 96 = .ok (.iadd, 1) := by decide +kernel
theorem dX7_moveTokens_97 : decode cX7_moveTokens 97 = .ok (.iconst 1, 1) := by decide +kernel
theorem dX7_moveTokens_98 : decode cX7_moveTokens 98 = .ok (.iadd, 1) := by decide +kernel
theorem dX7_moveTokens_99 : decode cX7_moveTokens 99 = .ok (.iload 4, 2) := by decide +kernel
theorem dX7_moveTokens_101 : decode cX7_moveTokens 101 = .ok (.iastore, 1) := by decide +kernel
theorem dX7_moveTokens_102 : decode cX7_moveTokens 102 = .ok (.iload_n 3, 1) := by decide +kernel
theorem dX7_moveTokens_103 : decode cX7_moveTokens 103 = .ok (.ireturn, 1) := by decide +kernel
theorem dX7_section_0 : decode cX7_section 0 = .ok (.aload_n 0, 1) := by decide +kernel
theorem dX7_section_1 : decode cX7_section 1 = .ok (.iload_n 1, 1) := by decide +kernel
theorem dX7_section_2 : decode cX7_section 2 = .ok (.invokevirtual 44, 3) := by decide +kernel
theorem dX7_section_5 : decode cX7_section 5 = .ok (.ifCond .ne 5, 3) := by decide +kernel
theorem dX7_section_8 : decode cX7_section 8 = .ok (.iconst (-1), 1) := by decide +kernel
theorem dX7_section_9 : decode cX7_section 9 = .ok (.ireturn, 1) := by decide +kernel
theorem dX7_section_10 : decode cX7_section 10 = .ok (.aload_n 0, 1) := by decide +kernel
theorem dX7_section_11 : decode cX7_section 11 = .ok (.iload_n 1, 1) := by decide +kernel
theorem dX7_section_12 : decode cX7_section 12 = .ok (.invokevirtual 58, 3) := by decide +kernel
theorem dX7_section_15 : decode cX7_section 15 = .ok (.istore_n 3, 1) := by decide +kernel
theorem dX7_section_16 : decode cX7_section 16 = .ok (.iload_n 2, 1) := by decide +kernel
theorem dX7_section_17 : decode cX7_section 17 = .ok (.tableswitch 92 0 4 #[35, 45, 54, 54, 78], 35) := by decide +kernel
theorem dX7_section_52 : decode cX7_section 52 = .ok (.iload_n 3, 1) := by decide +kernel
theorem dX7_section_53 : decode cX7_section 53 = .ok (.ifCond .eq 7, 3) := by decide +kernel
theorem dX7_section_56 : decode cX7_section 56 = .ok (.iconst 1, 1) := by decide +kernel
theorem dX7_section_57 : decode cX7_section 57 = .ok (.goto 4, 3) := by decide +kernel
theorem dX7_section_60 : decode cX7_section 60 = .ok (.iconst 0, 1) := by decide +kernel
theorem dX7_section_61 : decode cX7_section 61 = .ok (.ireturn, 1) := by decide +kernel
theorem dX7_section_62 : decode cX7_section 62 = .ok (.aload_n 0, 1) := by decide +kernel
theorem dX7_section_63 : decode cX7_section 63 = .ok (.getfield 7, 3) := by decide +kernel
theorem dX7_section_66 : decode cX7_section 66 = .ok (.iconst 3, 1) := by decide +kernel
theorem dX7_section_67 : decode cX7_section 67 = .ok (.iload_n 1, 1) := by decide +kernel
theorem dX7_section_68 : decode cX7_section 68 = .ok (.iadd, 1) := by decide +kernel
theorem dX7_section_69 : decode cX7_section 69 = .ok (.iaload, 1) := by decide +kernel
theorem dX7_section_70 : decode cX7_section 70 = .ok (.ireturn, 1) := by decide +kernel
theorem dX7_section_71 : decode cX7_section 71 = .ok (.iload_n 3, 1) := by decide +kernel
theorem dX7_section_72 : decode cX7_section 72 = .ok (.ifCond .eq 21, 3) := by decide +kernel
theorem dX7_section_75 : decode cX7_section 75 = .ok (.aload_n 0, 1) := by decide +kernel
theorem dX7_section_76 : decode cX7_section 76 = .ok (.getfield 7, 3) := by decide +kernel
theorem dX7_section_79 : decode cX7_section 79 = .ok (.bipush 8, 2) := by decide +kernel
theorem dX7_section_81 : decode cX7_section 81 = .ok (.iconst 2, 1) := by decide +kernel
theorem dX7_section_82 : decode cX7_section 82 = .ok (.iload_n 1, 1) := by decide +kernel
theorem dX7_section_83 : decode cX7_section 83 = .ok (.imul, 1) := by decide +kernel
theorem dX7_section_84 : decode cX7_section 84 = .ok (.iadd, 1) := by decide +kernel
theorem dX7_section_85 : decode cX7_section 85 = .ok (.iload_n 2, 1) := by decide +kernel
theorem dX7_section_86 : decode cX7_section 86 = .ok (.iadd, 1) := by decide +kernel
theorem dX7_section_87 : decode cX7_section 87 = .ok (.iconst 2, 1) := by decide +kernel
theorem dX7_section_88 : decode cX7_section 88 = .ok (.isub, 1) := by decide +kernel
theorem dX7_section_89 : decode cX7_section 89 = .ok (.iaload, 1) := by decide +kernel
theorem dX7_section_90 : decode cX7_section 90 = .ok (.goto 4, 3) := by decide +kernel
theorem dX7_section_93 : decode cX7_section 93 = .ok (.iconst 0, 1) := by decide +kernel
theorem dX7_section_94 : decode cX7_section 94 = .ok (.ireturn, 1) := by decide +kernel
theorem dX7_section_95 : decode cX7_section 95 = .ok (.aload_n 0, 1) := by decide +kernel
theorem dX7_section_96 : decode cX7_section 96 = .ok (.iload_n 1, 1) := by decide +kernel
theorem dX7_section_97 : decode cX7_section 97 = .ok (.invokevirtual 68, 3) := by decide +kernel
theorem dX7_section_100 : decode cX7_section 100 = .ok (.ifCond .eq 7, 3) := by decide +kernel
theorem dX7_section_103 : decode cX7_section 103 = .ok (.iconst 1, 1) := by decide +kernel
theorem dX7_section_104 : decode cX7_section 104 = .ok (.goto 4, 3) := by decide +kernel
theorem dX7_section_107 : decode cX7_section 107 = .ok (.iconst 0, 1) := by decide +kernel
theorem dX7_section_108 : decode cX7_section 108 = .ok (.ireturn, 1) := by decide +kernel
theorem dX7_section_109 : decode cX7_section 109 = .ok (.bipush (-2), 2) := by decide +kernel
theorem dX7_section_111 : decode cX7_section 111 = .ok (.ireturn, 1) := by decide +kernel
theorem dX7_block_0 : decode cX7_block 0 = .ok (.aload_n 0, 1) := by decide +kernel
theorem dX7_block_1 : decode cX7_block 1 = .ok (.iload_n 1, 1) := by decide +kernel
theorem dX7_block_2 : decode cX7_block 2 = .ok (.iload_n 2, 1) := by decide +kernel
theorem dX7_block_3 : decode cX7_block 3 = .ok (.invokevirtual 71, 3) := by decide +kernel
theorem dX7_block_6 : decode cX7_block 6 = .ok (.ifCond .ne 5, 3) := by decide +kernel
theorem dX7_block_9 : decode cX7_block 9 = .ok (.iconst (-1), 1) := by decide +kernel
theorem dX7_block_10 : decode cX7_block 10 = .ok (.ireturn, 1) := by decide +kernel
theorem dX7_block_11 : decode cX7_block 11 = .ok (.iload_n 3, 1) := by decide +kernel
theorem dX7_block_12 : decode cX7_block 12 = .ok (.iconst 0, 1) := by decide +kernel
theorem dX7_block_13 : decode cX7_block 13 = .ok (.iconst 4, 1) := by decide +kernel
theorem dX7_block_14 : decode cX7_block 14 = .ok (.invokestatic 40, 3) := by decide +kernel
theorem dX7_block_17 : decode cX7_block 17 = .ok (.ifCond .eq 13, 3) := by decide +kernel
theorem dX7_block_20 : decode cX7_block 20 = .ok (.aload_n 0, 1) := by decide +kernel
theorem dX7_block_21 : decode cX7_block 21 = .ok (.iload_n 1, 1) := by decide +kernel
theorem dX7_block_22 : decode cX7_block 22 = .ok (.iload_n 2, 1) := by decide +kernel
theorem dX7_block_23 : decode cX7_block 23 = .ok (.iload_n 3, 1) := by decide +kernel
theorem dX7_block_24 : decode cX7_block 24 = .ok (.invokevirtual 55, 3) := by decide +kernel
theorem dX7_block_27 : decode cX7_block 27 = .ok (.goto 5, 3) := by decide +kernel
theorem dX7_block_30 : decode cX7_block 30 = .ok (.bipush (-2), 2) := by decide +kernel
theorem dX7_block_32 : decode cX7_block 32 = .ok (.ireturn, 1) := by decide +kernel
theorem dX7_firstBox_0 : decode cX7_firstBox 0 = .ok (.iload_n 1, 1) := by decide +kernel
theorem dX7_firstBox_1 : decode cX7_firstBox 1 = .ok (.ifCond .ne 7, 3) := by decide +kernel
theorem dX7_firstBox_4 : decode cX7_firstBox 4 = .ok (.iconst 0, 1) := by decide +kernel
theorem dX7_firstBox_5 : decode cX7_firstBox 5 = .ok (.goto 11, 3) := by decide +kernel
theorem dX7_firstBox_8 : decode cX7_firstBox 8 = .ok (.aload_n 0, 1) := by decide +kernel
theorem dX7_firstBox_9 : decode cX7_firstBox 9 = .ok (.getfield 7, 3) := by decide +kernel
theorem dX7_firstBox_12 : decode cX7_firstBox 12 = .ok (.iconst 1, 1) := by decide +kernel
theorem dX7_firstBox_13 : decode cX7_firstBox 13 = .ok (.iaload, 1) := by decide +kernel
theorem dX7_firstBox_14 : decode cX7_firstBox 14 = .ok (.iconst 1, 1) := by decide +kernel
theorem dX7_firstBox_15 : decode cX7_firstBox 15 = .ok (.isub, 1) := by decide +kernel
theorem dX7_firstBox_16 : decode cX7_firstBox 16 = .ok (.ireturn, 1) := by decide +kernel
theorem dX7_isFree_0 : decode cX7_isFree 0 = .ok (.aload_n 0, 1) := by decide +kernel
theorem dX7_isFree_1 : decode cX7_isFree 1 = .ok (.iload_n 1, 1) := by decide +kernel
theorem dX7_isFree_2 : decode cX7_isFree 2 = .ok (.iload_n 2, 1) := by decide +kernel
theorem dX7_isFree_3 : decode cX7_isFree 3 = .ok (.iconst 0, 1) := by decide +kernel
theorem dX7_isFree_4 : decode cX7_isFree 4 = .ok (.invokevirtual 65, 3) := by decide +kernel
theorem dX7_isFree_7 : decode cX7_isFree 7 = .ok (.ifCond .ne 7, 3) := by decide +kernel
theorem dX7_isFree_10 : decode cX7_isFree 10 = .ok (.iconst 1, 1) := by decide +kernel
theorem dX7_isFree_11 : decode cX7_isFree 11 = .ok (.goto 4, 3) := by decide +kernel
theorem dX7_isFree_14 : decode cX7_isFree 14 = .ok (.iconst 0, 1) := by decide +kernel
theorem dX7_isFree_15 : decode cX7_isFree 15 = .ok (.ireturn, 1) := by decide +kernel
theorem dX7_add_0 : decode cX7_add 0 = .ok (.aload_n 0, 1) := by decide +kernel
theorem dX7_add_1 : decode cX7_add 1 = .ok (.getfield 7, 3) := by decide +kernel
theorem dX7_add_4 : decode cX7_add 4 = .ok (.sipush 381, 3) := by decide +kernel
theorem dX7_add_7 : decode cX7_add 7 = .ok (.iaload, 1) := by decide +kernel
theorem dX7_add_8 : decode cX7_add 8 = .ok (.istore_n 3, 1) := by decide +kernel
theorem dX7_add_9 : decode cX7_add 9 = .ok (.aload_n 0, 1) := by decide +kernel
theorem dX7_add_10 : decode cX7_add 10 = .ok (.iload_n 3, 1) := by decide +kernel
theorem dX7_add_11 : decode cX7_add 11 = .ok (.iconst 0, 1) := by decide +kernel
theorem dX7_add_12 : decode cX7_add 12 = .ok (.iload_n 1, 1) := by decide +kernel
theorem dX7_add_13 : decode cX7_add 13 = .ok (.invokevirtual 75, 3) := by decide +kernel
theorem dX7_add_16 : decode cX7_add 16 = .ok (.aload_n 0, 1) := by decide +kernel
theorem dX7_add_17 : decode cX7_add 17 = .ok (.iload_n 3, 1) := by decide +kernel
theorem dX7_add_18 : decode cX7_add 18 = .ok (.iconst 1, 1) := by decide +kernel
theorem dX7_add_19 : decode cX7_add 19 = .ok (.iload_n 2, 1) := by decide +kernel
theorem dX7_add_20 : decode cX7_add 20 = .ok (.invokevirtual 75, 3) := by decide +kernel
theorem dX7_add_23 : decode cX7_add 23 = .ok (.aload_n 0, 1) := by decide +kernel
theorem dX7_add_24 : decode cX7_add 24 = .ok (.iload_n 3, 1) := by decide +kernel
theorem dX7_add_25 : decode cX7_add 25 = .ok (.iconst 2, 1) := by decide +kernel
theorem dX7_add_26 : decode cX7_add 26 = .ok (.iconst 0, 1) := by decide +kernel
theorem dX7_add_27 : decode cX7_add 27 = .ok (.invokevirtual 75, 3) := by decide +kernel
theorem dX7_add_30 : decode cX7_add 30 = .ok (.aload_n 0, 1) := by decide +kernel
theorem dX7_add_31 : decode cX7_add 31 = .ok (.iload_n 3, 1) := by decide +kernel
theorem dX7_add_32 : decode cX7_add 32 = .ok (.iconst 3, 1) := by decide +kernel
theorem dX7_add_33 : decode cX7_add 33 = .ok (.aload_n 0, 1) := by decide +kernel
theorem dX7_add_34 : decode cX7_add 34 = .ok (.iload_n 2, 1) := by decide +kernel
theorem dX7_add_35 : decode cX7_add 35 = .ok (.invokevirtual 79, 3) := by decide +kernel
theorem dX7_add_38 : decode cX7_add 38 = .ok (.invokevirtual 75, 3) := by decide +kernel
theorem dX7_add_41 : decode cX7_add 41 = .ok (.aload_n 0, 1) := by decide +kernel
theorem dX7_add_42 : decode cX7_add 42 = .ok (.iload_n 3, 1) := by decide +kernel
theorem dX7_add_43 : decode cX7_add 43 = .ok (.iconst 4, 1) := by decide +kernel
theorem dX7_add_44 : decode cX7_add 44 = .ok (.iconst 0, 1) := by decide +kernel
theorem dX7_add_45 : decode cX7_add 45 = .ok (.invokevirtual 75, 3) := by decide +kernel
theorem dX7_add_48 : decode cX7_add 48 = .ok (.aload_n 0, 1) := by decide +kernel
theorem dX7_add_49 : decode cX7_add 49 = .ok (.iload_n 3, 1) := by decide +kernel
theorem dX7_add_50 : decode cX7_add 50 = .ok (.iconst 5, 1) := by decide +kernel
theorem dX7_add_51 : decode cX7_add 51 = .ok (.iconst 1, 1) := by decide +kernel
theorem dX7_add_52 : decode cX7_add 52 = .ok (.invokevirtual 75, 3) := by decide +kernel
theorem dX7_add_55 : decode cX7_add 55 = .ok (.aload_n 0, 1) := by decide +kernel
theorem dX7_add_56 : decode cX7_add 56 = .ok (.iload_n 3, 1) := by decide +kernel
theorem dX7_add_57 : decode cX7_add 57 = .ok (.bipush 6, 2) := by decide +kernel
theorem dX7_add_59 : decode cX7_add 59 = .ok (.aload_n 0, 1) := by decide +kernel
theorem dX7_add_60 : decode cX7_add 60 = .ok (.getfield 7, 3) := by decide +kernel
theorem dX7_add_63 : decode cX7_add 63 = .ok (.iconst 0, 1) := by decide +kernel
theorem dX7_add_64 : decode cX7_add 64 = .ok (.iaload, 1) := by decide +kernel
theorem dX7_add_65 : decode cX7_add 65 = .ok (.invokevirtual 75, 3) := by decide +kernel
theorem dX7_add_68 : decode cX7_add 68 = .ok (.aload_n 0, 1) := by decide +kernel
theorem dX7_add_69 : decode cX7_add 69 = .ok (.iload_n 3, 1) := by decide +kernel
theorem dX7_add_70 : decode cX7_add 70 = .ok (.bipush 7, 2) := by decide +kernel
theorem dX7_add_72 : decode cX7_add 72 = .ok (.bipush (-6), 2) := by decide +kernel
theorem dX7_add_74 : decode cX7_add 74 = .ok (.invokevirtual 75, 3) := by decide +kernel
theorem dX7_add_77 : decode cX7_add 77 = .ok (.aload_n 0, 1) := by decide +kernel
theorem dX7_add_78 : decode cX7_add 78 = .ok (.getfield 7, 3) := by decide +kernel
theorem dX7_add_81 : decode cX7_add 81 = .ok (.sipush 381, 3) := by decide +kernel
theorem dX7_add_84 : decode cX7_add 84 = .ok (.dup2, 1) := by decide +kernel
theorem dX7_add_85 : decode cX7_add 85 = .ok (.iaload, 1) := by decide +kernel
theorem dX7_add_86 : decode cX7_add 86 = .ok (.iconst 1, 1) := by decide +kernel
theorem dX7_add_87 : decode cX7_add 87 = .ok (.iadd, 1) := by decide +kernel
theorem dX7_add_88 : decode cX7_add 88 = .ok (.iastore, 1) := by decide +kernel
theorem dX7_add_89 : decode cX7_add 89 = .ok (.iload_n 3, 1) := by decide +kernel
theorem dX7_add_90 : decode cX7_add 90 = .ok (.ireturn, 1) := by decide +kernel
theorem dX7_appear_0 : decode cX7_appear 0 = .ok (.iload_n 1, 1) := by decide +kernel
theorem dX7_appear_1 : decode cX7_appear 1 = .ok (.iconst 1, 1) := by decide +kernel
theorem dX7_appear_2 : decode cX7_appear 2 = .ok (.iconst 5, 1) := by decide +kernel
theorem dX7_appear_3 : decode cX7_appear 3 = .ok (.invokestatic 40, 3) := by decide +kernel
theorem dX7_appear_6 : decode cX7_appear 6 = .ok (.ifCond .eq 10, 3) := by decide +kernel
theorem dX7_appear_9 : decode cX7_appear 9 = .ok (.iload_n 2, 1) := by decide +kernel
theorem dX7_appear_10 : decode cX7_appear 10 = .ok (.invokestatic 48, 3) := by decide +kernel
theorem dX7_appear_13 : decode cX7_appear 13 = .ok (.ifCond .ne 6, 3) := by decide +kernel
theorem dX7_appear_16 : decode cX7_appear 16 = .ok (.bipush (-2), 2) := by decide +kernel
theorem dX7_appear_18 : decode cX7_appear 18 = .ok (.ireturn, 1) := by decide +kernel
theorem dX7_appear_19 : decode cX7_appear 19 = .ok (.aload_n 0, 1) := by decide +kernel
theorem dX7_appear_20 : decode cX7_appear 20 = .ok (.getfield 7, 3) := by decide +kernel
theorem dX7_appear_23 : decode cX7_appear 23 = .ok (.sipush 381, 3) := by decide +kernel
theorem dX7_appear_26 : decode cX7_appear 26 = .ok (.iaload, 1) := by decide +kernel
theorem dX7_appear_27 : decode cX7_appear 27 = .ok (.bipush 12, 2) := by decide +kernel
theorem dX7_appear_29 : decode cX7_appear 29 = .ok (.if_icmp .ne 6, 3) := by decide +kernel
theorem dX7_appear_32 : decode cX7_appear 32 = .ok (.bipush (-4), 2) := by decide +kernel
theorem dX7_appear_34 : decode cX7_appear 34 = .ok (.ireturn, 1) := by decide +kernel
theorem dX7_appear_35 : decode cX7_appear 35 = .ok (.aload_n 0, 1) := by decide +kernel
theorem dX7_appear_36 : decode cX7_appear 36 = .ok (.aload_n 0, 1) := by decide +kernel
theorem dX7_appear_37 : decode cX7_appear 37 = .ok (.iload_n 2, 1) := by decide +kernel
theorem dX7_appear_38 : decode cX7_appear 38 = .ok (.invokevirtual 79, 3) := by decide +kernel
theorem dX7_appear_41 : decode cX7_appear 41 = .ok (.iload_n 2, 1) := by decide +kernel
theorem dX7_appear_42 : decode cX7_appear 42 = .ok (.invokevirtual 83, 3) := by decide +kernel
theorem dX7_appear_45 : decode cX7_appear 45 = .ok (.ifCond .eq 12, 3) := by decide +kernel
theorem dX7_appear_48 : decode cX7_appear 48 = .ok (.aload_n 0, 1) := by decide +kernel
theorem dX7_appear_49 : decode cX7_appear 49 = .ok (.iload_n 1, 1) := by decide +kernel
theorem dX7_appear_50 : decode cX7_appear 50 = .ok (.iload_n 2, 1) := by decide +kernel
theorem dX7_appear_51 : decode cX7_appear 51 = .ok (.invokevirtual 86, 3) := by decide +kernel
theorem dX7_appear_54 : decode cX7_appear 54 = .ok (.goto 5, 3) := by decide +kernel
theorem dX7_appear_57 : decode cX7_appear 57 = .ok (.bipush (-5), 2) := by decide +kernel
theorem dX7_appear_59 : decode cX7_appear 59 = .ok (.ireturn, 1) := by decide +kernel
theorem dX7_train_0 : decode cX7_train 0 = .ok (.aload_n 0, 1) := by decide +kernel
theorem dX7_train_1 : decode cX7_train 1 = .ok (.iload_n 1, 1) := by decide +kernel
theorem dX7_train_2 : decode cX7_train 2 = .ok (.invokevirtual 89, 3) := by decide +kernel
theorem dX7_train_5 : decode cX7_train 5 = .ok (.ifCond .ne 5, 3) := by decide +kernel
theorem dX7_train_8 : decode cX7_train 8 = .ok (.iconst (-1), 1) := by decide +kernel
theorem dX7_train_9 : decode cX7_train 9 = .ok (.ireturn, 1) := by decide +kernel
theorem dX7_train_10 : decode cX7_train 10 = .ok (.iload_n 2, 1) := by decide +kernel
theorem dX7_train_11 : decode cX7_train 11 = .ok (.iconst 0, 1) := by decide +kernel
theorem dX7_train_12 : decode cX7_train 12 = .ok (.bipush 7, 2) := by decide +kernel
theorem dX7_train_14 : decode cX7_train 14 = .ok (.invokestatic 40, 3) := by decide +kernel
theorem dX7_train_17 : decode cX7_train 17 = .ok (.ifCond .eq 12, 3) := by decide +kernel
theorem dX7_train_20 : decode cX7_train 20 = .ok (.aload_n 0, 1) := by decide +kernel
theorem dX7_train_21 : decode cX7_train 21 = .ok (.iload_n 1, 1) := by decide +kernel
theorem dX7_train_22 : decode cX7_train 22 = .ok (.iload_n 2, 1) := by decide +kernel
theorem dX7_train_23 : decode cX7_train 23 = .ok (.invokevirtual 61, 3) := by decide +kernel
theorem dX7_train_26 : decode cX7_train 26 = .ok (.goto 5, 3) := by decide +kernel
theorem dX7_train_29 : decode cX7_train 29 = .ok (.bipush (-2), 2) := by decide +kernel
theorem dX7_train_31 : decode cX7_train 31 = .ok (.ireturn, 1) := by decide +kernel
theorem dX7_nextSection_0 : decode cX7_nextSection 0 = .ok (.aload_n 0, 1) := by decide +kernel
theorem dX7_nextSection_1 : decode cX7_nextSection 1 = .ok (.iload_n 1, 1) := by decide +kernel
theorem dX7_nextSection_2 : decode cX7_nextSection 2 = .ok (.iconst 3, 1) := by decide +kernel
theorem dX7_nextSection_3 : decode cX7_nextSection 3 = .ok (.invokevirtual 61, 3) := by decide +kernel
theorem dX7_nextSection_6 : decode cX7_nextSection 6 = .ok (.aload_n 0, 1) := by decide +kernel
theorem dX7_nextSection_7 : decode cX7_nextSection 7 = .ok (.iload_n 1, 1) := by decide +kernel
theorem dX7_nextSection_8 : decode cX7_nextSection 8 = .ok (.iconst 1, 1) := by decide +kernel
theorem dX7_nextSection_9 : decode cX7_nextSection 9 = .ok (.invokevirtual 61, 3) := by decide +kernel
theorem dX7_nextSection_12 : decode cX7_nextSection 12 = .ok (.isub, 1) := by decide +kernel
theorem dX7_nextSection_13 : decode cX7_nextSection 13 = .ok (.istore_n 2, 1) := by decide +kernel
theorem dX7_nextSection_14 : decode cX7_nextSection 14 = .ok (.aload_n 0, 1) := by decide +kernel
theorem dX7_nextSection_15 : decode cX7_nextSection 15 = .ok (.iload_n 2, 1) := by decide +kernel
theorem dX7_nextSection_16 : decode cX7_nextSection 16 = .ok (.invokevirtual 44, 3) := by decide +kernel
theorem dX7_nextSection_19 : decode cX7_nextSection 19 = .ok (.ifCond .eq 7, 3) := by decide +kernel
theorem dX7_nextSection_22 : decode cX7_nextSection 22 = .ok (.iload_n 2, 1) := by decide +kernel
theorem dX7_nextSection_23 : decode cX7_nextSection 23 = .ok (.goto 5, 3) := by decide +kernel
theorem dX7_nextSection_26 : decode cX7_nextSection 26 = .ok (.bipush (-6), 2) := by decide +kernel
theorem dX7_nextSection_28 : decode cX7_nextSection 28 = .ok (.ireturn, 1) := by decide +kernel
theorem dX7_isCalmBehind_0 : decode cX7_isCalmBehind 0 = .ok (.aload_n 0, 1) := by decide +kernel
theorem dX7_isCalmBehind_1 : decode cX7_isCalmBehind 1 = .ok (.iload_n 1, 1) := by decide +kernel
theorem dX7_isCalmBehind_2 : decode cX7_isCalmBehind 2 = .ok (.iconst 1, 1) := by decide +kernel
theorem dX7_isCalmBehind_3 : decode cX7_isCalmBehind 3 = .ok (.invokevirtual 61, 3) := by decide +kernel
theorem dX7_isCalmBehind_6 : decode cX7_isCalmBehind 6 = .ok (.istore_n 2, 1) := by decide +kernel
theorem dX7_isCalmBehind_7 : decode cX7_isCalmBehind 7 = .ok (.aload_n 0, 1) := by decide +kernel
theorem dX7_isCalmBehind_8 : decode cX7_isCalmBehind 8 = .ok (.iload_n 1, 1) := by decide +kernel
theorem dX7_isCalmBehind_9 : decode cX7_isCalmBehind 9 = .ok (.iconst 3, 1) := by decide +kernel
theorem dX7_isCalmBehind_10 : decode cX7_isCalmBehind 10 = .ok (.invokevirtual 61, 3) := by decide +kernel
theorem dX7_isCalmBehind_13 : decode cX7_isCalmBehind 13 = .ok (.iconst 1, 1) := by decide +kernel
theorem dX7_isCalmBehind_14 : decode cX7_isCalmBehind 14 = .ok (.isub, 1) := by decide +kernel
theorem dX7_isCalmBehind_15 : decode cX7_isCalmBehind 15 = .ok (.iload_n 2, 1) := by decide +kernel
theorem dX7_isCalmBehind_16 : decode cX7_isCalmBehind 16 = .ok (.iadd, 1) := by decide +kernel
theorem dX7_isCalmBehind_17 : decode cX7_isCalmBehind 17 = .ok (.istore_n 3, 1) := by decide +kernel
theorem dX7_isCalmBehind_18 : decode cX7_isCalmBehind 18 = .ok (.aload_n 0, 1) := by decide +kernel
theorem dX7_isCalmBehind_19 : decode cX7_isCalmBehind 19 = .ok (.iload_n 3, 1) := by decide +kernel
theorem dX7_isCalmBehind_20 : decode cX7_isCalmBehind 20 = .ok (.invokevirtual 44, 3) := by decide +kernel
theorem dX7_isCalmBehind_23 : decode cX7_isCalmBehind 23 = .ok (.ifCond .eq 24, 3) := by decide +kernel
theorem dX7_isCalmBehind_26 : decode cX7_isCalmBehind 26 = .ok (.aload_n 0, 1) := by decide +kernel
theorem dX7_isCalmBehind_27 : decode cX7_isCalmBehind 27 = .ok (.iload_n 3, 1) := by decide +kernel
theorem dX7_isCalmBehind_28 : decode cX7_isCalmBehind 28 = .ok (.iload_n 2, 1) := by decide +kernel
theorem dX7_isCalmBehind_29 : decode cX7_isCalmBehind 29 = .ok (.iconst 0, 1) := by decide +kernel
theorem dX7_isCalmBehind_30 : decode cX7_isCalmBehind 30 = .ok (.invokevirtual 55, 3) := by decide +kernel
theorem dX7_isCalmBehind_33 : decode cX7_isCalmBehind 33 = .ok (.ifCond .eq 14, 3) := by decide +kernel
theorem dX7_isCalmBehind_36 : decode cX7_isCalmBehind 36 = .ok (.aload_n 0, 1) := by decide +kernel
theorem dX7_isCalmBehind_37 : decode cX7_isCalmBehind 37 = .ok (.iload_n 3, 1) := by decide +kernel
theorem dX7_isCalmBehind_38 : decode cX7_isCalmBehind 38 = .ok (.iload_n 2, 1) := by decide +kernel
theorem dX7_isCalmBehind_39 : decode cX7_isCalmBehind 39 = .ok (.iconst 0, 1) := by decide +kernel
theorem dX7_isCalmBehind_40 : decode cX7_isCalmBehind 40 = .ok (.invokevirtual 55, 3) := by decide +kernel
theorem dX7_isCalmBehind_43 : decode cX7_isCalmBehind 43 = .ok (.iconst 3, 1) := by decide +kernel
theorem dX7_isCalmBehind_44 : decode cX7_isCalmBehind 44 = .ok (.if_icmp .ne 7, 3) := by decide +kernel
theorem dX7_isCalmBehind_47 : decode cX7_isCalmBehind 47 = .ok (.iconst 1, 1) := by decide +kernel
theorem dX7_isCalmBehind_48 : decode cX7_isCalmBehind 48 = .ok (.goto 4, 3) := by decide +kernel
theorem dX7_isCalmBehind_51 : decode cX7_isCalmBehind 51 = .ok (.iconst 0, 1) := by decide +kernel
theorem dX7_isCalmBehind_52 : decode cX7_isCalmBehind 52 = .ok (.ireturn, 1) := by decide +kernel
theorem dX7_isOffered_0 : decode cX7_isOffered 0 = .ok (.aload_n 0, 1) := by decide +kernel
theorem dX7_isOffered_1 : decode cX7_isOffered 1 = .ok (.iload_n 1, 1) := by decide +kernel
theorem dX7_isOffered_2 : decode cX7_isOffered 2 = .ok (.invokevirtual 92, 3) := by decide +kernel
theorem dX7_isOffered_5 : decode cX7_isOffered 5 = .ok (.istore_n 2, 1) := by decide +kernel
theorem dX7_isOffered_6 : decode cX7_isOffered 6 = .ok (.iload_n 2, 1) := by decide +kernel
theorem dX7_isOffered_7 : decode cX7_isOffered 7 = .ok (.ifCond .lt 23, 3) := by decide +kernel
theorem dX7_isOffered_10 : decode cX7_isOffered 10 = .ok (.aload_n 0, 1) := by decide +kernel
theorem dX7_isOffered_11 : decode cX7_isOffered 11 = .ok (.iload_n 2, 1) := by decide +kernel
theorem dX7_isOffered_12 : decode cX7_isOffered 12 = .ok (.aload_n 0, 1) := by decide +kernel
theorem dX7_isOffered_13 : decode cX7_isOffered 13 = .ok (.iload_n 1, 1) := by decide +kernel
theorem dX7_isOffered_14 : decode cX7_isOffered 14 = .ok (.iconst 1, 1) := by decide +kernel
theorem dX7_isOffered_15 : decode cX7_isOffered 15 = .ok (.invokevirtual 61, 3) := by decide +kernel
theorem dX7_isOffered_18 : decode cX7_isOffered 18 = .ok (.iconst 1, 1) := by decide +kernel
theorem dX7_isOffered_19 : decode cX7_isOffered 19 = .ok (.invokevirtual 55, 3) := by decide +kernel
theorem dX7_isOffered_22 : decode cX7_isOffered 22 = .ok (.iload_n 1, 1) := by decide +kernel
theorem dX7_isOffered_23 : decode cX7_isOffered 23 = .ok (.if_icmp .ne 7, 3) := by decide +kernel
theorem dX7_isOffered_26 : decode cX7_isOffered 26 = .ok (.iconst 1, 1) := by decide +kernel
theorem dX7_isOffered_27 : decode cX7_isOffered 27 = .ok (.goto 4, 3) := by decide +kernel
theorem dX7_isOffered_30 : decode cX7_isOffered 30 = .ok (.iconst 0, 1) := by decide +kernel
theorem dX7_isOffered_31 : decode cX7_isOffered 31 = .ok (.ireturn, 1) := by decide +kernel
theorem dX7_isClearFor_0 : decode cX7_isClearFor 0 = .ok (.aload_n 0, 1) := by decide +kernel
theorem dX7_isClearFor_1 : decode cX7_isClearFor 1 = .ok (.iload_n 1, 1) := by decide +kernel
theorem dX7_isClearFor_2 : decode cX7_isClearFor 2 = .ok (.invokevirtual 92, 3) := by decide +kernel
theorem dX7_isClearFor_5 : decode cX7_isClearFor 5 = .ok (.istore_n 2, 1) := by decide +kernel
theorem dX7_isClearFor_6 : decode cX7_isClearFor 6 = .ok (.aload_n 0, 1) := by decide +kernel
theorem dX7_isClearFor_7 : decode cX7_isClearFor 7 = .ok (.iload_n 1, 1) := by decide +kernel
theorem dX7_isClearFor_8 : decode cX7_isClearFor 8 = .ok (.iconst 1, 1) := by decide +kernel
theorem dX7_isClearFor_9 : decode cX7_isClearFor 9 = .ok (.invokevirtual 61, 3) := by decide +kernel
theorem dX7_isClearFor_12 : decode cX7_isClearFor 12 = .ok (.istore_n 3, 1) := by decide +kernel
theorem dX7_isClearFor_13 : decode cX7_isClearFor 13 = .ok (.iload_n 2, 1) := by decide +kernel
theorem dX7_isClearFor_14 : decode cX7_isClearFor 14 = .ok (.ifCond .lt 29, 3) := by decide +kernel
theorem dX7_isClearFor_17 : decode cX7_isClearFor 17 = .ok (.aload_n 0, 1) := by decide +kernel
theorem dX7_isClearFor_18 : decode cX7_isClearFor 18 = .ok (.iload_n 2, 1) := by decide +kernel
theorem dX7_isClearFor_19 : decode cX7_isClearFor 19 = .ok (.iload_n 3, 1) := by decide +kernel
theorem dX7_isClearFor_20 : decode cX7_isClearFor 20 = .ok (.iconst 0, 1) := by decide +kernel
theorem dX7_isClearFor_21 : decode cX7_isClearFor 21 = .ok (.invokevirtual 55, 3) := by decide +kernel
theorem dX7_isClearFor_24 : decode cX7_isClearFor 24 = .ok (.iconst 1, 1) := by decide +kernel
theorem dX7_isClearFor_25 : decode cX7_isClearFor 25 = .ok (.if_icmp .ne 18, 3) := by decide +kernel
theorem dX7_isClearFor_28 : decode cX7_isClearFor 28 = .ok (.aload_n 0, 1) := by decide +kernel
theorem dX7_isClearFor_29 : decode cX7_isClearFor 29 = .ok (.iload_n 2, 1) := by decide +kernel
theorem dX7_isClearFor_30 : decode cX7_isClearFor 30 = .ok (.iload_n 3, 1) := by decide +kernel
theorem dX7_isClearFor_31 : decode cX7_isClearFor 31 = .ok (.iconst 2, 1) := by decide +kernel
theorem dX7_isClearFor_32 : decode cX7_isClearFor 32 = .ok (.invokevirtual 55, 3) := by decide +kernel
theorem dX7_isClearFor_35 : decode cX7_isClearFor 35 = .ok (.iload_n 1, 1) := by decide +kernel
theorem dX7_isClearFor_36 : decode cX7_isClearFor 36 = .ok (.if_icmp .ne 7, 3) := by decide +kernel
theorem dX7_isClearFor_39 : decode cX7_isClearFor 39 = .ok (.iconst 1, 1) := by decide +kernel
theorem dX7_isClearFor_40 : decode cX7_isClearFor 40 = .ok (.goto 4, 3) := by decide +kernel
theorem dX7_isClearFor_43 : decode cX7_isClearFor 43 = .ok (.iconst 0, 1) := by decide +kernel
theorem dX7_isClearFor_44 : decode cX7_isClearFor 44 = .ok (.ireturn, 1) := by decide +kernel
theorem dX7_canGoIn_0 : decode cX7_canGoIn 0 = .ok (.aload_n 0, 1) := by decide +kernel
theorem dX7_canGoIn_1 : decode cX7_canGoIn 1 = .ok (.getfield 7, 3) := by decide +kernel
theorem dX7_canGoIn_4 : decode cX7_canGoIn 4 = .ok (.bipush 18, 2) := by decide +kernel
theorem dX7_canGoIn_6 : decode cX7_canGoIn 6 = .ok (.iconst 2, 1) := by decide +kernel
theorem dX7_canGoIn_7 : decode cX7_canGoIn 7 = .ok (.aload_n 0, 1) := by decide +kernel
theorem dX7_canGoIn_8 : decode cX7_canGoIn 8 = .ok (.iload_n 1, 1) := by decide +kernel
theorem dX7_canGoIn_9 : decode cX7_canGoIn 9 = .ok (.iconst 3, 1) := by decide +kernel
theorem dX7_canGoIn_10 : decode cX7_canGoIn 10 = .ok (.invokevirtual 61, 3) := by decide +kernel
theorem dX7_canGoIn_13 : decode cX7_canGoIn 13 = .ok (.imul, 1) := by decide +kernel
theorem dX7_canGoIn_14 : decode cX7_canGoIn 14 = .ok (.iadd, 1) := by decide +kernel
theorem dX7_canGoIn_15 : decode cX7_canGoIn 15 = .ok (.aload_n 0, 1) := by decide +kernel
theorem dX7_canGoIn_16 : decode cX7_canGoIn 16 = .ok (.iload_n 1, 1) := by decide +kernel
theorem dX7_canGoIn_17 : decode cX7_canGoIn 17 = .ok (.iconst 1, 1) := by decide +kernel
theorem dX7_canGoIn_18 : decode cX7_canGoIn 18 = .ok (.invokevirtual 61, 3) := by decide +kernel
theorem dX7_canGoIn_21 : decode cX7_canGoIn 21 = .ok (.iadd, 1) := by decide +kernel
theorem dX7_canGoIn_22 : decode cX7_canGoIn 22 = .ok (.iaload, 1) := by decide +kernel
theorem dX7_canGoIn_23 : decode cX7_canGoIn 23 = .ok (.istore_n 2, 1) := by decide +kernel
theorem dX7_canGoIn_24 : decode cX7_canGoIn 24 = .ok (.aload_n 0, 1) := by decide +kernel
theorem dX7_canGoIn_25 : decode cX7_canGoIn 25 = .ok (.iload_n 1, 1) := by decide +kernel
theorem dX7_canGoIn_26 : decode cX7_canGoIn 26 = .ok (.invokevirtual 95, 3) := by decide +kernel
theorem dX7_canGoIn_29 : decode cX7_canGoIn 29 = .ok (.ifCond .ne 36, 3) := by decide +kernel
theorem dX7_canGoIn_32 : decode cX7_canGoIn 32 = .ok (.aload_n 0, 1) := by decide +kernel
theorem dX7_canGoIn_33 : decode cX7_canGoIn 33 = .ok (.iload_n 1, 1) := by decide +kernel
theorem dX7_canGoIn_34 : decode cX7_canGoIn 34 = .ok (.invokevirtual 98, 3) := by decide +kernel
theorem dX7_canGoIn_37 : decode cX7_canGoIn 37 = .ok (.ifCond .ne 28, 3) := by decide +kernel
theorem dX7_canGoIn_40 : decode cX7_canGoIn 40 = .ok (.aload_n 0, 1) := by decide +kernel
theorem dX7_canGoIn_41 : decode cX7_canGoIn 41 = .ok (.aload_n 0, 1) := by decide +kernel
theorem dX7_canGoIn_42 : decode cX7_canGoIn 42 = .ok (.iload_n 1, 1) := by decide +kernel
theorem dX7_canGoIn_43 : decode cX7_canGoIn 43 = .ok (.iconst 3, 1) := by decide +kernel
theorem dX7_canGoIn_44 : decode cX7_canGoIn 44 = .ok (.invokevirtual 61, 3) := by decide +kernel
theorem dX7_canGoIn_47 : decode cX7_canGoIn 47 = .ok (.aload_n 0, 1) := by decide +kernel
theorem dX7_canGoIn_48 : decode cX7_canGoIn 48 = .ok (.iload_n 1, 1) := by decide +kernel
theorem dX7_canGoIn_49 : decode cX7_canGoIn 49 = .ok (.iconst 1, 1) := by decide +kernel
theorem dX7_canGoIn_50 : decode cX7_canGoIn 50 = .ok (.invokevirtual 61, 3) := by decide +kernel
theorem dX7_canGoIn_53 : decode cX7_canGoIn 53 = .ok (.iconst 1, 1) := by decide +kernel
theorem dX7_canGoIn_54 : decode cX7_canGoIn 54 = .ok (.invokevirtual 65, 3) := by decide +kernel
theorem dX7_canGoIn_57 : decode cX7_canGoIn 57 = .ok (.iload_n 2, 1) := by decide +kernel
theorem dX7_canGoIn_58 : decode cX7_canGoIn 58 = .ok (.if_icmp .ge 7, 3) := by decide +kernel
theorem dX7_canGoIn_61 : decode cX7_canGoIn 61 = .ok (.iconst 1, 1) := by decide +kernel
theorem dX7_canGoIn_62 : decode cX7_canGoIn 62 = .ok (.goto 4, 3) := by decide +kernel
theorem dX7_canGoIn_65 : decode cX7_canGoIn 65 = .ok (.iconst 0, 1) := by decide +kernel
theorem dX7_canGoIn_66 : decode cX7_canGoIn 66 = .ok (.ireturn, 1) := by decide +kernel
theorem dX7_shunt_0 : decode cX7_shunt 0 = .ok (.aload_n 0, 1) := by decide +kernel
theorem dX7_shunt_1 : decode cX7_shunt 1 = .ok (.iload_n 1, 1) := by decide +kernel
theorem dX7_shunt_2 : decode cX7_shunt 2 = .ok (.invokevirtual 89, 3) := by decide +kernel
theorem dX7_shunt_5 : decode cX7_shunt 5 = .ok (.ifCond .ne 5, 3) := by decide +kernel
theorem dX7_shunt_8 : decode cX7_shunt 8 = .ok (.iconst (-1), 1) := by decide +kernel
theorem dX7_shunt_9 : decode cX7_shunt 9 = .ok (.ireturn, 1) := by decide +kernel
theorem dX7_shunt_10 : decode cX7_shunt 10 = .ok (.aload_n 0, 1) := by decide +kernel
theorem dX7_shunt_11 : decode cX7_shunt 11 = .ok (.iload_n 1, 1) := by decide +kernel
theorem dX7_shunt_12 : decode cX7_shunt 12 = .ok (.iconst 2, 1) := by decide +kernel
theorem dX7_shunt_13 : decode cX7_shunt 13 = .ok (.invokevirtual 61, 3) := by decide +kernel
theorem dX7_shunt_16 : decode cX7_shunt 16 = .ok (.istore_n 2, 1) := by decide +kernel
theorem dX7_shunt_17 : decode cX7_shunt 17 = .ok (.iload_n 2, 1) := by decide +kernel
theorem dX7_shunt_18 : decode cX7_shunt 18 = .ok (.iconst 1, 1) := by decide +kernel
theorem dX7_shunt_19 : decode cX7_shunt 19 = .ok (.if_icmp .le 6, 3) := by decide +kernel
theorem dX7_shunt_22 : decode cX7_shunt 22 = .ok (.bipush (-5), 2) := by decide +kernel
theorem dX7_shunt_24 : decode cX7_shunt 24 = .ok (.ireturn, 1) := by decide +kernel
theorem dX7_shunt_25 : decode cX7_shunt 25 = .ok (.iload_n 2, 1) := by decide +kernel
theorem dX7_shunt_26 : decode cX7_shunt 26 = .ok (.ifCond .ne 11, 3) := by decide +kernel
theorem dX7_shunt_29 : decode cX7_shunt 29 = .ok (.aload_n 0, 1) := by decide +kernel
theorem dX7_shunt_30 : decode cX7_shunt 30 = .ok (.iload_n 1, 1) := by decide +kernel
theorem dX7_shunt_31 : decode cX7_shunt 31 = .ok (.invokevirtual 101, 3) := by decide +kernel
theorem dX7_shunt_34 : decode cX7_shunt 34 = .ok (.goto 35, 3) := by decide +kernel
theorem dX7_shunt_37 : decode cX7_shunt 37 = .ok (.aload_n 0, 1) := by decide +kernel
theorem dX7_shunt_38 : decode cX7_shunt 38 = .ok (.aload_n 0, 1) := by decide +kernel
theorem dX7_shunt_39 : decode cX7_shunt 39 = .ok (.iload_n 1, 1) := by decide +kernel
theorem dX7_shunt_40 : decode cX7_shunt 40 = .ok (.iconst 3, 1) := by decide +kernel
theorem dX7_shunt_41 : decode cX7_shunt 41 = .ok (.invokevirtual 61, 3) := by decide +kernel
theorem dX7_shunt_44 : decode cX7_shunt 44 = .ok (.aload_n 0, 1) := by decide +kernel
theorem dX7_shunt_45 : decode cX7_shunt 45 = .ok (.iload_n 1, 1) := by decide +kernel
theorem dX7_shunt_46 : decode cX7_shunt 46 = .ok (.iconst 1, 1) := by decide +kernel
theorem dX7_shunt_47 : decode cX7_shunt 47 = .ok (.invokevirtual 61, 3) := by decide +kernel
theorem dX7_shunt_50 : decode cX7_shunt 50 = .ok (.invokevirtual 83, 3) := by decide +kernel
theorem dX7_shunt_53 : decode cX7_shunt 53 = .ok (.ifCond .eq 15, 3) := by decide +kernel
theorem dX7_shunt_56 : decode cX7_shunt 56 = .ok (.aload_n 0, 1) := by decide +kernel
theorem dX7_shunt_57 : decode cX7_shunt 57 = .ok (.iload_n 1, 1) := by decide +kernel
theorem dX7_shunt_58 : decode cX7_shunt 58 = .ok (.invokevirtual 104, 3) := by decide +kernel
theorem dX7_shunt_61 : decode cX7_shunt 61 = .ok (.ifCond .eq 7, 3) := by decide +kernel
theorem dX7_shunt_64 : decode cX7_shunt 64 = .ok (.iconst 1, 1) := by decide +kernel
theorem dX7_shunt_65 : decode cX7_shunt 65 = .ok (.goto 4, 3) := by decide +kernel
theorem dX7_shunt_68 : decode cX7_shunt 68 = .ok (.iconst 0, 1) := by decide +kernel
theorem dX7_shunt_69 : decode cX7_shunt 69 = .ok (.istore_n 3, 1) := by decide +kernel
theorem dX7_shunt_70 : decode cX7_shunt 70 = .ok (.iload_n 3, 1) := by decide +kernel
theorem dX7_shunt_71 : decode cX7_shunt 71 = .ok (.ifCond .ne 6, 3) := by decide +kernel
theorem dX7_shunt_74 : decode cX7_shunt 74 = .ok (.bipush (-5), 2) := by decide +kernel
theorem dX7_shunt_76 : decode cX7_shunt 76 = .ok (.ireturn, 1) := by decide +kernel
theorem dX7_shunt_77 : decode cX7_shunt 77 = .ok (.aload_n 0, 1) := by decide +kernel
theorem dX7_shunt_78 : decode cX7_shunt 78 = .ok (.iload_n 1, 1) := by decide +kernel
theorem dX7_shunt_79 : decode cX7_shunt 79 = .ok (.iconst 2, 1) := by decide +kernel
theorem dX7_shunt_80 : decode cX7_shunt 80 = .ok (.iconst 1, 1) := by decide +kernel
theorem dX7_shunt_81 : decode cX7_shunt 81 = .ok (.iload_n 2, 1) := by decide +kernel
theorem dX7_shunt_82 : decode cX7_shunt 82 = .ok (.isub, 1) := by decide +kernel
theorem dX7_shunt_83 : decode cX7_shunt 83 = .ok (.invokevirtual 75, 3) := by decide +kernel
theorem dX7_shunt_86 : decode cX7_shunt 86 = .ok (.aload_n 0, 1) := by decide +kernel
theorem dX7_shunt_87 : decode cX7_shunt 87 = .ok (.iload_n 1, 1) := by decide +kernel
theorem dX7_shunt_88 : decode cX7_shunt 88 = .ok (.iconst 2, 1) := by decide +kernel
theorem dX7_shunt_89 : decode cX7_shunt 89 = .ok (.invokevirtual 61, 3) := by decide +kernel
theorem dX7_shunt_92 : decode cX7_shunt 92 = .ok (.ireturn, 1) := by decide +kernel
theorem dX7_leave_0 : decode cX7_leave 0 = .ok (.aload_n 0, 1) := by decide +kernel
theorem dX7_leave_1 : decode cX7_leave 1 = .ok (.iload_n 1, 1) := by decide +kernel
theorem dX7_leave_2 : decode cX7_leave 2 = .ok (.invokevirtual 89, 3) := by decide +kernel
theorem dX7_leave_5 : decode cX7_leave 5 = .ok (.ifCond .ne 5, 3) := by decide +kernel
theorem dX7_leave_8 : decode cX7_leave 8 = .ok (.iconst (-1), 1) := by decide +kernel
theorem dX7_leave_9 : decode cX7_leave 9 = .ok (.ireturn, 1) := by decide +kernel
theorem dX7_leave_10 : decode cX7_leave 10 = .ok (.aload_n 0, 1) := by decide +kernel
theorem dX7_leave_11 : decode cX7_leave 11 = .ok (.iload_n 1, 1) := by decide +kernel
theorem dX7_leave_12 : decode cX7_leave 12 = .ok (.iconst 2, 1) := by decide +kernel
theorem dX7_leave_13 : decode cX7_leave 13 = .ok (.invokevirtual 61, 3) := by decide +kernel
theorem dX7_leave_16 : decode cX7_leave 16 = .ok (.ifCond .ne 24, 3) := by decide +kernel
theorem dX7_leave_19 : decode cX7_leave 19 = .ok (.aload_n 0, 1) := by decide +kernel
theorem dX7_leave_20 : decode cX7_leave 20 = .ok (.iload_n 1, 1) := by decide +kernel
theorem dX7_leave_21 : decode cX7_leave 21 = .ok (.iconst 3, 1) := by decide +kernel
theorem dX7_leave_22 : decode cX7_leave 22 = .ok (.invokevirtual 61, 3) := by decide +kernel
theorem dX7_leave_25 : decode cX7_leave 25 = .ok (.aload_n 0, 1) := by decide +kernel
theorem dX7_leave_26 : decode cX7_leave 26 = .ok (.iconst 1, 1) := by decide +kernel
theorem dX7_leave_27 : decode cX7_leave 27 = .ok (.aload_n 0, 1) := by decide +kernel
theorem dX7_leave_28 : decode cX7_leave 28 = .ok (.iload_n 1, 1) := by decide +kernel
theorem dX7_leave_29 : decode cX7_leave 29 = .ok (.iconst 1, 1) := by decide +kernel
theorem dX7_leave_30 : decode cX7_leave 30 = .ok (.invokevirtual 61, 3) := by decide +kernel
theorem dX7_leave_33 : decode cX7_leave 33 = .ok (.isub, 1) := by decide +kernel
theorem dX7_leave_34 : decode cX7_leave 34 = .ok (.invokevirtual 79, 3) := by decide +kernel
theorem dX7_leave_37 : decode cX7_leave 37 = .ok (.if_icmp .eq 6, 3) := by decide +kernel
theorem dX7_leave_40 : decode cX7_leave 40 = .ok (.bipush (-5), 2) := by decide +kernel
theorem dX7_leave_42 : decode cX7_leave 42 = .ok (.ireturn, 1) := by decide +kernel
theorem dX7_leave_43 : decode cX7_leave 43 = .ok (.aload_n 0, 1) := by decide +kernel
theorem dX7_leave_44 : decode cX7_leave 44 = .ok (.iload_n 1, 1) := by decide +kernel
theorem dX7_leave_45 : decode cX7_leave 45 = .ok (.iconst 2, 1) := by decide +kernel
theorem dX7_leave_46 : decode cX7_leave 46 = .ok (.iconst 3, 1) := by decide +kernel
theorem dX7_leave_47 : decode cX7_leave 47 = .ok (.invokevirtual 75, 3) := by decide +kernel
theorem dX7_leave_50 : decode cX7_leave 50 = .ok (.aload_n 0, 1) := by decide +kernel
theorem dX7_leave_51 : decode cX7_leave 51 = .ok (.iload_n 1, 1) := by decide +kernel
theorem dX7_leave_52 : decode cX7_leave 52 = .ok (.iconst 3, 1) := by decide +kernel
theorem dX7_leave_53 : decode cX7_leave 53 = .ok (.bipush (-6), 2) := by decide +kernel
theorem dX7_leave_55 : decode cX7_leave 55 = .ok (.invokevirtual 75, 3) := by decide +kernel
theorem dX7_leave_58 : decode cX7_leave 58 = .ok (.aload_n 0, 1) := by decide +kernel
theorem dX7_leave_59 : decode cX7_leave 59 = .ok (.iload_n 1, 1) := by decide +kernel
theorem dX7_leave_60 : decode cX7_leave 60 = .ok (.bipush 7, 2) := by decide +kernel
theorem dX7_leave_62 : decode cX7_leave 62 = .ok (.aload_n 0, 1) := by decide +kernel
theorem dX7_leave_63 : decode cX7_leave 63 = .ok (.getfield 7, 3) := by decide +kernel
theorem dX7_leave_66 : decode cX7_leave 66 = .ok (.iconst 0, 1) := by decide +kernel
theorem dX7_leave_67 : decode cX7_leave 67 = .ok (.iaload, 1) := by decide +kernel
theorem dX7_leave_68 : decode cX7_leave 68 = .ok (.invokevirtual 75, 3) := by decide +kernel
theorem dX7_leave_71 : decode cX7_leave 71 = .ok (.aload_n 0, 1) := by decide +kernel
theorem dX7_leave_72 : decode cX7_leave 72 = .ok (.getfield 7, 3) := by decide +kernel
theorem dX7_leave_75 : decode cX7_leave 75 = .ok (.iconst 0, 1) := by decide +kernel
theorem dX7_leave_76 : decode cX7_leave 76 = .ok (.iaload, 1) := by decide +kernel
theorem dX7_leave_77 : decode cX7_leave 77 = .ok (.aload_n 0, 1) := by decide +kernel
theorem dX7_leave_78 : decode cX7_leave 78 = .ok (.iload_n 1, 1) := by decide +kernel
theorem dX7_leave_79 : decode cX7_leave 79 = .ok (.bipush 6, 2) := by decide +kernel
theorem dX7_leave_81 : decode cX7_leave 81 = .ok (.invokevirtual 61, 3) := by decide +kernel
theorem dX7_leave_84 : decode cX7_leave 84 = .ok (.isub, 1) := by decide +kernel
theorem dX7_leave_85 : decode cX7_leave 85 = .ok (.ireturn, 1) := by decide +kernel
theorem dX7_divide_0 : decode cX7_divide 0 = .ok (.aload_n 0, 1) := by decide +kernel
theorem dX7_divide_1 : decode cX7_divide 1 = .ok (.iload_n 1, 1) := by decide +kernel
theorem dX7_divide_2 : decode cX7_divide 2 = .ok (.invokevirtual 89, 3) := by decide +kernel
theorem dX7_divide_5 : decode cX7_divide 5 = .ok (.ifCond .ne 5, 3) := by decide +kernel
theorem dX7_divide_8 : decode cX7_divide 8 = .ok (.iconst (-1), 1) := by decide +kernel
theorem dX7_divide_9 : decode cX7_divide 9 = .ok (.ireturn, 1) := by decide +kernel
theorem dX7_divide_10 : decode cX7_divide 10 = .ok (.aload_n 0, 1) := by decide +kernel
theorem dX7_divide_11 : decode cX7_divide 11 = .ok (.iload_n 1, 1) := by decide +kernel
theorem dX7_divide_12 : decode cX7_divide 12 = .ok (.iconst 2, 1) := by decide +kernel
theorem dX7_divide_13 : decode cX7_divide 13 = .ok (.invokevirtual 61, 3) := by decide +kernel
theorem dX7_divide_16 : decode cX7_divide 16 = .ok (.iconst 2, 1) := by decide +kernel
theorem dX7_divide_17 : decode cX7_divide 17 = .ok (.if_icmp .ne 12, 3) := by decide +kernel
theorem dX7_divide_20 : decode cX7_divide 20 = .ok (.aload_n 0, 1) := by decide +kernel
theorem dX7_divide_21 : decode cX7_divide 21 = .ok (.iload_n 1, 1) := by decide +kernel
theorem dX7_divide_22 : decode cX7_divide 22 = .ok (.iconst 5, 1) := by decide +kernel
theorem dX7_divide_23 : decode cX7_divide 23 = .ok (.invokevirtual 61, 3) := by decide +kernel
theorem dX7_divide_26 : decode cX7_divide 26 = .ok (.ifCond .ne 6, 3) := by decide +kernel
theorem dX7_divide_29 : decode cX7_divide 29 = .ok (.bipush (-5), 2) := by decide +kernel
theorem dX7_divide_31 : decode cX7_divide 31 = .ok (.ireturn, 1) := by decide +kernel
theorem dX7_divide_32 : decode cX7_divide 32 = .ok (.aload_n 0, 1) := by decide +kernel
theorem dX7_divide_33 : decode cX7_divide 33 = .ok (.iload_n 1, 1) := by decide +kernel
theorem dX7_divide_34 : decode cX7_divide 34 = .ok (.iconst 5, 1) := by decide +kernel
theorem dX7_divide_35 : decode cX7_divide 35 = .ok (.iconst 0, 1) := by decide +kernel
theorem dX7_divide_36 : decode cX7_divide 36 = .ok (.invokevirtual 75, 3) := by decide +kernel
theorem dX7_divide_39 : decode cX7_divide 39 = .ok (.aload_n 0, 1) := by decide +kernel
theorem dX7_divide_40 : decode cX7_divide 40 = .ok (.getfield 7, 3) := by decide +kernel
theorem dX7_divide_43 : decode cX7_divide 43 = .ok (.aload_n 0, 1) := by decide +kernel
theorem dX7_divide_44 : decode cX7_divide 44 = .ok (.iload_n 1, 1) := by decide +kernel
theorem dX7_divide_45 : decode cX7_divide 45 = .ok (.iconst 3, 1) := by decide +kernel
theorem dX7_divide_46 : decode cX7_divide 46 = .ok (.invokevirtual 61, 3) := by decide +kernel
theorem dX7_divide_49 : decode cX7_divide 49 = .ok (.aload_n 0, 1) := by decide +kernel
theorem dX7_divide_50 : decode cX7_divide 50 = .ok (.iload_n 1, 1) := by decide +kernel
theorem dX7_divide_51 : decode cX7_divide 51 = .ok (.iconst 1, 1) := by decide +kernel
theorem dX7_divide_52 : decode cX7_divide 52 = .ok (.invokevirtual 61, 3) := by decide +kernel
theorem dX7_divide_55 : decode cX7_divide 55 = .ok (.iconst 3, 1) := by decide +kernel
theorem dX7_divide_56 : decode cX7_divide 56 = .ok (.invokestatic 51, 3) := by decide +kernel
theorem dX7_divide_59 : decode cX7_divide 59 = .ok (.iconst 1, 1) := by decide +kernel
theorem dX7_divide_60 : decode cX7_divide 60 = .ok (.iastore, 1) := by decide +kernel
theorem dX7_divide_61 : decode cX7_divide 61 = .ok (.aload_n 0, 1) := by decide +kernel
theorem dX7_divide_62 : decode cX7_divide 62 = .ok (.iload_n 1, 1) := by decide +kernel
theorem dX7_divide_63 : decode cX7_divide 63 = .ok (.iconst 3, 1) := by decide +kernel
theorem dX7_divide_64 : decode cX7_divide 64 = .ok (.invokevirtual 61, 3) := by decide +kernel
theorem dX7_divide_67 : decode cX7_divide 67 = .ok (.ireturn, 1) := by decide +kernel
theorem dX7_codeOf_0 : decode cX7_codeOf 0 = .ok (.iload_n 0, 1) := by decide +kernel
theorem dX7_codeOf_1 : decode cX7_codeOf 1 = .ok (.tableswitch 41 1 4 #[31, 33, 36, 38], 31) := by decide +kernel
theorem dX7_codeOf_32 : decode cX7_codeOf 32 = .ok (.iconst 4, 1) := by decide +kernel
theorem dX7_codeOf_33 : decode cX7_codeOf 33 = .ok (.ireturn, 1) := by decide +kernel
theorem dX7_codeOf_34 : decode cX7_codeOf 34 = .ok (.bipush 31, 2) := by decide +kernel
theorem dX7_codeOf_36 : decode cX7_codeOf 36 = .ok (.ireturn, 1) := by decide +kernel
theorem dX7_codeOf_37 : decode cX7_codeOf 37 = .ok (.iconst 5, 1) := by decide +kernel
theorem dX7_codeOf_38 : decode cX7_codeOf 38 = .ok (.ireturn, 1) := by decide +kernel
theorem dX7_codeOf_39 : decode cX7_codeOf 39 = .ok (.bipush 32, 2) := by decide +kernel
theorem dX7_codeOf_41 : decode cX7_codeOf 41 = .ok (.ireturn, 1) := by decide +kernel
theorem dX7_codeOf_42 : decode cX7_codeOf 42 = .ok (.bipush 41, 2) := by decide +kernel
theorem dX7_codeOf_44 : decode cX7_codeOf 44 = .ok (.ireturn, 1) := by decide +kernel
theorem dX7_ring_0 : decode cX7_ring 0 = .ok (.bipush 81, 2) := by decide +kernel
theorem dX7_ring_2 : decode cX7_ring 2 = .ok (.iconst 5, 1) := by decide +kernel
theorem dX7_ring_3 : decode cX7_ring 3 = .ok (.aload_n 0, 1) := by decide +kernel
theorem dX7_ring_4 : decode cX7_ring 4 = .ok (.getfield 7, 3) := by decide +kernel
theorem dX7_ring_7 : decode cX7_ring 7 = .ok (.bipush 80, 2) := by decide +kernel
theorem dX7_ring_9 : decode cX7_ring 9 = .ok (.iaload, 1) := by decide +kernel
theorem dX7_ring_10 : decode cX7_ring 10 = .ok (.bipush 60, 2) := by decide +kernel
theorem dX7_ring_12 : decode cX7_ring 12 = .ok (.irem, 1) := by decide +kernel
theorem dX7_ring_13 : decode cX7_ring 13 = .ok (.imul, 1) := by decide +kernel
theorem dX7_ring_14 : decode cX7_ring 14 = .ok (.iadd, 1) := by decide +kernel
theorem dX7_ring_15 : decode cX7_ring 15 = .ok (.istore 5, 2) := by decide +kernel
theorem dX7_ring_17 : decode cX7_ring 17 = .ok (.aload_n 0, 1) := by decide +kernel
theorem dX7_ring_18 : decode cX7_ring 18 = .ok (.getfield 7, 3) := by decide +kernel
theorem dX7_ring_21 : decode cX7_ring 21 = .ok (.iload 5, 2) := by decide +kernel
theorem dX7_ring_23 : decode cX7_ring 23 = .ok (.aload_n 0, 1) := by decide +kernel
theorem dX7_ring_24 : decode cX7_ring 24 = .ok (.getfield 7, 3) := by decide +kernel
theorem dX7_ring_27 : decode cX7_ring 27 = .ok (.iconst 0, 1) := by decide +kernel
theorem dX7_ring_28 : decode cX7_ring 28 = .ok (.iaload, 1) := by decide +kernel
theorem dX7_ring_29 : decode cX7_ring 29 = .ok (.iastore, 1) := by decide +kernel
theorem dX7_ring_30 : decode cX7_ring 30 = .ok (.aload_n 0, 1) := by decide +kernel
theorem dX7_ring_31 : decode cX7_ring 31 = .ok (.getfield 7, 3) := by decide +kernel
theorem dX7_ring_34 : decode cX7_ring 34 = .ok (.iload 5, 2) := by decide +kernel
theorem dX7_ring_36 : decode cX7_ring 36 = .ok (.iconst 1, 1) := by decide +kernel
theorem dX7_ring_37 : decode cX7_ring 37 = .ok (.iadd, 1) := by decide +kernel
theorem dX7_ring_38 : decode cX7_ring 38 = .ok (.iload_n 1, 1) := by decide +kernel
theorem dX7_ring_39 : decode cX7_ring 39 = .ok (.iastore, 1) := by decide +kernel
theorem dX7_ring_40 : decode cX7_ring 40 = .ok (.aload_n 0, 1) := by decide +kernel
theorem dX7_ring_41 : decode cX7_ring 41 = .ok (.getfield 7, 3) := by decide +kernel
theorem dX7_ring_44 : decode cX7_ring 44 = .ok (.iload 5, 2) := by decide +kernel
theorem dX7_ring_46 : decode cX7_ring 46 = .ok (.iconst 2, 1) := by decide +kernel
theorem dX7_ring_47 : decode cX7_ring 47 = .ok (.iadd, 1) := by decide +kernel
theorem dX7_ring_48 : decode cX7_ring 48 = .ok (.iload_n 2, 1) := by decide +kernel
theorem dX7_ring_49 : decode cX7_ring 49 = .ok (.iastore, 1) := by decide +kernel
theorem dX7_ring_50 : decode cX7_ring 50 = .ok (.aload_n 0, 1) := by decide +kernel
theorem dX7_ring_51 : decode cX7_ring 51 = .ok (.getfield 7, 3) := by decide +kernel
theorem dX7_ring_54 : decode cX7_ring 54 = .ok (.iload 5, 2) := by decide +kernel
theorem dX7_ring_56 : decode cX7_ring 56 = .ok (.iconst 3, 1) := by decide +kernel
theorem dX7_ring_57 : decode cX7_ring 57 = .ok (.iadd, 1) := by decide +kernel
theorem dX7_ring_58 : decode cX7_ring 58 = .ok (.iload_n 3, 1) := by decide +kernel
theorem dX7_ring_59 : decode cX7_ring 59 = .ok (.iastore, 1) := by decide +kernel
theorem dX7_ring_60 : decode cX7_ring 60 = .ok (.aload_n 0, 1) := by decide +kernel
theorem dX7_ring_61 : decode cX7_ring 61 = .ok (.getfield 7, 3) := by decide +kernel
theorem dX7_ring_64 : decode cX7_ring 64 = .ok (.iload 5, 2) := by decide +kernel
theorem dX7_ring_66 : decode cX7_ring 66 = .ok (.iconst 4, 1) := by decide +kernel
theorem dX7_ring_67 : decode cX7_ring 67 = .ok (.iadd, 1) := by decide +kernel
theorem dX7_ring_68 : decode cX7_ring 68 = .ok (.iload 4, 2) := by decide +kernel
theorem dX7_ring_70 : decode cX7_ring 70 = .ok (.iastore, 1) := by decide +kernel
theorem dX7_ring_71 : decode cX7_ring 71 = .ok (.aload_n 0, 1) := by decide +kernel
theorem dX7_ring_72 : decode cX7_ring 72 = .ok (.getfield 7, 3) := by decide +kernel
theorem dX7_ring_75 : decode cX7_ring 75 = .ok (.bipush 80, 2) := by decide +kernel
theorem dX7_ring_77 : decode cX7_ring 77 = .ok (.dup2, 1) := by decide +kernel
theorem dX7_ring_78 : decode cX7_ring 78 = .ok (.iaload, 1) := by decide +kernel
theorem dX7_ring_79 : decode cX7_ring 79 = .ok (.iconst 1, 1) := by decide +kernel
theorem dX7_ring_80 : decode cX7_ring 80 = .ok (.iadd, 1) := by decide +kernel
theorem dX7_ring_81 : decode cX7_ring 81 = .ok (.iastore, 1) := by decide +kernel
theorem dX7_ring_82 : decode cX7_ring 82 = .ok (.iload 4, 2) := by decide +kernel
theorem dX7_ring_84 : decode cX7_ring 84 = .ok (.ireturn, 1) := by decide +kernel
theorem dX7_offer_0 : decode cX7_offer 0 = .ok (.aload_n 0, 1) := by decide +kernel
theorem dX7_offer_1 : decode cX7_offer 1 = .ok (.iload_n 1, 1) := by decide +kernel
theorem dX7_offer_2 : decode cX7_offer 2 = .ok (.invokevirtual 89, 3) := by decide +kernel
theorem dX7_offer_5 : decode cX7_offer 5 = .ok (.ifCond .ne 5, 3) := by decide +kernel
theorem dX7_offer_8 : decode cX7_offer 8 = .ok (.iconst (-1), 1) := by decide +kernel
theorem dX7_offer_9 : decode cX7_offer 9 = .ok (.ireturn, 1) := by decide +kernel
theorem dX7_offer_10 : decode cX7_offer 10 = .ok (.aload_n 0, 1) := by decide +kernel
theorem dX7_offer_11 : decode cX7_offer 11 = .ok (.iload_n 1, 1) := by decide +kernel
theorem dX7_offer_12 : decode cX7_offer 12 = .ok (.iconst 2, 1) := by decide +kernel
theorem dX7_offer_13 : decode cX7_offer 13 = .ok (.invokevirtual 61, 3) := by decide +kernel
theorem dX7_offer_16 : decode cX7_offer 16 = .ok (.ifCond .ne 11, 3) := by decide +kernel
theorem dX7_offer_19 : decode cX7_offer 19 = .ok (.aload_n 0, 1) := by decide +kernel
theorem dX7_offer_20 : decode cX7_offer 20 = .ok (.iload_n 1, 1) := by decide +kernel
theorem dX7_offer_21 : decode cX7_offer 21 = .ok (.invokevirtual 92, 3) := by decide +kernel
theorem dX7_offer_24 : decode cX7_offer 24 = .ok (.goto 5, 3) := by decide +kernel
theorem dX7_offer_27 : decode cX7_offer 27 = .ok (.bipush (-6), 2) := by decide +kernel
theorem dX7_offer_29 : decode cX7_offer 29 = .ok (.istore_n 2, 1) := by decide +kernel
theorem dX7_offer_30 : decode cX7_offer 30 = .ok (.aload_n 0, 1) := by decide +kernel
theorem dX7_offer_31 : decode cX7_offer 31 = .ok (.iload_n 1, 1) := by decide +kernel
theorem dX7_offer_32 : decode cX7_offer 32 = .ok (.iconst 1, 1) := by decide +kernel
theorem dX7_offer_33 : decode cX7_offer 33 = .ok (.invokevirtual 61, 3) := by decide +kernel
theorem dX7_offer_36 : decode cX7_offer 36 = .ok (.istore_n 3, 1) := by decide +kernel
theorem dX7_offer_37 : decode cX7_offer 37 = .ok (.iload_n 2, 1) := by decide +kernel
theorem dX7_offer_38 : decode cX7_offer 38 = .ok (.ifCond .lt 23, 3) := by decide +kernel
theorem dX7_offer_41 : decode cX7_offer 41 = .ok (.aload_n 0, 1) := by decide +kernel
theorem dX7_offer_42 : decode cX7_offer 42 = .ok (.iload_n 2, 1) := by decide +kernel
theorem dX7_offer_43 : decode cX7_offer 43 = .ok (.iload_n 3, 1) := by decide +kernel
theorem dX7_offer_44 : decode cX7_offer 44 = .ok (.iconst 0, 1) := by decide +kernel
theorem dX7_offer_45 : decode cX7_offer 45 = .ok (.invokevirtual 55, 3) := by decide +kernel
theorem dX7_offer_48 : decode cX7_offer 48 = .ok (.ifCond .ne 13, 3) := by decide +kernel
theorem dX7_offer_51 : decode cX7_offer 51 = .ok (.aload_n 0, 1) := by decide +kernel
theorem dX7_offer_52 : decode cX7_offer 52 = .ok (.iload_n 2, 1) := by decide +kernel
theorem dX7_offer_53 : decode cX7_offer 53 = .ok (.iload_n 3, 1) := by decide +kernel
theorem dX7_offer_54 : decode cX7_offer 54 = .ok (.iconst 1, 1) := by decide +kernel
theorem dX7_offer_55 : decode cX7_offer 55 = .ok (.invokevirtual 55, 3) := by decide +kernel
theorem dX7_offer_58 : decode cX7_offer 58 = .ok (.ifCond .lt 6, 3) := by decide +kernel
theorem dX7_offer_61 : decode cX7_offer 61 = .ok (.bipush (-5), 2) := by decide +kernel
theorem dX7_offer_63 : decode cX7_offer 63 = .ok (.ireturn, 1) := by decide +kernel
theorem dX7_offer_64 : decode cX7_offer 64 = .ok (.aload_n 0, 1) := by decide +kernel
theorem dX7_offer_65 : decode cX7_offer 65 = .ok (.getfield 7, 3) := by decide +kernel
theorem dX7_offer_68 : decode cX7_offer 68 = .ok (.iload_n 2, 1) := by decide +kernel
theorem dX7_offer_69 : decode cX7_offer 69 = .ok (.iload_n 3, 1) := by decide +kernel
theorem dX7_offer_70 : decode cX7_offer 70 = .ok (.iconst 1, 1) := by decide +kernel
theorem dX7_offer_71 : decode cX7_offer 71 = .ok (.invokestatic 51, 3) := by decide +kernel
theorem dX7_offer_74 : decode cX7_offer 74 = .ok (.iload_n 1, 1) := by decide +kernel
theorem dX7_offer_75 : decode cX7_offer 75 = .ok (.iastore, 1) := by decide +kernel
theorem dX7_offer_76 : decode cX7_offer 76 = .ok (.aload_n 0, 1) := by decide +kernel
theorem dX7_offer_77 : decode cX7_offer 77 = .ok (.iload_n 2, 1) := by decide +kernel
theorem dX7_offer_78 : decode cX7_offer 78 = .ok (.iload_n 3, 1) := by decide +kernel
theorem dX7_offer_79 : decode cX7_offer 79 = .ok (.iload_n 2, 1) := by decide +kernel
theorem dX7_offer_80 : decode cX7_offer 80 = .ok (.iload_n 3, 1) := by decide +kernel
theorem dX7_offer_81 : decode cX7_offer 81 = .ok (.invokestatic 107, 3) := by decide +kernel
theorem dX7_offer_84 : decode cX7_offer 84 = .ok (.aload_n 0, 1) := by decide +kernel
theorem dX7_offer_85 : decode cX7_offer 85 = .ok (.iload_n 1, 1) := by decide +kernel
theorem dX7_offer_86 : decode cX7_offer 86 = .ok (.iconst 0, 1) := by decide +kernel
theorem dX7_offer_87 : decode cX7_offer 87 = .ok (.invokevirtual 61, 3) := by decide +kernel
theorem dX7_offer_90 : decode cX7_offer 90 = .ok (.invokestatic 110, 3) := by decide +kernel
theorem dX7_offer_93 : decode cX7_offer 93 = .ok (.invokevirtual 113, 3) := by decide +kernel
theorem dX7_offer_96 : decode cX7_offer 96 = .ok (.ireturn, 1) := by decide +kernel
theorem dX7_canAccept_0 : decode cX7_canAccept 0 = .ok (.aload_n 0, 1) := by decide +kernel
theorem dX7_canAccept_1 : decode cX7_canAccept 1 = .ok (.iload_n 1, 1) := by decide +kernel
theorem dX7_canAccept_2 : decode cX7_canAccept 2 = .ok (.invokevirtual 58, 3) := by decide +kernel
theorem dX7_canAccept_5 : decode cX7_canAccept 5 = .ok (.ifCond .eq 40, 3) := by decide +kernel
theorem dX7_canAccept_8 : decode cX7_canAccept 8 = .ok (.aload_n 0, 1) := by decide +kernel
theorem dX7_canAccept_9 : decode cX7_canAccept 9 = .ok (.iload_n 1, 1) := by decide +kernel
theorem dX7_canAccept_10 : decode cX7_canAccept 10 = .ok (.iconst 1, 1) := by decide +kernel
theorem dX7_canAccept_11 : decode cX7_canAccept 11 = .ok (.iload_n 2, 1) := by decide +kernel
theorem dX7_canAccept_12 : decode cX7_canAccept 12 = .ok (.isub, 1) := by decide +kernel
theorem dX7_canAccept_13 : decode cX7_canAccept 13 = .ok (.iconst 0, 1) := by decide +kernel
theorem dX7_canAccept_14 : decode cX7_canAccept 14 = .ok (.invokevirtual 55, 3) := by decide +kernel
theorem dX7_canAccept_17 : decode cX7_canAccept 17 = .ok (.ifCond .ne 32, 3) := by decide +kernel
theorem dX7_canAccept_20 : decode cX7_canAccept 20 = .ok (.aload_n 0, 1) := by decide +kernel
theorem dX7_canAccept_21 : decode cX7_canAccept 21 = .ok (.iload_n 1, 1) := by decide +kernel
theorem dX7_canAccept_22 : decode cX7_canAccept 22 = .ok (.invokevirtual 68, 3) := by decide +kernel
theorem dX7_canAccept_25 : decode cX7_canAccept 25 = .ok (.ifCond .ne 24, 3) := by decide +kernel
theorem dX7_canAccept_28 : decode cX7_canAccept 28 = .ok (.aload_n 0, 1) := by decide +kernel
theorem dX7_canAccept_29 : decode cX7_canAccept 29 = .ok (.getfield 7, 3) := by decide +kernel
theorem dX7_canAccept_32 : decode cX7_canAccept 32 = .ok (.iload_n 1, 1) := by decide +kernel
theorem dX7_canAccept_33 : decode cX7_canAccept 33 = .ok (.iload_n 1, 1) := by decide +kernel
theorem dX7_canAccept_34 : decode cX7_canAccept 34 = .ok (.iload_n 2, 1) := by decide +kernel
theorem dX7_canAccept_35 : decode cX7_canAccept 35 = .ok (.invokestatic 107, 3) := by decide +kernel
theorem dX7_canAccept_38 : decode cX7_canAccept 38 = .ok (.invokestatic 117, 3) := by decide +kernel
theorem dX7_canAccept_41 : decode cX7_canAccept 41 = .ok (.iaload, 1) := by decide +kernel
theorem dX7_canAccept_42 : decode cX7_canAccept 42 = .ok (.ifCond .le 7, 3) := by decide +kernel
theorem dX7_canAccept_45 : decode cX7_canAccept 45 = .ok (.iconst 1, 1) := by decide +kernel
theorem dX7_canAccept_46 : decode cX7_canAccept 46 = .ok (.goto 4, 3) := by decide +kernel
theorem dX7_canAccept_49 : decode cX7_canAccept 49 = .ok (.iconst 0, 1) := by decide +kernel
theorem dX7_canAccept_50 : decode cX7_canAccept 50 = .ok (.istore_n 3, 1) := by decide +kernel
theorem dX7_canAccept_51 : decode cX7_canAccept 51 = .ok (.aload_n 0, 1) := by decide +kernel
theorem dX7_canAccept_52 : decode cX7_canAccept 52 = .ok (.iload_n 1, 1) := by decide +kernel
theorem dX7_canAccept_53 : decode cX7_canAccept 53 = .ok (.iload_n 2, 1) := by decide +kernel
theorem dX7_canAccept_54 : decode cX7_canAccept 54 = .ok (.invokestatic 120, 3) := by decide +kernel
theorem dX7_canAccept_57 : decode cX7_canAccept 57 = .ok (.iload_n 2, 1) := by decide +kernel
theorem dX7_canAccept_58 : decode cX7_canAccept 58 = .ok (.invokevirtual 83, 3) := by decide +kernel
theorem dX7_canAccept_61 : decode cX7_canAccept 61 = .ok (.ifCond .eq 11, 3) := by decide +kernel
theorem dX7_canAccept_64 : decode cX7_canAccept 64 = .ok (.iload_n 3, 1) := by decide +kernel
theorem dX7_canAccept_65 : decode cX7_canAccept 65 = .ok (.ifCond .eq 7, 3) := by decide +kernel
theorem dX7_canAccept_68 : decode cX7_canAccept 68 = .ok (.iconst 1, 1) := by decide +kernel
theorem dX7_canAccept_69 : decode cX7_canAccept 69 = .ok (.goto 4, 3) := by decide +kernel
theorem dX7_canAccept_72 : decode cX7_canAccept 72 = .ok (.iconst 0, 1) := by decide +kernel
theorem dX7_canAccept_73 : decode cX7_canAccept 73 = .ok (.ireturn, 1) := by decide +kernel
theorem dX7_answer_0 : decode cX7_answer 0 = .ok (.aload_n 0, 1) := by decide +kernel
theorem dX7_answer_1 : decode cX7_answer 1 = .ok (.iload_n 1, 1) := by decide +kernel
theorem dX7_answer_2 : decode cX7_answer 2 = .ok (.iload_n 2, 1) := by decide +kernel
theorem dX7_answer_3 : decode cX7_answer 3 = .ok (.invokevirtual 71, 3) := by decide +kernel
theorem dX7_answer_6 : decode cX7_answer 6 = .ok (.ifCond .ne 5, 3) := by decide +kernel
theorem dX7_answer_9 : decode cX7_answer 9 = .ok (.iconst (-1), 1) := by decide +kernel
theorem dX7_answer_10 : decode cX7_answer 10 = .ok (.ireturn, 1) := by decide +kernel
theorem dX7_answer_11 : decode cX7_answer 11 = .ok (.aload_n 0, 1) := by decide +kernel
theorem dX7_answer_12 : decode cX7_answer 12 = .ok (.iload_n 1, 1) := by decide +kernel
theorem dX7_answer_13 : decode cX7_answer 13 = .ok (.iload_n 2, 1) := by decide +kernel
theorem dX7_answer_14 : decode cX7_answer 14 = .ok (.iconst 1, 1) := by decide +kernel
theorem dX7_answer_15 : decode cX7_answer 15 = .ok (.invokevirtual 55, 3) := by decide +kernel
theorem dX7_answer_18 : decode cX7_answer 18 = .ok (.istore 4, 2) := by decide +kernel
theorem dX7_answer_20 : decode cX7_answer 20 = .ok (.iload 4, 2) := by decide +kernel
theorem dX7_answer_22 : decode cX7_answer 22 = .ok (.ifCond .lt 16, 3) := by decide +kernel
theorem dX7_answer_25 : decode cX7_answer 25 = .ok (.iload_n 3, 1) := by decide +kernel
theorem dX7_answer_26 : decode cX7_answer 26 = .ok (.ifCond .eq 15, 3) := by decide +kernel
theorem dX7_answer_29 : decode cX7_answer 29 = .ok (.aload_n 0, 1) := by decide +kernel
theorem dX7_answer_30 : decode cX7_answer 30 = .ok (.iload_n 1, 1) := by decide +kernel
theorem dX7_answer_31 : decode cX7_answer 31 = .ok (.iload_n 2, 1) := by decide +kernel
theorem dX7_answer_32 : decode cX7_answer 32 = .ok (.invokevirtual 123, 3) := by decide +kernel
theorem dX7_answer_35 : decode cX7_answer 35 = .ok (.ifCond .ne 6, 3) := by decide +kernel
theorem dX7_answer_38 : decode cX7_answer 38 = .ok (.bipush (-5), 2) := by decide +kernel
theorem dX7_answer_40 : decode cX7_answer 40 = .ok (.ireturn, 1) := by decide +kernel
theorem dX7_answer_41 : decode cX7_answer 41 = .ok (.aload_n 0, 1) := by decide +kernel
theorem dX7_answer_42 : decode cX7_answer 42 = .ok (.getfield 7, 3) := by decide +kernel
theorem dX7_answer_45 : decode cX7_answer 45 = .ok (.iload_n 1, 1) := by decide +kernel
theorem dX7_answer_46 : decode cX7_answer 46 = .ok (.iload_n 2, 1) := by decide +kernel
theorem dX7_answer_47 : decode cX7_answer 47 = .ok (.iconst 1, 1) := by decide +kernel
theorem dX7_answer_48 : decode cX7_answer 48 = .ok (.invokestatic 51, 3) := by decide +kernel
theorem dX7_answer_51 : decode cX7_answer 51 = .ok (.bipush (-6), 2) := by decide +kernel
theorem dX7_answer_53 : decode cX7_answer 53 = .ok (.iastore, 1) := by decide +kernel
theorem dX7_answer_54 : decode cX7_answer 54 = .ok (.iload_n 3, 1) := by decide +kernel
theorem dX7_answer_55 : decode cX7_answer 55 = .ok (.ifCond .ne 16, 3) := by decide +kernel
theorem dX7_answer_58 : decode cX7_answer 58 = .ok (.aload_n 0, 1) := by decide +kernel
theorem dX7_answer_59 : decode cX7_answer 59 = .ok (.iload_n 1, 1) := by decide +kernel
theorem dX7_answer_60 : decode cX7_answer 60 = .ok (.iload_n 2, 1) := by decide +kernel
theorem dX7_answer_61 : decode cX7_answer 61 = .ok (.iload_n 1, 1) := by decide +kernel
theorem dX7_answer_62 : decode cX7_answer 62 = .ok (.iload_n 2, 1) := by decide +kernel
theorem dX7_answer_63 : decode cX7_answer 63 = .ok (.invokestatic 120, 3) := by decide +kernel
theorem dX7_answer_66 : decode cX7_answer 66 = .ok (.iconst 1, 1) := by decide +kernel
theorem dX7_answer_67 : decode cX7_answer 67 = .ok (.invokevirtual 113, 3) := by decide +kernel
theorem dX7_answer_70 : decode cX7_answer 70 = .ok (.ireturn, 1) := by decide +kernel
theorem dX7_answer_71 : decode cX7_answer 71 = .ok (.aload_n 0, 1) := by decide +kernel
theorem dX7_answer_72 : decode cX7_answer 72 = .ok (.getfield 7, 3) := by decide +kernel
theorem dX7_answer_75 : decode cX7_answer 75 = .ok (.iload_n 1, 1) := by decide +kernel
theorem dX7_answer_76 : decode cX7_answer 76 = .ok (.iload_n 2, 1) := by decide +kernel
theorem dX7_answer_77 : decode cX7_answer 77 = .ok (.iconst 0, 1) := by decide +kernel
theorem dX7_answer_78 : decode cX7_answer 78 = .ok (.invokestatic 51, 3) := by decide +kernel
theorem dX7_answer_81 : decode cX7_answer 81 = .ok (.iconst 1, 1) := by decide +kernel
theorem dX7_answer_82 : decode cX7_answer 82 = .ok (.iastore, 1) := by decide +kernel
theorem dX7_answer_83 : decode cX7_answer 83 = .ok (.aload_n 0, 1) := by decide +kernel
theorem dX7_answer_84 : decode cX7_answer 84 = .ok (.getfield 7, 3) := by decide +kernel
theorem dX7_answer_87 : decode cX7_answer 87 = .ok (.iload_n 1, 1) := by decide +kernel
theorem dX7_answer_88 : decode cX7_answer 88 = .ok (.iload_n 2, 1) := by decide +kernel
theorem dX7_answer_89 : decode cX7_answer 89 = .ok (.iconst 2, 1) := by decide +kernel
theorem dX7_answer_90 : decode cX7_answer 90 = .ok (.invokestatic 51, 3) := by decide +kernel
theorem dX7_answer_93 : decode cX7_answer 93 = .ok (.iload 4, 2) := by decide +kernel
theorem dX7_answer_95 : decode cX7_answer 95 = .ok (.iastore, 1) := by decide +kernel
theorem dX7_answer_96 : decode cX7_answer 96 = .ok (.aload_n 0, 1) := by decide +kernel
theorem dX7_answer_97 : decode cX7_answer 97 = .ok (.getfield 7, 3) := by decide +kernel
theorem dX7_answer_100 : decode cX7_answer 100 = .ok (.iload_n 1, 1) := by decide +kernel
theorem dX7_answer_101 : decode cX7_answer 101 = .ok (.iload_n 1, 1) := by decide +kernel
theorem dX7_answer_102 : decode cX7_answer 102 = .ok (.iload_n 2, 1) := by decide +kernel
theorem dX7_answer_103 : decode cX7_answer 103 = .ok (.invokestatic 107, 3) := by decide +kernel
theorem dX7_answer_106 : decode cX7_answer 106 = .ok (.invokestatic 117, 3) := by decide +kernel
theorem dX7_answer_109 : decode cX7_answer 109 = .ok (.dup2, 1) := by decide +kernel
theorem dX7_answer_110 : decode cX7_answer 110 = .ok (.iaload, 1) := by decide +kernel
theorem dX7_answer_111 : decode cX7_answer 111 = .ok (.aload_n 0, 1) := by decide +kernel
theorem dX7_answer_112 : decode cX7_answer 112 = .ok (.iload_n 1, 1) := by decide +kernel
theorem dX7_answer_113 : decode cX7_answer 113 = .ok (.invokevirtual 58, 3) := by decide +kernel
theorem dX7_answer_116 : decode cX7_answer 116 = .ok (.ifCond .eq 7, 3) := by decide +kernel
theorem dX7_answer_119 : decode cX7_answer 119 = .ok (.iconst 1, 1) := by decide +kernel
theorem dX7_answer_120 : decode cX7_answer 120 = .ok (.goto 4, 3) := by decide +kernel
theorem dX7_answer_123 : decode cX7_answer 123 = .ok (.iconst 0, 1) := by decide +kernel
theorem dX7_answer_124 : decode cX7_answer 124 = .ok (.isub, 1) := by decide +kernel
theorem dX7_answer_125 : decode cX7_answer 125 = .ok (.iastore, 1) := by decide +kernel
theorem dX7_answer_126 : decode cX7_answer 126 = .ok (.aload_n 0, 1) := by decide +kernel
theorem dX7_answer_127 : decode cX7_answer 127 = .ok (.iload_n 1, 1) := by decide +kernel
theorem dX7_answer_128 : decode cX7_answer 128 = .ok (.iload_n 2, 1) := by decide +kernel
theorem dX7_answer_129 : decode cX7_answer 129 = .ok (.iload_n 1, 1) := by decide +kernel
theorem dX7_answer_130 : decode cX7_answer 130 = .ok (.iload_n 2, 1) := by decide +kernel
theorem dX7_answer_131 : decode cX7_answer 131 = .ok (.invokestatic 120, 3) := by decide +kernel
theorem dX7_answer_134 : decode cX7_answer 134 = .ok (.aload_n 0, 1) := by decide +kernel
theorem dX7_answer_135 : decode cX7_answer 135 = .ok (.iload 4, 2) := by decide +kernel
theorem dX7_answer_137 : decode cX7_answer 137 = .ok (.iconst 0, 1) := by decide +kernel
theorem dX7_answer_138 : decode cX7_answer 138 = .ok (.invokevirtual 61, 3) := by decide +kernel
theorem dX7_answer_141 : decode cX7_answer 141 = .ok (.invokestatic 110, 3) := by decide +kernel
theorem dX7_answer_144 : decode cX7_answer 144 = .ok (.invokevirtual 113, 3) := by decide +kernel
theorem dX7_answer_147 : decode cX7_answer 147 = .ok (.ireturn, 1) := by decide +kernel
theorem dX7_unclear_0 : decode cX7_unclear 0 = .ok (.aload_n 0, 1) := by decide +kernel
theorem dX7_unclear_1 : decode cX7_unclear 1 = .ok (.iload_n 1, 1) := by decide +kernel
theorem dX7_unclear_2 : decode cX7_unclear 2 = .ok (.iload_n 2, 1) := by decide +kernel
theorem dX7_unclear_3 : decode cX7_unclear 3 = .ok (.iconst 0, 1) := by decide +kernel
theorem dX7_unclear_4 : decode cX7_unclear 4 = .ok (.invokevirtual 55, 3) := by decide +kernel
theorem dX7_unclear_7 : decode cX7_unclear 7 = .ok (.iconst 1, 1) := by decide +kernel
theorem dX7_unclear_8 : decode cX7_unclear 8 = .ok (.if_icmp .ne 46, 3) := by decide +kernel
theorem dX7_unclear_11 : decode cX7_unclear 11 = .ok (.aload_n 0, 1) := by decide +kernel
theorem dX7_unclear_12 : decode cX7_unclear 12 = .ok (.getfield 7, 3) := by decide +kernel
theorem dX7_unclear_15 : decode cX7_unclear 15 = .ok (.iload_n 1, 1) := by decide +kernel
theorem dX7_unclear_16 : decode cX7_unclear 16 = .ok (.iload_n 2, 1) := by decide +kernel
theorem dX7_unclear_17 : decode cX7_unclear 17 = .ok (.iconst 2, 1) := by decide +kernel
theorem dX7_unclear_18 : decode cX7_unclear 18 = .ok (.invokestatic 51, 3) := by decide +kernel
theorem dX7_unclear_21 : decode cX7_unclear 21 = .ok (.bipush (-6), 2) := by decide +kernel
theorem dX7_unclear_23 : decode cX7_unclear 23 = .ok (.iastore, 1) := by decide +kernel
theorem dX7_unclear_24 : decode cX7_unclear 24 = .ok (.aload_n 0, 1) := by decide +kernel
theorem dX7_unclear_25 : decode cX7_unclear 25 = .ok (.getfield 7, 3) := by decide +kernel
theorem dX7_unclear_28 : decode cX7_unclear 28 = .ok (.iload_n 1, 1) := by decide +kernel
theorem dX7_unclear_29 : decode cX7_unclear 29 = .ok (.iload_n 1, 1) := by decide +kernel
theorem dX7_unclear_30 : decode cX7_unclear 30 = .ok (.iload_n 2, 1) := by decide +kernel
theorem dX7_unclear_31 : decode cX7_unclear 31 = .ok (.invokestatic 107, 3) := by decide +kernel
theorem dX7_unclear_34 : decode cX7_unclear 34 = .ok (.invokestatic 117, 3) := by decide +kernel
theorem dX7_unclear_37 : decode cX7_unclear 37 = .ok (.dup2, 1) := by decide +kernel
theorem dX7_unclear_38 : decode cX7_unclear 38 = .ok (.iaload, 1) := by decide +kernel
theorem dX7_unclear_39 : decode cX7_unclear 39 = .ok (.aload_n 0, 1) := by decide +kernel
theorem dX7_unclear_40 : decode cX7_unclear 40 = .ok (.iload_n 1, 1) := by decide +kernel
theorem dX7_unclear_41 : decode cX7_unclear 41 = .ok (.invokevirtual 58, 3) := by decide +kernel
theorem dX7_unclear_44 : decode cX7_unclear 44 = .ok (.ifCond .eq 7, 3) := by decide +kernel
theorem dX7_unclear_47 : decode cX7_unclear 47 = .ok (.iconst 1, 1) := by decide +kernel
theorem dX7_unclear_48 : decode cX7_unclear 48 = .ok (.goto 4, 3) := by decide +kernel
theorem dX7_unclear_51 : decode cX7_unclear 51 = .ok (.iconst 0, 1) := by decide +kernel
theorem dX7_unclear_52 : decode cX7_unclear 52 = .ok (.iadd, 1) := by decide +kernel
theorem dX7_unclear_53 : decode cX7_unclear 53 = .ok (.iastore, 1) := by decide +kernel
theorem dX7_unclear_54 : decode cX7_unclear 54 = .ok (.return_, 1) := by decide +kernel
theorem dX7_cancel_0 : decode cX7_cancel 0 = .ok (.aload_n 0, 1) := by decide +kernel
theorem dX7_cancel_1 : decode cX7_cancel 1 = .ok (.iload_n 1, 1) := by decide +kernel
theorem dX7_cancel_2 : decode cX7_cancel 2 = .ok (.iload_n 2, 1) := by decide +kernel
theorem dX7_cancel_3 : decode cX7_cancel 3 = .ok (.invokevirtual 71, 3) := by decide +kernel
theorem dX7_cancel_6 : decode cX7_cancel 6 = .ok (.ifCond .ne 5, 3) := by decide +kernel
theorem dX7_cancel_9 : decode cX7_cancel 9 = .ok (.iconst (-1), 1) := by decide +kernel
theorem dX7_cancel_10 : decode cX7_cancel 10 = .ok (.ireturn, 1) := by decide +kernel
theorem dX7_cancel_11 : decode cX7_cancel 11 = .ok (.aload_n 0, 1) := by decide +kernel
theorem dX7_cancel_12 : decode cX7_cancel 12 = .ok (.iload_n 1, 1) := by decide +kernel
theorem dX7_cancel_13 : decode cX7_cancel 13 = .ok (.iload_n 2, 1) := by decide +kernel
theorem dX7_cancel_14 : decode cX7_cancel 14 = .ok (.iconst 0, 1) := by decide +kernel
theorem dX7_cancel_15 : decode cX7_cancel 15 = .ok (.invokevirtual 55, 3) := by decide +kernel
theorem dX7_cancel_18 : decode cX7_cancel 18 = .ok (.iconst 1, 1) := by decide +kernel
theorem dX7_cancel_19 : decode cX7_cancel 19 = .ok (.if_icmp .ne 7, 3) := by decide +kernel
theorem dX7_cancel_22 : decode cX7_cancel 22 = .ok (.iconst 1, 1) := by decide +kernel
theorem dX7_cancel_23 : decode cX7_cancel 23 = .ok (.goto 4, 3) := by decide +kernel
theorem dX7_cancel_26 : decode cX7_cancel 26 = .ok (.iconst 0, 1) := by decide +kernel
theorem dX7_cancel_27 : decode cX7_cancel 27 = .ok (.istore_n 3, 1) := by decide +kernel
theorem dX7_cancel_28 : decode cX7_cancel 28 = .ok (.aload_n 0, 1) := by decide +kernel
theorem dX7_cancel_29 : decode cX7_cancel 29 = .ok (.iload_n 1, 1) := by decide +kernel
theorem dX7_cancel_30 : decode cX7_cancel 30 = .ok (.iload_n 2, 1) := by decide +kernel
theorem dX7_cancel_31 : decode cX7_cancel 31 = .ok (.iconst 1, 1) := by decide +kernel
theorem dX7_cancel_32 : decode cX7_cancel 32 = .ok (.invokevirtual 55, 3) := by decide +kernel
theorem dX7_cancel_35 : decode cX7_cancel 35 = .ok (.ifCond .ge 10, 3) := by decide +kernel
theorem dX7_cancel_38 : decode cX7_cancel 38 = .ok (.iload_n 3, 1) := by decide +kernel
theorem dX7_cancel_39 : decode cX7_cancel 39 = .ok (.ifCond .ne 6, 3) := by decide +kernel
theorem dX7_cancel_42 : decode cX7_cancel 42 = .ok (.bipush (-5), 2) := by decide +kernel
theorem dX7_cancel_44 : decode cX7_cancel 44 = .ok (.ireturn, 1) := by decide +kernel
theorem dX7_cancel_45 : decode cX7_cancel 45 = .ok (.aload_n 0, 1) := by decide +kernel
theorem dX7_cancel_46 : decode cX7_cancel 46 = .ok (.getfield 7, 3) := by decide +kernel
theorem dX7_cancel_49 : decode cX7_cancel 49 = .ok (.iload_n 1, 1) := by decide +kernel
theorem dX7_cancel_50 : decode cX7_cancel 50 = .ok (.iload_n 2, 1) := by decide +kernel
theorem dX7_cancel_51 : decode cX7_cancel 51 = .ok (.iconst 1, 1) := by decide +kernel
theorem dX7_cancel_52 : decode cX7_cancel 52 = .ok (.invokestatic 51, 3) := by decide +kernel
theorem dX7_cancel_55 : decode cX7_cancel 55 = .ok (.bipush (-6), 2) := by decide +kernel
theorem dX7_cancel_57 : decode cX7_cancel 57 = .ok (.iastore, 1) := by decide +kernel
theorem dX7_cancel_58 : decode cX7_cancel 58 = .ok (.iload_n 3, 1) := by decide +kernel
theorem dX7_cancel_59 : decode cX7_cancel 59 = .ok (.ifCond .eq 21, 3) := by decide +kernel
theorem dX7_cancel_62 : decode cX7_cancel 62 = .ok (.aload_n 0, 1) := by decide +kernel
theorem dX7_cancel_63 : decode cX7_cancel 63 = .ok (.iload_n 1, 1) := by decide +kernel
theorem dX7_cancel_64 : decode cX7_cancel 64 = .ok (.iload_n 2, 1) := by decide +kernel
theorem dX7_cancel_65 : decode cX7_cancel 65 = .ok (.invokevirtual 126, 3) := by decide +kernel
theorem dX7_cancel_68 : decode cX7_cancel 68 = .ok (.aload_n 0, 1) := by decide +kernel
theorem dX7_cancel_69 : decode cX7_cancel 69 = .ok (.getfield 7, 3) := by decide +kernel
theorem dX7_cancel_72 : decode cX7_cancel 72 = .ok (.iload_n 1, 1) := by decide +kernel
theorem dX7_cancel_73 : decode cX7_cancel 73 = .ok (.iload_n 2, 1) := by decide +kernel
theorem dX7_cancel_74 : decode cX7_cancel 74 = .ok (.iconst 0, 1) := by decide +kernel
theorem dX7_cancel_75 : decode cX7_cancel 75 = .ok (.invokestatic 51, 3) := by decide +kernel
theorem dX7_cancel_78 : decode cX7_cancel 78 = .ok (.iconst 0, 1) := by decide +kernel
theorem dX7_cancel_79 : decode cX7_cancel 79 = .ok (.iastore, 1) := by decide +kernel
theorem dX7_cancel_80 : decode cX7_cancel 80 = .ok (.aload_n 0, 1) := by decide +kernel
theorem dX7_cancel_81 : decode cX7_cancel 81 = .ok (.iload_n 1, 1) := by decide +kernel
theorem dX7_cancel_82 : decode cX7_cancel 82 = .ok (.iload_n 2, 1) := by decide +kernel
theorem dX7_cancel_83 : decode cX7_cancel 83 = .ok (.iload_n 1, 1) := by decide +kernel
theorem dX7_cancel_84 : decode cX7_cancel 84 = .ok (.iload_n 2, 1) := by decide +kernel
theorem dX7_cancel_85 : decode cX7_cancel 85 = .ok (.invokestatic 107, 3) := by decide +kernel
theorem dX7_cancel_88 : decode cX7_cancel 88 = .ok (.bipush 35, 2) := by decide +kernel
theorem dX7_cancel_90 : decode cX7_cancel 90 = .ok (.invokevirtual 113, 3) := by decide +kernel
theorem dX7_cancel_93 : decode cX7_cancel 93 = .ok (.ireturn, 1) := by decide +kernel
theorem dX7_depart_0 : decode cX7_depart 0 = .ok (.aload_n 0, 1) := by decide +kernel
theorem dX7_depart_1 : decode cX7_depart 1 = .ok (.iload_n 1, 1) := by decide +kernel
theorem dX7_depart_2 : decode cX7_depart 2 = .ok (.invokevirtual 89, 3) := by decide +kernel
theorem dX7_depart_5 : decode cX7_depart 5 = .ok (.ifCond .ne 5, 3) := by decide +kernel
theorem dX7_depart_8 : decode cX7_depart 8 = .ok (.iconst (-1), 1) := by decide +kernel
theorem dX7_depart_9 : decode cX7_depart 9 = .ok (.ireturn, 1) := by decide +kernel
theorem dX7_depart_10 : decode cX7_depart 10 = .ok (.aload_n 0, 1) := by decide +kernel
theorem dX7_depart_11 : decode cX7_depart 11 = .ok (.iload_n 1, 1) := by decide +kernel
theorem dX7_depart_12 : decode cX7_depart 12 = .ok (.iconst 2, 1) := by decide +kernel
theorem dX7_depart_13 : decode cX7_depart 13 = .ok (.invokevirtual 61, 3) := by decide +kernel
theorem dX7_depart_16 : decode cX7_depart 16 = .ok (.ifCond .ne 11, 3) := by decide +kernel
theorem dX7_depart_19 : decode cX7_depart 19 = .ok (.aload_n 0, 1) := by decide +kernel
theorem dX7_depart_20 : decode cX7_depart 20 = .ok (.iload_n 1, 1) := by decide +kernel
theorem dX7_depart_21 : decode cX7_depart 21 = .ok (.invokevirtual 98, 3) := by decide +kernel
theorem dX7_depart_24 : decode cX7_depart 24 = .ok (.ifCond .ne 6, 3) := by decide +kernel
theorem dX7_depart_27 : decode cX7_depart 27 = .ok (.bipush (-5), 2) := by decide +kernel
theorem dX7_depart_29 : decode cX7_depart 29 = .ok (.ireturn, 1) := by decide +kernel
theorem dX7_depart_30 : decode cX7_depart 30 = .ok (.aload_n 0, 1) := by decide +kernel
theorem dX7_depart_31 : decode cX7_depart 31 = .ok (.iload_n 1, 1) := by decide +kernel
theorem dX7_depart_32 : decode cX7_depart 32 = .ok (.invokevirtual 92, 3) := by decide +kernel
theorem dX7_depart_35 : decode cX7_depart 35 = .ok (.istore_n 2, 1) := by decide +kernel
theorem dX7_depart_36 : decode cX7_depart 36 = .ok (.aload_n 0, 1) := by decide +kernel
theorem dX7_depart_37 : decode cX7_depart 37 = .ok (.iload_n 1, 1) := by decide +kernel
theorem dX7_depart_38 : decode cX7_depart 38 = .ok (.iconst 1, 1) := by decide +kernel
theorem dX7_depart_39 : decode cX7_depart 39 = .ok (.invokevirtual 61, 3) := by decide +kernel
theorem dX7_depart_42 : decode cX7_depart 42 = .ok (.istore_n 3, 1) := by decide +kernel
theorem dX7_depart_43 : decode cX7_depart 43 = .ok (.aload_n 0, 1) := by decide +kernel
theorem dX7_depart_44 : decode cX7_depart 44 = .ok (.iload_n 1, 1) := by decide +kernel
theorem dX7_depart_45 : decode cX7_depart 45 = .ok (.iconst 2, 1) := by decide +kernel
theorem dX7_depart_46 : decode cX7_depart 46 = .ok (.iconst 2, 1) := by decide +kernel
theorem dX7_depart_47 : decode cX7_depart 47 = .ok (.invokevirtual 75, 3) := by decide +kernel
theorem dX7_depart_50 : decode cX7_depart 50 = .ok (.aload_n 0, 1) := by decide +kernel
theorem dX7_depart_51 : decode cX7_depart 51 = .ok (.iload_n 1, 1) := by decide +kernel
theorem dX7_depart_52 : decode cX7_depart 52 = .ok (.iconst 3, 1) := by decide +kernel
theorem dX7_depart_53 : decode cX7_depart 53 = .ok (.iload_n 2, 1) := by decide +kernel
theorem dX7_depart_54 : decode cX7_depart 54 = .ok (.invokevirtual 75, 3) := by decide +kernel
theorem dX7_depart_57 : decode cX7_depart 57 = .ok (.aload_n 0, 1) := by decide +kernel
theorem dX7_depart_58 : decode cX7_depart 58 = .ok (.iload_n 1, 1) := by decide +kernel
theorem dX7_depart_59 : decode cX7_depart 59 = .ok (.iconst 4, 1) := by decide +kernel
theorem dX7_depart_60 : decode cX7_depart 60 = .ok (.aload_n 0, 1) := by decide +kernel
theorem dX7_depart_61 : decode cX7_depart 61 = .ok (.getfield 7, 3) := by decide +kernel
theorem dX7_depart_64 : decode cX7_depart 64 = .ok (.iconst 3, 1) := by decide +kernel
theorem dX7_depart_65 : decode cX7_depart 65 = .ok (.iload_n 2, 1) := by decide +kernel
theorem dX7_depart_66 : decode cX7_depart 66 = .ok (.iadd, 1) := by decide +kernel
theorem dX7_depart_67 : decode cX7_depart 67 = .ok (.iaload, 1) := by decide +kernel
theorem dX7_depart_68 : decode cX7_depart 68 = .ok (.aload_n 0, 1) := by decide +kernel
theorem dX7_depart_69 : decode cX7_depart 69 = .ok (.iload_n 1, 1) := by decide +kernel
theorem dX7_depart_70 : decode cX7_depart 70 = .ok (.iconst 0, 1) := by decide +kernel
theorem dX7_depart_71 : decode cX7_depart 71 = .ok (.invokevirtual 61, 3) := by decide +kernel
theorem dX7_depart_74 : decode cX7_depart 74 = .ok (.iadd, 1) := by decide +kernel
theorem dX7_depart_75 : decode cX7_depart 75 = .ok (.iconst 1, 1) := by decide +kernel
theorem dX7_depart_76 : decode cX7_depart 76 = .ok (.isub, 1) := by decide +kernel
theorem dX7_depart_77 : decode cX7_depart 77 = .ok (.invokevirtual 75, 3) := by decide +kernel
theorem dX7_depart_80 : decode cX7_depart 80 = .ok (.aload_n 0, 1) := by decide +kernel
theorem dX7_depart_81 : decode cX7_depart 81 = .ok (.getfield 7, 3) := by decide +kernel
theorem dX7_depart_84 : decode cX7_depart 84 = .ok (.iload_n 2, 1) := by decide +kernel
theorem dX7_depart_85 : decode cX7_depart 85 = .ok (.iload_n 3, 1) := by decide +kernel
theorem dX7_depart_86 : decode cX7_depart 86 = .ok (.iconst 0, 1) := by decide +kernel
theorem dX7_depart_87 : decode cX7_depart 87 = .ok (.invokestatic 51, 3) := by decide +kernel
theorem dX7_depart_90 : decode cX7_depart 90 = .ok (.iconst 2, 1) := by decide +kernel
theorem dX7_depart_91 : decode cX7_depart 91 = .ok (.iastore, 1) := by decide +kernel
theorem dX7_depart_92 : decode cX7_depart 92 = .ok (.aload_n 0, 1) := by decide +kernel
theorem dX7_depart_93 : decode cX7_depart 93 = .ok (.iload_n 2, 1) := by decide +kernel
theorem dX7_depart_94 : decode cX7_depart 94 = .ok (.iload_n 3, 1) := by decide +kernel
theorem dX7_depart_95 : decode cX7_depart 95 = .ok (.iload_n 2, 1) := by decide +kernel
theorem dX7_depart_96 : decode cX7_depart 96 = .ok (.iload_n 3, 1) := by decide +kernel
theorem dX7_depart_97 : decode cX7_depart 97 = .ok (.invokestatic 107, 3) := by decide +kernel
theorem dX7_depart_100 : decode cX7_depart 100 = .ok (.iconst 2, 1) := by decide +kernel
theorem dX7_depart_101 : decode cX7_depart 101 = .ok (.invokevirtual 113, 3) := by decide +kernel
theorem dX7_depart_104 : decode cX7_depart 104 = .ok (.pop, 1) := by decide +kernel
theorem dX7_depart_105 : decode cX7_depart 105 = .ok (.aload_n 0, 1) := by decide +kernel
theorem dX7_depart_106 : decode cX7_depart 106 = .ok (.iload_n 1, 1) := by decide +kernel
theorem dX7_depart_107 : decode cX7_depart 107 = .ok (.iconst 4, 1) := by decide +kernel
theorem dX7_depart_108 : decode cX7_depart 108 = .ok (.invokevirtual 61, 3) := by decide +kernel
theorem dX7_depart_111 : decode cX7_depart 111 = .ok (.ireturn, 1) := by decide +kernel
theorem dX7_isInside_0 : decode cX7_isInside 0 = .ok (.aload_n 0, 1) := by decide +kernel
theorem dX7_isInside_1 : decode cX7_isInside 1 = .ok (.iload_n 1, 1) := by decide +kernel
theorem dX7_isInside_2 : decode cX7_isInside 2 = .ok (.iload_n 2, 1) := by decide +kernel
theorem dX7_isInside_3 : decode cX7_isInside 3 = .ok (.iconst 2, 1) := by decide +kernel
theorem dX7_isInside_4 : decode cX7_isInside 4 = .ok (.invokevirtual 55, 3) := by decide +kernel
theorem dX7_isInside_7 : decode cX7_isInside 7 = .ok (.istore_n 3, 1) := by decide +kernel
theorem dX7_isInside_8 : decode cX7_isInside 8 = .ok (.iload_n 3, 1) := by decide +kernel
theorem dX7_isInside_9 : decode cX7_isInside 9 = .ok (.ifCond .lt 27, 3) := by decide +kernel
theorem dX7_isInside_12 : decode cX7_isInside 12 = .ok (.aload_n 0, 1) := by decide +kernel
theorem dX7_isInside_13 : decode cX7_isInside 13 = .ok (.iload_n 3, 1) := by decide +kernel
theorem dX7_isInside_14 : decode cX7_isInside 14 = .ok (.iconst 2, 1) := by decide +kernel
theorem dX7_isInside_15 : decode cX7_isInside 15 = .ok (.invokevirtual 61, 3) := by decide +kernel
theorem dX7_isInside_18 : decode cX7_isInside 18 = .ok (.iconst 2, 1) := by decide +kernel
theorem dX7_isInside_19 : decode cX7_isInside 19 = .ok (.if_icmp .ne 17, 3) := by decide +kernel
theorem dX7_isInside_22 : decode cX7_isInside 22 = .ok (.aload_n 0, 1) := by decide +kernel
theorem dX7_isInside_23 : decode cX7_isInside 23 = .ok (.iload_n 3, 1) := by decide +kernel
theorem dX7_isInside_24 : decode cX7_isInside 24 = .ok (.iconst 3, 1) := by decide +kernel
theorem dX7_isInside_25 : decode cX7_isInside 25 = .ok (.invokevirtual 61, 3) := by decide +kernel
theorem dX7_isInside_28 : decode cX7_isInside 28 = .ok (.iload_n 1, 1) := by decide +kernel
theorem dX7_isInside_29 : decode cX7_isInside 29 = .ok (.if_icmp .ne 7, 3) := by decide +kernel
theorem dX7_isInside_32 : decode cX7_isInside 32 = .ok (.iconst 1, 1) := by decide +kernel
theorem dX7_isInside_33 : decode cX7_isInside 33 = .ok (.goto 4, 3) := by decide +kernel
theorem dX7_isInside_36 : decode cX7_isInside 36 = .ok (.iconst 0, 1) := by decide +kernel
theorem dX7_isInside_37 : decode cX7_isInside 37 = .ok (.ireturn, 1) := by decide +kernel
theorem dX7_admit_0 : decode cX7_admit 0 = .ok (.aload_n 0, 1) := by decide +kernel
theorem dX7_admit_1 : decode cX7_admit 1 = .ok (.iload_n 1, 1) := by decide +kernel
theorem dX7_admit_2 : decode cX7_admit 2 = .ok (.iload_n 2, 1) := by decide +kernel
theorem dX7_admit_3 : decode cX7_admit 3 = .ok (.invokevirtual 71, 3) := by decide +kernel
theorem dX7_admit_6 : decode cX7_admit 6 = .ok (.ifCond .ne 5, 3) := by decide +kernel
theorem dX7_admit_9 : decode cX7_admit 9 = .ok (.iconst (-1), 1) := by decide +kernel
theorem dX7_admit_10 : decode cX7_admit 10 = .ok (.ireturn, 1) := by decide +kernel
theorem dX7_admit_11 : decode cX7_admit 11 = .ok (.aload_n 0, 1) := by decide +kernel
theorem dX7_admit_12 : decode cX7_admit 12 = .ok (.iload_n 1, 1) := by decide +kernel
theorem dX7_admit_13 : decode cX7_admit 13 = .ok (.iload_n 2, 1) := by decide +kernel
theorem dX7_admit_14 : decode cX7_admit 14 = .ok (.iconst 2, 1) := by decide +kernel
theorem dX7_admit_15 : decode cX7_admit 15 = .ok (.invokevirtual 55, 3) := by decide +kernel
theorem dX7_admit_18 : decode cX7_admit 18 = .ok (.istore_n 3, 1) := by decide +kernel
theorem dX7_admit_19 : decode cX7_admit 19 = .ok (.iload_n 1, 1) := by decide +kernel
theorem dX7_admit_20 : decode cX7_admit 20 = .ok (.iload_n 2, 1) := by decide +kernel
theorem dX7_admit_21 : decode cX7_admit 21 = .ok (.invokestatic 120, 3) := by decide +kernel
theorem dX7_admit_24 : decode cX7_admit 24 = .ok (.istore 4, 2) := by decide +kernel
theorem dX7_admit_26 : decode cX7_admit 26 = .ok (.aload_n 0, 1) := by decide +kernel
theorem dX7_admit_27 : decode cX7_admit 27 = .ok (.iload_n 1, 1) := by decide +kernel
theorem dX7_admit_28 : decode cX7_admit 28 = .ok (.iload_n 2, 1) := by decide +kernel
theorem dX7_admit_29 : decode cX7_admit 29 = .ok (.invokevirtual 129, 3) := by decide +kernel
theorem dX7_admit_32 : decode cX7_admit 32 = .ok (.ifCond .eq 22, 3) := by decide +kernel
theorem dX7_admit_35 : decode cX7_admit 35 = .ok (.aload_n 0, 1) := by decide +kernel
theorem dX7_admit_36 : decode cX7_admit 36 = .ok (.iload_n 3, 1) := by decide +kernel
theorem dX7_admit_37 : decode cX7_admit 37 = .ok (.iconst 4, 1) := by decide +kernel
theorem dX7_admit_38 : decode cX7_admit 38 = .ok (.invokevirtual 61, 3) := by decide +kernel
theorem dX7_admit_41 : decode cX7_admit 41 = .ok (.ifCond .gt 13, 3) := by decide +kernel
theorem dX7_admit_44 : decode cX7_admit 44 = .ok (.aload_n 0, 1) := by decide +kernel
theorem dX7_admit_45 : decode cX7_admit 45 = .ok (.iload 4, 2) := by decide +kernel
theorem dX7_admit_47 : decode cX7_admit 47 = .ok (.iload_n 2, 1) := by decide +kernel
theorem dX7_admit_48 : decode cX7_admit 48 = .ok (.invokevirtual 83, 3) := by decide +kernel
theorem dX7_admit_51 : decode cX7_admit 51 = .ok (.ifCond .ne 6, 3) := by decide +kernel
theorem dX7_admit_54 : decode cX7_admit 54 = .ok (.bipush (-5), 2) := by decide +kernel
theorem dX7_admit_56 : decode cX7_admit 56 = .ok (.ireturn, 1) := by decide +kernel
theorem dX7_admit_57 : decode cX7_admit 57 = .ok (.aload_n 0, 1) := by decide +kernel
theorem dX7_admit_58 : decode cX7_admit 58 = .ok (.iload_n 3, 1) := by decide +kernel
theorem dX7_admit_59 : decode cX7_admit 59 = .ok (.iconst 2, 1) := by decide +kernel
theorem dX7_admit_60 : decode cX7_admit 60 = .ok (.iconst 0, 1) := by decide +kernel
theorem dX7_admit_61 : decode cX7_admit 61 = .ok (.invokevirtual 75, 3) := by decide +kernel
theorem dX7_admit_64 : decode cX7_admit 64 = .ok (.aload_n 0, 1) := by decide +kernel
theorem dX7_admit_65 : decode cX7_admit 65 = .ok (.iload_n 3, 1) := by decide +kernel
theorem dX7_admit_66 : decode cX7_admit 66 = .ok (.iconst 3, 1) := by decide +kernel
theorem dX7_admit_67 : decode cX7_admit 67 = .ok (.iload 4, 2) := by decide +kernel
theorem dX7_admit_69 : decode cX7_admit 69 = .ok (.invokevirtual 75, 3) := by decide +kernel
theorem dX7_admit_72 : decode cX7_admit 72 = .ok (.iload_n 3, 1) := by decide +kernel
theorem dX7_admit_73 : decode cX7_admit 73 = .ok (.ireturn, 1) := by decide +kernel
theorem dX7_out_0 : decode cX7_out 0 = .ok (.aload_n 0, 1) := by decide +kernel
theorem dX7_out_1 : decode cX7_out 1 = .ok (.iload_n 1, 1) := by decide +kernel
theorem dX7_out_2 : decode cX7_out 2 = .ok (.iload_n 2, 1) := by decide +kernel
theorem dX7_out_3 : decode cX7_out 3 = .ok (.invokevirtual 71, 3) := by decide +kernel
theorem dX7_out_6 : decode cX7_out 6 = .ok (.ifCond .ne 5, 3) := by decide +kernel
theorem dX7_out_9 : decode cX7_out 9 = .ok (.iconst (-1), 1) := by decide +kernel
theorem dX7_out_10 : decode cX7_out 10 = .ok (.ireturn, 1) := by decide +kernel
theorem dX7_out_11 : decode cX7_out 11 = .ok (.iload_n 1, 1) := by decide +kernel
theorem dX7_out_12 : decode cX7_out 12 = .ok (.iload_n 2, 1) := by decide +kernel
theorem dX7_out_13 : decode cX7_out 13 = .ok (.invokestatic 120, 3) := by decide +kernel
theorem dX7_out_16 : decode cX7_out 16 = .ok (.istore_n 3, 1) := by decide +kernel
theorem dX7_out_17 : decode cX7_out 17 = .ok (.aload_n 0, 1) := by decide +kernel
theorem dX7_out_18 : decode cX7_out 18 = .ok (.iload_n 1, 1) := by decide +kernel
theorem dX7_out_19 : decode cX7_out 19 = .ok (.iload_n 2, 1) := by decide +kernel
theorem dX7_out_20 : decode cX7_out 20 = .ok (.iconst 0, 1) := by decide +kernel
theorem dX7_out_21 : decode cX7_out 21 = .ok (.invokevirtual 55, 3) := by decide +kernel
theorem dX7_out_24 : decode cX7_out 24 = .ok (.iconst 2, 1) := by decide +kernel
theorem dX7_out_25 : decode cX7_out 25 = .ok (.if_icmp .ne 23, 3) := by decide +kernel
theorem dX7_out_28 : decode cX7_out 28 = .ok (.aload_n 0, 1) := by decide +kernel
theorem dX7_out_29 : decode cX7_out 29 = .ok (.iload_n 1, 1) := by decide +kernel
theorem dX7_out_30 : decode cX7_out 30 = .ok (.iload_n 2, 1) := by decide +kernel
theorem dX7_out_31 : decode cX7_out 31 = .ok (.invokevirtual 129, 3) := by decide +kernel
theorem dX7_out_34 : decode cX7_out 34 = .ok (.ifCond .ne 14, 3) := by decide +kernel
theorem dX7_out_37 : decode cX7_out 37 = .ok (.aload_n 0, 1) := by decide +kernel
theorem dX7_out_38 : decode cX7_out 38 = .ok (.iload_n 1, 1) := by decide +kernel
theorem dX7_out_39 : decode cX7_out 39 = .ok (.iload_n 2, 1) := by decide +kernel
theorem dX7_out_40 : decode cX7_out 40 = .ok (.iconst 3, 1) := by decide +kernel
theorem dX7_out_41 : decode cX7_out 41 = .ok (.invokevirtual 55, 3) := by decide +kernel
theorem dX7_out_44 : decode cX7_out 44 = .ok (.iconst 1, 1) := by decide +kernel
theorem dX7_out_45 : decode cX7_out 45 = .ok (.if_icmp .ne 6, 3) := by decide +kernel
theorem dX7_out_48 : decode cX7_out 48 = .ok (.bipush (-5), 2) := by decide +kernel
theorem dX7_out_50 : decode cX7_out 50 = .ok (.ireturn, 1) := by decide +kernel
theorem dX7_out_51 : decode cX7_out 51 = .ok (.aload_n 0, 1) := by decide +kernel
theorem dX7_out_52 : decode cX7_out 52 = .ok (.getfield 7, 3) := by decide +kernel
theorem dX7_out_55 : decode cX7_out 55 = .ok (.iload_n 1, 1) := by decide +kernel
theorem dX7_out_56 : decode cX7_out 56 = .ok (.iload_n 2, 1) := by decide +kernel
theorem dX7_out_57 : decode cX7_out 57 = .ok (.iconst 0, 1) := by decide +kernel
theorem dX7_out_58 : decode cX7_out 58 = .ok (.invokestatic 51, 3) := by decide +kernel
theorem dX7_out_61 : decode cX7_out 61 = .ok (.iconst 0, 1) := by decide +kernel
theorem dX7_out_62 : decode cX7_out 62 = .ok (.iastore, 1) := by decide +kernel
theorem dX7_out_63 : decode cX7_out 63 = .ok (.aload_n 0, 1) := by decide +kernel
theorem dX7_out_64 : decode cX7_out 64 = .ok (.getfield 7, 3) := by decide +kernel
theorem dX7_out_67 : decode cX7_out 67 = .ok (.iload_n 1, 1) := by decide +kernel
theorem dX7_out_68 : decode cX7_out 68 = .ok (.iload_n 2, 1) := by decide +kernel
theorem dX7_out_69 : decode cX7_out 69 = .ok (.iconst 2, 1) := by decide +kernel
theorem dX7_out_70 : decode cX7_out 70 = .ok (.invokestatic 51, 3) := by decide +kernel
theorem dX7_out_73 : decode cX7_out 73 = .ok (.bipush (-6), 2) := by decide +kernel
theorem dX7_out_75 : decode cX7_out 75 = .ok (.iastore, 1) := by decide +kernel
theorem dX7_out_76 : decode cX7_out 76 = .ok (.aload_n 0, 1) := by decide +kernel
theorem dX7_out_77 : decode cX7_out 77 = .ok (.getfield 7, 3) := by decide +kernel
theorem dX7_out_80 : decode cX7_out 80 = .ok (.iload_n 1, 1) := by decide +kernel
theorem dX7_out_81 : decode cX7_out 81 = .ok (.iload_n 3, 1) := by decide +kernel
theorem dX7_out_82 : decode cX7_out 82 = .ok (.invokestatic 117, 3) := by decide +kernel
theorem dX7_out_85 : decode cX7_out 85 = .ok (.dup2, 1) := by decide +kernel
theorem dX7_out_86 : decode cX7_out 86 = .ok (.iaload, 1) := by decide +kernel
theorem dX7_out_87 : decode cX7_out 87 = .ok (.aload_n 0, 1) := by decide +kernel
theorem dX7_out_88 : decode cX7_out 88 = .ok (.iload_n 1, 1) := by decide +kernel
theorem dX7_out_89 : decode cX7_out 89 = .ok (.invokevirtual 58, 3) := by decide +kernel
theorem dX7_out_92 : decode cX7_out 92 = .ok (.ifCond .eq 7, 3) := by decide +kernel
theorem dX7_out_95 : decode cX7_out 95 = .ok (.iconst 1, 1) := by decide +kernel
theorem dX7_out_96 : decode cX7_out 96 = .ok (.goto 4, 3) := by decide +kernel
theorem dX7_out_99 : decode cX7_out 99 = .ok (.iconst 0, 1) := by decide +kernel
theorem dX7_out_100 : decode cX7_out 100 = .ok (.iadd, 1) := by decide +kernel
theorem dX7_out_101 : decode cX7_out 101 = .ok (.iastore, 1) := by decide +kernel
theorem dX7_out_102 : decode cX7_out 102 = .ok (.aload_n 0, 1) := by decide +kernel
theorem dX7_out_103 : decode cX7_out 103 = .ok (.iload_n 1, 1) := by decide +kernel
theorem dX7_out_104 : decode cX7_out 104 = .ok (.iload_n 2, 1) := by decide +kernel
theorem dX7_out_105 : decode cX7_out 105 = .ok (.iload_n 3, 1) := by decide +kernel
theorem dX7_out_106 : decode cX7_out 106 = .ok (.bipush 21, 2) := by decide +kernel
theorem dX7_out_108 : decode cX7_out 108 = .ok (.invokevirtual 113, 3) := by decide +kernel
theorem dX7_out_111 : decode cX7_out 111 = .ok (.ireturn, 1) := by decide +kernel
end
section
theorem dX7_assist_0 : decode cX7_assist 0 = .ok (.aload_n 0, 1) := by decide +kernel
theorem dX7_assist_1 : decode cX7_assist 1 = .ok (.iload_n 1, 1) := by decide +kernel
theorem dX7_assist_2 : decode cX7_assist 2 = .ok (.iload_n 2, 1) := by decide +kernel
theorem dX7_assist_3 : decode cX7_assist 3 = .ok (.invokevirtual 71, 3) := by decide +kernel
theorem dX7_assist_6 : decode cX7_assist 6 = .ok (.ifCond .ne 5, 3) := by decide +kernel
theorem dX7_assist_9 : decode cX7_assist 9 = .ok (.iconst (-1), 1) := by decide +kernel
theorem dX7_assist_10 : decode cX7_assist 10 = .ok (.ireturn, 1) := by decide +kernel
theorem dX7_assist_11 : decode cX7_assist 11 = .ok (.aload_n 0, 1) := by decide +kernel
theorem dX7_assist_12 : decode cX7_assist 12 = .ok (.iload_n 1, 1) := by decide +kernel
theorem dX7_assist_13 : decode cX7_assist 13 = .ok (.iload_n 2, 1) := by decide +kernel
theorem dX7_assist_14 : decode cX7_assist 14 = .ok (.iconst 3, 1) := by decide +kernel
theorem dX7_assist_15 : decode cX7_assist 15 = .ok (.invokevirtual 55, 3) := by decide +kernel
theorem dX7_assist_18 : decode cX7_assist 18 = .ok (.ifCond .eq 22, 3) := by decide +kernel
theorem dX7_assist_21 : decode cX7_assist 21 = .ok (.aload_n 0, 1) := by decide +kernel
theorem dX7_assist_22 : decode cX7_assist 22 = .ok (.iload_n 1, 1) := by decide +kernel
theorem dX7_assist_23 : decode cX7_assist 23 = .ok (.iload_n 2, 1) := by decide +kernel
theorem dX7_assist_24 : decode cX7_assist 24 = .ok (.invokevirtual 129, 3) := by decide +kernel
theorem dX7_assist_27 : decode cX7_assist 27 = .ok (.ifCond .ne 13, 3) := by decide +kernel
theorem dX7_assist_30 : decode cX7_assist 30 = .ok (.aload_n 0, 1) := by decide +kernel
theorem dX7_assist_31 : decode cX7_assist 31 = .ok (.iload_n 1, 1) := by decide +kernel
theorem dX7_assist_32 : decode cX7_assist 32 = .ok (.iload_n 2, 1) := by decide +kernel
theorem dX7_assist_33 : decode cX7_assist 33 = .ok (.iconst 4, 1) := by decide +kernel
theorem dX7_assist_34 : decode cX7_assist 34 = .ok (.invokevirtual 55, 3) := by decide +kernel
theorem dX7_assist_37 : decode cX7_assist 37 = .ok (.ifCond .le 6, 3) := by decide +kernel
theorem dX7_assist_40 : decode cX7_assist 40 = .ok (.bipush (-5), 2) := by decide +kernel
theorem dX7_assist_42 : decode cX7_assist 42 = .ok (.ireturn, 1) := by decide +kernel
theorem dX7_assist_43 : decode cX7_assist 43 = .ok (.aload_n 0, 1) := by decide +kernel
theorem dX7_assist_44 : decode cX7_assist 44 = .ok (.getfield 7, 3) := by decide +kernel
theorem dX7_assist_47 : decode cX7_assist 47 = .ok (.iload_n 1, 1) := by decide +kernel
theorem dX7_assist_48 : decode cX7_assist 48 = .ok (.iload_n 2, 1) := by decide +kernel
theorem dX7_assist_49 : decode cX7_assist 49 = .ok (.iconst 4, 1) := by decide +kernel
theorem dX7_assist_50 : decode cX7_assist 50 = .ok (.invokestatic 51, 3) := by decide +kernel
theorem dX7_assist_53 : decode cX7_assist 53 = .ok (.iconst 2, 1) := by decide +kernel
theorem dX7_assist_54 : decode cX7_assist 54 = .ok (.aload_n 0, 1) := by decide +kernel
theorem dX7_assist_55 : decode cX7_assist 55 = .ok (.getfield 7, 3) := by decide +kernel
theorem dX7_assist_58 : decode cX7_assist 58 = .ok (.iconst 3, 1) := by decide +kernel
theorem dX7_assist_59 : decode cX7_assist 59 = .ok (.iload_n 1, 1) := by decide +kernel
theorem dX7_assist_60 : decode cX7_assist 60 = .ok (.iadd, 1) := by decide +kernel
theorem dX7_assist_61 : decode cX7_assist 61 = .ok (.iaload, 1) := by decide +kernel
theorem dX7_assist_62 : decode cX7_assist 62 = .ok (.imul, 1) := by decide +kernel
theorem dX7_assist_63 : decode cX7_assist 63 = .ok (.iastore, 1) := by decide +kernel
theorem dX7_assist_64 : decode cX7_assist 64 = .ok (.aload_n 0, 1) := by decide +kernel
theorem dX7_assist_65 : decode cX7_assist 65 = .ok (.iload_n 1, 1) := by decide +kernel
theorem dX7_assist_66 : decode cX7_assist 66 = .ok (.iload_n 2, 1) := by decide +kernel
theorem dX7_assist_67 : decode cX7_assist 67 = .ok (.iload_n 1, 1) := by decide +kernel
theorem dX7_assist_68 : decode cX7_assist 68 = .ok (.iload_n 2, 1) := by decide +kernel
theorem dX7_assist_69 : decode cX7_assist 69 = .ok (.invokestatic 107, 3) := by decide +kernel
theorem dX7_assist_72 : decode cX7_assist 72 = .ok (.bipush 22, 2) := by decide +kernel
theorem dX7_assist_74 : decode cX7_assist 74 = .ok (.invokevirtual 113, 3) := by decide +kernel
theorem dX7_assist_77 : decode cX7_assist 77 = .ok (.pop, 1) := by decide +kernel
theorem dX7_assist_78 : decode cX7_assist 78 = .ok (.aload_n 0, 1) := by decide +kernel
theorem dX7_assist_79 : decode cX7_assist 79 = .ok (.iload_n 1, 1) := by decide +kernel
theorem dX7_assist_80 : decode cX7_assist 80 = .ok (.iload_n 2, 1) := by decide +kernel
theorem dX7_assist_81 : decode cX7_assist 81 = .ok (.iconst 4, 1) := by decide +kernel
theorem dX7_assist_82 : decode cX7_assist 82 = .ok (.invokevirtual 55, 3) := by decide +kernel
theorem dX7_assist_85 : decode cX7_assist 85 = .ok (.ireturn, 1) := by decide +kernel
theorem dX7_obstruct_0 : decode cX7_obstruct 0 = .ok (.aload_n 0, 1) := by decide +kernel
theorem dX7_obstruct_1 : decode cX7_obstruct 1 = .ok (.iload_n 1, 1) := by decide +kernel
theorem dX7_obstruct_2 : decode cX7_obstruct 2 = .ok (.iload_n 2, 1) := by decide +kernel
theorem dX7_obstruct_3 : decode cX7_obstruct 3 = .ok (.invokevirtual 71, 3) := by decide +kernel
theorem dX7_obstruct_6 : decode cX7_obstruct 6 = .ok (.ifCond .ne 5, 3) := by decide +kernel
theorem dX7_obstruct_9 : decode cX7_obstruct 9 = .ok (.iconst (-1), 1) := by decide +kernel
theorem dX7_obstruct_10 : decode cX7_obstruct 10 = .ok (.ireturn, 1) := by decide +kernel
theorem dX7_obstruct_11 : decode cX7_obstruct 11 = .ok (.aload_n 0, 1) := by decide +kernel
theorem dX7_obstruct_12 : decode cX7_obstruct 12 = .ok (.iload_n 1, 1) := by decide +kernel
theorem dX7_obstruct_13 : decode cX7_obstruct 13 = .ok (.iload_n 2, 1) := by decide +kernel
theorem dX7_obstruct_14 : decode cX7_obstruct 14 = .ok (.iconst 0, 1) := by decide +kernel
theorem dX7_obstruct_15 : decode cX7_obstruct 15 = .ok (.invokevirtual 55, 3) := by decide +kernel
theorem dX7_obstruct_18 : decode cX7_obstruct 18 = .ok (.istore_n 3, 1) := by decide +kernel
theorem dX7_obstruct_19 : decode cX7_obstruct 19 = .ok (.iload_n 3, 1) := by decide +kernel
theorem dX7_obstruct_20 : decode cX7_obstruct 20 = .ok (.iconst 1, 1) := by decide +kernel
theorem dX7_obstruct_21 : decode cX7_obstruct 21 = .ok (.if_icmp .le 6, 3) := by decide +kernel
theorem dX7_obstruct_24 : decode cX7_obstruct 24 = .ok (.bipush (-5), 2) := by decide +kernel
theorem dX7_obstruct_26 : decode cX7_obstruct 26 = .ok (.ireturn, 1) := by decide +kernel
theorem dX7_obstruct_27 : decode cX7_obstruct 27 = .ok (.aload_n 0, 1) := by decide +kernel
theorem dX7_obstruct_28 : decode cX7_obstruct 28 = .ok (.iload_n 1, 1) := by decide +kernel
theorem dX7_obstruct_29 : decode cX7_obstruct 29 = .ok (.iload_n 2, 1) := by decide +kernel
theorem dX7_obstruct_30 : decode cX7_obstruct 30 = .ok (.invokevirtual 126, 3) := by decide +kernel
theorem dX7_obstruct_33 : decode cX7_obstruct 33 = .ok (.aload_n 0, 1) := by decide +kernel
theorem dX7_obstruct_34 : decode cX7_obstruct 34 = .ok (.getfield 7, 3) := by decide +kernel
theorem dX7_obstruct_37 : decode cX7_obstruct 37 = .ok (.iload_n 1, 1) := by decide +kernel
theorem dX7_obstruct_38 : decode cX7_obstruct 38 = .ok (.iload_n 2, 1) := by decide +kernel
theorem dX7_obstruct_39 : decode cX7_obstruct 39 = .ok (.iconst 1, 1) := by decide +kernel
theorem dX7_obstruct_40 : decode cX7_obstruct 40 = .ok (.invokestatic 51, 3) := by decide +kernel
theorem dX7_obstruct_43 : decode cX7_obstruct 43 = .ok (.bipush (-6), 2) := by decide +kernel
theorem dX7_obstruct_45 : decode cX7_obstruct 45 = .ok (.iastore, 1) := by decide +kernel
theorem dX7_obstruct_46 : decode cX7_obstruct 46 = .ok (.aload_n 0, 1) := by decide +kernel
theorem dX7_obstruct_47 : decode cX7_obstruct 47 = .ok (.getfield 7, 3) := by decide +kernel
theorem dX7_obstruct_50 : decode cX7_obstruct 50 = .ok (.iload_n 1, 1) := by decide +kernel
theorem dX7_obstruct_51 : decode cX7_obstruct 51 = .ok (.iload_n 2, 1) := by decide +kernel
theorem dX7_obstruct_52 : decode cX7_obstruct 52 = .ok (.iconst 0, 1) := by decide +kernel
theorem dX7_obstruct_53 : decode cX7_obstruct 53 = .ok (.invokestatic 51, 3) := by decide +kernel
theorem dX7_obstruct_56 : decode cX7_obstruct 56 = .ok (.iconst 3, 1) := by decide +kernel
theorem dX7_obstruct_57 : decode cX7_obstruct 57 = .ok (.iastore, 1) := by decide +kernel
theorem dX7_obstruct_58 : decode cX7_obstruct 58 = .ok (.aload_n 0, 1) := by decide +kernel
theorem dX7_obstruct_59 : decode cX7_obstruct 59 = .ok (.iload_n 1, 1) := by decide +kernel
theorem dX7_obstruct_60 : decode cX7_obstruct 60 = .ok (.iload_n 2, 1) := by decide +kernel
theorem dX7_obstruct_61 : decode cX7_obstruct 61 = .ok (.iload_n 1, 1) := by decide +kernel
theorem dX7_obstruct_62 : decode cX7_obstruct 62 = .ok (.iload_n 2, 1) := by decide +kernel
theorem dX7_obstruct_63 : decode cX7_obstruct 63 = .ok (.invokestatic 120, 3) := by decide +kernel
theorem dX7_obstruct_66 : decode cX7_obstruct 66 = .ok (.bipush 6, 2) := by decide +kernel
theorem dX7_obstruct_68 : decode cX7_obstruct 68 = .ok (.invokevirtual 113, 3) := by decide +kernel
theorem dX7_obstruct_71 : decode cX7_obstruct 71 = .ok (.pop, 1) := by decide +kernel
theorem dX7_obstruct_72 : decode cX7_obstruct 72 = .ok (.iload_n 3, 1) := by decide +kernel
theorem dX7_obstruct_73 : decode cX7_obstruct 73 = .ok (.ireturn, 1) := by decide +kernel
theorem dX7_lift_0 : decode cX7_lift 0 = .ok (.aload_n 0, 1) := by decide +kernel
theorem dX7_lift_1 : decode cX7_lift 1 = .ok (.iload_n 1, 1) := by decide +kernel
theorem dX7_lift_2 : decode cX7_lift 2 = .ok (.iload_n 2, 1) := by decide +kernel
theorem dX7_lift_3 : decode cX7_lift 3 = .ok (.invokevirtual 71, 3) := by decide +kernel
theorem dX7_lift_6 : decode cX7_lift 6 = .ok (.ifCond .ne 5, 3) := by decide +kernel
theorem dX7_lift_9 : decode cX7_lift 9 = .ok (.iconst (-1), 1) := by decide +kernel
theorem dX7_lift_10 : decode cX7_lift 10 = .ok (.ireturn, 1) := by decide +kernel
theorem dX7_lift_11 : decode cX7_lift 11 = .ok (.aload_n 0, 1) := by decide +kernel
theorem dX7_lift_12 : decode cX7_lift 12 = .ok (.iload_n 1, 1) := by decide +kernel
theorem dX7_lift_13 : decode cX7_lift 13 = .ok (.iload_n 2, 1) := by decide +kernel
theorem dX7_lift_14 : decode cX7_lift 14 = .ok (.iconst 0, 1) := by decide +kernel
theorem dX7_lift_15 : decode cX7_lift 15 = .ok (.invokevirtual 55, 3) := by decide +kernel
theorem dX7_lift_18 : decode cX7_lift 18 = .ok (.iconst 3, 1) := by decide +kernel
theorem dX7_lift_19 : decode cX7_lift 19 = .ok (.if_icmp .eq 6, 3) := by decide +kernel
theorem dX7_lift_22 : decode cX7_lift 22 = .ok (.bipush (-5), 2) := by decide +kernel
theorem dX7_lift_24 : decode cX7_lift 24 = .ok (.ireturn, 1) := by decide +kernel
theorem dX7_lift_25 : decode cX7_lift 25 = .ok (.aload_n 0, 1) := by decide +kernel
theorem dX7_lift_26 : decode cX7_lift 26 = .ok (.getfield 7, 3) := by decide +kernel
theorem dX7_lift_29 : decode cX7_lift 29 = .ok (.iload_n 1, 1) := by decide +kernel
theorem dX7_lift_30 : decode cX7_lift 30 = .ok (.iload_n 2, 1) := by decide +kernel
theorem dX7_lift_31 : decode cX7_lift 31 = .ok (.iconst 0, 1) := by decide +kernel
theorem dX7_lift_32 : decode cX7_lift 32 = .ok (.invokestatic 51, 3) := by decide +kernel
theorem dX7_lift_35 : decode cX7_lift 35 = .ok (.iconst 0, 1) := by decide +kernel
theorem dX7_lift_36 : decode cX7_lift 36 = .ok (.iastore, 1) := by decide +kernel
theorem dX7_lift_37 : decode cX7_lift 37 = .ok (.aload_n 0, 1) := by decide +kernel
theorem dX7_lift_38 : decode cX7_lift 38 = .ok (.iload_n 1, 1) := by decide +kernel
theorem dX7_lift_39 : decode cX7_lift 39 = .ok (.iload_n 2, 1) := by decide +kernel
theorem dX7_lift_40 : decode cX7_lift 40 = .ok (.iload_n 1, 1) := by decide +kernel
theorem dX7_lift_41 : decode cX7_lift 41 = .ok (.iload_n 2, 1) := by decide +kernel
theorem dX7_lift_42 : decode cX7_lift 42 = .ok (.invokestatic 120, 3) := by decide +kernel
theorem dX7_lift_45 : decode cX7_lift 45 = .ok (.bipush 13, 2) := by decide +kernel
theorem dX7_lift_47 : decode cX7_lift 47 = .ok (.invokevirtual 113, 3) := by decide +kernel
theorem dX7_lift_50 : decode cX7_lift 50 = .ok (.ireturn, 1) := by decide +kernel
theorem dX7_tick_0 : decode cX7_tick 0 = .ok (.iconst 0, 1) := by decide +kernel
theorem dX7_tick_1 : decode cX7_tick 1 = .ok (.istore_n 1, 1) := by decide +kernel
theorem dX7_tick_2 : decode cX7_tick 2 = .ok (.iload_n 1, 1) := by decide +kernel
theorem dX7_tick_3 : decode cX7_tick 3 = .ok (.aload_n 0, 1) := by decide +kernel
theorem dX7_tick_4 : decode cX7_tick 4 = .ok (.getfield 7, 3) := by decide +kernel
theorem dX7_tick_7 : decode cX7_tick 7 = .ok (.sipush 381, 3) := by decide +kernel
theorem dX7_tick_10 : decode cX7_tick 10 = .ok (.iaload, 1) := by decide +kernel
theorem dX7_tick_11 : decode cX7_tick 11 = .ok (.if_icmp .ge 56, 3) := by decide +kernel
theorem dX7_tick_14 : decode cX7_tick 14 = .ok (.aload_n 0, 1) := by decide +kernel
theorem dX7_tick_15 : decode cX7_tick 15 = .ok (.iload_n 1, 1) := by decide +kernel
theorem dX7_tick_16 : decode cX7_tick 16 = .ok (.iconst 2, 1) := by decide +kernel
theorem dX7_tick_17 : decode cX7_tick 17 = .ok (.invokevirtual 61, 3) := by decide +kernel
theorem dX7_tick_20 : decode cX7_tick 20 = .ok (.iconst 2, 1) := by decide +kernel
theorem dX7_tick_21 : decode cX7_tick 21 = .ok (.if_icmp .ne 16, 3) := by decide +kernel
theorem dX7_tick_24 : decode cX7_tick 24 = .ok (.aload_n 0, 1) := by decide +kernel
theorem dX7_tick_25 : decode cX7_tick 25 = .ok (.iload_n 1, 1) := by decide +kernel
theorem dX7_tick_26 : decode cX7_tick 26 = .ok (.iconst 4, 1) := by decide +kernel
theorem dX7_tick_27 : decode cX7_tick 27 = .ok (.invokevirtual 61, 3) := by decide +kernel
theorem dX7_tick_30 : decode cX7_tick 30 = .ok (.ifCond .le 7, 3) := by decide +kernel
theorem dX7_tick_33 : decode cX7_tick 33 = .ok (.iconst 1, 1) := by decide +kernel
theorem dX7_tick_34 : decode cX7_tick 34 = .ok (.goto 4, 3) := by decide +kernel
theorem dX7_tick_37 : decode cX7_tick 37 = .ok (.iconst 0, 1) := by decide +kernel
theorem dX7_tick_38 : decode cX7_tick 38 = .ok (.istore_n 2, 1) := by decide +kernel
theorem dX7_tick_39 : decode cX7_tick 39 = .ok (.aload_n 0, 1) := by decide +kernel
theorem dX7_tick_40 : decode cX7_tick 40 = .ok (.iload_n 1, 1) := by decide +kernel
theorem dX7_tick_41 : decode cX7_tick 41 = .ok (.iconst 4, 1) := by decide +kernel
theorem dX7_tick_42 : decode cX7_tick 42 = .ok (.aload_n 0, 1) := by decide +kernel
theorem dX7_tick_43 : decode cX7_tick 43 = .ok (.iload_n 1, 1) := by decide +kernel
theorem dX7_tick_44 : decode cX7_tick 44 = .ok (.iconst 4, 1) := by decide +kernel
theorem dX7_tick_45 : decode cX7_tick 45 = .ok (.invokevirtual 61, 3) := by decide +kernel
theorem dX7_tick_48 : decode cX7_tick 48 = .ok (.iload_n 2, 1) := by decide +kernel
theorem dX7_tick_49 : decode cX7_tick 49 = .ok (.ifCond .eq 7, 3) := by decide +kernel
theorem dX7_tick_52 : decode cX7_tick 52 = .ok (.iconst 1, 1) := by decide +kernel
theorem dX7_tick_53 : decode cX7_tick 53 = .ok (.goto 4, 3) := by decide +kernel
theorem dX7_tick_56 : decode cX7_tick 56 = .ok (.iconst 0, 1) := by decide +kernel
theorem dX7_tick_57 : decode cX7_tick 57 = .ok (.isub, 1) := by decide +kernel
theorem dX7_tick_58 : decode cX7_tick 58 = .ok (.invokevirtual 75, 3) := by decide +kernel
theorem dX7_tick_61 : decode cX7_tick 61 = .ok (.iinc 1 1, 3) := by decide +kernel
theorem dX7_tick_64 : decode cX7_tick 64 = .ok (.goto (-62), 3) := by decide +kernel
theorem dX7_tick_67 : decode cX7_tick 67 = .ok (.iconst 0, 1) := by decide +kernel
theorem dX7_tick_68 : decode cX7_tick 68 = .ok (.istore_n 1, 1) := by decide +kernel
theorem dX7_tick_69 : decode cX7_tick 69 = .ok (.iload_n 1, 1) := by decide +kernel
theorem dX7_tick_70 : decode cX7_tick 70 = .ok (.iconst 2, 1) := by decide +kernel
theorem dX7_tick_71 : decode cX7_tick 71 = .ok (.aload_n 0, 1) := by decide +kernel
theorem dX7_tick_72 : decode cX7_tick 72 = .ok (.invokevirtual 36, 3) := by decide +kernel
theorem dX7_tick_75 : decode cX7_tick 75 = .ok (.imul, 1) := by decide +kernel
theorem dX7_tick_76 : decode cX7_tick 76 = .ok (.if_icmp .ge 64, 3) := by decide +kernel
theorem dX7_tick_79 : decode cX7_tick 79 = .ok (.bipush 30, 2) := by decide +kernel
theorem dX7_tick_81 : decode cX7_tick 81 = .ok (.iconst 5, 1) := by decide +kernel
theorem dX7_tick_82 : decode cX7_tick 82 = .ok (.iload_n 1, 1) := by decide +kernel
theorem dX7_tick_83 : decode cX7_tick 83 = .ok (.imul, 1) := by decide +kernel
theorem dX7_tick_84 : decode cX7_tick 84 = .ok (.iadd, 1) := by decide +kernel
theorem dX7_tick_85 : decode cX7_tick 85 = .ok (.iconst 4, 1) := by decide +kernel
theorem dX7_tick_86 : decode cX7_tick 86 = .ok (.iadd, 1) := by decide +kernel
theorem dX7_tick_87 : decode cX7_tick 87 = .ok (.istore_n 2, 1) := by decide +kernel
theorem dX7_tick_88 : decode cX7_tick 88 = .ok (.aload_n 0, 1) := by decide +kernel
theorem dX7_tick_89 : decode cX7_tick 89 = .ok (.getfield 7, 3) := by decide +kernel
theorem dX7_tick_92 : decode cX7_tick 92 = .ok (.iload_n 2, 1) := by decide +kernel
theorem dX7_tick_93 : decode cX7_tick 93 = .ok (.iaload, 1) := by decide +kernel
theorem dX7_tick_94 : decode cX7_tick 94 = .ok (.ifCond .le 40, 3) := by decide +kernel
theorem dX7_tick_97 : decode cX7_tick 97 = .ok (.aload_n 0, 1) := by decide +kernel
theorem dX7_tick_98 : decode cX7_tick 98 = .ok (.getfield 7, 3) := by decide +kernel
theorem dX7_tick_101 : decode cX7_tick 101 = .ok (.iload_n 2, 1) := by decide +kernel
theorem dX7_tick_102 : decode cX7_tick 102 = .ok (.dup2, 1) := by decide +kernel
theorem dX7_tick_103 : decode cX7_tick 103 = .ok (.iaload, 1) := by decide +kernel
theorem dX7_tick_104 : decode cX7_tick 104 = .ok (.iconst 1, 1) := by decide +kernel
theorem dX7_tick_105 : decode cX7_tick 105 = .ok (.isub, 1) := by decide +kernel
theorem dX7_tick_106 : decode cX7_tick 106 = .ok (.iastore, 1) := by decide +kernel
theorem dX7_tick_107 : decode cX7_tick 107 = .ok (.aload_n 0, 1) := by decide +kernel
theorem dX7_tick_108 : decode cX7_tick 108 = .ok (.getfield 7, 3) := by decide +kernel
theorem dX7_tick_111 : decode cX7_tick 111 = .ok (.bipush 30, 2) := by decide +kernel
theorem dX7_tick_113 : decode cX7_tick 113 = .ok (.iconst 5, 1) := by decide +kernel
theorem dX7_tick_114 : decode cX7_tick 114 = .ok (.iload_n 1, 1) := by decide +kernel
theorem dX7_tick_115 : decode cX7_tick 115 = .ok (.imul, 1) := by decide +kernel
theorem dX7_tick_116 : decode cX7_tick 116 = .ok (.iadd, 1) := by decide +kernel
theorem dX7_tick_117 : decode cX7_tick 117 = .ok (.iconst 3, 1) := by decide +kernel
theorem dX7_tick_118 : decode cX7_tick 118 = .ok (.iadd, 1) := by decide +kernel
theorem dX7_tick_119 : decode cX7_tick 119 = .ok (.aload_n 0, 1) := by decide +kernel
theorem dX7_tick_120 : decode cX7_tick 120 = .ok (.getfield 7, 3) := by decide +kernel
theorem dX7_tick_123 : decode cX7_tick 123 = .ok (.iload_n 2, 1) := by decide +kernel
theorem dX7_tick_124 : decode cX7_tick 124 = .ok (.iaload, 1) := by decide +kernel
theorem dX7_tick_125 : decode cX7_tick 125 = .ok (.ifCond .le 7, 3) := by decide +kernel
theorem dX7_tick_128 : decode cX7_tick 128 = .ok (.iconst 1, 1) := by decide +kernel
theorem dX7_tick_129 : decode cX7_tick 129 = .ok (.goto 4, 3) := by decide +kernel
theorem dX7_tick_132 : decode cX7_tick 132 = .ok (.iconst 0, 1) := by decide +kernel
theorem dX7_tick_133 : decode cX7_tick 133 = .ok (.iastore, 1) := by decide +kernel
theorem dX7_tick_134 : decode cX7_tick 134 = .ok (.iinc 1 1, 3) := by decide +kernel
theorem dX7_tick_137 : decode cX7_tick 137 = .ok (.goto (-68), 3) := by decide +kernel
theorem dX7_tick_140 : decode cX7_tick 140 = .ok (.aload_n 0, 1) := by decide +kernel
theorem dX7_tick_141 : decode cX7_tick 141 = .ok (.getfield 7, 3) := by decide +kernel
theorem dX7_tick_144 : decode cX7_tick 144 = .ok (.iconst 0, 1) := by decide +kernel
theorem dX7_tick_145 : decode cX7_tick 145 = .ok (.dup2, 1) := by decide +kernel
theorem dX7_tick_146 : decode cX7_tick 146 = .ok (.iaload, 1) := by decide +kernel
theorem dX7_tick_147 : decode cX7_tick 147 = .ok (.iconst 1, 1) := by decide +kernel
theorem dX7_tick_148 : decode cX7_tick 148 = .ok (.iadd, 1) := by decide +kernel
theorem dX7_tick_149 : decode cX7_tick 149 = .ok (.iastore, 1) := by decide +kernel
theorem dX7_tick_150 : decode cX7_tick 150 = .ok (.return_, 1) := by decide +kernel
theorem dX7_pass_0 : decode cX7_pass 0 = .ok (.iload_n 1, 1) := by decide +kernel
theorem dX7_pass_1 : decode cX7_pass 1 = .ok (.iconst 1, 1) := by decide +kernel
theorem dX7_pass_2 : decode cX7_pass 2 = .ok (.sipush 1000, 3) := by decide +kernel
theorem dX7_pass_5 : decode cX7_pass 5 = .ok (.invokestatic 40, 3) := by decide +kernel
theorem dX7_pass_8 : decode cX7_pass 8 = .ok (.ifCond .ne 6, 3) := by decide +kernel
theorem dX7_pass_11 : decode cX7_pass 11 = .ok (.bipush (-2), 2) := by decide +kernel
theorem dX7_pass_13 : decode cX7_pass 13 = .ok (.ireturn, 1) := by decide +kernel
theorem dX7_pass_14 : decode cX7_pass 14 = .ok (.aload_n 0, 1) := by decide +kernel
theorem dX7_pass_15 : decode cX7_pass 15 = .ok (.getfield 7, 3) := by decide +kernel
theorem dX7_pass_18 : decode cX7_pass 18 = .ok (.iconst 0, 1) := by decide +kernel
theorem dX7_pass_19 : decode cX7_pass 19 = .ok (.iaload, 1) := by decide +kernel
theorem dX7_pass_20 : decode cX7_pass 20 = .ok (.iload_n 1, 1) := by decide +kernel
theorem dX7_pass_21 : decode cX7_pass 21 = .ok (.iadd, 1) := by decide +kernel
theorem dX7_pass_22 : decode cX7_pass 22 = .ok (.ldc 132, 2) := by decide +kernel
theorem dX7_pass_24 : decode cX7_pass 24 = .ok (.if_icmp .le 6, 3) := by decide +kernel
theorem dX7_pass_27 : decode cX7_pass 27 = .ok (.bipush (-5), 2) := by decide +kernel
theorem dX7_pass_29 : decode cX7_pass 29 = .ok (.ireturn, 1) := by decide +kernel
theorem dX7_pass_30 : decode cX7_pass 30 = .ok (.iconst 0, 1) := by decide +kernel
theorem dX7_pass_31 : decode cX7_pass 31 = .ok (.istore_n 2, 1) := by decide +kernel
theorem dX7_pass_32 : decode cX7_pass 32 = .ok (.iload_n 2, 1) := by decide +kernel
theorem dX7_pass_33 : decode cX7_pass 33 = .ok (.iload_n 1, 1) := by decide +kernel
theorem dX7_pass_34 : decode cX7_pass 34 = .ok (.if_icmp .ge 13, 3) := by decide +kernel
theorem dX7_pass_37 : decode cX7_pass 37 = .ok (.aload_n 0, 1) := by decide +kernel
theorem dX7_pass_38 : decode cX7_pass 38 = .ok (.invokevirtual 133, 3) := by decide +kernel
theorem dX7_pass_41 : decode cX7_pass 41 = .ok (.iinc 2 1, 3) := by decide +kernel
theorem dX7_pass_44 : decode cX7_pass 44 = .ok (.goto (-12), 3) := by decide +kernel
theorem dX7_pass_47 : decode cX7_pass 47 = .ok (.aload_n 0, 1) := by decide +kernel
theorem dX7_pass_48 : decode cX7_pass 48 = .ok (.getfield 7, 3) := by decide +kernel
theorem dX7_pass_51 : decode cX7_pass 51 = .ok (.iconst 0, 1) := by decide +kernel
theorem dX7_pass_52 : decode cX7_pass 52 = .ok (.iaload, 1) := by decide +kernel
theorem dX7_pass_53 : decode cX7_pass 53 = .ok (.ireturn, 1) := by decide +kernel
theorem dX7_signal_0 : decode cX7_signal 0 = .ok (.iload_n 2, 1) := by decide +kernel
theorem dX7_signal_1 : decode cX7_signal 1 = .ok (.iconst 0, 1) := by decide +kernel
theorem dX7_signal_2 : decode cX7_signal 2 = .ok (.iconst 4, 1) := by decide +kernel
theorem dX7_signal_3 : decode cX7_signal 3 = .ok (.invokestatic 40, 3) := by decide +kernel
theorem dX7_signal_6 : decode cX7_signal 6 = .ok (.ifCond .ne 6, 3) := by decide +kernel
theorem dX7_signal_9 : decode cX7_signal 9 = .ok (.bipush (-2), 2) := by decide +kernel
theorem dX7_signal_11 : decode cX7_signal 11 = .ok (.ireturn, 1) := by decide +kernel
theorem dX7_signal_12 : decode cX7_signal 12 = .ok (.iload_n 1, 1) := by decide +kernel
theorem dX7_signal_13 : decode cX7_signal 13 = .ok (.iconst 0, 1) := by decide +kernel
theorem dX7_signal_14 : decode cX7_signal 14 = .ok (.aload_n 0, 1) := by decide +kernel
theorem dX7_signal_15 : decode cX7_signal 15 = .ok (.getfield 7, 3) := by decide +kernel
theorem dX7_signal_18 : decode cX7_signal 18 = .ok (.bipush 80, 2) := by decide +kernel
theorem dX7_signal_20 : decode cX7_signal 20 = .ok (.iaload, 1) := by decide +kernel
theorem dX7_signal_21 : decode cX7_signal 21 = .ok (.iconst 1, 1) := by decide +kernel
theorem dX7_signal_22 : decode cX7_signal 22 = .ok (.isub, 1) := by decide +kernel
theorem dX7_signal_23 : decode cX7_signal 23 = .ok (.invokestatic 40, 3) := by decide +kernel
theorem dX7_signal_26 : decode cX7_signal 26 = .ok (.ifCond .eq 21, 3) := by decide +kernel
theorem dX7_signal_29 : decode cX7_signal 29 = .ok (.iload_n 1, 1) := by decide +kernel
theorem dX7_signal_30 : decode cX7_signal 30 = .ok (.aload_n 0, 1) := by decide +kernel
theorem dX7_signal_31 : decode cX7_signal 31 = .ok (.getfield 7, 3) := by decide +kernel
theorem dX7_signal_34 : decode cX7_signal 34 = .ok (.bipush 80, 2) := by decide +kernel
theorem dX7_signal_36 : decode cX7_signal 36 = .ok (.iaload, 1) := by decide +kernel
theorem dX7_signal_37 : decode cX7_signal 37 = .ok (.bipush 60, 2) := by decide +kernel
theorem dX7_signal_39 : decode cX7_signal 39 = .ok (.isub, 1) := by decide +kernel
theorem dX7_signal_40 : decode cX7_signal 40 = .ok (.if_icmp .lt 7, 3) := by decide +kernel
theorem dX7_signal_43 : decode cX7_signal 43 = .ok (.iconst 1, 1) := by decide +kernel
theorem dX7_signal_44 : decode cX7_signal 44 = .ok (.goto 4, 3) := by decide +kernel
theorem dX7_signal_47 : decode cX7_signal 47 = .ok (.iconst 0, 1) := by decide +kernel
theorem dX7_signal_48 : decode cX7_signal 48 = .ok (.istore_n 3, 1) := by decide +kernel
theorem dX7_signal_49 : decode cX7_signal 49 = .ok (.iload_n 3, 1) := by decide +kernel
theorem dX7_signal_50 : decode cX7_signal 50 = .ok (.ifCond .eq 22, 3) := by decide +kernel
theorem dX7_signal_53 : decode cX7_signal 53 = .ok (.aload_n 0, 1) := by decide +kernel
theorem dX7_signal_54 : decode cX7_signal 54 = .ok (.getfield 7, 3) := by decide +kernel
theorem dX7_signal_57 : decode cX7_signal 57 = .ok (.bipush 81, 2) := by decide +kernel
theorem dX7_signal_59 : decode cX7_signal 59 = .ok (.iconst 5, 1) := by decide +kernel
theorem dX7_signal_60 : decode cX7_signal 60 = .ok (.iload_n 1, 1) := by decide +kernel
theorem dX7_signal_61 : decode cX7_signal 61 = .ok (.bipush 60, 2) := by decide +kernel
theorem dX7_signal_63 : decode cX7_signal 63 = .ok (.irem, 1) := by decide +kernel
theorem dX7_signal_64 : decode cX7_signal 64 = .ok (.imul, 1) := by decide +kernel
theorem dX7_signal_65 : decode cX7_signal 65 = .ok (.iadd, 1) := by decide +kernel
theorem dX7_signal_66 : decode cX7_signal 66 = .ok (.iload_n 2, 1) := by decide +kernel
theorem dX7_signal_67 : decode cX7_signal 67 = .ok (.iadd, 1) := by decide +kernel
theorem dX7_signal_68 : decode cX7_signal 68 = .ok (.iaload, 1) := by decide +kernel
theorem dX7_signal_69 : decode cX7_signal 69 = .ok (.goto 5, 3) := by decide +kernel
theorem dX7_signal_72 : decode cX7_signal 72 = .ok (.bipush (-6), 2) := by decide +kernel
theorem dX7_signal_74 : decode cX7_signal 74 = .ok (.ireturn, 1) := by decide +kernel
theorem dX7_rung_0 : decode cX7_rung 0 = .ok (.iload_n 2, 1) := by decide +kernel
theorem dX7_rung_1 : decode cX7_rung 1 = .ok (.iconst (-1), 1) := by decide +kernel
theorem dX7_rung_2 : decode cX7_rung 2 = .ok (.if_icmp .eq 13, 3) := by decide +kernel
theorem dX7_rung_5 : decode cX7_rung 5 = .ok (.aload_n 0, 1) := by decide +kernel
theorem dX7_rung_6 : decode cX7_rung 6 = .ok (.iload_n 2, 1) := by decide +kernel
theorem dX7_rung_7 : decode cX7_rung 7 = .ok (.invokevirtual 44, 3) := by decide +kernel
theorem dX7_rung_10 : decode cX7_rung 10 = .ok (.ifCond .ne 5, 3) := by decide +kernel
theorem dX7_rung_13 : decode cX7_rung 13 = .ok (.iconst (-1), 1) := by decide +kernel
theorem dX7_rung_14 : decode cX7_rung 14 = .ok (.ireturn, 1) := by decide +kernel
theorem dX7_rung_15 : decode cX7_rung 15 = .ok (.aload_n 0, 1) := by decide +kernel
theorem dX7_rung_16 : decode cX7_rung 16 = .ok (.getfield 7, 3) := by decide +kernel
theorem dX7_rung_19 : decode cX7_rung 19 = .ok (.bipush 80, 2) := by decide +kernel
theorem dX7_rung_21 : decode cX7_rung 21 = .ok (.iaload, 1) := by decide +kernel
theorem dX7_rung_22 : decode cX7_rung 22 = .ok (.bipush 60, 2) := by decide +kernel
theorem dX7_rung_24 : decode cX7_rung 24 = .ok (.if_icmp .ge 13, 3) := by decide +kernel
theorem dX7_rung_27 : decode cX7_rung 27 = .ok (.aload_n 0, 1) := by decide +kernel
theorem dX7_rung_28 : decode cX7_rung 28 = .ok (.getfield 7, 3) := by decide +kernel
theorem dX7_rung_31 : decode cX7_rung 31 = .ok (.bipush 80, 2) := by decide +kernel
theorem dX7_rung_33 : decode cX7_rung 33 = .ok (.iaload, 1) := by decide +kernel
theorem dX7_rung_34 : decode cX7_rung 34 = .ok (.goto 5, 3) := by decide +kernel
theorem dX7_rung_37 : decode cX7_rung 37 = .ok (.bipush 60, 2) := by decide +kernel
theorem dX7_rung_39 : decode cX7_rung 39 = .ok (.istore_n 3, 1) := by decide +kernel
theorem dX7_rung_40 : decode cX7_rung 40 = .ok (.iconst 0, 1) := by decide +kernel
theorem dX7_rung_41 : decode cX7_rung 41 = .ok (.istore 4, 2) := by decide +kernel
theorem dX7_rung_43 : decode cX7_rung 43 = .ok (.iconst 0, 1) := by decide +kernel
theorem dX7_rung_44 : decode cX7_rung 44 = .ok (.istore 5, 2) := by decide +kernel
theorem dX7_rung_46 : decode cX7_rung 46 = .ok (.iload 5, 2) := by decide +kernel
theorem dX7_rung_48 : decode cX7_rung 48 = .ok (.iload_n 3, 1) := by decide +kernel
theorem dX7_rung_49 : decode cX7_rung 49 = .ok (.if_icmp .ge 60, 3) := by decide +kernel
theorem dX7_rung_52 : decode cX7_rung 52 = .ok (.iload 4, 2) := by decide +kernel
theorem dX7_rung_54 : decode cX7_rung 54 = .ok (.aload_n 0, 1) := by decide +kernel
theorem dX7_rung_55 : decode cX7_rung 55 = .ok (.getfield 7, 3) := by decide +kernel
theorem dX7_rung_58 : decode cX7_rung 58 = .ok (.bipush 81, 2) := by decide +kernel
theorem dX7_rung_60 : decode cX7_rung 60 = .ok (.iconst 5, 1) := by decide +kernel
theorem dX7_rung_61 : decode cX7_rung 61 = .ok (.iload 5, 2) := by decide +kernel
theorem dX7_rung_63 : decode cX7_rung 63 = .ok (.imul, 1) := by decide +kernel
theorem dX7_rung_64 : decode cX7_rung 64 = .ok (.iadd, 1) := by decide +kernel
theorem dX7_rung_65 : decode cX7_rung 65 = .ok (.iconst 4, 1) := by decide +kernel
theorem dX7_rung_66 : decode cX7_rung 66 = .ok (.iadd, 1) := by decide +kernel
theorem dX7_rung_67 : decode cX7_rung 67 = .ok (.iaload, 1) := by decide +kernel
theorem dX7_rung_68 : decode cX7_rung 68 = .ok (.iload_n 1, 1) := by decide +kernel
theorem dX7_rung_69 : decode cX7_rung 69 = .ok (.if_icmp .ne 30, 3) := by decide +kernel
theorem dX7_rung_72 : decode cX7_rung 72 = .ok (.iload_n 2, 1) := by decide +kernel
theorem dX7_rung_73 : decode cX7_rung 73 = .ok (.iconst (-1), 1) := by decide +kernel
theorem dX7_rung_74 : decode cX7_rung 74 = .ok (.if_icmp .eq 21, 3) := by decide +kernel
theorem dX7_rung_77 : decode cX7_rung 77 = .ok (.aload_n 0, 1) := by decide +kernel
theorem dX7_rung_78 : decode cX7_rung 78 = .ok (.getfield 7, 3) := by decide +kernel
theorem dX7_rung_81 : decode cX7_rung 81 = .ok (.bipush 81, 2) := by decide +kernel
theorem dX7_rung_83 : decode cX7_rung 83 = .ok (.iconst 5, 1) := by decide +kernel
theorem dX7_rung_84 : decode cX7_rung 84 = .ok (.iload 5, 2) := by decide +kernel
theorem dX7_rung_86 : decode cX7_rung 86 = .ok (.imul, 1) := by decide +kernel
theorem dX7_rung_87 : decode cX7_rung 87 = .ok (.iadd, 1) := by decide +kernel
theorem dX7_rung_88 : decode cX7_rung 88 = .ok (.iconst 1, 1) := by decide +kernel
theorem dX7_rung_89 : decode cX7_rung 89 = .ok (.iadd, 1) := by decide +kernel
theorem dX7_rung_90 : decode cX7_rung 90 = .ok (.iaload, 1) := by decide +kernel
theorem dX7_rung_91 : decode cX7_rung 91 = .ok (.iload_n 2, 1) := by decide +kernel
theorem dX7_rung_92 : decode cX7_rung 92 = .ok (.if_icmp .ne 7, 3) := by decide +kernel
theorem dX7_rung_95 : decode cX7_rung 95 = .ok (.iconst 1, 1) := by decide +kernel
theorem dX7_rung_96 : decode cX7_rung 96 = .ok (.goto 4, 3) := by decide +kernel
theorem dX7_rung_99 : decode cX7_rung 99 = .ok (.iconst 0, 1) := by decide +kernel
theorem dX7_rung_100 : decode cX7_rung 100 = .ok (.iadd, 1) := by decide +kernel
theorem dX7_rung_101 : decode cX7_rung 101 = .ok (.istore 4, 2) := by decide +kernel
theorem dX7_rung_103 : decode cX7_rung 103 = .ok (.iinc 5 1, 3) := by decide +kernel
theorem dX7_rung_106 : decode cX7_rung 106 = .ok (.goto (-60), 3) := by decide +kernel
theorem dX7_rung_109 : decode cX7_rung 109 = .ok (.iload 4, 2) := by decide +kernel
theorem dX7_rung_111 : decode cX7_rung 111 = .ok (.ireturn, 1) := by decide +kernel
theorem dX7_workBlocks_0 : decode cX7_workBlocks 0 = .ok (.iconst 0, 1) := by decide +kernel
theorem dX7_workBlocks_1 : decode cX7_workBlocks 1 = .ok (.istore_n 2, 1) := by decide +kernel
theorem dX7_workBlocks_2 : decode cX7_workBlocks 2 = .ok (.iload_n 2, 1) := by decide +kernel
theorem dX7_workBlocks_3 : decode cX7_workBlocks 3 = .ok (.aload_n 0, 1) := by decide +kernel
theorem dX7_workBlocks_4 : decode cX7_workBlocks 4 = .ok (.invokevirtual 36, 3) := by decide +kernel
theorem dX7_workBlocks_7 : decode cX7_workBlocks 7 = .ok (.if_icmp .ge 97, 3) := by decide +kernel
theorem dX7_workBlocks_10 : decode cX7_workBlocks 10 = .ok (.iconst 0, 1) := by decide +kernel
theorem dX7_workBlocks_11 : decode cX7_workBlocks 11 = .ok (.istore_n 3, 1) := by decide +kernel
theorem dX7_workBlocks_12 : decode cX7_workBlocks 12 = .ok (.iload_n 3, 1) := by decide +kernel
theorem dX7_workBlocks_13 : decode cX7_workBlocks 13 = .ok (.iconst 2, 1) := by decide +kernel
theorem dX7_workBlocks_14 : decode cX7_workBlocks 14 = .ok (.if_icmp .ge 84, 3) := by decide +kernel
theorem dX7_workBlocks_17 : decode cX7_workBlocks 17 = .ok (.iload_n 1, 1) := by decide +kernel
theorem dX7_workBlocks_18 : decode cX7_workBlocks 18 = .ok (.tableswitch 56 0 2 #[26, 36, 46], 26) := by decide +kernel
theorem dX7_workBlocks_44 : decode cX7_workBlocks 44 = .ok (.aload_n 0, 1) := by decide +kernel
theorem dX7_workBlocks_45 : decode cX7_workBlocks 45 = .ok (.iload_n 2, 1) := by decide +kernel
theorem dX7_workBlocks_46 : decode cX7_workBlocks 46 = .ok (.iload_n 3, 1) := by decide +kernel
theorem dX7_workBlocks_47 : decode cX7_workBlocks 47 = .ok (.invokevirtual 136, 3) := by decide +kernel
theorem dX7_workBlocks_50 : decode cX7_workBlocks 50 = .ok (.pop, 1) := by decide +kernel
theorem dX7_workBlocks_51 : decode cX7_workBlocks 51 = .ok (.goto 41, 3) := by decide +kernel
theorem dX7_workBlocks_54 : decode cX7_workBlocks 54 = .ok (.aload_n 0, 1) := by decide +kernel
theorem dX7_workBlocks_55 : decode cX7_workBlocks 55 = .ok (.iload_n 2, 1) := by decide +kernel
theorem dX7_workBlocks_56 : decode cX7_workBlocks 56 = .ok (.iload_n 3, 1) := by decide +kernel
theorem dX7_workBlocks_57 : decode cX7_workBlocks 57 = .ok (.invokevirtual 139, 3) := by decide +kernel
theorem dX7_workBlocks_60 : decode cX7_workBlocks 60 = .ok (.pop, 1) := by decide +kernel
theorem dX7_workBlocks_61 : decode cX7_workBlocks 61 = .ok (.goto 31, 3) := by decide +kernel
theorem dX7_workBlocks_64 : decode cX7_workBlocks 64 = .ok (.aload_n 0, 1) := by decide +kernel
theorem dX7_workBlocks_65 : decode cX7_workBlocks 65 = .ok (.iload_n 2, 1) := by decide +kernel
theorem dX7_workBlocks_66 : decode cX7_workBlocks 66 = .ok (.iload_n 3, 1) := by decide +kernel
theorem dX7_workBlocks_67 : decode cX7_workBlocks 67 = .ok (.invokevirtual 142, 3) := by decide +kernel
theorem dX7_workBlocks_70 : decode cX7_workBlocks 70 = .ok (.pop, 1) := by decide +kernel
theorem dX7_workBlocks_71 : decode cX7_workBlocks 71 = .ok (.goto 21, 3) := by decide +kernel
theorem dX7_workBlocks_74 : decode cX7_workBlocks 74 = .ok (.aload_n 0, 1) := by decide +kernel
theorem dX7_workBlocks_75 : decode cX7_workBlocks 75 = .ok (.iload_n 2, 1) := by decide +kernel
theorem dX7_workBlocks_76 : decode cX7_workBlocks 76 = .ok (.iload_n 3, 1) := by decide +kernel
theorem dX7_workBlocks_77 : decode cX7_workBlocks 77 = .ok (.iconst 1, 1) := by decide +kernel
theorem dX7_workBlocks_78 : decode cX7_workBlocks 78 = .ok (.invokevirtual 145, 3) := by decide +kernel
theorem dX7_workBlocks_81 : decode cX7_workBlocks 81 = .ok (.ifCond .ge 11, 3) := by decide +kernel
theorem dX7_workBlocks_84 : decode cX7_workBlocks 84 = .ok (.aload_n 0, 1) := by decide +kernel
theorem dX7_workBlocks_85 : decode cX7_workBlocks 85 = .ok (.iload_n 2, 1) := by decide +kernel
theorem dX7_workBlocks_86 : decode cX7_workBlocks 86 = .ok (.iload_n 3, 1) := by decide +kernel
theorem dX7_workBlocks_87 : decode cX7_workBlocks 87 = .ok (.iconst 0, 1) := by decide +kernel
theorem dX7_workBlocks_88 : decode cX7_workBlocks 88 = .ok (.invokevirtual 145, 3) := by decide +kernel
theorem dX7_workBlocks_91 : decode cX7_workBlocks 91 = .ok (.pop, 1) := by decide +kernel
theorem dX7_workBlocks_92 : decode cX7_workBlocks 92 = .ok (.iinc 3 1, 3) := by decide +kernel
theorem dX7_workBlocks_95 : decode cX7_workBlocks 95 = .ok (.goto (-83), 3) := by decide +kernel
theorem dX7_workBlocks_98 : decode cX7_workBlocks 98 = .ok (.iinc 2 1, 3) := by decide +kernel
theorem dX7_workBlocks_101 : decode cX7_workBlocks 101 = .ok (.goto (-99), 3) := by decide +kernel
theorem dX7_workBlocks_104 : decode cX7_workBlocks 104 = .ok (.return_, 1) := by decide +kernel
theorem dX7_workTrains_0 : decode cX7_workTrains 0 = .ok (.iconst 0, 1) := by decide +kernel
theorem dX7_workTrains_1 : decode cX7_workTrains 1 = .ok (.istore_n 2, 1) := by decide +kernel
theorem dX7_workTrains_2 : decode cX7_workTrains 2 = .ok (.iload_n 2, 1) := by decide +kernel
theorem dX7_workTrains_3 : decode cX7_workTrains 3 = .ok (.aload_n 0, 1) := by decide +kernel
theorem dX7_workTrains_4 : decode cX7_workTrains 4 = .ok (.getfield 7, 3) := by decide +kernel
theorem dX7_workTrains_7 : decode cX7_workTrains 7 = .ok (.sipush 381, 3) := by decide +kernel
theorem dX7_workTrains_10 : decode cX7_workTrains 10 = .ok (.iaload, 1) := by decide +kernel
theorem dX7_workTrains_11 : decode cX7_workTrains 11 = .ok (.if_icmp .ge 59, 3) := by decide +kernel
theorem dX7_workTrains_14 : decode cX7_workTrains 14 = .ok (.iload_n 1, 1) := by decide +kernel
theorem dX7_workTrains_15 : decode cX7_workTrains 15 = .ok (.lookupswitch 43 #[(0, 25), (1, 34)], 25) := by decide +kernel
theorem dX7_workTrains_40 : decode cX7_workTrains 40 = .ok (.aload_n 0, 1) := by decide +kernel
theorem dX7_workTrains_41 : decode cX7_workTrains 41 = .ok (.iload_n 2, 1) := by decide +kernel
theorem dX7_workTrains_42 : decode cX7_workTrains 42 = .ok (.invokevirtual 149, 3) := by decide +kernel
theorem dX7_workTrains_45 : decode cX7_workTrains 45 = .ok (.pop, 1) := by decide +kernel
theorem dX7_workTrains_46 : decode cX7_workTrains 46 = .ok (.goto 18, 3) := by decide +kernel
theorem dX7_workTrains_49 : decode cX7_workTrains 49 = .ok (.aload_n 0, 1) := by decide +kernel
theorem dX7_workTrains_50 : decode cX7_workTrains 50 = .ok (.iload_n 2, 1) := by decide +kernel
theorem dX7_workTrains_51 : decode cX7_workTrains 51 = .ok (.invokevirtual 152, 3) := by decide +kernel
theorem dX7_workTrains_54 : decode cX7_workTrains 54 = .ok (.pop, 1) := by decide +kernel
theorem dX7_workTrains_55 : decode cX7_workTrains 55 = .ok (.goto 9, 3) := by decide +kernel
theorem dX7_workTrains_58 : decode cX7_workTrains 58 = .ok (.aload_n 0, 1) := by decide +kernel
theorem dX7_workTrains_59 : decode cX7_workTrains 59 = .ok (.iload_n 2, 1) := by decide +kernel
theorem dX7_workTrains_60 : decode cX7_workTrains 60 = .ok (.invokevirtual 155, 3) := by decide +kernel
theorem dX7_workTrains_63 : decode cX7_workTrains 63 = .ok (.pop, 1) := by decide +kernel
theorem dX7_workTrains_64 : decode cX7_workTrains 64 = .ok (.iinc 2 1, 3) := by decide +kernel
theorem dX7_workTrains_67 : decode cX7_workTrains 67 = .ok (.goto (-65), 3) := by decide +kernel
theorem dX7_workTrains_70 : decode cX7_workTrains 70 = .ok (.return_, 1) := by decide +kernel
theorem dX7_workTick_0 : decode cX7_workTick 0 = .ok (.aload_n 0, 1) := by decide +kernel
theorem dX7_workTick_1 : decode cX7_workTick 1 = .ok (.iconst 0, 1) := by decide +kernel
theorem dX7_workTick_2 : decode cX7_workTick 2 = .ok (.invokevirtual 158, 3) := by decide +kernel
theorem dX7_workTick_5 : decode cX7_workTick 5 = .ok (.aload_n 0, 1) := by decide +kernel
theorem dX7_workTick_6 : decode cX7_workTick 6 = .ok (.iconst 1, 1) := by decide +kernel
theorem dX7_workTick_7 : decode cX7_workTick 7 = .ok (.invokevirtual 158, 3) := by decide +kernel
theorem dX7_workTick_10 : decode cX7_workTick 10 = .ok (.aload_n 0, 1) := by decide +kernel
theorem dX7_workTick_11 : decode cX7_workTick 11 = .ok (.iconst 2, 1) := by decide +kernel
theorem dX7_workTick_12 : decode cX7_workTick 12 = .ok (.invokevirtual 158, 3) := by decide +kernel
theorem dX7_workTick_15 : decode cX7_workTick 15 = .ok (.aload_n 0, 1) := by decide +kernel
theorem dX7_workTick_16 : decode cX7_workTick 16 = .ok (.iconst 0, 1) := by decide +kernel
theorem dX7_workTick_17 : decode cX7_workTick 17 = .ok (.invokevirtual 162, 3) := by decide +kernel
theorem dX7_workTick_20 : decode cX7_workTick 20 = .ok (.aload_n 0, 1) := by decide +kernel
theorem dX7_workTick_21 : decode cX7_workTick 21 = .ok (.iconst 1, 1) := by decide +kernel
theorem dX7_workTick_22 : decode cX7_workTick 22 = .ok (.invokevirtual 162, 3) := by decide +kernel
theorem dX7_workTick_25 : decode cX7_workTick 25 = .ok (.aload_n 0, 1) := by decide +kernel
theorem dX7_workTick_26 : decode cX7_workTick 26 = .ok (.iconst 3, 1) := by decide +kernel
theorem dX7_workTick_27 : decode cX7_workTick 27 = .ok (.invokevirtual 158, 3) := by decide +kernel
theorem dX7_workTick_30 : decode cX7_workTick 30 = .ok (.aload_n 0, 1) := by decide +kernel
theorem dX7_workTick_31 : decode cX7_workTick 31 = .ok (.iconst 2, 1) := by decide +kernel
theorem dX7_workTick_32 : decode cX7_workTick 32 = .ok (.invokevirtual 162, 3) := by decide +kernel
theorem dX7_workTick_35 : decode cX7_workTick 35 = .ok (.aload_n 0, 1) := by decide +kernel
theorem dX7_workTick_36 : decode cX7_workTick 36 = .ok (.invokevirtual 133, 3) := by decide +kernel
theorem dX7_workTick_39 : decode cX7_workTick 39 = .ok (.return_, 1) := by decide +kernel
theorem dX7_trainsAt_0 : decode cX7_trainsAt 0 = .ok (.iconst 0, 1) := by decide +kernel
theorem dX7_trainsAt_1 : decode cX7_trainsAt 1 = .ok (.istore_n 2, 1) := by decide +kernel
theorem dX7_trainsAt_2 : decode cX7_trainsAt 2 = .ok (.iconst 0, 1) := by decide +kernel
theorem dX7_trainsAt_3 : decode cX7_trainsAt 3 = .ok (.istore_n 3, 1) := by decide +kernel
theorem dX7_trainsAt_4 : decode cX7_trainsAt 4 = .ok (.iload_n 3, 1) := by decide +kernel
theorem dX7_trainsAt_5 : decode cX7_trainsAt 5 = .ok (.aload_n 0, 1) := by decide +kernel
theorem dX7_trainsAt_6 : decode cX7_trainsAt 6 = .ok (.getfield 7, 3) := by decide +kernel
theorem dX7_trainsAt_9 : decode cX7_trainsAt 9 = .ok (.sipush 381, 3) := by decide +kernel
theorem dX7_trainsAt_12 : decode cX7_trainsAt 12 = .ok (.iaload, 1) := by decide +kernel
theorem dX7_trainsAt_13 : decode cX7_trainsAt 13 = .ok (.if_icmp .ge 27, 3) := by decide +kernel
theorem dX7_trainsAt_16 : decode cX7_trainsAt 16 = .ok (.iload_n 2, 1) := by decide +kernel
theorem dX7_trainsAt_17 : decode cX7_trainsAt 17 = .ok (.aload_n 0, 1) := by decide +kernel
theorem dX7_trainsAt_18 : decode cX7_trainsAt 18 = .ok (.iload_n 3, 1) := by decide +kernel
theorem dX7_trainsAt_19 : decode cX7_trainsAt 19 = .ok (.iconst 2, 1) := by decide +kernel
theorem dX7_trainsAt_20 : decode cX7_trainsAt 20 = .ok (.invokevirtual 61, 3) := by decide +kernel
theorem dX7_trainsAt_23 : decode cX7_trainsAt 23 = .ok (.iload_n 1, 1) := by decide +kernel
theorem dX7_trainsAt_24 : decode cX7_trainsAt 24 = .ok (.if_icmp .ne 7, 3) := by decide +kernel
theorem dX7_trainsAt_27 : decode cX7_trainsAt 27 = .ok (.iconst 1, 1) := by decide +kernel
theorem dX7_trainsAt_28 : decode cX7_trainsAt 28 = .ok (.goto 4, 3) := by decide +kernel
theorem dX7_trainsAt_31 : decode cX7_trainsAt 31 = .ok (.iconst 0, 1) := by decide +kernel
theorem dX7_trainsAt_32 : decode cX7_trainsAt 32 = .ok (.iadd, 1) := by decide +kernel
theorem dX7_trainsAt_33 : decode cX7_trainsAt 33 = .ok (.istore_n 2, 1) := by decide +kernel
theorem dX7_trainsAt_34 : decode cX7_trainsAt 34 = .ok (.iinc 3 1, 3) := by decide +kernel
theorem dX7_trainsAt_37 : decode cX7_trainsAt 37 = .ok (.goto (-33), 3) := by decide +kernel
theorem dX7_trainsAt_40 : decode cX7_trainsAt 40 = .ok (.iload_n 2, 1) := by decide +kernel
theorem dX7_trainsAt_41 : decode cX7_trainsAt 41 = .ok (.ireturn, 1) := by decide +kernel
theorem dX7_work_0 : decode cX7_work 0 = .ok (.iload_n 1, 1) := by decide +kernel
theorem dX7_work_1 : decode cX7_work 1 = .ok (.iconst 1, 1) := by decide +kernel
theorem dX7_work_2 : decode cX7_work 2 = .ok (.sipush 300, 3) := by decide +kernel
theorem dX7_work_5 : decode cX7_work 5 = .ok (.invokestatic 40, 3) := by decide +kernel
theorem dX7_work_8 : decode cX7_work 8 = .ok (.ifCond .ne 6, 3) := by decide +kernel
theorem dX7_work_11 : decode cX7_work 11 = .ok (.bipush (-2), 2) := by decide +kernel
theorem dX7_work_13 : decode cX7_work 13 = .ok (.ireturn, 1) := by decide +kernel
theorem dX7_work_14 : decode cX7_work 14 = .ok (.aload_n 0, 1) := by decide +kernel
theorem dX7_work_15 : decode cX7_work 15 = .ok (.getfield 7, 3) := by decide +kernel
theorem dX7_work_18 : decode cX7_work 18 = .ok (.iconst 0, 1) := by decide +kernel
theorem dX7_work_19 : decode cX7_work 19 = .ok (.iaload, 1) := by decide +kernel
theorem dX7_work_20 : decode cX7_work 20 = .ok (.iload_n 1, 1) := by decide +kernel
theorem dX7_work_21 : decode cX7_work 21 = .ok (.iadd, 1) := by decide +kernel
theorem dX7_work_22 : decode cX7_work 22 = .ok (.ldc 132, 2) := by decide +kernel
theorem dX7_work_24 : decode cX7_work 24 = .ok (.if_icmp .le 6, 3) := by decide +kernel
theorem dX7_work_27 : decode cX7_work 27 = .ok (.bipush (-5), 2) := by decide +kernel
theorem dX7_work_29 : decode cX7_work 29 = .ok (.ireturn, 1) := by decide +kernel
theorem dX7_work_30 : decode cX7_work 30 = .ok (.aload_n 0, 1) := by decide +kernel
theorem dX7_work_31 : decode cX7_work 31 = .ok (.iconst 3, 1) := by decide +kernel
theorem dX7_work_32 : decode cX7_work 32 = .ok (.invokevirtual 165, 3) := by decide +kernel
theorem dX7_work_35 : decode cX7_work 35 = .ok (.istore_n 2, 1) := by decide +kernel
theorem dX7_work_36 : decode cX7_work 36 = .ok (.iconst 0, 1) := by decide +kernel
theorem dX7_work_37 : decode cX7_work 37 = .ok (.istore_n 3, 1) := by decide +kernel
theorem dX7_work_38 : decode cX7_work 38 = .ok (.iload_n 3, 1) := by decide +kernel
theorem dX7_work_39 : decode cX7_work 39 = .ok (.iload_n 1, 1) := by decide +kernel
theorem dX7_work_40 : decode cX7_work 40 = .ok (.if_icmp .ge 13, 3) := by decide +kernel
theorem dX7_work_43 : decode cX7_work 43 = .ok (.aload_n 0, 1) := by decide +kernel
theorem dX7_work_44 : decode cX7_work 44 = .ok (.invokevirtual 168, 3) := by decide +kernel
theorem dX7_work_47 : decode cX7_work 47 = .ok (.iinc 3 1, 3) := by decide +kernel
theorem dX7_work_50 : decode cX7_work 50 = .ok (.goto (-12), 3) := by decide +kernel
theorem dX7_work_53 : decode cX7_work 53 = .ok (.aload_n 0, 1) := by decide +kernel
theorem dX7_work_54 : decode cX7_work 54 = .ok (.iconst 3, 1) := by decide +kernel
theorem dX7_work_55 : decode cX7_work 55 = .ok (.invokevirtual 165, 3) := by decide +kernel
theorem dX7_work_58 : decode cX7_work 58 = .ok (.iload_n 2, 1) := by decide +kernel
theorem dX7_work_59 : decode cX7_work 59 = .ok (.isub, 1) := by decide +kernel
theorem dX7_work_60 : decode cX7_work 60 = .ok (.ireturn, 1) := by decide +kernel
theorem dX7_forecast_0 : decode cX7_forecast 0 = .ok (.aload_n 0, 1) := by decide +kernel
theorem dX7_forecast_1 : decode cX7_forecast 1 = .ok (.iload_n 1, 1) := by decide +kernel
theorem dX7_forecast_2 : decode cX7_forecast 2 = .ok (.invokevirtual 89, 3) := by decide +kernel
theorem dX7_forecast_5 : decode cX7_forecast 5 = .ok (.ifCond .ne 5, 3) := by decide +kernel
theorem dX7_forecast_8 : decode cX7_forecast 8 = .ok (.iconst (-1), 1) := by decide +kernel
theorem dX7_forecast_9 : decode cX7_forecast 9 = .ok (.ireturn, 1) := by decide +kernel
theorem dX7_forecast_10 : decode cX7_forecast 10 = .ok (.iload_n 2, 1) := by decide +kernel
theorem dX7_forecast_11 : decode cX7_forecast 11 = .ok (.iconst 1, 1) := by decide +kernel
theorem dX7_forecast_12 : decode cX7_forecast 12 = .ok (.sipush 500, 3) := by decide +kernel
theorem dX7_forecast_15 : decode cX7_forecast 15 = .ok (.invokestatic 40, 3) := by decide +kernel
theorem dX7_forecast_18 : decode cX7_forecast 18 = .ok (.ifCond .ne 6, 3) := by decide +kernel
theorem dX7_forecast_21 : decode cX7_forecast 21 = .ok (.bipush (-2), 2) := by decide +kernel
theorem dX7_forecast_23 : decode cX7_forecast 23 = .ok (.ireturn, 1) := by decide +kernel
theorem dX7_forecast_24 : decode cX7_forecast 24 = .ok (.aload_n 0, 1) := by decide +kernel
theorem dX7_forecast_25 : decode cX7_forecast 25 = .ok (.invokevirtual 171, 3) := by decide +kernel
theorem dX7_forecast_28 : decode cX7_forecast 28 = .ok (.aload_n 0, 1) := by decide +kernel
theorem dX7_forecast_29 : decode cX7_forecast 29 = .ok (.iload_n 1, 1) := by decide +kernel
theorem dX7_forecast_30 : decode cX7_forecast 30 = .ok (.iconst 2, 1) := by decide +kernel
theorem dX7_forecast_31 : decode cX7_forecast 31 = .ok (.invokevirtual 61, 3) := by decide +kernel
theorem dX7_forecast_34 : decode cX7_forecast 34 = .ok (.iconst 3, 1) := by decide +kernel
theorem dX7_forecast_35 : decode cX7_forecast 35 = .ok (.if_icmp .ne 7, 3) := by decide +kernel
theorem dX7_forecast_38 : decode cX7_forecast 38 = .ok (.iconst 0, 1) := by decide +kernel
theorem dX7_forecast_39 : decode cX7_forecast 39 = .ok (.goto 5, 3) := by decide +kernel
theorem dX7_forecast_42 : decode cX7_forecast 42 = .ok (.bipush (-6), 2) := by decide +kernel
theorem dX7_forecast_44 : decode cX7_forecast 44 = .ok (.istore_n 3, 1) := by decide +kernel
theorem dX7_forecast_45 : decode cX7_forecast 45 = .ok (.iconst 1, 1) := by decide +kernel
theorem dX7_forecast_46 : decode cX7_forecast 46 = .ok (.istore 4, 2) := by decide +kernel
theorem dX7_forecast_48 : decode cX7_forecast 48 = .ok (.iload 4, 2) := by decide +kernel
theorem dX7_forecast_50 : decode cX7_forecast 50 = .ok (.iload_n 2, 1) := by decide +kernel
theorem dX7_forecast_51 : decode cX7_forecast 51 = .ok (.if_icmp .gt 35, 3) := by decide +kernel
theorem dX7_forecast_54 : decode cX7_forecast 54 = .ok (.iload_n 3, 1) := by decide +kernel
theorem dX7_forecast_55 : decode cX7_forecast 55 = .ok (.ifCond .ge 31, 3) := by decide +kernel
theorem dX7_forecast_58 : decode cX7_forecast 58 = .ok (.aload_n 0, 1) := by decide +kernel
theorem dX7_forecast_59 : decode cX7_forecast 59 = .ok (.invokevirtual 168, 3) := by decide +kernel
theorem dX7_forecast_62 : decode cX7_forecast 62 = .ok (.aload_n 0, 1) := by decide +kernel
theorem dX7_forecast_63 : decode cX7_forecast 63 = .ok (.iload_n 1, 1) := by decide +kernel
theorem dX7_forecast_64 : decode cX7_forecast 64 = .ok (.iconst 2, 1) := by decide +kernel
theorem dX7_forecast_65 : decode cX7_forecast 65 = .ok (.invokevirtual 61, 3) := by decide +kernel
theorem dX7_forecast_68 : decode cX7_forecast 68 = .ok (.iconst 3, 1) := by decide +kernel
theorem dX7_forecast_69 : decode cX7_forecast 69 = .ok (.if_icmp .ne 8, 3) := by decide +kernel
theorem dX7_forecast_72 : decode cX7_forecast 72 = .ok (.iload 4, 2) := by decide +kernel
theorem dX7_forecast_74 : decode cX7_forecast 74 = .ok (.goto 5, 3) := by decide +kernel
theorem dX7_forecast_77 : decode cX7_forecast 77 = .ok (.bipush (-6), 2) := by decide +kernel
theorem dX7_forecast_79 : decode cX7_forecast 79 = .ok (.istore_n 3, 1) := by decide +kernel
theorem dX7_forecast_80 : decode cX7_forecast 80 = .ok (.iinc 4 1, 3) := by decide +kernel
theorem dX7_forecast_83 : decode cX7_forecast 83 = .ok (.goto (-35), 3) := by decide +kernel
theorem dX7_forecast_86 : decode cX7_forecast 86 = .ok (.aload_n 0, 1) := by decide +kernel
theorem dX7_forecast_87 : decode cX7_forecast 87 = .ok (.invokevirtual 174, 3) := by decide +kernel
theorem dX7_forecast_90 : decode cX7_forecast 90 = .ok (.iload_n 3, 1) := by decide +kernel
theorem dX7_forecast_91 : decode cX7_forecast 91 = .ok (.ireturn, 1) := by decide +kernel
theorem dX7_capacity_0 : decode cX7_capacity 0 = .ok (.iload_n 1, 1) := by decide +kernel
theorem dX7_capacity_1 : decode cX7_capacity 1 = .ok (.iconst 1, 1) := by decide +kernel
theorem dX7_capacity_2 : decode cX7_capacity 2 = .ok (.iconst 5, 1) := by decide +kernel
theorem dX7_capacity_3 : decode cX7_capacity 3 = .ok (.invokestatic 40, 3) := by decide +kernel
theorem dX7_capacity_6 : decode cX7_capacity 6 = .ok (.ifCond .eq 21, 3) := by decide +kernel
theorem dX7_capacity_9 : decode cX7_capacity 9 = .ok (.iload_n 2, 1) := by decide +kernel
theorem dX7_capacity_10 : decode cX7_capacity 10 = .ok (.invokestatic 48, 3) := by decide +kernel
theorem dX7_capacity_13 : decode cX7_capacity 13 = .ok (.ifCond .eq 14, 3) := by decide +kernel
theorem dX7_capacity_16 : decode cX7_capacity 16 = .ok (.iload_n 3, 1) := by decide +kernel
theorem dX7_capacity_17 : decode cX7_capacity 17 = .ok (.iconst 1, 1) := by decide +kernel
theorem dX7_capacity_18 : decode cX7_capacity 18 = .ok (.sipush 300, 3) := by decide +kernel
theorem dX7_capacity_21 : decode cX7_capacity 21 = .ok (.invokestatic 40, 3) := by decide +kernel
theorem dX7_capacity_24 : decode cX7_capacity 24 = .ok (.ifCond .ne 6, 3) := by decide +kernel
theorem dX7_capacity_27 : decode cX7_capacity 27 = .ok (.bipush (-2), 2) := by decide +kernel
theorem dX7_capacity_29 : decode cX7_capacity 29 = .ok (.ireturn, 1) := by decide +kernel
theorem dX7_capacity_30 : decode cX7_capacity 30 = .ok (.aload_n 0, 1) := by decide +kernel
theorem dX7_capacity_31 : decode cX7_capacity 31 = .ok (.invokevirtual 171, 3) := by decide +kernel
theorem dX7_capacity_34 : decode cX7_capacity 34 = .ok (.aload_n 0, 1) := by decide +kernel
theorem dX7_capacity_35 : decode cX7_capacity 35 = .ok (.getfield 7, 3) := by decide +kernel
theorem dX7_capacity_38 : decode cX7_capacity 38 = .ok (.iconst 0, 1) := by decide +kernel
theorem dX7_capacity_39 : decode cX7_capacity 39 = .ok (.iconst 0, 1) := by decide +kernel
theorem dX7_capacity_40 : decode cX7_capacity 40 = .ok (.iastore, 1) := by decide +kernel
theorem dX7_capacity_41 : decode cX7_capacity 41 = .ok (.aload_n 0, 1) := by decide +kernel
theorem dX7_capacity_42 : decode cX7_capacity 42 = .ok (.getfield 7, 3) := by decide +kernel
theorem dX7_capacity_45 : decode cX7_capacity 45 = .ok (.sipush 381, 3) := by decide +kernel
theorem dX7_capacity_48 : decode cX7_capacity 48 = .ok (.iconst 0, 1) := by decide +kernel
theorem dX7_capacity_49 : decode cX7_capacity 49 = .ok (.iastore, 1) := by decide +kernel
theorem dX7_capacity_50 : decode cX7_capacity 50 = .ok (.aload_n 0, 1) := by decide +kernel
theorem dX7_capacity_51 : decode cX7_capacity 51 = .ok (.getfield 7, 3) := by decide +kernel
theorem dX7_capacity_54 : decode cX7_capacity 54 = .ok (.bipush 80, 2) := by decide +kernel
theorem dX7_capacity_56 : decode cX7_capacity 56 = .ok (.iconst 0, 1) := by decide +kernel
theorem dX7_capacity_57 : decode cX7_capacity 57 = .ok (.iastore, 1) := by decide +kernel
theorem dX7_capacity_58 : decode cX7_capacity 58 = .ok (.aload_n 0, 1) := by decide +kernel
theorem dX7_capacity_59 : decode cX7_capacity 59 = .ok (.invokevirtual 33, 3) := by decide +kernel
theorem dX7_capacity_62 : decode cX7_capacity 62 = .ok (.iconst 0, 1) := by decide +kernel
theorem dX7_capacity_63 : decode cX7_capacity 63 = .ok (.istore 4, 2) := by decide +kernel
theorem dX7_capacity_65 : decode cX7_capacity 65 = .ok (.iload 4, 2) := by decide +kernel
theorem dX7_capacity_67 : decode cX7_capacity 67 = .ok (.iload_n 3, 1) := by decide +kernel
theorem dX7_capacity_68 : decode cX7_capacity 68 = .ok (.if_icmp .ge 33, 3) := by decide +kernel
theorem dX7_capacity_71 : decode cX7_capacity 71 = .ok (.aload_n 0, 1) := by decide +kernel
theorem dX7_capacity_72 : decode cX7_capacity 72 = .ok (.aload_n 0, 1) := by decide +kernel
theorem dX7_capacity_73 : decode cX7_capacity 73 = .ok (.iload_n 2, 1) := by decide +kernel
theorem dX7_capacity_74 : decode cX7_capacity 74 = .ok (.invokevirtual 79, 3) := by decide +kernel
theorem dX7_capacity_77 : decode cX7_capacity 77 = .ok (.iload_n 2, 1) := by decide +kernel
theorem dX7_capacity_78 : decode cX7_capacity 78 = .ok (.invokevirtual 83, 3) := by decide +kernel
theorem dX7_capacity_81 : decode cX7_capacity 81 = .ok (.ifCond .eq 10, 3) := by decide +kernel
theorem dX7_capacity_84 : decode cX7_capacity 84 = .ok (.aload_n 0, 1) := by decide +kernel
theorem dX7_capacity_85 : decode cX7_capacity 85 = .ok (.iload_n 1, 1) := by decide +kernel
theorem dX7_capacity_86 : decode cX7_capacity 86 = .ok (.iload_n 2, 1) := by decide +kernel
theorem dX7_capacity_87 : decode cX7_capacity 87 = .ok (.invokevirtual 86, 3) := by decide +kernel
theorem dX7_capacity_90 : decode cX7_capacity 90 = .ok (.pop, 1) := by decide +kernel
theorem dX7_capacity_91 : decode cX7_capacity 91 = .ok (.aload_n 0, 1) := by decide +kernel
theorem dX7_capacity_92 : decode cX7_capacity 92 = .ok (.invokevirtual 168, 3) := by decide +kernel
theorem dX7_capacity_95 : decode cX7_capacity 95 = .ok (.iinc 4 1, 3) := by decide +kernel
theorem dX7_capacity_98 : decode cX7_capacity 98 = .ok (.goto (-33), 3) := by decide +kernel
theorem dX7_capacity_101 : decode cX7_capacity 101 = .ok (.aload_n 0, 1) := by decide +kernel
theorem dX7_capacity_102 : decode cX7_capacity 102 = .ok (.iconst 3, 1) := by decide +kernel
theorem dX7_capacity_103 : decode cX7_capacity 103 = .ok (.invokevirtual 165, 3) := by decide +kernel
theorem dX7_capacity_106 : decode cX7_capacity 106 = .ok (.istore 4, 2) := by decide +kernel
theorem dX7_capacity_108 : decode cX7_capacity 108 = .ok (.aload_n 0, 1) := by decide +kernel
theorem dX7_capacity_109 : decode cX7_capacity 109 = .ok (.invokevirtual 174, 3) := by decide +kernel
theorem dX7_capacity_112 : decode cX7_capacity 112 = .ok (.iload 4, 2) := by decide +kernel
theorem dX7_capacity_114 : decode cX7_capacity 114 = .ok (.ireturn, 1) := by decide +kernel
theorem dX7_say_0 : decode cX7_say 0 = .ok (.iload_n 1, 1) := by decide +kernel
theorem dX7_say_1 : decode cX7_say 1 = .ok (.bipush 33, 2) := by decide +kernel
theorem dX7_say_3 : decode cX7_say 3 = .ok (.bipush 126, 2) := by decide +kernel
theorem dX7_say_5 : decode cX7_say 5 = .ok (.invokestatic 40, 3) := by decide +kernel
theorem dX7_say_8 : decode cX7_say 8 = .ok (.ifCond .ne 6, 3) := by decide +kernel
theorem dX7_say_11 : decode cX7_say 11 = .ok (.bipush (-2), 2) := by decide +kernel
theorem dX7_say_13 : decode cX7_say 13 = .ok (.ireturn, 1) := by decide +kernel
theorem dX7_say_14 : decode cX7_say 14 = .ok (.aload_n 0, 1) := by decide +kernel
theorem dX7_say_15 : decode cX7_say 15 = .ok (.getfield 177, 3) := by decide +kernel
theorem dX7_say_18 : decode cX7_say 18 = .ok (.bipush 60, 2) := by decide +kernel
theorem dX7_say_20 : decode cX7_say 20 = .ok (.if_icmp .ne 6, 3) := by decide +kernel
theorem dX7_say_23 : decode cX7_say 23 = .ok (.bipush (-4), 2) := by decide +kernel
theorem dX7_say_25 : decode cX7_say 25 = .ok (.ireturn, 1) := by decide +kernel
theorem dX7_say_26 : decode cX7_say 26 = .ok (.aload_n 0, 1) := by decide +kernel
theorem dX7_say_27 : decode cX7_say 27 = .ok (.getfield 23, 3) := by decide +kernel
theorem dX7_say_30 : decode cX7_say 30 = .ok (.aload_n 0, 1) := by decide +kernel
theorem dX7_say_31 : decode cX7_say 31 = .ok (.getfield 177, 3) := by decide +kernel
theorem dX7_say_34 : decode cX7_say 34 = .ok (.iload_n 1, 1) := by decide +kernel
theorem dX7_say_35 : decode cX7_say 35 = .ok (.iastore, 1) := by decide +kernel
theorem dX7_say_36 : decode cX7_say 36 = .ok (.aload_n 0, 1) := by decide +kernel
theorem dX7_say_37 : decode cX7_say 37 = .ok (.dup, 1) := by decide +kernel
theorem dX7_say_38 : decode cX7_say 38 = .ok (.getfield 177, 3) := by decide +kernel
theorem dX7_say_41 : decode cX7_say 41 = .ok (.iconst 1, 1) := by decide +kernel
theorem dX7_say_42 : decode cX7_say 42 = .ok (.iadd, 1) := by decide +kernel
theorem dX7_say_43 : decode cX7_say 43 = .ok (.putfield 177, 3) := by decide +kernel
theorem dX7_say_46 : decode cX7_say 46 = .ok (.aload_n 0, 1) := by decide +kernel
theorem dX7_say_47 : decode cX7_say 47 = .ok (.getfield 177, 3) := by decide +kernel
theorem dX7_say_50 : decode cX7_say 50 = .ok (.ireturn, 1) := by decide +kernel
theorem dX7_wipe_0 : decode cX7_wipe 0 = .ok (.aload_n 0, 1) := by decide +kernel
theorem dX7_wipe_1 : decode cX7_wipe 1 = .ok (.getfield 177, 3) := by decide +kernel
theorem dX7_wipe_4 : decode cX7_wipe 4 = .ok (.istore_n 1, 1) := by decide +kernel
theorem dX7_wipe_5 : decode cX7_wipe 5 = .ok (.aload_n 0, 1) := by decide +kernel
theorem dX7_wipe_6 : decode cX7_wipe 6 = .ok (.iconst 0, 1) := by decide +kernel
theorem dX7_wipe_7 : decode cX7_wipe 7 = .ok (.putfield 177, 3) := by decide +kernel
theorem dX7_wipe_10 : decode cX7_wipe 10 = .ok (.iload_n 1, 1) := by decide +kernel
theorem dX7_wipe_11 : decode cX7_wipe 11 = .ok (.ireturn, 1) := by decide +kernel
theorem dX7_nextSign_0 : decode cX7_nextSign 0 = .ok (.aload_n 0, 1) := by decide +kernel
theorem dX7_nextSign_1 : decode cX7_nextSign 1 = .ok (.getfield 181, 3) := by decide +kernel
theorem dX7_nextSign_4 : decode cX7_nextSign 4 = .ok (.aload_n 0, 1) := by decide +kernel
theorem dX7_nextSign_5 : decode cX7_nextSign 5 = .ok (.getfield 177, 3) := by decide +kernel
theorem dX7_nextSign_8 : decode cX7_nextSign 8 = .ok (.if_icmp .ge 15, 3) := by decide +kernel
theorem dX7_nextSign_11 : decode cX7_nextSign 11 = .ok (.aload_n 0, 1) := by decide +kernel
theorem dX7_nextSign_12 : decode cX7_nextSign 12 = .ok (.getfield 23, 3) := by decide +kernel
theorem dX7_nextSign_15 : decode cX7_nextSign 15 = .ok (.aload_n 0, 1) := by decide +kernel
theorem dX7_nextSign_16 : decode cX7_nextSign 16 = .ok (.getfield 181, 3) := by decide +kernel
theorem dX7_nextSign_19 : decode cX7_nextSign 19 = .ok (.iaload, 1) := by decide +kernel
theorem dX7_nextSign_20 : decode cX7_nextSign 20 = .ok (.goto 4, 3) := by decide +kernel
theorem dX7_nextSign_23 : decode cX7_nextSign 23 = .ok (.iconst 0, 1) := by decide +kernel
theorem dX7_nextSign_24 : decode cX7_nextSign 24 = .ok (.ireturn, 1) := by decide +kernel
theorem dX7_takeNumber_0 : decode cX7_takeNumber 0 = .ok (.aload_n 0, 1) := by decide +kernel
theorem dX7_takeNumber_1 : decode cX7_takeNumber 1 = .ok (.invokevirtual 184, 3) := by decide +kernel
theorem dX7_takeNumber_4 : decode cX7_takeNumber 4 = .ok (.bipush 48, 2) := by decide +kernel
theorem dX7_takeNumber_6 : decode cX7_takeNumber 6 = .ok (.isub, 1) := by decide +kernel
theorem dX7_takeNumber_7 : decode cX7_takeNumber 7 = .ok (.istore_n 3, 1) := by decide +kernel
theorem dX7_takeNumber_8 : decode cX7_takeNumber 8 = .ok (.iload_n 3, 1) := by decide +kernel
theorem dX7_takeNumber_9 : decode cX7_takeNumber 9 = .ok (.iload_n 1, 1) := by decide +kernel
theorem dX7_takeNumber_10 : decode cX7_takeNumber 10 = .ok (.bipush 9, 2) := by decide +kernel
theorem dX7_takeNumber_12 : decode cX7_takeNumber 12 = .ok (.invokestatic 40, 3) := by decide +kernel
theorem dX7_takeNumber_15 : decode cX7_takeNumber 15 = .ok (.ifCond .eq 8, 3) := by decide +kernel
theorem dX7_takeNumber_18 : decode cX7_takeNumber 18 = .ok (.iload_n 3, 1) := by decide +kernel
theorem dX7_takeNumber_19 : decode cX7_takeNumber 19 = .ok (.iload_n 2, 1) := by decide +kernel
theorem dX7_takeNumber_20 : decode cX7_takeNumber 20 = .ok (.if_icmp .le 10, 3) := by decide +kernel
theorem dX7_takeNumber_23 : decode cX7_takeNumber 23 = .ok (.aload_n 0, 1) := by decide +kernel
theorem dX7_takeNumber_24 : decode cX7_takeNumber 24 = .ok (.iconst 1, 1) := by decide +kernel
theorem dX7_takeNumber_25 : decode cX7_takeNumber 25 = .ok (.putfield 187, 3) := by decide +kernel
theorem dX7_takeNumber_28 : decode cX7_takeNumber 28 = .ok (.iconst 0, 1) := by decide +kernel
theorem dX7_takeNumber_29 : decode cX7_takeNumber 29 = .ok (.ireturn, 1) := by decide +kernel
theorem dX7_takeNumber_30 : decode cX7_takeNumber 30 = .ok (.aload_n 0, 1) := by decide +kernel
theorem dX7_takeNumber_31 : decode cX7_takeNumber 31 = .ok (.dup, 1) := by decide +kernel
theorem dX7_takeNumber_32 : decode cX7_takeNumber 32 = .ok (.getfield 181, 3) := by decide +kernel
theorem dX7_takeNumber_35 : decode cX7_takeNumber 35 = .ok (.iconst 1, 1) := by decide +kernel
theorem dX7_takeNumber_36 : decode cX7_takeNumber 36 = .ok (.iadd, 1) := by decide +kernel
theorem dX7_takeNumber_37 : decode cX7_takeNumber 37 = .ok (.putfield 181, 3) := by decide +kernel
theorem dX7_takeNumber_40 : decode cX7_takeNumber 40 = .ok (.iload_n 3, 1) := by decide +kernel
theorem dX7_takeNumber_41 : decode cX7_takeNumber 41 = .ok (.ifCond .le 59, 3) := by decide +kernel
theorem dX7_takeNumber_44 : decode cX7_takeNumber 44 = .ok (.aload_n 0, 1) := by decide +kernel
theorem dX7_takeNumber_45 : decode cX7_takeNumber 45 = .ok (.invokevirtual 184, 3) := by decide +kernel
theorem dX7_takeNumber_48 : decode cX7_takeNumber 48 = .ok (.bipush 48, 2) := by decide +kernel
theorem dX7_takeNumber_50 : decode cX7_takeNumber 50 = .ok (.bipush 57, 2) := by decide +kernel
theorem dX7_takeNumber_52 : decode cX7_takeNumber 52 = .ok (.invokestatic 40, 3) := by decide +kernel
theorem dX7_takeNumber_55 : decode cX7_takeNumber 55 = .ok (.ifCond .eq 45, 3) := by decide +kernel
theorem dX7_takeNumber_58 : decode cX7_takeNumber 58 = .ok (.bipush 10, 2) := by decide +kernel
theorem dX7_takeNumber_60 : decode cX7_takeNumber 60 = .ok (.iload_n 3, 1) := by decide +kernel
theorem dX7_takeNumber_61 : decode cX7_takeNumber 61 = .ok (.imul, 1) := by decide +kernel
theorem dX7_takeNumber_62 : decode cX7_takeNumber 62 = .ok (.aload_n 0, 1) := by decide +kernel
theorem dX7_takeNumber_63 : decode cX7_takeNumber 63 = .ok (.invokevirtual 184, 3) := by decide +kernel
theorem dX7_takeNumber_66 : decode cX7_takeNumber 66 = .ok (.iadd, 1) := by decide +kernel
theorem dX7_takeNumber_67 : decode cX7_takeNumber 67 = .ok (.bipush 48, 2) := by decide +kernel
theorem dX7_takeNumber_69 : decode cX7_takeNumber 69 = .ok (.isub, 1) := by decide +kernel
theorem dX7_takeNumber_70 : decode cX7_takeNumber 70 = .ok (.iload_n 2, 1) := by decide +kernel
theorem dX7_takeNumber_71 : decode cX7_takeNumber 71 = .ok (.if_icmp .gt 29, 3) := by decide +kernel
theorem dX7_takeNumber_74 : decode cX7_takeNumber 74 = .ok (.bipush 10, 2) := by decide +kernel
theorem dX7_takeNumber_76 : decode cX7_takeNumber 76 = .ok (.iload_n 3, 1) := by decide +kernel
theorem dX7_takeNumber_77 : decode cX7_takeNumber 77 = .ok (.imul, 1) := by decide +kernel
theorem dX7_takeNumber_78 : decode cX7_takeNumber 78 = .ok (.aload_n 0, 1) := by decide +kernel
theorem dX7_takeNumber_79 : decode cX7_takeNumber 79 = .ok (.invokevirtual 184, 3) := by decide +kernel
theorem dX7_takeNumber_82 : decode cX7_takeNumber 82 = .ok (.iadd, 1) := by decide +kernel
theorem dX7_takeNumber_83 : decode cX7_takeNumber 83 = .ok (.bipush 48, 2) := by decide +kernel
theorem dX7_takeNumber_85 : decode cX7_takeNumber 85 = .ok (.isub, 1) := by decide +kernel
theorem dX7_takeNumber_86 : decode cX7_takeNumber 86 = .ok (.istore_n 3, 1) := by decide +kernel
theorem dX7_takeNumber_87 : decode cX7_takeNumber 87 = .ok (.aload_n 0, 1) := by decide +kernel
theorem dX7_takeNumber_88 : decode cX7_takeNumber 88 = .ok (.dup, 1) := by decide +kernel
theorem dX7_takeNumber_89 : decode cX7_takeNumber 89 = .ok (.getfield 181, 3) := by decide +kernel
theorem dX7_takeNumber_92 : decode cX7_takeNumber 92 = .ok (.iconst 1, 1) := by decide +kernel
theorem dX7_takeNumber_93 : decode cX7_takeNumber 93 = .ok (.iadd, 1) := by decide +kernel
theorem dX7_takeNumber_94 : decode cX7_takeNumber 94 = .ok (.putfield 181, 3) := by decide +kernel
theorem dX7_takeNumber_97 : decode cX7_takeNumber 97 = .ok (.goto (-57), 3) := by decide +kernel
theorem dX7_takeNumber_100 : decode cX7_takeNumber 100 = .ok (.iload_n 3, 1) := by decide +kernel
theorem dX7_takeNumber_101 : decode cX7_takeNumber 101 = .ok (.ireturn, 1) := by decide +kernel
theorem dX7_takeSide_0 : decode cX7_takeSide 0 = .ok (.aload_n 0, 1) := by decide +kernel
theorem dX7_takeSide_1 : decode cX7_takeSide 1 = .ok (.getfield 187, 3) := by decide +kernel
theorem dX7_takeSide_4 : decode cX7_takeSide 4 = .ok (.ifCond .ne 21, 3) := by decide +kernel
theorem dX7_takeSide_7 : decode cX7_takeSide 7 = .ok (.aload_n 0, 1) := by decide +kernel
theorem dX7_takeSide_8 : decode cX7_takeSide 8 = .ok (.invokevirtual 184, 3) := by decide +kernel
theorem dX7_takeSide_11 : decode cX7_takeSide 11 = .ok (.bipush 43, 2) := by decide +kernel
theorem dX7_takeSide_13 : decode cX7_takeSide 13 = .ok (.if_icmp .eq 19, 3) := by decide +kernel
theorem dX7_takeSide_16 : decode cX7_takeSide 16 = .ok (.aload_n 0, 1) := by decide +kernel
theorem dX7_takeSide_17 : decode cX7_takeSide 17 = .ok (.invokevirtual 184, 3) := by decide +kernel
theorem dX7_takeSide_20 : decode cX7_takeSide 20 = .ok (.bipush 45, 2) := by decide +kernel
theorem dX7_takeSide_22 : decode cX7_takeSide 22 = .ok (.if_icmp .eq 10, 3) := by decide +kernel
theorem dX7_takeSide_25 : decode cX7_takeSide 25 = .ok (.aload_n 0, 1) := by decide +kernel
theorem dX7_takeSide_26 : decode cX7_takeSide 26 = .ok (.iconst 1, 1) := by decide +kernel
theorem dX7_takeSide_27 : decode cX7_takeSide 27 = .ok (.putfield 187, 3) := by decide +kernel
theorem dX7_takeSide_30 : decode cX7_takeSide 30 = .ok (.iconst 0, 1) := by decide +kernel
theorem dX7_takeSide_31 : decode cX7_takeSide 31 = .ok (.ireturn, 1) := by decide +kernel
theorem dX7_takeSide_32 : decode cX7_takeSide 32 = .ok (.aload_n 0, 1) := by decide +kernel
theorem dX7_takeSide_33 : decode cX7_takeSide 33 = .ok (.dup, 1) := by decide +kernel
theorem dX7_takeSide_34 : decode cX7_takeSide 34 = .ok (.getfield 181, 3) := by decide +kernel
theorem dX7_takeSide_37 : decode cX7_takeSide 37 = .ok (.iconst 1, 1) := by decide +kernel
theorem dX7_takeSide_38 : decode cX7_takeSide 38 = .ok (.iadd, 1) := by decide +kernel
theorem dX7_takeSide_39 : decode cX7_takeSide 39 = .ok (.putfield 181, 3) := by decide +kernel
theorem dX7_takeSide_42 : decode cX7_takeSide 42 = .ok (.aload_n 0, 1) := by decide +kernel
theorem dX7_takeSide_43 : decode cX7_takeSide 43 = .ok (.getfield 23, 3) := by decide +kernel
theorem dX7_takeSide_46 : decode cX7_takeSide 46 = .ok (.aload_n 0, 1) := by decide +kernel
theorem dX7_takeSide_47 : decode cX7_takeSide 47 = .ok (.getfield 181, 3) := by decide +kernel
theorem dX7_takeSide_50 : decode cX7_takeSide 50 = .ok (.iconst 1, 1) := by decide +kernel
theorem dX7_takeSide_51 : decode cX7_takeSide 51 = .ok (.isub, 1) := by decide +kernel
theorem dX7_takeSide_52 : decode cX7_takeSide 52 = .ok (.iaload, 1) := by decide +kernel
theorem dX7_takeSide_53 : decode cX7_takeSide 53 = .ok (.bipush 43, 2) := by decide +kernel
theorem dX7_takeSide_55 : decode cX7_takeSide 55 = .ok (.if_icmp .ne 7, 3) := by decide +kernel
theorem dX7_takeSide_58 : decode cX7_takeSide 58 = .ok (.iconst 0, 1) := by decide +kernel
theorem dX7_takeSide_59 : decode cX7_takeSide 59 = .ok (.goto 4, 3) := by decide +kernel
theorem dX7_takeSide_62 : decode cX7_takeSide 62 = .ok (.iconst 1, 1) := by decide +kernel
theorem dX7_takeSide_63 : decode cX7_takeSide 63 = .ok (.ireturn, 1) := by decide +kernel
theorem dX7_isForTrain_0 : decode cX7_isForTrain 0 = .ok (.iload_n 0, 1) := by decide +kernel
theorem dX7_isForTrain_1 : decode cX7_isForTrain 1 = .ok (.bipush 111, 2) := by decide +kernel
theorem dX7_isForTrain_3 : decode cX7_isForTrain 3 = .ok (.if_icmp .eq 21, 3) := by decide +kernel
theorem dX7_isForTrain_6 : decode cX7_isForTrain 6 = .ok (.iload_n 0, 1) := by decide +kernel
theorem dX7_isForTrain_7 : decode cX7_isForTrain 7 = .ok (.bipush 100, 2) := by decide +kernel
theorem dX7_isForTrain_9 : decode cX7_isForTrain 9 = .ok (.if_icmp .eq 15, 3) := by decide +kernel
theorem dX7_isForTrain_12 : decode cX7_isForTrain 12 = .ok (.iload_n 0, 1) := by decide +kernel
theorem dX7_isForTrain_13 : decode cX7_isForTrain 13 = .ok (.bipush 115, 2) := by decide +kernel
theorem dX7_isForTrain_15 : decode cX7_isForTrain 15 = .ok (.if_icmp .eq 9, 3) := by decide +kernel
theorem dX7_isForTrain_18 : decode cX7_isForTrain 18 = .ok (.iload_n 0, 1) := by decide +kernel
theorem dX7_isForTrain_19 : decode cX7_isForTrain 19 = .ok (.bipush 108, 2) := by decide +kernel
theorem dX7_isForTrain_21 : decode cX7_isForTrain 21 = .ok (.if_icmp .ne 7, 3) := by decide +kernel
theorem dX7_isForTrain_24 : decode cX7_isForTrain 24 = .ok (.iconst 1, 1) := by decide +kernel
theorem dX7_isForTrain_25 : decode cX7_isForTrain 25 = .ok (.goto 4, 3) := by decide +kernel
theorem dX7_isForTrain_28 : decode cX7_isForTrain 28 = .ok (.iconst 0, 1) := by decide +kernel
theorem dX7_isForTrain_29 : decode cX7_isForTrain 29 = .ok (.ireturn, 1) := by decide +kernel
theorem dX7_isForBlock_0 : decode cX7_isForBlock 0 = .ok (.iload_n 0, 1) := by decide +kernel
theorem dX7_isForBlock_1 : decode cX7_isForBlock 1 = .ok (.bipush 121, 2) := by decide +kernel
theorem dX7_isForBlock_3 : decode cX7_isForBlock 3 = .ok (.if_icmp .eq 33, 3) := by decide +kernel
theorem dX7_isForBlock_6 : decode cX7_isForBlock 6 = .ok (.iload_n 0, 1) := by decide +kernel
theorem dX7_isForBlock_7 : decode cX7_isForBlock 7 = .ok (.bipush 110, 2) := by decide +kernel
theorem dX7_isForBlock_9 : decode cX7_isForBlock 9 = .ok (.if_icmp .eq 27, 3) := by decide +kernel
theorem dX7_isForBlock_12 : decode cX7_isForBlock 12 = .ok (.iload_n 0, 1) := by decide +kernel
theorem dX7_isForBlock_13 : decode cX7_isForBlock 13 = .ok (.bipush 99, 2) := by decide +kernel
theorem dX7_isForBlock_15 : decode cX7_isForBlock 15 = .ok (.if_icmp .eq 21, 3) := by decide +kernel
theorem dX7_isForBlock_18 : decode cX7_isForBlock 18 = .ok (.iload_n 0, 1) := by decide +kernel
theorem dX7_isForBlock_19 : decode cX7_isForBlock 19 = .ok (.bipush 97, 2) := by decide +kernel
theorem dX7_isForBlock_21 : decode cX7_isForBlock 21 = .ok (.if_icmp .eq 15, 3) := by decide +kernel
theorem dX7_isForBlock_24 : decode cX7_isForBlock 24 = .ok (.iload_n 0, 1) := by decide +kernel
theorem dX7_isForBlock_25 : decode cX7_isForBlock 25 = .ok (.bipush 117, 2) := by decide +kernel
theorem dX7_isForBlock_27 : decode cX7_isForBlock 27 = .ok (.if_icmp .eq 9, 3) := by decide +kernel
theorem dX7_isForBlock_30 : decode cX7_isForBlock 30 = .ok (.iload_n 0, 1) := by decide +kernel
theorem dX7_isForBlock_31 : decode cX7_isForBlock 31 = .ok (.bipush 101, 2) := by decide +kernel
theorem dX7_isForBlock_33 : decode cX7_isForBlock 33 = .ok (.if_icmp .ne 7, 3) := by decide +kernel
theorem dX7_isForBlock_36 : decode cX7_isForBlock 36 = .ok (.iconst 1, 1) := by decide +kernel
theorem dX7_isForBlock_37 : decode cX7_isForBlock 37 = .ok (.goto 4, 3) := by decide +kernel
theorem dX7_isForBlock_40 : decode cX7_isForBlock 40 = .ok (.iconst 0, 1) := by decide +kernel
theorem dX7_isForBlock_41 : decode cX7_isForBlock 41 = .ok (.ireturn, 1) := by decide +kernel
theorem dX7_readOrder_0 : decode cX7_readOrder 0 = .ok (.aload_n 0, 1) := by decide +kernel
theorem dX7_readOrder_1 : decode cX7_readOrder 1 = .ok (.invokevirtual 184, 3) := by decide +kernel
theorem dX7_readOrder_4 : decode cX7_readOrder 4 = .ok (.istore_n 1, 1) := by decide +kernel
theorem dX7_readOrder_5 : decode cX7_readOrder 5 = .ok (.iload_n 1, 1) := by decide +kernel
theorem dX7_readOrder_6 : decode cX7_readOrder 6 = .ok (.invokestatic 191, 3) := by decide +kernel
theorem dX7_readOrder_9 : decode cX7_readOrder 9 = .ok (.ifCond .ne 22, 3) := by decide +kernel
theorem dX7_readOrder_12 : decode cX7_readOrder 12 = .ok (.iload_n 1, 1) := by decide +kernel
theorem dX7_readOrder_13 : decode cX7_readOrder 13 = .ok (.invokestatic 194, 3) := by decide +kernel
theorem dX7_readOrder_16 : decode cX7_readOrder 16 = .ok (.ifCond .ne 15, 3) := by decide +kernel
theorem dX7_readOrder_19 : decode cX7_readOrder 19 = .ok (.iload_n 1, 1) := by decide +kernel
theorem dX7_readOrder_20 : decode cX7_readOrder 20 = .ok (.bipush 116, 2) := by decide +kernel
theorem dX7_readOrder_22 : decode cX7_readOrder 22 = .ok (.if_icmp .eq 9, 3) := by decide +kernel
theorem dX7_readOrder_25 : decode cX7_readOrder 25 = .ok (.aload_n 0, 1) := by decide +kernel
theorem dX7_readOrder_26 : decode cX7_readOrder 26 = .ok (.iconst 1, 1) := by decide +kernel
theorem dX7_readOrder_27 : decode cX7_readOrder 27 = .ok (.putfield 187, 3) := by decide +kernel
theorem dX7_readOrder_30 : decode cX7_readOrder 30 = .ok (.return_, 1) := by decide +kernel
theorem dX7_readOrder_31 : decode cX7_readOrder 31 = .ok (.aload_n 0, 1) := by decide +kernel
theorem dX7_readOrder_32 : decode cX7_readOrder 32 = .ok (.dup, 1) := by decide +kernel
theorem dX7_readOrder_33 : decode cX7_readOrder 33 = .ok (.getfield 181, 3) := by decide +kernel
theorem dX7_readOrder_36 : decode cX7_readOrder 36 = .ok (.iconst 1, 1) := by decide +kernel
theorem dX7_readOrder_37 : decode cX7_readOrder 37 = .ok (.iadd, 1) := by decide +kernel
theorem dX7_readOrder_38 : decode cX7_readOrder 38 = .ok (.putfield 181, 3) := by decide +kernel
theorem dX7_readOrder_41 : decode cX7_readOrder 41 = .ok (.iconst 3, 1) := by decide +kernel
theorem dX7_readOrder_42 : decode cX7_readOrder 42 = .ok (.aload_n 0, 1) := by decide +kernel
theorem dX7_readOrder_43 : decode cX7_readOrder 43 = .ok (.getfield 197, 3) := by decide +kernel
theorem dX7_readOrder_46 : decode cX7_readOrder 46 = .ok (.imul, 1) := by decide +kernel
theorem dX7_readOrder_47 : decode cX7_readOrder 47 = .ok (.istore_n 2, 1) := by decide +kernel
theorem dX7_readOrder_48 : decode cX7_readOrder 48 = .ok (.aload_n 0, 1) := by decide +kernel
theorem dX7_readOrder_49 : decode cX7_readOrder 49 = .ok (.getfield 26, 3) := by decide +kernel
theorem dX7_readOrder_52 : decode cX7_readOrder 52 = .ok (.iload_n 2, 1) := by decide +kernel
theorem dX7_readOrder_53 : decode cX7_readOrder 53 = .ok (.iload_n 1, 1) := by decide +kernel
theorem dX7_readOrder_54 : decode cX7_readOrder 54 = .ok (.iastore, 1) := by decide +kernel
theorem dX7_readOrder_55 : decode cX7_readOrder 55 = .ok (.aload_n 0, 1) := by decide +kernel
theorem dX7_readOrder_56 : decode cX7_readOrder 56 = .ok (.getfield 26, 3) := by decide +kernel
theorem dX7_readOrder_59 : decode cX7_readOrder 59 = .ok (.iload_n 2, 1) := by decide +kernel
theorem dX7_readOrder_60 : decode cX7_readOrder 60 = .ok (.iconst 1, 1) := by decide +kernel
theorem dX7_readOrder_61 : decode cX7_readOrder 61 = .ok (.iadd, 1) := by decide +kernel
theorem dX7_readOrder_62 : decode cX7_readOrder 62 = .ok (.iload_n 1, 1) := by decide +kernel
theorem dX7_readOrder_63 : decode cX7_readOrder 63 = .ok (.invokestatic 191, 3) := by decide +kernel
theorem dX7_readOrder_66 : decode cX7_readOrder 66 = .ok (.ifCond .eq 13, 3) := by decide +kernel
theorem dX7_readOrder_69 : decode cX7_readOrder 69 = .ok (.aload_n 0, 1) := by decide +kernel
theorem dX7_readOrder_70 : decode cX7_readOrder 70 = .ok (.iconst 0, 1) := by decide +kernel
theorem dX7_readOrder_71 : decode cX7_readOrder 71 = .ok (.bipush 11, 2) := by decide +kernel
theorem dX7_readOrder_73 : decode cX7_readOrder 73 = .ok (.invokevirtual 200, 3) := by decide +kernel
theorem dX7_readOrder_76 : decode cX7_readOrder 76 = .ok (.goto 26, 3) := by decide +kernel
theorem dX7_readOrder_79 : decode cX7_readOrder 79 = .ok (.iload_n 1, 1) := by decide +kernel
theorem dX7_readOrder_80 : decode cX7_readOrder 80 = .ok (.invokestatic 194, 3) := by decide +kernel
theorem dX7_readOrder_83 : decode cX7_readOrder 83 = .ok (.ifCond .eq 12, 3) := by decide +kernel
theorem dX7_readOrder_86 : decode cX7_readOrder 86 = .ok (.aload_n 0, 1) := by decide +kernel
theorem dX7_readOrder_87 : decode cX7_readOrder 87 = .ok (.iconst 0, 1) := by decide +kernel
theorem dX7_readOrder_88 : decode cX7_readOrder 88 = .ok (.iconst 4, 1) := by decide +kernel
theorem dX7_readOrder_89 : decode cX7_readOrder 89 = .ok (.invokevirtual 200, 3) := by decide +kernel
theorem dX7_readOrder_92 : decode cX7_readOrder 92 = .ok (.goto 10, 3) := by decide +kernel
theorem dX7_readOrder_95 : decode cX7_readOrder 95 = .ok (.aload_n 0, 1) := by decide +kernel
theorem dX7_readOrder_96 : decode cX7_readOrder 96 = .ok (.iconst 1, 1) := by decide +kernel
theorem dX7_readOrder_97 : decode cX7_readOrder 97 = .ok (.bipush 99, 2) := by decide +kernel
theorem dX7_readOrder_99 : decode cX7_readOrder 99 = .ok (.invokevirtual 200, 3) := by decide +kernel
theorem dX7_readOrder_102 : decode cX7_readOrder 102 = .ok (.iastore, 1) := by decide +kernel
theorem dX7_readOrder_103 : decode cX7_readOrder 103 = .ok (.aload_n 0, 1) := by decide +kernel
theorem dX7_readOrder_104 : decode cX7_readOrder 104 = .ok (.getfield 26, 3) := by decide +kernel
theorem dX7_readOrder_107 : decode cX7_readOrder 107 = .ok (.iload_n 2, 1) := by decide +kernel
theorem dX7_readOrder_108 : decode cX7_readOrder 108 = .ok (.iconst 2, 1) := by decide +kernel
theorem dX7_readOrder_109 : decode cX7_readOrder 109 = .ok (.iadd, 1) := by decide +kernel
theorem dX7_readOrder_110 : decode cX7_readOrder 110 = .ok (.iload_n 1, 1) := by decide +kernel
theorem dX7_readOrder_111 : decode cX7_readOrder 111 = .ok (.invokestatic 194, 3) := by decide +kernel
theorem dX7_readOrder_114 : decode cX7_readOrder 114 = .ok (.ifCond .eq 10, 3) := by decide +kernel
theorem dX7_readOrder_117 : decode cX7_readOrder 117 = .ok (.aload_n 0, 1) := by decide +kernel
theorem dX7_readOrder_118 : decode cX7_readOrder 118 = .ok (.invokevirtual 203, 3) := by decide +kernel
theorem dX7_readOrder_121 : decode cX7_readOrder 121 = .ok (.goto 4, 3) := by decide +kernel
theorem dX7_readOrder_124 : decode cX7_readOrder 124 = .ok (.iconst 0, 1) := by decide +kernel
theorem dX7_readOrder_125 : decode cX7_readOrder 125 = .ok (.iastore, 1) := by decide +kernel
theorem dX7_readOrder_126 : decode cX7_readOrder 126 = .ok (.aload_n 0, 1) := by decide +kernel
theorem dX7_readOrder_127 : decode cX7_readOrder 127 = .ok (.dup, 1) := by decide +kernel
theorem dX7_readOrder_128 : decode cX7_readOrder 128 = .ok (.getfield 197, 3) := by decide +kernel
theorem dX7_readOrder_131 : decode cX7_readOrder 131 = .ok (.iconst 1, 1) := by decide +kernel
theorem dX7_readOrder_132 : decode cX7_readOrder 132 = .ok (.iadd, 1) := by decide +kernel
theorem dX7_readOrder_133 : decode cX7_readOrder 133 = .ok (.putfield 197, 3) := by decide +kernel
theorem dX7_readOrder_136 : decode cX7_readOrder 136 = .ok (.return_, 1) := by decide +kernel
theorem dX7_fault_0 : decode cX7_fault 0 = .ok (.aload_n 0, 1) := by decide +kernel
theorem dX7_fault_1 : decode cX7_fault 1 = .ok (.iconst 0, 1) := by decide +kernel
theorem dX7_fault_2 : decode cX7_fault 2 = .ok (.putfield 181, 3) := by decide +kernel
theorem dX7_fault_5 : decode cX7_fault 5 = .ok (.aload_n 0, 1) := by decide +kernel
theorem dX7_fault_6 : decode cX7_fault 6 = .ok (.iconst 0, 1) := by decide +kernel
theorem dX7_fault_7 : decode cX7_fault 7 = .ok (.putfield 187, 3) := by decide +kernel
theorem dX7_fault_10 : decode cX7_fault 10 = .ok (.aload_n 0, 1) := by decide +kernel
theorem dX7_fault_11 : decode cX7_fault 11 = .ok (.iconst 0, 1) := by decide +kernel
theorem dX7_fault_12 : decode cX7_fault 12 = .ok (.putfield 197, 3) := by decide +kernel
theorem dX7_fault_15 : decode cX7_fault 15 = .ok (.aload_n 0, 1) := by decide +kernel
theorem dX7_fault_16 : decode cX7_fault 16 = .ok (.invokevirtual 206, 3) := by decide +kernel
theorem dX7_fault_19 : decode cX7_fault 19 = .ok (.aload_n 0, 1) := by decide +kernel
theorem dX7_fault_20 : decode cX7_fault 20 = .ok (.getfield 187, 3) := by decide +kernel
theorem dX7_fault_23 : decode cX7_fault 23 = .ok (.ifCond .ne 29, 3) := by decide +kernel
theorem dX7_fault_26 : decode cX7_fault 26 = .ok (.aload_n 0, 1) := by decide +kernel
theorem dX7_fault_27 : decode cX7_fault 27 = .ok (.invokevirtual 184, 3) := by decide +kernel
theorem dX7_fault_30 : decode cX7_fault 30 = .ok (.bipush 44, 2) := by decide +kernel
theorem dX7_fault_32 : decode cX7_fault 32 = .ok (.if_icmp .ne 20, 3) := by decide +kernel
theorem dX7_fault_35 : decode cX7_fault 35 = .ok (.aload_n 0, 1) := by decide +kernel
theorem dX7_fault_36 : decode cX7_fault 36 = .ok (.dup, 1) := by decide +kernel
theorem dX7_fault_37 : decode cX7_fault 37 = .ok (.getfield 181, 3) := by decide +kernel
theorem dX7_fault_40 : decode cX7_fault 40 = .ok (.iconst 1, 1) := by decide +kernel
theorem dX7_fault_41 : decode cX7_fault 41 = .ok (.iadd, 1) := by decide +kernel
theorem dX7_fault_42 : decode cX7_fault 42 = .ok (.putfield 181, 3) := by decide +kernel
theorem dX7_fault_45 : decode cX7_fault 45 = .ok (.aload_n 0, 1) := by decide +kernel
theorem dX7_fault_46 : decode cX7_fault 46 = .ok (.invokevirtual 206, 3) := by decide +kernel
theorem dX7_fault_49 : decode cX7_fault 49 = .ok (.goto (-30), 3) := by decide +kernel
theorem dX7_fault_52 : decode cX7_fault 52 = .ok (.aload_n 0, 1) := by decide +kernel
theorem dX7_fault_53 : decode cX7_fault 53 = .ok (.getfield 187, 3) := by decide +kernel
theorem dX7_fault_56 : decode cX7_fault 56 = .ok (.ifCond .ne 14, 3) := by decide +kernel
theorem dX7_fault_59 : decode cX7_fault 59 = .ok (.aload_n 0, 1) := by decide +kernel
theorem dX7_fault_60 : decode cX7_fault 60 = .ok (.getfield 181, 3) := by decide +kernel
theorem dX7_fault_63 : decode cX7_fault 63 = .ok (.aload_n 0, 1) := by decide +kernel
theorem dX7_fault_64 : decode cX7_fault 64 = .ok (.getfield 177, 3) := by decide +kernel
theorem dX7_fault_67 : decode cX7_fault 67 = .ok (.if_icmp .ge 10, 3) := by decide +kernel
theorem dX7_fault_70 : decode cX7_fault 70 = .ok (.aload_n 0, 1) := by decide +kernel
theorem dX7_fault_71 : decode cX7_fault 71 = .ok (.getfield 181, 3) := by decide +kernel
theorem dX7_fault_74 : decode cX7_fault 74 = .ok (.goto 5, 3) := by decide +kernel
theorem dX7_fault_77 : decode cX7_fault 77 = .ok (.bipush (-6), 2) := by decide +kernel
theorem dX7_fault_79 : decode cX7_fault 79 = .ok (.ireturn, 1) := by decide +kernel
theorem dX7_carryOutOne_0 : decode cX7_carryOutOne 0 = .ok (.iload_n 1, 1) := by decide +kernel
theorem dX7_carryOutOne_1 : decode cX7_carryOutOne 1 = .ok (.tableswitch 185 97 121 #[164, 185, 157, 121, 178, 185, 185, 185, 185, 185, 185, 133, 185, 139, 115, 185, 185, 185, 127, 185, 171, 185, 185, 185, 139], 115) := by decide +kernel
theorem dX7_carryOutOne_116 : decode cX7_carryOutOne 116 = .ok (.aload_n 0, 1) := by decide +kernel
theorem dX7_carryOutOne_117 : decode cX7_carryOutOne 117 = .ok (.iload_n 2, 1) := by decide +kernel
theorem dX7_carryOutOne_118 : decode cX7_carryOutOne 118 = .ok (.invokevirtual 152, 3) := by decide +kernel
theorem dX7_carryOutOne_121 : decode cX7_carryOutOne 121 = .ok (.ireturn, 1) := by decide +kernel
theorem dX7_carryOutOne_122 : decode cX7_carryOutOne 122 = .ok (.aload_n 0, 1) := by decide +kernel
theorem dX7_carryOutOne_123 : decode cX7_carryOutOne 123 = .ok (.iload_n 2, 1) := by decide +kernel
theorem dX7_carryOutOne_124 : decode cX7_carryOutOne 124 = .ok (.invokevirtual 155, 3) := by decide +kernel
theorem dX7_carryOutOne_127 : decode cX7_carryOutOne 127 = .ok (.ireturn, 1) := by decide +kernel
theorem dX7_carryOutOne_128 : decode cX7_carryOutOne 128 = .ok (.aload_n 0, 1) := by decide +kernel
theorem dX7_carryOutOne_129 : decode cX7_carryOutOne 129 = .ok (.iload_n 2, 1) := by decide +kernel
theorem dX7_carryOutOne_130 : decode cX7_carryOutOne 130 = .ok (.invokevirtual 209, 3) := by decide +kernel
theorem dX7_carryOutOne_133 : decode cX7_carryOutOne 133 = .ok (.ireturn, 1) := by decide +kernel
theorem dX7_carryOutOne_134 : decode cX7_carryOutOne 134 = .ok (.aload_n 0, 1) := by decide +kernel
theorem dX7_carryOutOne_135 : decode cX7_carryOutOne 135 = .ok (.iload_n 2, 1) := by decide +kernel
theorem dX7_carryOutOne_136 : decode cX7_carryOutOne 136 = .ok (.invokevirtual 149, 3) := by decide +kernel
theorem dX7_carryOutOne_139 : decode cX7_carryOutOne 139 = .ok (.ireturn, 1) := by decide +kernel
theorem dX7_carryOutOne_140 : decode cX7_carryOutOne 140 = .ok (.aload_n 0, 1) := by decide +kernel
theorem dX7_carryOutOne_141 : decode cX7_carryOutOne 141 = .ok (.iload_n 2, 1) := by decide +kernel
theorem dX7_carryOutOne_142 : decode cX7_carryOutOne 142 = .ok (.iload_n 3, 1) := by decide +kernel
theorem dX7_carryOutOne_143 : decode cX7_carryOutOne 143 = .ok (.iload_n 1, 1) := by decide +kernel
theorem dX7_carryOutOne_144 : decode cX7_carryOutOne 144 = .ok (.bipush 121, 2) := by decide +kernel
theorem dX7_carryOutOne_146 : decode cX7_carryOutOne 146 = .ok (.if_icmp .ne 7, 3) := by decide +kernel
theorem dX7_carryOutOne_149 : decode cX7_carryOutOne 149 = .ok (.iconst 1, 1) := by decide +kernel
theorem dX7_carryOutOne_150 : decode cX7_carryOutOne 150 = .ok (.goto 4, 3) := by decide +kernel
theorem dX7_carryOutOne_153 : decode cX7_carryOutOne 153 = .ok (.iconst 0, 1) := by decide +kernel
theorem dX7_carryOutOne_154 : decode cX7_carryOutOne 154 = .ok (.invokevirtual 145, 3) := by decide +kernel
theorem dX7_carryOutOne_157 : decode cX7_carryOutOne 157 = .ok (.ireturn, 1) := by decide +kernel
theorem dX7_carryOutOne_158 : decode cX7_carryOutOne 158 = .ok (.aload_n 0, 1) := by decide +kernel
theorem dX7_carryOutOne_159 : decode cX7_carryOutOne 159 = .ok (.iload_n 2, 1) := by decide +kernel
theorem dX7_carryOutOne_160 : decode cX7_carryOutOne 160 = .ok (.iload_n 3, 1) := by decide +kernel
theorem dX7_carryOutOne_161 : decode cX7_carryOutOne 161 = .ok (.invokevirtual 212, 3) := by decide +kernel
theorem dX7_carryOutOne_164 : decode cX7_carryOutOne 164 = .ok (.ireturn, 1) := by decide +kernel
theorem dX7_carryOutOne_165 : decode cX7_carryOutOne 165 = .ok (.aload_n 0, 1) := by decide +kernel
theorem dX7_carryOutOne_166 : decode cX7_carryOutOne 166 = .ok (.iload_n 2, 1) := by decide +kernel
theorem dX7_carryOutOne_167 : decode cX7_carryOutOne 167 = .ok (.iload_n 3, 1) := by decide +kernel
theorem dX7_carryOutOne_168 : decode cX7_carryOutOne 168 = .ok (.invokevirtual 142, 3) := by decide +kernel
theorem dX7_carryOutOne_171 : decode cX7_carryOutOne 171 = .ok (.ireturn, 1) := by decide +kernel
theorem dX7_carryOutOne_172 : decode cX7_carryOutOne 172 = .ok (.aload_n 0, 1) := by decide +kernel
theorem dX7_carryOutOne_173 : decode cX7_carryOutOne 173 = .ok (.iload_n 2, 1) := by decide +kernel
theorem dX7_carryOutOne_174 : decode cX7_carryOutOne 174 = .ok (.iload_n 3, 1) := by decide +kernel
theorem dX7_carryOutOne_175 : decode cX7_carryOutOne 175 = .ok (.invokevirtual 136, 3) := by decide +kernel
theorem dX7_carryOutOne_178 : decode cX7_carryOutOne 178 = .ok (.ireturn, 1) := by decide +kernel
theorem dX7_carryOutOne_179 : decode cX7_carryOutOne 179 = .ok (.aload_n 0, 1) := by decide +kernel
theorem dX7_carryOutOne_180 : decode cX7_carryOutOne 180 = .ok (.iload_n 2, 1) := by decide +kernel
theorem dX7_carryOutOne_181 : decode cX7_carryOutOne 181 = .ok (.iload_n 3, 1) := by decide +kernel
theorem dX7_carryOutOne_182 : decode cX7_carryOutOne 182 = .ok (.invokevirtual 139, 3) := by decide +kernel
theorem dX7_carryOutOne_185 : decode cX7_carryOutOne 185 = .ok (.ireturn, 1) := by decide +kernel
theorem dX7_carryOutOne_186 : decode cX7_carryOutOne 186 = .ok (.aload_n 0, 1) := by decide +kernel
theorem dX7_carryOutOne_187 : decode cX7_carryOutOne 187 = .ok (.iload_n 2, 1) := by decide +kernel
theorem dX7_carryOutOne_188 : decode cX7_carryOutOne 188 = .ok (.invokevirtual 215, 3) := by decide +kernel
theorem dX7_carryOutOne_191 : decode cX7_carryOutOne 191 = .ok (.ireturn, 1) := by decide +kernel
theorem dX7_carryOut_0 : decode cX7_carryOut 0 = .ok (.aload_n 0, 1) := by decide +kernel
theorem dX7_carryOut_1 : decode cX7_carryOut 1 = .ok (.invokevirtual 218, 3) := by decide +kernel
theorem dX7_carryOut_4 : decode cX7_carryOut 4 = .ok (.bipush (-6), 2) := by decide +kernel
theorem dX7_carryOut_6 : decode cX7_carryOut 6 = .ok (.if_icmp .eq 6, 3) := by decide +kernel
theorem dX7_carryOut_9 : decode cX7_carryOut 9 = .ok (.bipush (-3), 2) := by decide +kernel
theorem dX7_carryOut_11 : decode cX7_carryOut 11 = .ok (.ireturn, 1) := by decide +kernel
theorem dX7_carryOut_12 : decode cX7_carryOut 12 = .ok (.aload_n 0, 1) := by decide +kernel
theorem dX7_carryOut_13 : decode cX7_carryOut 13 = .ok (.iconst 0, 1) := by decide +kernel
theorem dX7_carryOut_14 : decode cX7_carryOut 14 = .ok (.putfield 177, 3) := by decide +kernel
theorem dX7_carryOut_17 : decode cX7_carryOut 17 = .ok (.iconst 0, 1) := by decide +kernel
theorem dX7_carryOut_18 : decode cX7_carryOut 18 = .ok (.istore_n 1, 1) := by decide +kernel
theorem dX7_carryOut_19 : decode cX7_carryOut 19 = .ok (.iload_n 1, 1) := by decide +kernel
theorem dX7_carryOut_20 : decode cX7_carryOut 20 = .ok (.aload_n 0, 1) := by decide +kernel
theorem dX7_carryOut_21 : decode cX7_carryOut 21 = .ok (.getfield 197, 3) := by decide +kernel
theorem dX7_carryOut_24 : decode cX7_carryOut 24 = .ok (.if_icmp .ge 46, 3) := by decide +kernel
theorem dX7_carryOut_27 : decode cX7_carryOut 27 = .ok (.aload_n 0, 1) := by decide +kernel
theorem dX7_carryOut_28 : decode cX7_carryOut 28 = .ok (.aload_n 0, 1) := by decide +kernel
theorem dX7_carryOut_29 : decode cX7_carryOut 29 = .ok (.getfield 26, 3) := by decide +kernel
theorem dX7_carryOut_32 : decode cX7_carryOut 32 = .ok (.iconst 3, 1) := by decide +kernel
theorem dX7_carryOut_33 : decode cX7_carryOut 33 = .ok (.iload_n 1, 1) := by decide +kernel
theorem dX7_carryOut_34 : decode cX7_carryOut 34 = .ok (.imul, 1) := by decide +kernel
theorem dX7_carryOut_35 : decode cX7_carryOut 35 = .ok (.iaload, 1) := by decide +kernel
theorem dX7_carryOut_36 : decode cX7_carryOut 36 = .ok (.aload_n 0, 1) := by decide +kernel
theorem dX7_carryOut_37 : decode cX7_carryOut 37 = .ok (.getfield 26, 3) := by decide +kernel
theorem dX7_carryOut_40 : decode cX7_carryOut 40 = .ok (.iconst 3, 1) := by decide +kernel
theorem dX7_carryOut_41 : decode cX7_carryOut 41 = .ok (.iload_n 1, 1) := by decide +kernel
theorem dX7_carryOut_42 : decode cX7_carryOut 42 = .ok (.imul, 1) := by decide +kernel
theorem dX7_carryOut_43 : decode cX7_carryOut 43 = .ok (.iconst 1, 1) := by decide +kernel
theorem dX7_carryOut_44 : decode cX7_carryOut 44 = .ok (.iadd, 1) := by decide +kernel
theorem dX7_carryOut_45 : decode cX7_carryOut 45 = .ok (.iaload, 1) := by decide +kernel
theorem dX7_carryOut_46 : decode cX7_carryOut 46 = .ok (.aload_n 0, 1) := by decide +kernel
theorem dX7_carryOut_47 : decode cX7_carryOut 47 = .ok (.getfield 26, 3) := by decide +kernel
theorem dX7_carryOut_50 : decode cX7_carryOut 50 = .ok (.iconst 3, 1) := by decide +kernel
theorem dX7_carryOut_51 : decode cX7_carryOut 51 = .ok (.iload_n 1, 1) := by decide +kernel
theorem dX7_carryOut_52 : decode cX7_carryOut 52 = .ok (.imul, 1) := by decide +kernel
theorem dX7_carryOut_53 : decode cX7_carryOut 53 = .ok (.iconst 2, 1) := by decide +kernel
theorem dX7_carryOut_54 : decode cX7_carryOut 54 = .ok (.iadd, 1) := by decide +kernel
theorem dX7_carryOut_55 : decode cX7_carryOut 55 = .ok (.iaload, 1) := by decide +kernel
theorem dX7_carryOut_56 : decode cX7_carryOut 56 = .ok (.invokevirtual 221, 3) := by decide +kernel
theorem dX7_carryOut_59 : decode cX7_carryOut 59 = .ok (.ifCond .ge 5, 3) := by decide +kernel
theorem dX7_carryOut_62 : decode cX7_carryOut 62 = .ok (.iload_n 1, 1) := by decide +kernel
theorem dX7_carryOut_63 : decode cX7_carryOut 63 = .ok (.ireturn, 1) := by decide +kernel
theorem dX7_carryOut_64 : decode cX7_carryOut 64 = .ok (.iinc 1 1, 3) := by decide +kernel
theorem dX7_carryOut_67 : decode cX7_carryOut 67 = .ok (.goto (-48), 3) := by decide +kernel
theorem dX7_carryOut_70 : decode cX7_carryOut 70 = .ok (.aload_n 0, 1) := by decide +kernel
theorem dX7_carryOut_71 : decode cX7_carryOut 71 = .ok (.getfield 197, 3) := by decide +kernel
theorem dX7_carryOut_74 : decode cX7_carryOut 74 = .ok (.ireturn, 1) := by decide +kernel
theorem dX7_blocksWith_0 : decode cX7_blocksWith 0 = .ok (.iconst 0, 1) := by decide +kernel
theorem dX7_blocksWith_1 : decode cX7_blocksWith 1 = .ok (.istore_n 2, 1) := by decide +kernel
theorem dX7_blocksWith_2 : decode cX7_blocksWith 2 = .ok (.iconst 0, 1) := by decide +kernel
theorem dX7_blocksWith_3 : decode cX7_blocksWith 3 = .ok (.istore_n 3, 1) := by decide +kernel
theorem dX7_blocksWith_4 : decode cX7_blocksWith 4 = .ok (.iload_n 3, 1) := by decide +kernel
theorem dX7_blocksWith_5 : decode cX7_blocksWith 5 = .ok (.iconst 2, 1) := by decide +kernel
theorem dX7_blocksWith_6 : decode cX7_blocksWith 6 = .ok (.aload_n 0, 1) := by decide +kernel
theorem dX7_blocksWith_7 : decode cX7_blocksWith 7 = .ok (.invokevirtual 36, 3) := by decide +kernel
theorem dX7_blocksWith_10 : decode cX7_blocksWith 10 = .ok (.imul, 1) := by decide +kernel
theorem dX7_blocksWith_11 : decode cX7_blocksWith 11 = .ok (.if_icmp .ge 55, 3) := by decide +kernel
theorem dX7_blocksWith_14 : decode cX7_blocksWith 14 = .ok (.aload_n 0, 1) := by decide +kernel
theorem dX7_blocksWith_15 : decode cX7_blocksWith 15 = .ok (.getfield 7, 3) := by decide +kernel
theorem dX7_blocksWith_18 : decode cX7_blocksWith 18 = .ok (.bipush 30, 2) := by decide +kernel
theorem dX7_blocksWith_20 : decode cX7_blocksWith 20 = .ok (.iconst 5, 1) := by decide +kernel
theorem dX7_blocksWith_21 : decode cX7_blocksWith 21 = .ok (.iload_n 3, 1) := by decide +kernel
theorem dX7_blocksWith_22 : decode cX7_blocksWith 22 = .ok (.imul, 1) := by decide +kernel
theorem dX7_blocksWith_23 : decode cX7_blocksWith 23 = .ok (.iadd, 1) := by decide +kernel
theorem dX7_blocksWith_24 : decode cX7_blocksWith 24 = .ok (.iload_n 1, 1) := by decide +kernel
theorem dX7_blocksWith_25 : decode cX7_blocksWith 25 = .ok (.iadd, 1) := by decide +kernel
theorem dX7_blocksWith_26 : decode cX7_blocksWith 26 = .ok (.iaload, 1) := by decide +kernel
theorem dX7_blocksWith_27 : decode cX7_blocksWith 27 = .ok (.istore 4, 2) := by decide +kernel
theorem dX7_blocksWith_29 : decode cX7_blocksWith 29 = .ok (.iload_n 2, 1) := by decide +kernel
theorem dX7_blocksWith_30 : decode cX7_blocksWith 30 = .ok (.iload_n 1, 1) := by decide +kernel
theorem dX7_blocksWith_31 : decode cX7_blocksWith 31 = .ok (.iconst 1, 1) := by decide +kernel
theorem dX7_blocksWith_32 : decode cX7_blocksWith 32 = .ok (.if_icmp .ne 16, 3) := by decide +kernel
theorem dX7_blocksWith_35 : decode cX7_blocksWith 35 = .ok (.iload 4, 2) := by decide +kernel
theorem dX7_blocksWith_37 : decode cX7_blocksWith 37 = .ok (.ifCond .lt 7, 3) := by decide +kernel
theorem dX7_blocksWith_40 : decode cX7_blocksWith 40 = .ok (.iconst 1, 1) := by decide +kernel
theorem dX7_blocksWith_41 : decode cX7_blocksWith 41 = .ok (.goto 17, 3) := by decide +kernel
theorem dX7_blocksWith_44 : decode cX7_blocksWith 44 = .ok (.iconst 0, 1) := by decide +kernel
theorem dX7_blocksWith_45 : decode cX7_blocksWith 45 = .ok (.goto 13, 3) := by decide +kernel
theorem dX7_blocksWith_48 : decode cX7_blocksWith 48 = .ok (.iload 4, 2) := by decide +kernel
theorem dX7_blocksWith_50 : decode cX7_blocksWith 50 = .ok (.ifCond .eq 7, 3) := by decide +kernel
theorem dX7_blocksWith_53 : decode cX7_blocksWith 53 = .ok (.iconst 1, 1) := by decide +kernel
theorem dX7_blocksWith_54 : decode cX7_blocksWith 54 = .ok (.goto 4, 3) := by decide +kernel
theorem dX7_blocksWith_57 : decode cX7_blocksWith 57 = .ok (.iconst 0, 1) := by decide +kernel
theorem dX7_blocksWith_58 : decode cX7_blocksWith 58 = .ok (.iadd, 1) := by decide +kernel
theorem dX7_blocksWith_59 : decode cX7_blocksWith 59 = .ok (.istore_n 2, 1) := by decide +kernel
theorem dX7_blocksWith_60 : decode cX7_blocksWith 60 = .ok (.iinc 3 1, 3) := by decide +kernel
theorem dX7_blocksWith_63 : decode cX7_blocksWith 63 = .ok (.goto (-59), 3) := by decide +kernel
theorem dX7_blocksWith_66 : decode cX7_blocksWith 66 = .ok (.iload_n 2, 1) := by decide +kernel
theorem dX7_blocksWith_67 : decode cX7_blocksWith 67 = .ok (.ireturn, 1) := by decide +kernel
theorem dX7_count_0 : decode cX7_count 0 = .ok (.iload_n 1, 1) := by decide +kernel
theorem dX7_count_1 : decode cX7_count 1 = .ok (.tableswitch 121 0 9 #[55, 62, 71, 77, 83, 91, 97, 104, 109, 115], 55) := by decide +kernel
theorem dX7_count_56 : decode cX7_count 56 = .ok (.aload_n 0, 1) := by decide +kernel
theorem dX7_count_57 : decode cX7_count 57 = .ok (.getfield 7, 3) := by decide +kernel
theorem dX7_count_60 : decode cX7_count 60 = .ok (.iconst 0, 1) := by decide +kernel
theorem dX7_count_61 : decode cX7_count 61 = .ok (.iaload, 1) := by decide +kernel
theorem dX7_count_62 : decode cX7_count 62 = .ok (.ireturn, 1) := by decide +kernel
theorem dX7_count_63 : decode cX7_count 63 = .ok (.aload_n 0, 1) := by decide +kernel
theorem dX7_count_64 : decode cX7_count 64 = .ok (.getfield 7, 3) := by decide +kernel
theorem dX7_count_67 : decode cX7_count 67 = .ok (.sipush 381, 3) := by decide +kernel
theorem dX7_count_70 : decode cX7_count 70 = .ok (.iaload, 1) := by decide +kernel
theorem dX7_count_71 : decode cX7_count 71 = .ok (.ireturn, 1) := by decide +kernel
theorem dX7_count_72 : decode cX7_count 72 = .ok (.aload_n 0, 1) := by decide +kernel
theorem dX7_count_73 : decode cX7_count 73 = .ok (.iconst 3, 1) := by decide +kernel
theorem dX7_count_74 : decode cX7_count 74 = .ok (.invokevirtual 165, 3) := by decide +kernel
theorem dX7_count_77 : decode cX7_count 77 = .ok (.ireturn, 1) := by decide +kernel
theorem dX7_count_78 : decode cX7_count 78 = .ok (.aload_n 0, 1) := by decide +kernel
theorem dX7_count_79 : decode cX7_count 79 = .ok (.iconst 2, 1) := by decide +kernel
theorem dX7_count_80 : decode cX7_count 80 = .ok (.invokevirtual 165, 3) := by decide +kernel
theorem dX7_count_83 : decode cX7_count 83 = .ok (.ireturn, 1) := by decide +kernel
theorem dX7_count_84 : decode cX7_count 84 = .ok (.aload_n 0, 1) := by decide +kernel
theorem dX7_count_85 : decode cX7_count 85 = .ok (.getfield 7, 3) := by decide +kernel
theorem dX7_count_88 : decode cX7_count 88 = .ok (.bipush 80, 2) := by decide +kernel
theorem dX7_count_90 : decode cX7_count 90 = .ok (.iaload, 1) := by decide +kernel
theorem dX7_count_91 : decode cX7_count 91 = .ok (.ireturn, 1) := by decide +kernel
theorem dX7_count_92 : decode cX7_count 92 = .ok (.aload_n 0, 1) := by decide +kernel
theorem dX7_count_93 : decode cX7_count 93 = .ok (.iconst 0, 1) := by decide +kernel
theorem dX7_count_94 : decode cX7_count 94 = .ok (.invokevirtual 224, 3) := by decide +kernel
theorem dX7_count_97 : decode cX7_count 97 = .ok (.ireturn, 1) := by decide +kernel
theorem dX7_count_98 : decode cX7_count 98 = .ok (.aload_n 0, 1) := by decide +kernel
theorem dX7_count_99 : decode cX7_count 99 = .ok (.getfield 7, 3) := by decide +kernel
theorem dX7_count_102 : decode cX7_count 102 = .ok (.iconst 1, 1) := by decide +kernel
theorem dX7_count_103 : decode cX7_count 103 = .ok (.iaload, 1) := by decide +kernel
theorem dX7_count_104 : decode cX7_count 104 = .ok (.ireturn, 1) := by decide +kernel
theorem dX7_count_105 : decode cX7_count 105 = .ok (.aload_n 0, 1) := by decide +kernel
theorem dX7_count_106 : decode cX7_count 106 = .ok (.getfield 177, 3) := by decide +kernel
theorem dX7_count_109 : decode cX7_count 109 = .ok (.ireturn, 1) := by decide +kernel
theorem dX7_count_110 : decode cX7_count 110 = .ok (.aload_n 0, 1) := by decide +kernel
theorem dX7_count_111 : decode cX7_count 111 = .ok (.iconst 3, 1) := by decide +kernel
theorem dX7_count_112 : decode cX7_count 112 = .ok (.invokevirtual 224, 3) := by decide +kernel
theorem dX7_count_115 : decode cX7_count 115 = .ok (.ireturn, 1) := by decide +kernel
theorem dX7_count_116 : decode cX7_count 116 = .ok (.aload_n 0, 1) := by decide +kernel
theorem dX7_count_117 : decode cX7_count 117 = .ok (.iconst 1, 1) := by decide +kernel
theorem dX7_count_118 : decode cX7_count 118 = .ok (.invokevirtual 224, 3) := by decide +kernel
theorem dX7_count_121 : decode cX7_count 121 = .ok (.ireturn, 1) := by decide +kernel
theorem dX7_count_122 : decode cX7_count 122 = .ok (.bipush (-2), 2) := by decide +kernel
theorem dX7_count_124 : decode cX7_count 124 = .ok (.ireturn, 1) := by decide +kernel
theorem dX7_save_0 : decode cX7_save 0 = .ok (.iload_n 1, 1) := by decide +kernel
theorem dX7_save_1 : decode cX7_save 1 = .ok (.iconst 0, 1) := by decide +kernel
theorem dX7_save_2 : decode cX7_save 2 = .ok (.iconst 1, 1) := by decide +kernel
theorem dX7_save_3 : decode cX7_save 3 = .ok (.invokestatic 40, 3) := by decide +kernel
theorem dX7_save_6 : decode cX7_save 6 = .ok (.ifCond .ne 6, 3) := by decide +kernel
theorem dX7_save_9 : decode cX7_save 9 = .ok (.bipush (-2), 2) := by decide +kernel
theorem dX7_save_11 : decode cX7_save 11 = .ok (.ireturn, 1) := by decide +kernel
theorem dX7_save_12 : decode cX7_save 12 = .ok (.iconst 0, 1) := by decide +kernel
theorem dX7_save_13 : decode cX7_save 13 = .ok (.istore_n 2, 1) := by decide +kernel
theorem dX7_save_14 : decode cX7_save 14 = .ok (.iload_n 2, 1) := by decide +kernel
theorem dX7_save_15 : decode cX7_save 15 = .ok (.sipush 2862, 3) := by decide +kernel
theorem dX7_save_18 : decode cX7_save 18 = .ok (.if_icmp .ge 27, 3) := by decide +kernel
theorem dX7_save_21 : decode cX7_save 21 = .ok (.aload_n 0, 1) := by decide +kernel
theorem dX7_save_22 : decode cX7_save 22 = .ok (.getfield 16, 3) := by decide +kernel
theorem dX7_save_25 : decode cX7_save 25 = .ok (.sipush 2862, 3) := by decide +kernel
theorem dX7_save_28 : decode cX7_save 28 = .ok (.iload_n 1, 1) := by decide +kernel
theorem dX7_save_29 : decode cX7_save 29 = .ok (.imul, 1) := by decide +kernel
theorem dX7_save_30 : decode cX7_save 30 = .ok (.iload_n 2, 1) := by decide +kernel
theorem dX7_save_31 : decode cX7_save 31 = .ok (.iadd, 1) := by decide +kernel
theorem dX7_save_32 : decode cX7_save 32 = .ok (.aload_n 0, 1) := by decide +kernel
theorem dX7_save_33 : decode cX7_save 33 = .ok (.getfield 7, 3) := by decide +kernel
theorem dX7_save_36 : decode cX7_save 36 = .ok (.iload_n 2, 1) := by decide +kernel
theorem dX7_save_37 : decode cX7_save 37 = .ok (.iaload, 1) := by decide +kernel
theorem dX7_save_38 : decode cX7_save 38 = .ok (.iastore, 1) := by decide +kernel
theorem dX7_save_39 : decode cX7_save 39 = .ok (.iinc 2 1, 3) := by decide +kernel
theorem dX7_save_42 : decode cX7_save 42 = .ok (.goto (-28), 3) := by decide +kernel
theorem dX7_save_45 : decode cX7_save 45 = .ok (.aload_n 0, 1) := by decide +kernel
theorem dX7_save_46 : decode cX7_save 46 = .ok (.getfield 19, 3) := by decide +kernel
theorem dX7_save_49 : decode cX7_save 49 = .ok (.iload_n 1, 1) := by decide +kernel
theorem dX7_save_50 : decode cX7_save 50 = .ok (.iconst 1, 1) := by decide +kernel
theorem dX7_save_51 : decode cX7_save 51 = .ok (.bastore, 1) := by decide +kernel
theorem dX7_save_52 : decode cX7_save 52 = .ok (.aload_n 0, 1) := by decide +kernel
theorem dX7_save_53 : decode cX7_save 53 = .ok (.getfield 7, 3) := by decide +kernel
theorem dX7_save_56 : decode cX7_save 56 = .ok (.iconst 0, 1) := by decide +kernel
theorem dX7_save_57 : decode cX7_save 57 = .ok (.iaload, 1) := by decide +kernel
theorem dX7_save_58 : decode cX7_save 58 = .ok (.ireturn, 1) := by decide +kernel
theorem dX7_restore_0 : decode cX7_restore 0 = .ok (.iload_n 1, 1) := by decide +kernel
theorem dX7_restore_1 : decode cX7_restore 1 = .ok (.iconst 0, 1) := by decide +kernel
theorem dX7_restore_2 : decode cX7_restore 2 = .ok (.iconst 1, 1) := by decide +kernel
theorem dX7_restore_3 : decode cX7_restore 3 = .ok (.invokestatic 40, 3) := by decide +kernel
theorem dX7_restore_6 : decode cX7_restore 6 = .ok (.ifCond .ne 6, 3) := by decide +kernel
theorem dX7_restore_9 : decode cX7_restore 9 = .ok (.bipush (-2), 2) := by decide +kernel
theorem dX7_restore_11 : decode cX7_restore 11 = .ok (.ireturn, 1) := by decide +kernel
theorem dX7_restore_12 : decode cX7_restore 12 = .ok (.aload_n 0, 1) := by decide +kernel
theorem dX7_restore_13 : decode cX7_restore 13 = .ok (.getfield 19, 3) := by decide +kernel
theorem dX7_restore_16 : decode cX7_restore 16 = .ok (.iload_n 1, 1) := by decide +kernel
theorem dX7_restore_17 : decode cX7_restore 17 = .ok (.baload, 1) := by decide +kernel
theorem dX7_restore_18 : decode cX7_restore 18 = .ok (.ifCond .ne 6, 3) := by decide +kernel
theorem dX7_restore_21 : decode cX7_restore 21 = .ok (.bipush (-5), 2) := by decide +kernel
theorem dX7_restore_23 : decode cX7_restore 23 = .ok (.ireturn, 1) := by decide +kernel
theorem dX7_restore_24 : decode cX7_restore 24 = .ok (.iconst 0, 1) := by decide +kernel
theorem dX7_restore_25 : decode cX7_restore 25 = .ok (.istore_n 2, 1) := by decide +kernel
theorem dX7_restore_26 : decode cX7_restore 26 = .ok (.iload_n 2, 1) := by decide +kernel
theorem dX7_restore_27 : decode cX7_restore 27 = .ok (.sipush 2862, 3) := by decide +kernel
theorem dX7_restore_30 : decode cX7_restore 30 = .ok (.if_icmp .ge 27, 3) := by decide +kernel
theorem dX7_restore_33 : decode cX7_restore 33 = .ok (.aload_n 0, 1) := by decide +kernel
theorem dX7_restore_34 : decode cX7_restore 34 = .ok (.getfield 7, 3) := by decide +kernel
theorem dX7_restore_37 : decode cX7_restore 37 = .ok (.iload_n 2, 1) := by decide +kernel
theorem dX7_restore_38 : decode cX7_restore 38 = .ok (.aload_n 0, 1) := by decide +kernel
theorem dX7_restore_39 : decode cX7_restore 39 = .ok (.getfield 16, 3) := by decide +kernel
theorem dX7_restore_42 : decode cX7_restore 42 = .ok (.sipush 2862, 3) := by decide +kernel
theorem dX7_restore_45 : decode cX7_restore 45 = .ok (.iload_n 1, 1) := by decide +kernel
theorem dX7_restore_46 : decode cX7_restore 46 = .ok (.imul, 1) := by decide +kernel
theorem dX7_restore_47 : decode cX7_restore 47 = .ok (.iload_n 2, 1) := by decide +kernel
theorem dX7_restore_48 : decode cX7_restore 48 = .ok (.iadd, 1) := by decide +kernel
theorem dX7_restore_49 : decode cX7_restore 49 = .ok (.iaload, 1) := by decide +kernel
theorem dX7_restore_50 : decode cX7_restore 50 = .ok (.iastore, 1) := by decide +kernel
theorem dX7_restore_51 : decode cX7_restore 51 = .ok (.iinc 2 1, 3) := by decide +kernel
theorem dX7_restore_54 : decode cX7_restore 54 = .ok (.goto (-28), 3) := by decide +kernel
theorem dX7_restore_57 : decode cX7_restore 57 = .ok (.aload_n 0, 1) := by decide +kernel
theorem dX7_restore_58 : decode cX7_restore 58 = .ok (.getfield 7, 3) := by decide +kernel
theorem dX7_restore_61 : decode cX7_restore 61 = .ok (.iconst 0, 1) := by decide +kernel
theorem dX7_restore_62 : decode cX7_restore 62 = .ok (.iaload, 1) := by decide +kernel
theorem dX7_restore_63 : decode cX7_restore 63 = .ok (.ireturn, 1) := by decide +kernel
theorem dJ9_max_7cf53_0 : decode cJ9_max_7cf53 0 = .ok (.iload_n 0, 1) := by decide +kernel
theorem dJ9_max_7cf53_1 : decode cJ9_max_7cf53 1 = .ok (.iload_n 1, 1) := by decide +kernel
theorem dJ9_max_7cf53_2 : decode cJ9_max_7cf53 2 = .ok (.if_icmp .lt 7, 3) := by decide +kernel
theorem dJ9_max_7cf53_5 : decode cJ9_max_7cf53 5 = .ok (.iload_n 0, 1) := by decide +kernel
theorem dJ9_max_7cf53_6 : decode cJ9_max_7cf53 6 = .ok (.goto 4, 3) := by decide +kernel
theorem dJ9_max_7cf53_9 : decode cJ9_max_7cf53 9 = .ok (.iload_n 1, 1) := by decide +kernel
theorem dJ9_max_7cf53_10 : decode cJ9_max_7cf53 10 = .ok (.ireturn, 1) := by decide +kernel
end
section
theorem dL_law_0 : decode cL_law 0 = .ok (.new 7, 3) := by decide +kernel
theorem dL_law_3 : decode cL_law 3 = .ok (.dup, 1) := by decide +kernel
theorem dL_law_4 : decode cL_law 4 = .ok (.invokespecial 9, 3) := by decide +kernel
theorem dL_law_7 : decode cL_law 7 = .ok (.astore_n 1, 1) := by decide +kernel
theorem dL_law_8 : decode cL_law 8 = .ok (.new 10, 3) := by decide +kernel
theorem dL_law_11 : decode cL_law 11 = .ok (.dup, 1) := by decide +kernel
theorem dL_law_12 : decode cL_law 12 = .ok (.invokespecial 12, 3) := by decide +kernel
theorem dL_law_15 : decode cL_law 15 = .ok (.astore_n 2, 1) := by decide +kernel
theorem dL_law_16 : decode cL_law 16 = .ok (.iconst 0, 1) := by decide +kernel
theorem dL_law_17 : decode cL_law 17 = .ok (.istore_n 3, 1) := by decide +kernel
theorem dL_law_18 : decode cL_law 18 = .ok (.iload_n 3, 1) := by decide +kernel
theorem dL_law_19 : decode cL_law 19 = .ok (.aload_n 0, 1) := by decide +kernel
theorem dL_law_20 : decode cL_law 20 = .ok (.arraylength, 1) := by decide +kernel
theorem dL_law_21 : decode cL_law 21 = .ok (.iconst 4, 1) := by decide +kernel
theorem dL_law_22 : decode cL_law 22 = .ok (.isub, 1) := by decide +kernel
theorem dL_law_23 : decode cL_law 23 = .ok (.if_icmp .gt 1138, 3) := by decide +kernel
theorem dL_law_26 : decode cL_law 26 = .ok (.aload_n 0, 1) := by decide +kernel
theorem dL_law_27 : decode cL_law 27 = .ok (.iload_n 3, 1) := by decide +kernel
theorem dL_law_28 : decode cL_law 28 = .ok (.iaload, 1) := by decide +kernel
theorem dL_law_29 : decode cL_law 29 = .ok (.bipush 63, 2) := by decide +kernel
theorem dL_law_31 : decode cL_law 31 = .ok (.iand, 1) := by decide +kernel
theorem dL_law_32 : decode cL_law 32 = .ok (.tableswitch 1123 0 32 #[148, 181, 214, 257, 290, 323, 366, 399, 432, 455, 478, 501, 524, 583, 616, 639, 672, 705, 738, 771, 804, 827, 860, 893, 916, 949, 992, 1015, 1028, 1041, 1054, 1077, 1100], 148) := by decide +kernel
theorem dL_law_180 : decode cL_law 180 = .ok (.aload_n 1, 1) := by decide +kernel
theorem dL_law_181 : decode cL_law 181 = .ok (.aload_n 0, 1) := by decide +kernel
theorem dL_law_182 : decode cL_law 182 = .ok (.iload_n 3, 1) := by decide +kernel
theorem dL_law_183 : decode cL_law 183 = .ok (.iconst 1, 1) := by decide +kernel
theorem dL_law_184 : decode cL_law 184 = .ok (.iadd, 1) := by decide +kernel
theorem dL_law_185 : decode cL_law 185 = .ok (.iaload, 1) := by decide +kernel
theorem dL_law_186 : decode cL_law 186 = .ok (.aload_n 0, 1) := by decide +kernel
theorem dL_law_187 : decode cL_law 187 = .ok (.iload_n 3, 1) := by decide +kernel
theorem dL_law_188 : decode cL_law 188 = .ok (.iconst 2, 1) := by decide +kernel
theorem dL_law_189 : decode cL_law 189 = .ok (.iadd, 1) := by decide +kernel
theorem dL_law_190 : decode cL_law 190 = .ok (.iaload, 1) := by decide +kernel
theorem dL_law_191 : decode cL_law 191 = .ok (.invokevirtual 13, 3) := by decide +kernel
theorem dL_law_194 : decode cL_law 194 = .ok (.aload_n 2, 1) := by decide +kernel
theorem dL_law_195 : decode cL_law 195 = .ok (.aload_n 0, 1) := by decide +kernel
theorem dL_law_196 : decode cL_law 196 = .ok (.iload_n 3, 1) := by decide +kernel
theorem dL_law_197 : decode cL_law 197 = .ok (.iconst 1, 1) := by decide +kernel
theorem dL_law_198 : decode cL_law 198 = .ok (.iadd, 1) := by decide +kernel
theorem dL_law_199 : decode cL_law 199 = .ok (.iaload, 1) := by decide +kernel
theorem dL_law_200 : decode cL_law 200 = .ok (.aload_n 0, 1) := by decide +kernel
theorem dL_law_201 : decode cL_law 201 = .ok (.iload_n 3, 1) := by decide +kernel
theorem dL_law_202 : decode cL_law 202 = .ok (.iconst 2, 1) := by decide +kernel
theorem dL_law_203 : decode cL_law 203 = .ok (.iadd, 1) := by decide +kernel
theorem dL_law_204 : decode cL_law 204 = .ok (.iaload, 1) := by decide +kernel
theorem dL_law_205 : decode cL_law 205 = .ok (.invokevirtual 17, 3) := by decide +kernel
theorem dL_law_208 : decode cL_law 208 = .ok (.if_icmp .eq 947, 3) := by decide +kernel
theorem dL_law_211 : decode cL_law 211 = .ok (.iconst 0, 1) := by decide +kernel
theorem dL_law_212 : decode cL_law 212 = .ok (.ireturn, 1) := by decide +kernel
theorem dL_law_213 : decode cL_law 213 = .ok (.aload_n 1, 1) := by decide +kernel
theorem dL_law_214 : decode cL_law 214 = .ok (.aload_n 0, 1) := by decide +kernel
theorem dL_law_215 : decode cL_law 215 = .ok (.iload_n 3, 1) := by decide +kernel
theorem dL_law_216 : decode cL_law 216 = .ok (.iconst 1, 1) := by decide +kernel
theorem dL_law_217 : decode cL_law 217 = .ok (.iadd, 1) := by decide +kernel
theorem dL_law_218 : decode cL_law 218 = .ok (.iaload, 1) := by decide +kernel
theorem dL_law_219 : decode cL_law 219 = .ok (.aload_n 0, 1) := by decide +kernel
theorem dL_law_220 : decode cL_law 220 = .ok (.iload_n 3, 1) := by decide +kernel
theorem dL_law_221 : decode cL_law 221 = .ok (.iconst 2, 1) := by decide +kernel
theorem dL_law_222 : decode cL_law 222 = .ok (.iadd, 1) := by decide +kernel
theorem dL_law_223 : decode cL_law 223 = .ok (.iaload, 1) := by decide +kernel
theorem dL_law_224 : decode cL_law 224 = .ok (.invokevirtual 18, 3) := by decide +kernel
theorem dL_law_227 : decode cL_law 227 = .ok (.aload_n 2, 1) := by decide +kernel
theorem dL_law_228 : decode cL_law 228 = .ok (.aload_n 0, 1) := by decide +kernel
theorem dL_law_229 : decode cL_law 229 = .ok (.iload_n 3, 1) := by decide +kernel
theorem dL_law_230 : decode cL_law 230 = .ok (.iconst 1, 1) := by decide +kernel
theorem dL_law_231 : decode cL_law 231 = .ok (.iadd, 1) := by decide +kernel
theorem dL_law_232 : decode cL_law 232 = .ok (.iaload, 1) := by decide +kernel
theorem dL_law_233 : decode cL_law 233 = .ok (.aload_n 0, 1) := by decide +kernel
theorem dL_law_234 : decode cL_law 234 = .ok (.iload_n 3, 1) := by decide +kernel
theorem dL_law_235 : decode cL_law 235 = .ok (.iconst 2, 1) := by decide +kernel
theorem dL_law_236 : decode cL_law 236 = .ok (.iadd, 1) := by decide +kernel
theorem dL_law_237 : decode cL_law 237 = .ok (.iaload, 1) := by decide +kernel
theorem dL_law_238 : decode cL_law 238 = .ok (.invokevirtual 21, 3) := by decide +kernel
theorem dL_law_241 : decode cL_law 241 = .ok (.if_icmp .eq 914, 3) := by decide +kernel
theorem dL_law_244 : decode cL_law 244 = .ok (.iconst 0, 1) := by decide +kernel
theorem dL_law_245 : decode cL_law 245 = .ok (.ireturn, 1) := by decide +kernel
theorem dL_law_246 : decode cL_law 246 = .ok (.aload_n 1, 1) := by decide +kernel
theorem dL_law_247 : decode cL_law 247 = .ok (.aload_n 0, 1) := by decide +kernel
theorem dL_law_248 : decode cL_law 248 = .ok (.iload_n 3, 1) := by decide +kernel
theorem dL_law_249 : decode cL_law 249 = .ok (.iconst 1, 1) := by decide +kernel
theorem dL_law_250 : decode cL_law 250 = .ok (.iadd, 1) := by decide +kernel
theorem dL_law_251 : decode cL_law 251 = .ok (.iaload, 1) := by decide +kernel
theorem dL_law_252 : decode cL_law 252 = .ok (.aload_n 0, 1) := by decide +kernel
theorem dL_law_253 : decode cL_law 253 = .ok (.iload_n 3, 1) := by decide +kernel
theorem dL_law_254 : decode cL_law 254 = .ok (.iconst 2, 1) := by decide +kernel
theorem dL_law_255 : decode cL_law 255 = .ok (.iadd, 1) := by decide +kernel
theorem dL_law_256 : decode cL_law 256 = .ok (.iaload, 1) := by decide +kernel
theorem dL_law_257 : decode cL_law 257 = .ok (.aload_n 0, 1) := by decide +kernel
theorem dL_law_258 : decode cL_law 258 = .ok (.iload_n 3, 1) := by decide +kernel
theorem dL_law_259 : decode cL_law 259 = .ok (.iconst 3, 1) := by decide +kernel
theorem dL_law_260 : decode cL_law 260 = .ok (.iadd, 1) := by decide +kernel
theorem dL_law_261 : decode cL_law 261 = .ok (.iaload, 1) := by decide +kernel
theorem dL_law_262 : decode cL_law 262 = .ok (.invokevirtual 22, 3) := by decide +kernel
theorem dL_law_265 : decode cL_law 265 = .ok (.aload_n 2, 1) := by decide +kernel
theorem dL_law_266 : decode cL_law 266 = .ok (.aload_n 0, 1) := by decide +kernel
theorem dL_law_267 : decode cL_law 267 = .ok (.iload_n 3, 1) := by decide +kernel
theorem dL_law_268 : decode cL_law 268 = .ok (.iconst 1, 1) := by decide +kernel
theorem dL_law_269 : decode cL_law 269 = .ok (.iadd, 1) := by decide +kernel
theorem dL_law_270 : decode cL_law 270 = .ok (.iaload, 1) := by decide +kernel
theorem dL_law_271 : decode cL_law 271 = .ok (.aload_n 0, 1) := by decide +kernel
theorem dL_law_272 : decode cL_law 272 = .ok (.iload_n 3, 1) := by decide +kernel
theorem dL_law_273 : decode cL_law 273 = .ok (.iconst 2, 1) := by decide +kernel
theorem dL_law_274 : decode cL_law 274 = .ok (.iadd, 1) := by decide +kernel
theorem dL_law_275 : decode cL_law 275 = .ok (.iaload, 1) := by decide +kernel
theorem dL_law_276 : decode cL_law 276 = .ok (.aload_n 0, 1) := by decide +kernel
theorem dL_law_277 : decode cL_law 277 = .ok (.iload_n 3, 1) := by decide +kernel
theorem dL_law_278 : decode cL_law 278 = .ok (.iconst 3, 1) := by decide +kernel
theorem dL_law_279 : decode cL_law 279 = .ok (.iadd, 1) := by decide +kernel
theorem dL_law_280 : decode cL_law 280 = .ok (.iaload, 1) := by decide +kernel
theorem dL_law_281 : decode cL_law 281 = .ok (.invokevirtual 26, 3) := by decide +kernel
theorem dL_law_284 : decode cL_law 284 = .ok (.if_icmp .eq 871, 3) := by decide +kernel
theorem dL_law_287 : decode cL_law 287 = .ok (.iconst 0, 1) := by decide +kernel
theorem dL_law_288 : decode cL_law 288 = .ok (.ireturn, 1) := by decide +kernel
theorem dL_law_289 : decode cL_law 289 = .ok (.aload_n 1, 1) := by decide +kernel
theorem dL_law_290 : decode cL_law 290 = .ok (.aload_n 0, 1) := by decide +kernel
theorem dL_law_291 : decode cL_law 291 = .ok (.iload_n 3, 1) := by decide +kernel
theorem dL_law_292 : decode cL_law 292 = .ok (.iconst 1, 1) := by decide +kernel
theorem dL_law_293 : decode cL_law 293 = .ok (.iadd, 1) := by decide +kernel
theorem dL_law_294 : decode cL_law 294 = .ok (.iaload, 1) := by decide +kernel
theorem dL_law_295 : decode cL_law 295 = .ok (.aload_n 0, 1) := by decide +kernel
theorem dL_law_296 : decode cL_law 296 = .ok (.iload_n 3, 1) := by decide +kernel
theorem dL_law_297 : decode cL_law 297 = .ok (.iconst 2, 1) := by decide +kernel
theorem dL_law_298 : decode cL_law 298 = .ok (.iadd, 1) := by decide +kernel
theorem dL_law_299 : decode cL_law 299 = .ok (.iaload, 1) := by decide +kernel
theorem dL_law_300 : decode cL_law 300 = .ok (.invokevirtual 27, 3) := by decide +kernel
theorem dL_law_303 : decode cL_law 303 = .ok (.aload_n 2, 1) := by decide +kernel
theorem dL_law_304 : decode cL_law 304 = .ok (.aload_n 0, 1) := by decide +kernel
theorem dL_law_305 : decode cL_law 305 = .ok (.iload_n 3, 1) := by decide +kernel
theorem dL_law_306 : decode cL_law 306 = .ok (.iconst 1, 1) := by decide +kernel
theorem dL_law_307 : decode cL_law 307 = .ok (.iadd, 1) := by decide +kernel
theorem dL_law_308 : decode cL_law 308 = .ok (.iaload, 1) := by decide +kernel
theorem dL_law_309 : decode cL_law 309 = .ok (.aload_n 0, 1) := by decide +kernel
theorem dL_law_310 : decode cL_law 310 = .ok (.iload_n 3, 1) := by decide +kernel
theorem dL_law_311 : decode cL_law 311 = .ok (.iconst 2, 1) := by decide +kernel
theorem dL_law_312 : decode cL_law 312 = .ok (.iadd, 1) := by decide +kernel
theorem dL_law_313 : decode cL_law 313 = .ok (.iaload, 1) := by decide +kernel
theorem dL_law_314 : decode cL_law 314 = .ok (.invokevirtual 30, 3) := by decide +kernel
theorem dL_law_317 : decode cL_law 317 = .ok (.if_icmp .eq 838, 3) := by decide +kernel
theorem dL_law_320 : decode cL_law 320 = .ok (.iconst 0, 1) := by decide +kernel
theorem dL_law_321 : decode cL_law 321 = .ok (.ireturn, 1) := by decide +kernel
theorem dL_law_322 : decode cL_law 322 = .ok (.aload_n 1, 1) := by decide +kernel
theorem dL_law_323 : decode cL_law 323 = .ok (.aload_n 0, 1) := by decide +kernel
theorem dL_law_324 : decode cL_law 324 = .ok (.iload_n 3, 1) := by decide +kernel
theorem dL_law_325 : decode cL_law 325 = .ok (.iconst 1, 1) := by decide +kernel
theorem dL_law_326 : decode cL_law 326 = .ok (.iadd, 1) := by decide +kernel
theorem dL_law_327 : decode cL_law 327 = .ok (.iaload, 1) := by decide +kernel
theorem dL_law_328 : decode cL_law 328 = .ok (.aload_n 0, 1) := by decide +kernel
theorem dL_law_329 : decode cL_law 329 = .ok (.iload_n 3, 1) := by decide +kernel
theorem dL_law_330 : decode cL_law 330 = .ok (.iconst 2, 1) := by decide +kernel
theorem dL_law_331 : decode cL_law 331 = .ok (.iadd, 1) := by decide +kernel
theorem dL_law_332 : decode cL_law 332 = .ok (.iaload, 1) := by decide +kernel
theorem dL_law_333 : decode cL_law 333 = .ok (.invokevirtual 31, 3) := by decide +kernel
theorem dL_law_336 : decode cL_law 336 = .ok (.aload_n 2, 1) := by decide +kernel
theorem dL_law_337 : decode cL_law 337 = .ok (.aload_n 0, 1) := by decide +kernel
theorem dL_law_338 : decode cL_law 338 = .ok (.iload_n 3, 1) := by decide +kernel
theorem dL_law_339 : decode cL_law 339 = .ok (.iconst 1, 1) := by decide +kernel
theorem dL_law_340 : decode cL_law 340 = .ok (.iadd, 1) := by decide +kernel
theorem dL_law_341 : decode cL_law 341 = .ok (.iaload, 1) := by decide +kernel
theorem dL_law_342 : decode cL_law 342 = .ok (.aload_n 0, 1) := by decide +kernel
theorem dL_law_343 : decode cL_law 343 = .ok (.iload_n 3, 1) := by decide +kernel
theorem dL_law_344 : decode cL_law 344 = .ok (.iconst 2, 1) := by decide +kernel
theorem dL_law_345 : decode cL_law 345 = .ok (.iadd, 1) := by decide +kernel
theorem dL_law_346 : decode cL_law 346 = .ok (.iaload, 1) := by decide +kernel
theorem dL_law_347 : decode cL_law 347 = .ok (.invokevirtual 34, 3) := by decide +kernel
theorem dL_law_350 : decode cL_law 350 = .ok (.if_icmp .eq 805, 3) := by decide +kernel
theorem dL_law_353 : decode cL_law 353 = .ok (.iconst 0, 1) := by decide +kernel
theorem dL_law_354 : decode cL_law 354 = .ok (.ireturn, 1) := by decide +kernel
theorem dL_law_355 : decode cL_law 355 = .ok (.aload_n 1, 1) := by decide +kernel
theorem dL_law_356 : decode cL_law 356 = .ok (.aload_n 0, 1) := by decide +kernel
theorem dL_law_357 : decode cL_law 357 = .ok (.iload_n 3, 1) := by decide +kernel
theorem dL_law_358 : decode cL_law 358 = .ok (.iconst 1, 1) := by decide +kernel
theorem dL_law_359 : decode cL_law 359 = .ok (.iadd, 1) := by decide +kernel
theorem dL_law_360 : decode cL_law 360 = .ok (.iaload, 1) := by decide +kernel
theorem dL_law_361 : decode cL_law 361 = .ok (.aload_n 0, 1) := by decide +kernel
theorem dL_law_362 : decode cL_law 362 = .ok (.iload_n 3, 1) := by decide +kernel
theorem dL_law_363 : decode cL_law 363 = .ok (.iconst 2, 1) := by decide +kernel
theorem dL_law_364 : decode cL_law 364 = .ok (.iadd, 1) := by decide +kernel
theorem dL_law_365 : decode cL_law 365 = .ok (.iaload, 1) := by decide +kernel
theorem dL_law_366 : decode cL_law 366 = .ok (.aload_n 0, 1) := by decide +kernel
theorem dL_law_367 : decode cL_law 367 = .ok (.iload_n 3, 1) := by decide +kernel
theorem dL_law_368 : decode cL_law 368 = .ok (.iconst 3, 1) := by decide +kernel
theorem dL_law_369 : decode cL_law 369 = .ok (.iadd, 1) := by decide +kernel
theorem dL_law_370 : decode cL_law 370 = .ok (.iaload, 1) := by decide +kernel
theorem dL_law_371 : decode cL_law 371 = .ok (.invokevirtual 35, 3) := by decide +kernel
theorem dL_law_374 : decode cL_law 374 = .ok (.aload_n 2, 1) := by decide +kernel
theorem dL_law_375 : decode cL_law 375 = .ok (.aload_n 0, 1) := by decide +kernel
theorem dL_law_376 : decode cL_law 376 = .ok (.iload_n 3, 1) := by decide +kernel
theorem dL_law_377 : decode cL_law 377 = .ok (.iconst 1, 1) := by decide +kernel
theorem dL_law_378 : decode cL_law 378 = .ok (.iadd, 1) := by decide +kernel
theorem dL_law_379 : decode cL_law 379 = .ok (.iaload, 1) := by decide +kernel
theorem dL_law_380 : decode cL_law 380 = .ok (.aload_n 0, 1) := by decide +kernel
theorem dL_law_381 : decode cL_law 381 = .ok (.iload_n 3, 1) := by decide +kernel
theorem dL_law_382 : decode cL_law 382 = .ok (.iconst 2, 1) := by decide +kernel
theorem dL_law_383 : decode cL_law 383 = .ok (.iadd, 1) := by decide +kernel
theorem dL_law_384 : decode cL_law 384 = .ok (.iaload, 1) := by decide +kernel
theorem dL_law_385 : decode cL_law 385 = .ok (.aload_n 0, 1) := by decide +kernel
theorem dL_law_386 : decode cL_law 386 = .ok (.iload_n 3, 1) := by decide +kernel
theorem dL_law_387 : decode cL_law 387 = .ok (.iconst 3, 1) := by decide +kernel
theorem dL_law_388 : decode cL_law 388 = .ok (.iadd, 1) := by decide +kernel
theorem dL_law_389 : decode cL_law 389 = .ok (.iaload, 1) := by decide +kernel
end
section
theorem dL_law_390 : decode cL_law 390 = .ok (.invokevirtual 38, 3) := by decide +kernel
theorem dL_law_393 : decode cL_law 393 = .ok (.if_icmp .eq 762, 3) := by decide +kernel
theorem dL_law_396 : decode cL_law 396 = .ok (.iconst 0, 1) := by decide +kernel
theorem dL_law_397 : decode cL_law 397 = .ok (.ireturn, 1) := by decide +kernel
theorem dL_law_398 : decode cL_law 398 = .ok (.aload_n 1, 1) := by decide +kernel
theorem dL_law_399 : decode cL_law 399 = .ok (.aload_n 0, 1) := by decide +kernel
theorem dL_law_400 : decode cL_law 400 = .ok (.iload_n 3, 1) := by decide +kernel
theorem dL_law_401 : decode cL_law 401 = .ok (.iconst 1, 1) := by decide +kernel
theorem dL_law_402 : decode cL_law 402 = .ok (.iadd, 1) := by decide +kernel
theorem dL_law_403 : decode cL_law 403 = .ok (.iaload, 1) := by decide +kernel
theorem dL_law_404 : decode cL_law 404 = .ok (.aload_n 0, 1) := by decide +kernel
theorem dL_law_405 : decode cL_law 405 = .ok (.iload_n 3, 1) := by decide +kernel
theorem dL_law_406 : decode cL_law 406 = .ok (.iconst 2, 1) := by decide +kernel
theorem dL_law_407 : decode cL_law 407 = .ok (.iadd, 1) := by decide +kernel
theorem dL_law_408 : decode cL_law 408 = .ok (.iaload, 1) := by decide +kernel
theorem dL_law_409 : decode cL_law 409 = .ok (.invokevirtual 39, 3) := by decide +kernel
theorem dL_law_412 : decode cL_law 412 = .ok (.aload_n 2, 1) := by decide +kernel
theorem dL_law_413 : decode cL_law 413 = .ok (.aload_n 0, 1) := by decide +kernel
theorem dL_law_414 : decode cL_law 414 = .ok (.iload_n 3, 1) := by decide +kernel
theorem dL_law_415 : decode cL_law 415 = .ok (.iconst 1, 1) := by decide +kernel
theorem dL_law_416 : decode cL_law 416 = .ok (.iadd, 1) := by decide +kernel
theorem dL_law_417 : decode cL_law 417 = .ok (.iaload, 1) := by decide +kernel
theorem dL_law_418 : decode cL_law 418 = .ok (.aload_n 0, 1) := by decide +kernel
theorem dL_law_419 : decode cL_law 419 = .ok (.iload_n 3, 1) := by decide +kernel
theorem dL_law_420 : decode cL_law 420 = .ok (.iconst 2, 1) := by decide +kernel
theorem dL_law_421 : decode cL_law 421 = .ok (.iadd, 1) := by decide +kernel
theorem dL_law_422 : decode cL_law 422 = .ok (.iaload, 1) := by decide +kernel
theorem dL_law_423 : decode cL_law 423 = .ok (.invokevirtual 42, 3) := by decide +kernel
theorem dL_law_426 : decode cL_law 426 = .ok (.if_icmp .eq 729, 3) := by decide +kernel
theorem dL_law_429 : decode cL_law 429 = .ok (.iconst 0, 1) := by decide +kernel
theorem dL_law_430 : decode cL_law 430 = .ok (.ireturn, 1) := by decide +kernel
theorem dL_law_431 : decode cL_law 431 = .ok (.aload_n 1, 1) := by decide +kernel
theorem dL_law_432 : decode cL_law 432 = .ok (.aload_n 0, 1) := by decide +kernel
theorem dL_law_433 : decode cL_law 433 = .ok (.iload_n 3, 1) := by decide +kernel
theorem dL_law_434 : decode cL_law 434 = .ok (.iconst 1, 1) := by decide +kernel
theorem dL_law_435 : decode cL_law 435 = .ok (.iadd, 1) := by decide +kernel
theorem dL_law_436 : decode cL_law 436 = .ok (.iaload, 1) := by decide +kernel
theorem dL_law_437 : decode cL_law 437 = .ok (.aload_n 0, 1) := by decide +kernel
theorem dL_law_438 : decode cL_law 438 = .ok (.iload_n 3, 1) := by decide +kernel
theorem dL_law_439 : decode cL_law 439 = .ok (.iconst 2, 1) := by decide +kernel
theorem dL_law_440 : decode cL_law 440 = .ok (.iadd, 1) := by decide +kernel
theorem dL_law_441 : decode cL_law 441 = .ok (.iaload, 1) := by decide +kernel
theorem dL_law_442 : decode cL_law 442 = .ok (.invokevirtual 43, 3) := by decide +kernel
theorem dL_law_445 : decode cL_law 445 = .ok (.aload_n 2, 1) := by decide +kernel
theorem dL_law_446 : decode cL_law 446 = .ok (.aload_n 0, 1) := by decide +kernel
theorem dL_law_447 : decode cL_law 447 = .ok (.iload_n 3, 1) := by decide +kernel
theorem dL_law_448 : decode cL_law 448 = .ok (.iconst 1, 1) := by decide +kernel
theorem dL_law_449 : decode cL_law 449 = .ok (.iadd, 1) := by decide +kernel
theorem dL_law_450 : decode cL_law 450 = .ok (.iaload, 1) := by decide +kernel
theorem dL_law_451 : decode cL_law 451 = .ok (.aload_n 0, 1) := by decide +kernel
theorem dL_law_452 : decode cL_law 452 = .ok (.iload_n 3, 1) := by decide +kernel
theorem dL_law_453 : decode cL_law 453 = .ok (.iconst 2, 1) := by decide +kernel
theorem dL_law_454 : decode cL_law 454 = .ok (.iadd, 1) := by decide +kernel
theorem dL_law_455 : decode cL_law 455 = .ok (.iaload, 1) := by decide +kernel
theorem dL_law_456 : decode cL_law 456 = .ok (.invokevirtual 46, 3) := by decide +kernel
theorem dL_law_459 : decode cL_law 459 = .ok (.if_icmp .eq 696, 3) := by decide +kernel
theorem dL_law_462 : decode cL_law 462 = .ok (.iconst 0, 1) := by decide +kernel
theorem dL_law_463 : decode cL_law 463 = .ok (.ireturn, 1) := by decide +kernel
theorem dL_law_464 : decode cL_law 464 = .ok (.aload_n 1, 1) := by decide +kernel
theorem dL_law_465 : decode cL_law 465 = .ok (.aload_n 0, 1) := by decide +kernel
theorem dL_law_466 : decode cL_law 466 = .ok (.iload_n 3, 1) := by decide +kernel
theorem dL_law_467 : decode cL_law 467 = .ok (.iconst 1, 1) := by decide +kernel
theorem dL_law_468 : decode cL_law 468 = .ok (.iadd, 1) := by decide +kernel
theorem dL_law_469 : decode cL_law 469 = .ok (.iaload, 1) := by decide +kernel
theorem dL_law_470 : decode cL_law 470 = .ok (.invokevirtual 47, 3) := by decide +kernel
theorem dL_law_473 : decode cL_law 473 = .ok (.aload_n 2, 1) := by decide +kernel
theorem dL_law_474 : decode cL_law 474 = .ok (.aload_n 0, 1) := by decide +kernel
theorem dL_law_475 : decode cL_law 475 = .ok (.iload_n 3, 1) := by decide +kernel
theorem dL_law_476 : decode cL_law 476 = .ok (.iconst 1, 1) := by decide +kernel
theorem dL_law_477 : decode cL_law 477 = .ok (.iadd, 1) := by decide +kernel
theorem dL_law_478 : decode cL_law 478 = .ok (.iaload, 1) := by decide +kernel
theorem dL_law_479 : decode cL_law 479 = .ok (.invokevirtual 51, 3) := by decide +kernel
theorem dL_law_482 : decode cL_law 482 = .ok (.if_icmp .eq 673, 3) := by decide +kernel
theorem dL_law_485 : decode cL_law 485 = .ok (.iconst 0, 1) := by decide +kernel
theorem dL_law_486 : decode cL_law 486 = .ok (.ireturn, 1) := by decide +kernel
theorem dL_law_487 : decode cL_law 487 = .ok (.aload_n 1, 1) := by decide +kernel
theorem dL_law_488 : decode cL_law 488 = .ok (.aload_n 0, 1) := by decide +kernel
theorem dL_law_489 : decode cL_law 489 = .ok (.iload_n 3, 1) := by decide +kernel
theorem dL_law_490 : decode cL_law 490 = .ok (.iconst 1, 1) := by decide +kernel
theorem dL_law_491 : decode cL_law 491 = .ok (.iadd, 1) := by decide +kernel
theorem dL_law_492 : decode cL_law 492 = .ok (.iaload, 1) := by decide +kernel
theorem dL_law_493 : decode cL_law 493 = .ok (.invokevirtual 52, 3) := by decide +kernel
theorem dL_law_496 : decode cL_law 496 = .ok (.aload_n 2, 1) := by decide +kernel
theorem dL_law_497 : decode cL_law 497 = .ok (.aload_n 0, 1) := by decide +kernel
theorem dL_law_498 : decode cL_law 498 = .ok (.iload_n 3, 1) := by decide +kernel
theorem dL_law_499 : decode cL_law 499 = .ok (.iconst 1, 1) := by decide +kernel
theorem dL_law_500 : decode cL_law 500 = .ok (.iadd, 1) := by decide +kernel
theorem dL_law_501 : decode cL_law 501 = .ok (.iaload, 1) := by decide +kernel
theorem dL_law_502 : decode cL_law 502 = .ok (.invokevirtual 55, 3) := by decide +kernel
theorem dL_law_505 : decode cL_law 505 = .ok (.if_icmp .eq 650, 3) := by decide +kernel
theorem dL_law_508 : decode cL_law 508 = .ok (.iconst 0, 1) := by decide +kernel
theorem dL_law_509 : decode cL_law 509 = .ok (.ireturn, 1) := by decide +kernel
theorem dL_law_510 : decode cL_law 510 = .ok (.aload_n 1, 1) := by decide +kernel
theorem dL_law_511 : decode cL_law 511 = .ok (.aload_n 0, 1) := by decide +kernel
theorem dL_law_512 : decode cL_law 512 = .ok (.iload_n 3, 1) := by decide +kernel
theorem dL_law_513 : decode cL_law 513 = .ok (.iconst 1, 1) := by decide +kernel
theorem dL_law_514 : decode cL_law 514 = .ok (.iadd, 1) := by decide +kernel
theorem dL_law_515 : decode cL_law 515 = .ok (.iaload, 1) := by decide +kernel
theorem dL_law_516 : decode cL_law 516 = .ok (.invokevirtual 56, 3) := by decide +kernel
theorem dL_law_519 : decode cL_law 519 = .ok (.aload_n 2, 1) := by decide +kernel
theorem dL_law_520 : decode cL_law 520 = .ok (.aload_n 0, 1) := by decide +kernel
theorem dL_law_521 : decode cL_law 521 = .ok (.iload_n 3, 1) := by decide +kernel
theorem dL_law_522 : decode cL_law 522 = .ok (.iconst 1, 1) := by decide +kernel
theorem dL_law_523 : decode cL_law 523 = .ok (.iadd, 1) := by decide +kernel
theorem dL_law_524 : decode cL_law 524 = .ok (.iaload, 1) := by decide +kernel
theorem dL_law_525 : decode cL_law 525 = .ok (.invokevirtual 59, 3) := by decide +kernel
theorem dL_law_528 : decode cL_law 528 = .ok (.if_icmp .eq 627, 3) := by decide +kernel
theorem dL_law_531 : decode cL_law 531 = .ok (.iconst 0, 1) := by decide +kernel
theorem dL_law_532 : decode cL_law 532 = .ok (.ireturn, 1) := by decide +kernel
theorem dL_law_533 : decode cL_law 533 = .ok (.aload_n 1, 1) := by decide +kernel
theorem dL_law_534 : decode cL_law 534 = .ok (.aload_n 0, 1) := by decide +kernel
theorem dL_law_535 : decode cL_law 535 = .ok (.iload_n 3, 1) := by decide +kernel
theorem dL_law_536 : decode cL_law 536 = .ok (.iconst 1, 1) := by decide +kernel
theorem dL_law_537 : decode cL_law 537 = .ok (.iadd, 1) := by decide +kernel
theorem dL_law_538 : decode cL_law 538 = .ok (.iaload, 1) := by decide +kernel
theorem dL_law_539 : decode cL_law 539 = .ok (.invokevirtual 60, 3) := by decide +kernel
theorem dL_law_542 : decode cL_law 542 = .ok (.aload_n 2, 1) := by decide +kernel
theorem dL_law_543 : decode cL_law 543 = .ok (.aload_n 0, 1) := by decide +kernel
theorem dL_law_544 : decode cL_law 544 = .ok (.iload_n 3, 1) := by decide +kernel
theorem dL_law_545 : decode cL_law 545 = .ok (.iconst 1, 1) := by decide +kernel
theorem dL_law_546 : decode cL_law 546 = .ok (.iadd, 1) := by decide +kernel
theorem dL_law_547 : decode cL_law 547 = .ok (.iaload, 1) := by decide +kernel
theorem dL_law_548 : decode cL_law 548 = .ok (.invokevirtual 63, 3) := by decide +kernel
theorem dL_law_551 : decode cL_law 551 = .ok (.if_icmp .eq 604, 3) := by decide +kernel
theorem dL_law_554 : decode cL_law 554 = .ok (.iconst 0, 1) := by decide +kernel
theorem dL_law_555 : decode cL_law 555 = .ok (.ireturn, 1) := by decide +kernel
theorem dL_law_556 : decode cL_law 556 = .ok (.aload_n 1, 1) := by decide +kernel
theorem dL_law_557 : decode cL_law 557 = .ok (.aload_n 0, 1) := by decide +kernel
theorem dL_law_558 : decode cL_law 558 = .ok (.iload_n 3, 1) := by decide +kernel
theorem dL_law_559 : decode cL_law 559 = .ok (.iconst 1, 1) := by decide +kernel
theorem dL_law_560 : decode cL_law 560 = .ok (.iadd, 1) := by decide +kernel
theorem dL_law_561 : decode cL_law 561 = .ok (.iaload, 1) := by decide +kernel
theorem dL_law_562 : decode cL_law 562 = .ok (.aload_n 0, 1) := by decide +kernel
theorem dL_law_563 : decode cL_law 563 = .ok (.iload_n 3, 1) := by decide +kernel
theorem dL_law_564 : decode cL_law 564 = .ok (.iconst 2, 1) := by decide +kernel
theorem dL_law_565 : decode cL_law 565 = .ok (.iadd, 1) := by decide +kernel
theorem dL_law_566 : decode cL_law 566 = .ok (.iaload, 1) := by decide +kernel
theorem dL_law_567 : decode cL_law 567 = .ok (.aload_n 0, 1) := by decide +kernel
theorem dL_law_568 : decode cL_law 568 = .ok (.iload_n 3, 1) := by decide +kernel
theorem dL_law_569 : decode cL_law 569 = .ok (.iconst 3, 1) := by decide +kernel
theorem dL_law_570 : decode cL_law 570 = .ok (.iadd, 1) := by decide +kernel
theorem dL_law_571 : decode cL_law 571 = .ok (.iaload, 1) := by decide +kernel
theorem dL_law_572 : decode cL_law 572 = .ok (.ifCond .eq 7, 3) := by decide +kernel
theorem dL_law_575 : decode cL_law 575 = .ok (.iconst 1, 1) := by decide +kernel
theorem dL_law_576 : decode cL_law 576 = .ok (.goto 4, 3) := by decide +kernel
theorem dL_law_579 : decode cL_law 579 = .ok (.iconst 0, 1) := by decide +kernel
theorem dL_law_580 : decode cL_law 580 = .ok (.invokevirtual 64, 3) := by decide +kernel
theorem dL_law_583 : decode cL_law 583 = .ok (.aload_n 2, 1) := by decide +kernel
theorem dL_law_584 : decode cL_law 584 = .ok (.aload_n 0, 1) := by decide +kernel
theorem dL_law_585 : decode cL_law 585 = .ok (.iload_n 3, 1) := by decide +kernel
theorem dL_law_586 : decode cL_law 586 = .ok (.iconst 1, 1) := by decide +kernel
theorem dL_law_587 : decode cL_law 587 = .ok (.iadd, 1) := by decide +kernel
theorem dL_law_588 : decode cL_law 588 = .ok (.iaload, 1) := by decide +kernel
theorem dL_law_589 : decode cL_law 589 = .ok (.aload_n 0, 1) := by decide +kernel
theorem dL_law_590 : decode cL_law 590 = .ok (.iload_n 3, 1) := by decide +kernel
theorem dL_law_591 : decode cL_law 591 = .ok (.iconst 2, 1) := by decide +kernel
theorem dL_law_592 : decode cL_law 592 = .ok (.iadd, 1) := by decide +kernel
theorem dL_law_593 : decode cL_law 593 = .ok (.iaload, 1) := by decide +kernel
theorem dL_law_594 : decode cL_law 594 = .ok (.aload_n 0, 1) := by decide +kernel
theorem dL_law_595 : decode cL_law 595 = .ok (.iload_n 3, 1) := by decide +kernel
theorem dL_law_596 : decode cL_law 596 = .ok (.iconst 3, 1) := by decide +kernel
theorem dL_law_597 : decode cL_law 597 = .ok (.iadd, 1) := by decide +kernel
theorem dL_law_598 : decode cL_law 598 = .ok (.iaload, 1) := by decide +kernel
theorem dL_law_599 : decode cL_law 599 = .ok (.ifCond .eq 7, 3) := by decide +kernel
theorem dL_law_602 : decode cL_law 602 = .ok (.iconst 1, 1) := by decide +kernel
theorem dL_law_603 : decode cL_law 603 = .ok (.goto 4, 3) := by decide +kernel
theorem dL_law_606 : decode cL_law 606 = .ok (.iconst 0, 1) := by decide +kernel
theorem dL_law_607 : decode cL_law 607 = .ok (.invokevirtual 68, 3) := by decide +kernel
theorem dL_law_610 : decode cL_law 610 = .ok (.if_icmp .eq 545, 3) := by decide +kernel
theorem dL_law_613 : decode cL_law 613 = .ok (.iconst 0, 1) := by decide +kernel
theorem dL_law_614 : decode cL_law 614 = .ok (.ireturn, 1) := by decide +kernel
theorem dL_law_615 : decode cL_law 615 = .ok (.aload_n 1, 1) := by decide +kernel
theorem dL_law_616 : decode cL_law 616 = .ok (.aload_n 0, 1) := by decide +kernel
theorem dL_law_617 : decode cL_law 617 = .ok (.iload_n 3, 1) := by decide +kernel
theorem dL_law_618 : decode cL_law 618 = .ok (.iconst 1, 1) := by decide +kernel
theorem dL_law_619 : decode cL_law 619 = .ok (.iadd, 1) := by decide +kernel
theorem dL_law_620 : decode cL_law 620 = .ok (.iaload, 1) := by decide +kernel
theorem dL_law_621 : decode cL_law 621 = .ok (.aload_n 0, 1) := by decide +kernel
theorem dL_law_622 : decode cL_law 622 = .ok (.iload_n 3, 1) := by decide +kernel
theorem dL_law_623 : decode cL_law 623 = .ok (.iconst 2, 1) := by decide +kernel
theorem dL_law_624 : decode cL_law 624 = .ok (.iadd, 1) := by decide +kernel
theorem dL_law_625 : decode cL_law 625 = .ok (.iaload, 1) := by decide +kernel
theorem dL_law_626 : decode cL_law 626 = .ok (.invokevirtual 69, 3) := by decide +kernel
theorem dL_law_629 : decode cL_law 629 = .ok (.aload_n 2, 1) := by decide +kernel
theorem dL_law_630 : decode cL_law 630 = .ok (.aload_n 0, 1) := by decide +kernel
theorem dL_law_631 : decode cL_law 631 = .ok (.iload_n 3, 1) := by decide +kernel
theorem dL_law_632 : decode cL_law 632 = .ok (.iconst 1, 1) := by decide +kernel
theorem dL_law_633 : decode cL_law 633 = .ok (.iadd, 1) := by decide +kernel
theorem dL_law_634 : decode cL_law 634 = .ok (.iaload, 1) := by decide +kernel
theorem dL_law_635 : decode cL_law 635 = .ok (.aload_n 0, 1) := by decide +kernel
theorem dL_law_636 : decode cL_law 636 = .ok (.iload_n 3, 1) := by decide +kernel
theorem dL_law_637 : decode cL_law 637 = .ok (.iconst 2, 1) := by decide +kernel
theorem dL_law_638 : decode cL_law 638 = .ok (.iadd, 1) := by decide +kernel
theorem dL_law_639 : decode cL_law 639 = .ok (.iaload, 1) := by decide +kernel
theorem dL_law_640 : decode cL_law 640 = .ok (.invokevirtual 72, 3) := by decide +kernel
theorem dL_law_643 : decode cL_law 643 = .ok (.if_icmp .eq 512, 3) := by decide +kernel
theorem dL_law_646 : decode cL_law 646 = .ok (.iconst 0, 1) := by decide +kernel
theorem dL_law_647 : decode cL_law 647 = .ok (.ireturn, 1) := by decide +kernel
theorem dL_law_648 : decode cL_law 648 = .ok (.aload_n 1, 1) := by decide +kernel
theorem dL_law_649 : decode cL_law 649 = .ok (.aload_n 0, 1) := by decide +kernel
end
section
theorem dL_law_650 : decode cL_law 650 = .ok (.iload_n 3, 1) := by decide +kernel
theorem dL_law_651 : decode cL_law 651 = .ok (.iconst 1, 1) := by decide +kernel
theorem dL_law_652 : decode cL_law 652 = .ok (.iadd, 1) := by decide +kernel
theorem dL_law_653 : decode cL_law 653 = .ok (.iaload, 1) := by decide +kernel
theorem dL_law_654 : decode cL_law 654 = .ok (.invokevirtual 73, 3) := by decide +kernel
theorem dL_law_657 : decode cL_law 657 = .ok (.aload_n 2, 1) := by decide +kernel
theorem dL_law_658 : decode cL_law 658 = .ok (.aload_n 0, 1) := by decide +kernel
theorem dL_law_659 : decode cL_law 659 = .ok (.iload_n 3, 1) := by decide +kernel
theorem dL_law_660 : decode cL_law 660 = .ok (.iconst 1, 1) := by decide +kernel
theorem dL_law_661 : decode cL_law 661 = .ok (.iadd, 1) := by decide +kernel
theorem dL_law_662 : decode cL_law 662 = .ok (.iaload, 1) := by decide +kernel
theorem dL_law_663 : decode cL_law 663 = .ok (.invokevirtual 76, 3) := by decide +kernel
theorem dL_law_666 : decode cL_law 666 = .ok (.if_icmp .eq 489, 3) := by decide +kernel
theorem dL_law_669 : decode cL_law 669 = .ok (.iconst 0, 1) := by decide +kernel
theorem dL_law_670 : decode cL_law 670 = .ok (.ireturn, 1) := by decide +kernel
theorem dL_law_671 : decode cL_law 671 = .ok (.aload_n 1, 1) := by decide +kernel
theorem dL_law_672 : decode cL_law 672 = .ok (.aload_n 0, 1) := by decide +kernel
theorem dL_law_673 : decode cL_law 673 = .ok (.iload_n 3, 1) := by decide +kernel
theorem dL_law_674 : decode cL_law 674 = .ok (.iconst 1, 1) := by decide +kernel
theorem dL_law_675 : decode cL_law 675 = .ok (.iadd, 1) := by decide +kernel
theorem dL_law_676 : decode cL_law 676 = .ok (.iaload, 1) := by decide +kernel
theorem dL_law_677 : decode cL_law 677 = .ok (.aload_n 0, 1) := by decide +kernel
theorem dL_law_678 : decode cL_law 678 = .ok (.iload_n 3, 1) := by decide +kernel
theorem dL_law_679 : decode cL_law 679 = .ok (.iconst 2, 1) := by decide +kernel
theorem dL_law_680 : decode cL_law 680 = .ok (.iadd, 1) := by decide +kernel
theorem dL_law_681 : decode cL_law 681 = .ok (.iaload, 1) := by decide +kernel
theorem dL_law_682 : decode cL_law 682 = .ok (.invokevirtual 77, 3) := by decide +kernel
theorem dL_law_685 : decode cL_law 685 = .ok (.aload_n 2, 1) := by decide +kernel
theorem dL_law_686 : decode cL_law 686 = .ok (.aload_n 0, 1) := by decide +kernel
theorem dL_law_687 : decode cL_law 687 = .ok (.iload_n 3, 1) := by decide +kernel
theorem dL_law_688 : decode cL_law 688 = .ok (.iconst 1, 1) := by decide +kernel
theorem dL_law_689 : decode cL_law 689 = .ok (.iadd, 1) := by decide +kernel
theorem dL_law_690 : decode cL_law 690 = .ok (.iaload, 1) := by decide +kernel
theorem dL_law_691 : decode cL_law 691 = .ok (.aload_n 0, 1) := by decide +kernel
theorem dL_law_692 : decode cL_law 692 = .ok (.iload_n 3, 1) := by decide +kernel
theorem dL_law_693 : decode cL_law 693 = .ok (.iconst 2, 1) := by decide +kernel
theorem dL_law_694 : decode cL_law 694 = .ok (.iadd, 1) := by decide +kernel
theorem dL_law_695 : decode cL_law 695 = .ok (.iaload, 1) := by decide +kernel
theorem dL_law_696 : decode cL_law 696 = .ok (.invokevirtual 80, 3) := by decide +kernel
theorem dL_law_699 : decode cL_law 699 = .ok (.if_icmp .eq 456, 3) := by decide +kernel
theorem dL_law_702 : decode cL_law 702 = .ok (.iconst 0, 1) := by decide +kernel
theorem dL_law_703 : decode cL_law 703 = .ok (.ireturn, 1) := by decide +kernel
theorem dL_law_704 : decode cL_law 704 = .ok (.aload_n 1, 1) := by decide +kernel
theorem dL_law_705 : decode cL_law 705 = .ok (.aload_n 0, 1) := by decide +kernel
theorem dL_law_706 : decode cL_law 706 = .ok (.iload_n 3, 1) := by decide +kernel
theorem dL_law_707 : decode cL_law 707 = .ok (.iconst 1, 1) := by decide +kernel
theorem dL_law_708 : decode cL_law 708 = .ok (.iadd, 1) := by decide +kernel
theorem dL_law_709 : decode cL_law 709 = .ok (.iaload, 1) := by decide +kernel
theorem dL_law_710 : decode cL_law 710 = .ok (.aload_n 0, 1) := by decide +kernel
theorem dL_law_711 : decode cL_law 711 = .ok (.iload_n 3, 1) := by decide +kernel
theorem dL_law_712 : decode cL_law 712 = .ok (.iconst 2, 1) := by decide +kernel
theorem dL_law_713 : decode cL_law 713 = .ok (.iadd, 1) := by decide +kernel
theorem dL_law_714 : decode cL_law 714 = .ok (.iaload, 1) := by decide +kernel
theorem dL_law_715 : decode cL_law 715 = .ok (.invokevirtual 81, 3) := by decide +kernel
theorem dL_law_718 : decode cL_law 718 = .ok (.aload_n 2, 1) := by decide +kernel
theorem dL_law_719 : decode cL_law 719 = .ok (.aload_n 0, 1) := by decide +kernel
theorem dL_law_720 : decode cL_law 720 = .ok (.iload_n 3, 1) := by decide +kernel
theorem dL_law_721 : decode cL_law 721 = .ok (.iconst 1, 1) := by decide +kernel
theorem dL_law_722 : decode cL_law 722 = .ok (.iadd, 1) := by decide +kernel
theorem dL_law_723 : decode cL_law 723 = .ok (.iaload, 1) := by decide +kernel
theorem dL_law_724 : decode cL_law 724 = .ok (.aload_n 0, 1) := by decide +kernel
theorem dL_law_725 : decode cL_law 725 = .ok (.iload_n 3, 1) := by decide +kernel
theorem dL_law_726 : decode cL_law 726 = .ok (.iconst 2, 1) := by decide +kernel
theorem dL_law_727 : decode cL_law 727 = .ok (.iadd, 1) := by decide +kernel
theorem dL_law_728 : decode cL_law 728 = .ok (.iaload, 1) := by decide +kernel
theorem dL_law_729 : decode cL_law 729 = .ok (.invokevirtual 84, 3) := by decide +kernel
theorem dL_law_732 : decode cL_law 732 = .ok (.if_icmp .eq 423, 3) := by decide +kernel
theorem dL_law_735 : decode cL_law 735 = .ok (.iconst 0, 1) := by decide +kernel
theorem dL_law_736 : decode cL_law 736 = .ok (.ireturn, 1) := by decide +kernel
theorem dL_law_737 : decode cL_law 737 = .ok (.aload_n 1, 1) := by decide +kernel
theorem dL_law_738 : decode cL_law 738 = .ok (.aload_n 0, 1) := by decide +kernel
theorem dL_law_739 : decode cL_law 739 = .ok (.iload_n 3, 1) := by decide +kernel
theorem dL_law_740 : decode cL_law 740 = .ok (.iconst 1, 1) := by decide +kernel
theorem dL_law_741 : decode cL_law 741 = .ok (.iadd, 1) := by decide +kernel
theorem dL_law_742 : decode cL_law 742 = .ok (.iaload, 1) := by decide +kernel
theorem dL_law_743 : decode cL_law 743 = .ok (.aload_n 0, 1) := by decide +kernel
theorem dL_law_744 : decode cL_law 744 = .ok (.iload_n 3, 1) := by decide +kernel
theorem dL_law_745 : decode cL_law 745 = .ok (.iconst 2, 1) := by decide +kernel
theorem dL_law_746 : decode cL_law 746 = .ok (.iadd, 1) := by decide +kernel
theorem dL_law_747 : decode cL_law 747 = .ok (.iaload, 1) := by decide +kernel
theorem dL_law_748 : decode cL_law 748 = .ok (.invokevirtual 85, 3) := by decide +kernel
theorem dL_law_751 : decode cL_law 751 = .ok (.aload_n 2, 1) := by decide +kernel
theorem dL_law_752 : decode cL_law 752 = .ok (.aload_n 0, 1) := by decide +kernel
theorem dL_law_753 : decode cL_law 753 = .ok (.iload_n 3, 1) := by decide +kernel
theorem dL_law_754 : decode cL_law 754 = .ok (.iconst 1, 1) := by decide +kernel
theorem dL_law_755 : decode cL_law 755 = .ok (.iadd, 1) := by decide +kernel
theorem dL_law_756 : decode cL_law 756 = .ok (.iaload, 1) := by decide +kernel
theorem dL_law_757 : decode cL_law 757 = .ok (.aload_n 0, 1) := by decide +kernel
theorem dL_law_758 : decode cL_law 758 = .ok (.iload_n 3, 1) := by decide +kernel
theorem dL_law_759 : decode cL_law 759 = .ok (.iconst 2, 1) := by decide +kernel
theorem dL_law_760 : decode cL_law 760 = .ok (.iadd, 1) := by decide +kernel
theorem dL_law_761 : decode cL_law 761 = .ok (.iaload, 1) := by decide +kernel
theorem dL_law_762 : decode cL_law 762 = .ok (.invokevirtual 88, 3) := by decide +kernel
theorem dL_law_765 : decode cL_law 765 = .ok (.if_icmp .eq 390, 3) := by decide +kernel
theorem dL_law_768 : decode cL_law 768 = .ok (.iconst 0, 1) := by decide +kernel
theorem dL_law_769 : decode cL_law 769 = .ok (.ireturn, 1) := by decide +kernel
theorem dL_law_770 : decode cL_law 770 = .ok (.aload_n 1, 1) := by decide +kernel
theorem dL_law_771 : decode cL_law 771 = .ok (.aload_n 0, 1) := by decide +kernel
theorem dL_law_772 : decode cL_law 772 = .ok (.iload_n 3, 1) := by decide +kernel
theorem dL_law_773 : decode cL_law 773 = .ok (.iconst 1, 1) := by decide +kernel
theorem dL_law_774 : decode cL_law 774 = .ok (.iadd, 1) := by decide +kernel
theorem dL_law_775 : decode cL_law 775 = .ok (.iaload, 1) := by decide +kernel
theorem dL_law_776 : decode cL_law 776 = .ok (.aload_n 0, 1) := by decide +kernel
theorem dL_law_777 : decode cL_law 777 = .ok (.iload_n 3, 1) := by decide +kernel
theorem dL_law_778 : decode cL_law 778 = .ok (.iconst 2, 1) := by decide +kernel
theorem dL_law_779 : decode cL_law 779 = .ok (.iadd, 1) := by decide +kernel
theorem dL_law_780 : decode cL_law 780 = .ok (.iaload, 1) := by decide +kernel
theorem dL_law_781 : decode cL_law 781 = .ok (.invokevirtual 89, 3) := by decide +kernel
theorem dL_law_784 : decode cL_law 784 = .ok (.aload_n 2, 1) := by decide +kernel
theorem dL_law_785 : decode cL_law 785 = .ok (.aload_n 0, 1) := by decide +kernel
theorem dL_law_786 : decode cL_law 786 = .ok (.iload_n 3, 1) := by decide +kernel
theorem dL_law_787 : decode cL_law 787 = .ok (.iconst 1, 1) := by decide +kernel
theorem dL_law_788 : decode cL_law 788 = .ok (.iadd, 1) := by decide +kernel
theorem dL_law_789 : decode cL_law 789 = .ok (.iaload, 1) := by decide +kernel
theorem dL_law_790 : decode cL_law 790 = .ok (.aload_n 0, 1) := by decide +kernel
theorem dL_law_791 : decode cL_law 791 = .ok (.iload_n 3, 1) := by decide +kernel
theorem dL_law_792 : decode cL_law 792 = .ok (.iconst 2, 1) := by decide +kernel
theorem dL_law_793 : decode cL_law 793 = .ok (.iadd, 1) := by decide +kernel
theorem dL_law_794 : decode cL_law 794 = .ok (.iaload, 1) := by decide +kernel
theorem dL_law_795 : decode cL_law 795 = .ok (.invokevirtual 92, 3) := by decide +kernel
theorem dL_law_798 : decode cL_law 798 = .ok (.if_icmp .eq 357, 3) := by decide +kernel
theorem dL_law_801 : decode cL_law 801 = .ok (.iconst 0, 1) := by decide +kernel
theorem dL_law_802 : decode cL_law 802 = .ok (.ireturn, 1) := by decide +kernel
theorem dL_law_803 : decode cL_law 803 = .ok (.aload_n 1, 1) := by decide +kernel
theorem dL_law_804 : decode cL_law 804 = .ok (.aload_n 0, 1) := by decide +kernel
theorem dL_law_805 : decode cL_law 805 = .ok (.iload_n 3, 1) := by decide +kernel
theorem dL_law_806 : decode cL_law 806 = .ok (.iconst 1, 1) := by decide +kernel
theorem dL_law_807 : decode cL_law 807 = .ok (.iadd, 1) := by decide +kernel
theorem dL_law_808 : decode cL_law 808 = .ok (.iaload, 1) := by decide +kernel
theorem dL_law_809 : decode cL_law 809 = .ok (.aload_n 0, 1) := by decide +kernel
theorem dL_law_810 : decode cL_law 810 = .ok (.iload_n 3, 1) := by decide +kernel
theorem dL_law_811 : decode cL_law 811 = .ok (.iconst 2, 1) := by decide +kernel
theorem dL_law_812 : decode cL_law 812 = .ok (.iadd, 1) := by decide +kernel
theorem dL_law_813 : decode cL_law 813 = .ok (.iaload, 1) := by decide +kernel
theorem dL_law_814 : decode cL_law 814 = .ok (.invokevirtual 93, 3) := by decide +kernel
theorem dL_law_817 : decode cL_law 817 = .ok (.aload_n 2, 1) := by decide +kernel
theorem dL_law_818 : decode cL_law 818 = .ok (.aload_n 0, 1) := by decide +kernel
theorem dL_law_819 : decode cL_law 819 = .ok (.iload_n 3, 1) := by decide +kernel
theorem dL_law_820 : decode cL_law 820 = .ok (.iconst 1, 1) := by decide +kernel
theorem dL_law_821 : decode cL_law 821 = .ok (.iadd, 1) := by decide +kernel
theorem dL_law_822 : decode cL_law 822 = .ok (.iaload, 1) := by decide +kernel
theorem dL_law_823 : decode cL_law 823 = .ok (.aload_n 0, 1) := by decide +kernel
theorem dL_law_824 : decode cL_law 824 = .ok (.iload_n 3, 1) := by decide +kernel
theorem dL_law_825 : decode cL_law 825 = .ok (.iconst 2, 1) := by decide +kernel
theorem dL_law_826 : decode cL_law 826 = .ok (.iadd, 1) := by decide +kernel
theorem dL_law_827 : decode cL_law 827 = .ok (.iaload, 1) := by decide +kernel
theorem dL_law_828 : decode cL_law 828 = .ok (.invokevirtual 96, 3) := by decide +kernel
theorem dL_law_831 : decode cL_law 831 = .ok (.if_icmp .eq 324, 3) := by decide +kernel
theorem dL_law_834 : decode cL_law 834 = .ok (.iconst 0, 1) := by decide +kernel
theorem dL_law_835 : decode cL_law 835 = .ok (.ireturn, 1) := by decide +kernel
theorem dL_law_836 : decode cL_law 836 = .ok (.aload_n 1, 1) := by decide +kernel
theorem dL_law_837 : decode cL_law 837 = .ok (.aload_n 0, 1) := by decide +kernel
theorem dL_law_838 : decode cL_law 838 = .ok (.iload_n 3, 1) := by decide +kernel
theorem dL_law_839 : decode cL_law 839 = .ok (.iconst 1, 1) := by decide +kernel
theorem dL_law_840 : decode cL_law 840 = .ok (.iadd, 1) := by decide +kernel
theorem dL_law_841 : decode cL_law 841 = .ok (.iaload, 1) := by decide +kernel
theorem dL_law_842 : decode cL_law 842 = .ok (.invokevirtual 97, 3) := by decide +kernel
theorem dL_law_845 : decode cL_law 845 = .ok (.aload_n 2, 1) := by decide +kernel
theorem dL_law_846 : decode cL_law 846 = .ok (.aload_n 0, 1) := by decide +kernel
theorem dL_law_847 : decode cL_law 847 = .ok (.iload_n 3, 1) := by decide +kernel
theorem dL_law_848 : decode cL_law 848 = .ok (.iconst 1, 1) := by decide +kernel
theorem dL_law_849 : decode cL_law 849 = .ok (.iadd, 1) := by decide +kernel
theorem dL_law_850 : decode cL_law 850 = .ok (.iaload, 1) := by decide +kernel
theorem dL_law_851 : decode cL_law 851 = .ok (.invokevirtual 100, 3) := by decide +kernel
theorem dL_law_854 : decode cL_law 854 = .ok (.if_icmp .eq 301, 3) := by decide +kernel
theorem dL_law_857 : decode cL_law 857 = .ok (.iconst 0, 1) := by decide +kernel
theorem dL_law_858 : decode cL_law 858 = .ok (.ireturn, 1) := by decide +kernel
theorem dL_law_859 : decode cL_law 859 = .ok (.aload_n 1, 1) := by decide +kernel
theorem dL_law_860 : decode cL_law 860 = .ok (.aload_n 0, 1) := by decide +kernel
theorem dL_law_861 : decode cL_law 861 = .ok (.iload_n 3, 1) := by decide +kernel
theorem dL_law_862 : decode cL_law 862 = .ok (.iconst 1, 1) := by decide +kernel
theorem dL_law_863 : decode cL_law 863 = .ok (.iadd, 1) := by decide +kernel
theorem dL_law_864 : decode cL_law 864 = .ok (.iaload, 1) := by decide +kernel
theorem dL_law_865 : decode cL_law 865 = .ok (.aload_n 0, 1) := by decide +kernel
theorem dL_law_866 : decode cL_law 866 = .ok (.iload_n 3, 1) := by decide +kernel
theorem dL_law_867 : decode cL_law 867 = .ok (.iconst 2, 1) := by decide +kernel
theorem dL_law_868 : decode cL_law 868 = .ok (.iadd, 1) := by decide +kernel
theorem dL_law_869 : decode cL_law 869 = .ok (.iaload, 1) := by decide +kernel
theorem dL_law_870 : decode cL_law 870 = .ok (.invokevirtual 101, 3) := by decide +kernel
theorem dL_law_873 : decode cL_law 873 = .ok (.aload_n 2, 1) := by decide +kernel
theorem dL_law_874 : decode cL_law 874 = .ok (.aload_n 0, 1) := by decide +kernel
theorem dL_law_875 : decode cL_law 875 = .ok (.iload_n 3, 1) := by decide +kernel
theorem dL_law_876 : decode cL_law 876 = .ok (.iconst 1, 1) := by decide +kernel
theorem dL_law_877 : decode cL_law 877 = .ok (.iadd, 1) := by decide +kernel
theorem dL_law_878 : decode cL_law 878 = .ok (.iaload, 1) := by decide +kernel
theorem dL_law_879 : decode cL_law 879 = .ok (.aload_n 0, 1) := by decide +kernel
theorem dL_law_880 : decode cL_law 880 = .ok (.iload_n 3, 1) := by decide +kernel
theorem dL_law_881 : decode cL_law 881 = .ok (.iconst 2, 1) := by decide +kernel
theorem dL_law_882 : decode cL_law 882 = .ok (.iadd, 1) := by decide +kernel
theorem dL_law_883 : decode cL_law 883 = .ok (.iaload, 1) := by decide +kernel
theorem dL_law_884 : decode cL_law 884 = .ok (.invokevirtual 104, 3) := by decide +kernel
theorem dL_law_887 : decode cL_law 887 = .ok (.if_icmp .eq 268, 3) := by decide +kernel
theorem dL_law_890 : decode cL_law 890 = .ok (.iconst 0, 1) := by decide +kernel
theorem dL_law_891 : decode cL_law 891 = .ok (.ireturn, 1) := by decide +kernel
theorem dL_law_892 : decode cL_law 892 = .ok (.aload_n 1, 1) := by decide +kernel
theorem dL_law_893 : decode cL_law 893 = .ok (.aload_n 0, 1) := by decide +kernel
theorem dL_law_894 : decode cL_law 894 = .ok (.iload_n 3, 1) := by decide +kernel
theorem dL_law_895 : decode cL_law 895 = .ok (.iconst 1, 1) := by decide +kernel
theorem dL_law_896 : decode cL_law 896 = .ok (.iadd, 1) := by decide +kernel
theorem dL_law_897 : decode cL_law 897 = .ok (.iaload, 1) := by decide +kernel
end
section
theorem dL_law_898 : decode cL_law 898 = .ok (.aload_n 0, 1) := by decide +kernel
theorem dL_law_899 : decode cL_law 899 = .ok (.iload_n 3, 1) := by decide +kernel
theorem dL_law_900 : decode cL_law 900 = .ok (.iconst 2, 1) := by decide +kernel
theorem dL_law_901 : decode cL_law 901 = .ok (.iadd, 1) := by decide +kernel
theorem dL_law_902 : decode cL_law 902 = .ok (.iaload, 1) := by decide +kernel
theorem dL_law_903 : decode cL_law 903 = .ok (.invokevirtual 105, 3) := by decide +kernel
theorem dL_law_906 : decode cL_law 906 = .ok (.aload_n 2, 1) := by decide +kernel
theorem dL_law_907 : decode cL_law 907 = .ok (.aload_n 0, 1) := by decide +kernel
theorem dL_law_908 : decode cL_law 908 = .ok (.iload_n 3, 1) := by decide +kernel
theorem dL_law_909 : decode cL_law 909 = .ok (.iconst 1, 1) := by decide +kernel
theorem dL_law_910 : decode cL_law 910 = .ok (.iadd, 1) := by decide +kernel
theorem dL_law_911 : decode cL_law 911 = .ok (.iaload, 1) := by decide +kernel
theorem dL_law_912 : decode cL_law 912 = .ok (.aload_n 0, 1) := by decide +kernel
theorem dL_law_913 : decode cL_law 913 = .ok (.iload_n 3, 1) := by decide +kernel
theorem dL_law_914 : decode cL_law 914 = .ok (.iconst 2, 1) := by decide +kernel
theorem dL_law_915 : decode cL_law 915 = .ok (.iadd, 1) := by decide +kernel
theorem dL_law_916 : decode cL_law 916 = .ok (.iaload, 1) := by decide +kernel
theorem dL_law_917 : decode cL_law 917 = .ok (.invokevirtual 108, 3) := by decide +kernel
theorem dL_law_920 : decode cL_law 920 = .ok (.if_icmp .eq 235, 3) := by decide +kernel
theorem dL_law_923 : decode cL_law 923 = .ok (.iconst 0, 1) := by decide +kernel
theorem dL_law_924 : decode cL_law 924 = .ok (.ireturn, 1) := by decide +kernel
theorem dL_law_925 : decode cL_law 925 = .ok (.aload_n 1, 1) := by decide +kernel
theorem dL_law_926 : decode cL_law 926 = .ok (.aload_n 0, 1) := by decide +kernel
theorem dL_law_927 : decode cL_law 927 = .ok (.iload_n 3, 1) := by decide +kernel
theorem dL_law_928 : decode cL_law 928 = .ok (.iconst 1, 1) := by decide +kernel
theorem dL_law_929 : decode cL_law 929 = .ok (.iadd, 1) := by decide +kernel
theorem dL_law_930 : decode cL_law 930 = .ok (.iaload, 1) := by decide +kernel
theorem dL_law_931 : decode cL_law 931 = .ok (.invokevirtual 109, 3) := by decide +kernel
theorem dL_law_934 : decode cL_law 934 = .ok (.aload_n 2, 1) := by decide +kernel
theorem dL_law_935 : decode cL_law 935 = .ok (.aload_n 0, 1) := by decide +kernel
theorem dL_law_936 : decode cL_law 936 = .ok (.iload_n 3, 1) := by decide +kernel
theorem dL_law_937 : decode cL_law 937 = .ok (.iconst 1, 1) := by decide +kernel
theorem dL_law_938 : decode cL_law 938 = .ok (.iadd, 1) := by decide +kernel
theorem dL_law_939 : decode cL_law 939 = .ok (.iaload, 1) := by decide +kernel
theorem dL_law_940 : decode cL_law 940 = .ok (.invokevirtual 112, 3) := by decide +kernel
theorem dL_law_943 : decode cL_law 943 = .ok (.if_icmp .eq 212, 3) := by decide +kernel
theorem dL_law_946 : decode cL_law 946 = .ok (.iconst 0, 1) := by decide +kernel
theorem dL_law_947 : decode cL_law 947 = .ok (.ireturn, 1) := by decide +kernel
theorem dL_law_948 : decode cL_law 948 = .ok (.aload_n 1, 1) := by decide +kernel
theorem dL_law_949 : decode cL_law 949 = .ok (.aload_n 0, 1) := by decide +kernel
theorem dL_law_950 : decode cL_law 950 = .ok (.iload_n 3, 1) := by decide +kernel
theorem dL_law_951 : decode cL_law 951 = .ok (.iconst 1, 1) := by decide +kernel
theorem dL_law_952 : decode cL_law 952 = .ok (.iadd, 1) := by decide +kernel
theorem dL_law_953 : decode cL_law 953 = .ok (.iaload, 1) := by decide +kernel
theorem dL_law_954 : decode cL_law 954 = .ok (.aload_n 0, 1) := by decide +kernel
theorem dL_law_955 : decode cL_law 955 = .ok (.iload_n 3, 1) := by decide +kernel
theorem dL_law_956 : decode cL_law 956 = .ok (.iconst 2, 1) := by decide +kernel
theorem dL_law_957 : decode cL_law 957 = .ok (.iadd, 1) := by decide +kernel
theorem dL_law_958 : decode cL_law 958 = .ok (.iaload, 1) := by decide +kernel
theorem dL_law_959 : decode cL_law 959 = .ok (.invokevirtual 113, 3) := by decide +kernel
theorem dL_law_962 : decode cL_law 962 = .ok (.aload_n 2, 1) := by decide +kernel
theorem dL_law_963 : decode cL_law 963 = .ok (.aload_n 0, 1) := by decide +kernel
theorem dL_law_964 : decode cL_law 964 = .ok (.iload_n 3, 1) := by decide +kernel
theorem dL_law_965 : decode cL_law 965 = .ok (.iconst 1, 1) := by decide +kernel
theorem dL_law_966 : decode cL_law 966 = .ok (.iadd, 1) := by decide +kernel
theorem dL_law_967 : decode cL_law 967 = .ok (.iaload, 1) := by decide +kernel
theorem dL_law_968 : decode cL_law 968 = .ok (.aload_n 0, 1) := by decide +kernel
theorem dL_law_969 : decode cL_law 969 = .ok (.iload_n 3, 1) := by decide +kernel
theorem dL_law_970 : decode cL_law 970 = .ok (.iconst 2, 1) := by decide +kernel
theorem dL_law_971 : decode cL_law 971 = .ok (.iadd, 1) := by decide +kernel
theorem dL_law_972 : decode cL_law 972 = .ok (.iaload, 1) := by decide +kernel
theorem dL_law_973 : decode cL_law 973 = .ok (.invokevirtual 116, 3) := by decide +kernel
theorem dL_law_976 : decode cL_law 976 = .ok (.if_icmp .eq 179, 3) := by decide +kernel
theorem dL_law_979 : decode cL_law 979 = .ok (.iconst 0, 1) := by decide +kernel
theorem dL_law_980 : decode cL_law 980 = .ok (.ireturn, 1) := by decide +kernel
theorem dL_law_981 : decode cL_law 981 = .ok (.aload_n 1, 1) := by decide +kernel
theorem dL_law_982 : decode cL_law 982 = .ok (.aload_n 0, 1) := by decide +kernel
theorem dL_law_983 : decode cL_law 983 = .ok (.iload_n 3, 1) := by decide +kernel
theorem dL_law_984 : decode cL_law 984 = .ok (.iconst 1, 1) := by decide +kernel
theorem dL_law_985 : decode cL_law 985 = .ok (.iadd, 1) := by decide +kernel
theorem dL_law_986 : decode cL_law 986 = .ok (.iaload, 1) := by decide +kernel
theorem dL_law_987 : decode cL_law 987 = .ok (.aload_n 0, 1) := by decide +kernel
theorem dL_law_988 : decode cL_law 988 = .ok (.iload_n 3, 1) := by decide +kernel
theorem dL_law_989 : decode cL_law 989 = .ok (.iconst 2, 1) := by decide +kernel
theorem dL_law_990 : decode cL_law 990 = .ok (.iadd, 1) := by decide +kernel
theorem dL_law_991 : decode cL_law 991 = .ok (.iaload, 1) := by decide +kernel
theorem dL_law_992 : decode cL_law 992 = .ok (.aload_n 0, 1) := by decide +kernel
theorem dL_law_993 : decode cL_law 993 = .ok (.iload_n 3, 1) := by decide +kernel
theorem dL_law_994 : decode cL_law 994 = .ok (.iconst 3, 1) := by decide +kernel
theorem dL_law_995 : decode cL_law 995 = .ok (.iadd, 1) := by decide +kernel
theorem dL_law_996 : decode cL_law 996 = .ok (.iaload, 1) := by decide +kernel
theorem dL_law_997 : decode cL_law 997 = .ok (.invokevirtual 117, 3) := by decide +kernel
theorem dL_law_1000 : decode cL_law 1000 = .ok (.aload_n 2, 1) := by decide +kernel
theorem dL_law_1001 : decode cL_law 1001 = .ok (.aload_n 0, 1) := by decide +kernel
theorem dL_law_1002 : decode cL_law 1002 = .ok (.iload_n 3, 1) := by decide +kernel
theorem dL_law_1003 : decode cL_law 1003 = .ok (.iconst 1, 1) := by decide +kernel
theorem dL_law_1004 : decode cL_law 1004 = .ok (.iadd, 1) := by decide +kernel
theorem dL_law_1005 : decode cL_law 1005 = .ok (.iaload, 1) := by decide +kernel
theorem dL_law_1006 : decode cL_law 1006 = .ok (.aload_n 0, 1) := by decide +kernel
theorem dL_law_1007 : decode cL_law 1007 = .ok (.iload_n 3, 1) := by decide +kernel
theorem dL_law_1008 : decode cL_law 1008 = .ok (.iconst 2, 1) := by decide +kernel
theorem dL_law_1009 : decode cL_law 1009 = .ok (.iadd, 1) := by decide +kernel
theorem dL_law_1010 : decode cL_law 1010 = .ok (.iaload, 1) := by decide +kernel
theorem dL_law_1011 : decode cL_law 1011 = .ok (.aload_n 0, 1) := by decide +kernel
theorem dL_law_1012 : decode cL_law 1012 = .ok (.iload_n 3, 1) := by decide +kernel
theorem dL_law_1013 : decode cL_law 1013 = .ok (.iconst 3, 1) := by decide +kernel
theorem dL_law_1014 : decode cL_law 1014 = .ok (.iadd, 1) := by decide +kernel
theorem dL_law_1015 : decode cL_law 1015 = .ok (.iaload, 1) := by decide +kernel
theorem dL_law_1016 : decode cL_law 1016 = .ok (.invokevirtual 120, 3) := by decide +kernel
theorem dL_law_1019 : decode cL_law 1019 = .ok (.if_icmp .eq 136, 3) := by decide +kernel
theorem dL_law_1022 : decode cL_law 1022 = .ok (.iconst 0, 1) := by decide +kernel
theorem dL_law_1023 : decode cL_law 1023 = .ok (.ireturn, 1) := by decide +kernel
theorem dL_law_1024 : decode cL_law 1024 = .ok (.aload_n 1, 1) := by decide +kernel
theorem dL_law_1025 : decode cL_law 1025 = .ok (.aload_n 0, 1) := by decide +kernel
theorem dL_law_1026 : decode cL_law 1026 = .ok (.iload_n 3, 1) := by decide +kernel
theorem dL_law_1027 : decode cL_law 1027 = .ok (.iconst 1, 1) := by decide +kernel
theorem dL_law_1028 : decode cL_law 1028 = .ok (.iadd, 1) := by decide +kernel
theorem dL_law_1029 : decode cL_law 1029 = .ok (.iaload, 1) := by decide +kernel
theorem dL_law_1030 : decode cL_law 1030 = .ok (.invokevirtual 121, 3) := by decide +kernel
theorem dL_law_1033 : decode cL_law 1033 = .ok (.aload_n 2, 1) := by decide +kernel
theorem dL_law_1034 : decode cL_law 1034 = .ok (.aload_n 0, 1) := by decide +kernel
theorem dL_law_1035 : decode cL_law 1035 = .ok (.iload_n 3, 1) := by decide +kernel
theorem dL_law_1036 : decode cL_law 1036 = .ok (.iconst 1, 1) := by decide +kernel
theorem dL_law_1037 : decode cL_law 1037 = .ok (.iadd, 1) := by decide +kernel
theorem dL_law_1038 : decode cL_law 1038 = .ok (.iaload, 1) := by decide +kernel
theorem dL_law_1039 : decode cL_law 1039 = .ok (.invokevirtual 124, 3) := by decide +kernel
theorem dL_law_1042 : decode cL_law 1042 = .ok (.if_icmp .eq 113, 3) := by decide +kernel
theorem dL_law_1045 : decode cL_law 1045 = .ok (.iconst 0, 1) := by decide +kernel
theorem dL_law_1046 : decode cL_law 1046 = .ok (.ireturn, 1) := by decide +kernel
theorem dL_law_1047 : decode cL_law 1047 = .ok (.aload_n 1, 1) := by decide +kernel
theorem dL_law_1048 : decode cL_law 1048 = .ok (.invokevirtual 125, 3) := by decide +kernel
theorem dL_law_1051 : decode cL_law 1051 = .ok (.aload_n 2, 1) := by decide +kernel
theorem dL_law_1052 : decode cL_law 1052 = .ok (.invokevirtual 129, 3) := by decide +kernel
theorem dL_law_1055 : decode cL_law 1055 = .ok (.if_icmp .eq 100, 3) := by decide +kernel
theorem dL_law_1058 : decode cL_law 1058 = .ok (.iconst 0, 1) := by decide +kernel
theorem dL_law_1059 : decode cL_law 1059 = .ok (.ireturn, 1) := by decide +kernel
theorem dL_law_1060 : decode cL_law 1060 = .ok (.aload_n 1, 1) := by decide +kernel
theorem dL_law_1061 : decode cL_law 1061 = .ok (.invokevirtual 130, 3) := by decide +kernel
theorem dL_law_1064 : decode cL_law 1064 = .ok (.aload_n 2, 1) := by decide +kernel
theorem dL_law_1065 : decode cL_law 1065 = .ok (.invokevirtual 133, 3) := by decide +kernel
theorem dL_law_1068 : decode cL_law 1068 = .ok (.if_icmp .eq 87, 3) := by decide +kernel
theorem dL_law_1071 : decode cL_law 1071 = .ok (.iconst 0, 1) := by decide +kernel
theorem dL_law_1072 : decode cL_law 1072 = .ok (.ireturn, 1) := by decide +kernel
theorem dL_law_1073 : decode cL_law 1073 = .ok (.aload_n 1, 1) := by decide +kernel
theorem dL_law_1074 : decode cL_law 1074 = .ok (.invokevirtual 134, 3) := by decide +kernel
theorem dL_law_1077 : decode cL_law 1077 = .ok (.aload_n 2, 1) := by decide +kernel
theorem dL_law_1078 : decode cL_law 1078 = .ok (.invokevirtual 137, 3) := by decide +kernel
theorem dL_law_1081 : decode cL_law 1081 = .ok (.if_icmp .eq 74, 3) := by decide +kernel
theorem dL_law_1084 : decode cL_law 1084 = .ok (.iconst 0, 1) := by decide +kernel
theorem dL_law_1085 : decode cL_law 1085 = .ok (.ireturn, 1) := by decide +kernel
theorem dL_law_1086 : decode cL_law 1086 = .ok (.aload_n 1, 1) := by decide +kernel
theorem dL_law_1087 : decode cL_law 1087 = .ok (.aload_n 0, 1) := by decide +kernel
theorem dL_law_1088 : decode cL_law 1088 = .ok (.iload_n 3, 1) := by decide +kernel
theorem dL_law_1089 : decode cL_law 1089 = .ok (.iconst 1, 1) := by decide +kernel
theorem dL_law_1090 : decode cL_law 1090 = .ok (.iadd, 1) := by decide +kernel
theorem dL_law_1091 : decode cL_law 1091 = .ok (.iaload, 1) := by decide +kernel
theorem dL_law_1092 : decode cL_law 1092 = .ok (.invokevirtual 138, 3) := by decide +kernel
theorem dL_law_1095 : decode cL_law 1095 = .ok (.aload_n 2, 1) := by decide +kernel
theorem dL_law_1096 : decode cL_law 1096 = .ok (.aload_n 0, 1) := by decide +kernel
theorem dL_law_1097 : decode cL_law 1097 = .ok (.iload_n 3, 1) := by decide +kernel
theorem dL_law_1098 : decode cL_law 1098 = .ok (.iconst 1, 1) := by decide +kernel
theorem dL_law_1099 : decode cL_law 1099 = .ok (.iadd, 1) := by decide +kernel
theorem dL_law_1100 : decode cL_law 1100 = .ok (.iaload, 1) := by decide +kernel
theorem dL_law_1101 : decode cL_law 1101 = .ok (.invokevirtual 141, 3) := by decide +kernel
theorem dL_law_1104 : decode cL_law 1104 = .ok (.if_icmp .eq 51, 3) := by decide +kernel
theorem dL_law_1107 : decode cL_law 1107 = .ok (.iconst 0, 1) := by decide +kernel
theorem dL_law_1108 : decode cL_law 1108 = .ok (.ireturn, 1) := by decide +kernel
theorem dL_law_1109 : decode cL_law 1109 = .ok (.aload_n 1, 1) := by decide +kernel
theorem dL_law_1110 : decode cL_law 1110 = .ok (.aload_n 0, 1) := by decide +kernel
theorem dL_law_1111 : decode cL_law 1111 = .ok (.iload_n 3, 1) := by decide +kernel
theorem dL_law_1112 : decode cL_law 1112 = .ok (.iconst 1, 1) := by decide +kernel
theorem dL_law_1113 : decode cL_law 1113 = .ok (.iadd, 1) := by decide +kernel
theorem dL_law_1114 : decode cL_law 1114 = .ok (.iaload, 1) := by decide +kernel
theorem dL_law_1115 : decode cL_law 1115 = .ok (.invokevirtual 142, 3) := by decide +kernel
theorem dL_law_1118 : decode cL_law 1118 = .ok (.aload_n 2, 1) := by decide +kernel
theorem dL_law_1119 : decode cL_law 1119 = .ok (.aload_n 0, 1) := by decide +kernel
theorem dL_law_1120 : decode cL_law 1120 = .ok (.iload_n 3, 1) := by decide +kernel
theorem dL_law_1121 : decode cL_law 1121 = .ok (.iconst 1, 1) := by decide +kernel
theorem dL_law_1122 : decode cL_law 1122 = .ok (.iadd, 1) := by decide +kernel
theorem dL_law_1123 : decode cL_law 1123 = .ok (.iaload, 1) := by decide +kernel
theorem dL_law_1124 : decode cL_law 1124 = .ok (.invokevirtual 145, 3) := by decide +kernel
theorem dL_law_1127 : decode cL_law 1127 = .ok (.if_icmp .eq 28, 3) := by decide +kernel
theorem dL_law_1130 : decode cL_law 1130 = .ok (.iconst 0, 1) := by decide +kernel
theorem dL_law_1131 : decode cL_law 1131 = .ok (.ireturn, 1) := by decide +kernel
theorem dL_law_1132 : decode cL_law 1132 = .ok (.aload_n 1, 1) := by decide +kernel
theorem dL_law_1133 : decode cL_law 1133 = .ok (.aload_n 0, 1) := by decide +kernel
theorem dL_law_1134 : decode cL_law 1134 = .ok (.iload_n 3, 1) := by decide +kernel
theorem dL_law_1135 : decode cL_law 1135 = .ok (.iconst 1, 1) := by decide +kernel
theorem dL_law_1136 : decode cL_law 1136 = .ok (.iadd, 1) := by decide +kernel
theorem dL_law_1137 : decode cL_law 1137 = .ok (.iaload, 1) := by decide +kernel
theorem dL_law_1138 : decode cL_law 1138 = .ok (.invokevirtual 146, 3) := by decide +kernel
theorem dL_law_1141 : decode cL_law 1141 = .ok (.aload_n 2, 1) := by decide +kernel
theorem dL_law_1142 : decode cL_law 1142 = .ok (.aload_n 0, 1) := by decide +kernel
theorem dL_law_1143 : decode cL_law 1143 = .ok (.iload_n 3, 1) := by decide +kernel
theorem dL_law_1144 : decode cL_law 1144 = .ok (.iconst 1, 1) := by decide +kernel
theorem dL_law_1145 : decode cL_law 1145 = .ok (.iadd, 1) := by decide +kernel
theorem dL_law_1146 : decode cL_law 1146 = .ok (.iaload, 1) := by decide +kernel
theorem dL_law_1147 : decode cL_law 1147 = .ok (.invokevirtual 149, 3) := by decide +kernel
theorem dL_law_1150 : decode cL_law 1150 = .ok (.if_icmp .eq 5, 3) := by decide +kernel
theorem dL_law_1153 : decode cL_law 1153 = .ok (.iconst 0, 1) := by decide +kernel
theorem dL_law_1154 : decode cL_law 1154 = .ok (.ireturn, 1) := by decide +kernel
theorem dL_law_1155 : decode cL_law 1155 = .ok (.iinc 3 4, 3) := by decide +kernel
theorem dL_law_1158 : decode cL_law 1158 = .ok (.goto (-1140), 3) := by decide +kernel
theorem dL_law_1161 : decode cL_law 1161 = .ok (.iconst 1, 1) := by decide +kernel
theorem dL_law_1162 : decode cL_law 1162 = .ok (.ireturn, 1) := by decide +kernel
end
section
/-- the words that serve every method -/
def TB : List Cond := lw_tbl.filter goodWord
theorem tb_in : ∀ w ∈ TB, w ∈ lw_tbl := fun _ h => (List.mem_filter.mp h).1
theorem tb_ok : ∀ w ∈ TB, goodWord w = true := fun _ h => (List.mem_filter.mp h).2
theorem tb_T {w : Cond} (h : w ∈ tables_1) (g : goodWord w = true) : w ∈ TB := List.mem_filter.mpr ⟨List.mem_append_right _ h, g⟩
theorem tb_S {q : MethodName × Nat} (h : q ∈ lw_privs) (g : goodWord (Cond.selects q.1.cls q.1 q.1) = true) : Cond.selects q.1.cls q.1 q.1 ∈ TB := List.mem_filter.mpr ⟨List.mem_append_left _ (List.mem_map.mpr ⟨q, h, rfl⟩), g⟩
/-! The world: every object of both systems by a name (kind, line, number); all that changes is a whole number: G kind line number slot. -/
abbrev Gm : Type := Nat → Nat → Nat → Nat → Int32
def gm_up (G : Gm) (a b c k : Nat) (v : Int32) : Gm := fun a' b' c' k' => if a' = a ∧ b' = b ∧ c' = c ∧ k' = k then v else G a' b' c' k'
def gm_len (b c : Nat) : Nat := if b < 4 then (if c = 0 then 12 else 300) else if b = 4 then 60 else if c = 2 then 5724 else if c = 3 then 60 else if c = 4 then 180 else 2862
abbrev gm_Rf (f : Nat → Option Nat) : (Nat → Int32) ⊕ (Nat → Int64) ⊕ (Nat → UInt32) ⊕ (Nat → UInt64) ⊕ (Nat → Option Nat) := .inr (.inr (.inr (.inr f)))
/-- what a cell holds, of its own whole numbers g -/
def gm_cel (cy : Nat → ClassId) (ad : Nat → Nat → Nat → Nat) (g : Nat → Int32) (a b c : Nat) : va_E := match a with
  | 0 => .inr (0, [.ref (ad 4 b (c / 2)), .int (nI (c % 2)), .int (g 2), .int (g 3), .int (g 4), .int (g 5), .int (g 6)])
  | 1 => .inr (1, [.ref (ad 12 b 0), .ref (ad 10 b 0), .ref (ad 13 b 0), .ref (ad 8 b 0), .ref (ad 3 b 0), .int (g 5), .int (g 6), .int (g 7)])
  | 2 => .inr (2, [.ref (ad 8 4 0), .int (g 1), .int (g 2), .int (g 3), .int (g 4), .int (g 5)])
  | 3 => .inr (3, [.ref (ad 8 b 1), .int (g 1)])
  | 4 => .inr (4, [.int (nI c), .int (g 1), .int (g 2), .int (g 3), .int (g 4), .int (g 5)])
  | 5 => .inr (5, [.int (nI c), .int (g 1), .int (g 2), .int (g 3), .int (g 4), .int (g 5), .int (g 6), .int (g 7), .int (g 8)])
  | 6 => .inr (6, [.ref (ad 1 0 0), .ref (ad 1 1 0), .ref (ad 11 4 0), .ref (ad 9 4 0), .ref (ad 2 4 0)])
  | 7 => .inr (7, [.ref (ad 8 5 0), .ref (ad 8 5 1), .ref (ad 8 5 2), .ref (ad 9 5 0), .ref (ad 8 5 3), .int (g 5), .int (g 6), .int (g 7), .ref (ad 8 5 4), .int (g 9)])
  | 8 => .inl (cy 0, gm_len b c, .inl g)
  | 9 => .inl (cy 1, 2, .inl g)
  | 10 => .inl (cy 2, 10, gm_Rf (fun k => some (ad 0 b k)))
  | 11 => .inl (cy 3, 2, gm_Rf (fun k => some (ad 1 (k + 2) 0)))
  | 12 => .inl (cy 4, 5, gm_Rf (fun k => some (ad 4 b k)))
  | _ => .inl (cy 5, 12, gm_Rf (fun k => some (ad 5 b k)))
def gm_ids : List (Nat × Nat × Nat) := ((List.range 4).flatMap fun b => [(1, b, 0), (3, b, 0), (8, b, 0), (8, b, 1), (10, b, 0), (12, b, 0), (13, b, 0)] ++ (List.range 10).map (fun c => (0, b, c)) ++ (List.range 5).map (fun c => (4, b, c)) ++ (List.range 12).map (fun c => (5, b, c))) ++ [(2, 4, 0), (6, 4, 0), (8, 4, 0), (9, 4, 0), (11, 4, 0), (7, 5, 0), (8, 5, 0), (8, 5, 1), (8, 5, 2), (8, 5, 3), (8, 5, 4), (9, 5, 0)]
theorem gi_0 {b c : Nat} (h1 : b < 4) (h2 : c < 10) : (0, b, c) ∈ gm_ids := (by decide +kernel : ∀ b < 4, ∀ c < 10, (0, b, c) ∈ gm_ids) b h1 c h2
theorem gi_1 {b : Nat} (h1 : b < 4) : (1, b, 0) ∈ gm_ids := (by decide +kernel : ∀ b < 4, (1, b, 0) ∈ gm_ids) b h1
theorem gi_2 : (2, 4, 0) ∈ gm_ids := by decide +kernel
theorem gi_3 {b : Nat} (h1 : b < 4) : (3, b, 0) ∈ gm_ids := (by decide +kernel : ∀ b < 4, (3, b, 0) ∈ gm_ids) b h1
theorem gi_4 {b c : Nat} (h1 : b < 4) (h2 : c < 5) : (4, b, c) ∈ gm_ids := (by decide +kernel : ∀ b < 4, ∀ c < 5, (4, b, c) ∈ gm_ids) b h1 c h2
theorem gi_5 {b c : Nat} (h1 : b < 4) (h2 : c < 12) : (5, b, c) ∈ gm_ids := (by decide +kernel : ∀ b < 4, ∀ c < 12, (5, b, c) ∈ gm_ids) b h1 c h2
theorem gi_6 : (6, 4, 0) ∈ gm_ids := by decide +kernel
theorem gi_7 : (7, 5, 0) ∈ gm_ids := by decide +kernel
theorem gi_8 {b c : Nat} (h1 : b < 4) (h2 : c < 2) : (8, b, c) ∈ gm_ids := (by decide +kernel : ∀ b < 4, ∀ c < 2, (8, b, c) ∈ gm_ids) b h1 c h2
theorem gi_84 : (8, 4, 0) ∈ gm_ids := by decide +kernel
theorem gi_85 {c : Nat} (h2 : c < 5) : (8, 5, c) ∈ gm_ids := (by decide +kernel : ∀ c < 5, (8, 5, c) ∈ gm_ids) c h2
theorem gi_94 : (9, 4, 0) ∈ gm_ids := by decide +kernel
theorem gi_95 : (9, 5, 0) ∈ gm_ids := by decide +kernel
theorem gi_10 {b : Nat} (h1 : b < 4) : (10, b, 0) ∈ gm_ids := (by decide +kernel : ∀ b < 4, (10, b, 0) ∈ gm_ids) b h1
theorem gi_11 : (11, 4, 0) ∈ gm_ids := by decide +kernel
theorem gi_12 {b : Nat} (h1 : b < 4) : (12, b, 0) ∈ gm_ids := (by decide +kernel : ∀ b < 4, (12, b, 0) ∈ gm_ids) b h1
theorem gi_13 {b : Nat} (h1 : b < 4) : (13, b, 0) ∈ gm_ids := (by decide +kernel : ∀ b < 4, (13, b, 0) ∈ gm_ids) b h1
theorem gm_nd : ∀ i j : Nat, i < 148 → j < 148 → gm_ids[i]? = gm_ids[j]? → i = j := by
  intro i j hi hj h
  exact (by decide +kernel : ∀ i < 148, ∀ j < 148, gm_ids[i]? = gm_ids[j]? → i = j) i hi j hj h
theorem gm_ln : gm_ids.length = 148 := by decide +kernel
abbrev gm_Wd : Type := Launch × (Nat → ClassId) × (Nat → Nat → Nat) × (Nat → ClassId) × (Nat → Nat → Nat → Nat)
abbrev gm_D (w : gm_Wd) : va_G := (w.2.1, w.2.2.1)
abbrev gm_cy (w : gm_Wd) : Nat → ClassId := w.2.2.2.1
abbrev gm_ad (w : gm_Wd) : Nat → Nat → Nat → Nat := w.2.2.2.2
def gm_w (w : gm_Wd) (G : Gm) : va_W := gm_ids.map fun o => (gm_ad w o.1 o.2.1 o.2.2, gm_cel (gm_cy w) (gm_ad w) (G o.1 o.2.1 o.2.2) o.1 o.2.1 o.2.2)
theorem gm_at {a b c : Nat} (h : (a, b, c) ∈ gm_ids) : ∃ k : Nat, gm_ids[k]? = some (a, b, c) := List.getElem?_of_mem h
theorem gm_w_at (w : gm_Wd) (G : Gm) {a b c k : Nat} (h : gm_ids[k]? = some (a, b, c)) : (gm_w w G)[k]? = some (gm_ad w a b c, gm_cel (gm_cy w) (gm_ad w) (G a b c) a b c) := by
  unfold gm_w
  rw [List.getElem?_map, h]
  rfl
theorem gm_inj {i j : Nat} {o : Nat × Nat × Nat} (h1 : gm_ids[i]? = some o) (h2 : gm_ids[j]? = some o) : i = j := by
  have a1 := (List.getElem?_eq_some_iff.mp h1).1
  have a2 := (List.getElem?_eq_some_iff.mp h2).1
  rw [gm_ln] at a1 a2
  exact gm_nd i j a1 a2 (h1.trans h2.symm)
theorem gm_set (w : gm_Wd) {G G' : Gm} {a b c k : Nat} (h : gm_ids[k]? = some (a, b, c)) (hG : ∀ a' b' c', ¬ (a' = a ∧ b' = b ∧ c' = c) → G' a' b' c' = G a' b' c') : (gm_w w G).set k (gm_ad w a b c, gm_cel (gm_cy w) (gm_ad w) (G' a b c) a b c) = gm_w w G' := by
  apply List.ext_getElem?
  intro j
  rw [List.getElem?_set]
  by_cases hj : k = j
  · subst hj
    have hl : k < (gm_w w G).length := by
      unfold gm_w
      rw [List.length_map]
      exact (List.getElem?_eq_some_iff.mp h).1
    rw [if_pos rfl, if_pos hl, gm_w_at w G' h]
  · rw [if_neg hj]
    unfold gm_w
    rw [List.getElem?_map, List.getElem?_map]
    cases ho : gm_ids[j]? with
    | none => rfl
    | some o =>
      obtain ⟨a', b', c'⟩ := o
      have hne : ¬ (a' = a ∧ b' = b ∧ c' = c) := by
        rintro ⟨rfl, rfl, rfl⟩
        exact hj (gm_inj h ho)
      simp only [Option.map_some]
      rw [hG a' b' c' hne]
theorem gm_up_ne {G : Gm} {a b c k : Nat} {v : Int32} : ∀ a' b' c', ¬ (a' = a ∧ b' = b ∧ c' = c) → gm_up G a b c k v a' b' c' = G a' b' c' := by
  intro a' b' c' h
  funext k'
  unfold gm_up
  rw [if_neg]
  rintro ⟨h1, h2, h3, -⟩
  exact h ⟨h1, h2, h3⟩
theorem gm_up_at {G : Gm} {a b c k : Nat} {v : Int32} : gm_up G a b c k v a b c = upd (G a b c) k v := by
  funext k'
  simp [gm_up, upd]
def gm_A (w : gm_Wd) : Nat → Prop := fun q => ∃ a b c : Nat, (a, b, c) ∈ gm_ids ∧ q = gm_ad w a b c
def gm_J (w : gm_Wd) : Prop := ∀ a b c a' b' c' : Nat, (a, b, c) ∈ gm_ids → (a', b', c') ∈ gm_ids → gm_ad w a b c = gm_ad w a' b' c' → (a, b, c) = (a', b', c')
theorem gm_dis {w : gm_Wd} (hJ : gm_J w) (G : Gm) : va_D (gm_A w) (gm_w w G) := by
  have key : ∀ (i : Nat) (p : Nat × va_E), (gm_w w G)[i]? = some p → ∃ a b c, gm_ids[i]? = some (a, b, c) ∧ p.1 = gm_ad w a b c := by
    intro i p h
    unfold gm_w at h
    rw [List.getElem?_map] at h
    cases ho : gm_ids[i]? with
    | none => rw [ho] at h; cases h
    | some o =>
      obtain ⟨a, b, c⟩ := o
      rw [ho] at h
      exact ⟨a, b, c, rfl, by rw [← Option.some.inj h]⟩
  refine ⟨fun i j p q h1 h2 he => ?_, fun k q h => ?_⟩
  · obtain ⟨a, b, c, g1, e1⟩ := key i p h1
    obtain ⟨a', b', c', g2, e2⟩ := key j q h2
    have := hJ a b c a' b' c' (List.mem_of_getElem? g1) (List.mem_of_getElem? g2) (by rw [← e1, ← e2, he])
    rw [this] at g1
    exact gm_inj g1 g2
  · obtain ⟨a, b, c, g1, e1⟩ := key k q h
    exact ⟨a, b, c, List.mem_of_getElem? g1, e1⟩
def gm_tys (w : gm_Wd) : List (ClassId × FieldType) := [(gm_cy w 0, .int), (gm_cy w 1, .boolean), (gm_cy w 2, .object RX0), (gm_cy w 3, .object RX1), (gm_cy w 4, .object RX4), (gm_cy w 5, .object RX5)]
def gm_K (w : gm_Wd) (U : State) : Prop := va_K (gm_D w) vwCl (gm_tys w) U ∧ va_Nw (.methodLinkNest RX1 176 yX6_isDirection RX6) U ∧ va_Nw (.methodLinkNest RX1 213 yX6_offerCode RX6) U
theorem gm_K_warm {w : gm_Wd} {s U : State} (hW : s.WarmedH U.vm) (h : gm_K w s) : gm_K w U := ⟨va_K.moved hW.alike h.1, va_Nw.warmM hW h.2.1, va_Nw.warmM hW h.2.2⟩
theorem gm_K_same {w : gm_Wd} {s U : State} (hW : s.vm = U.vm) (h : gm_K w s) : gm_K w U := ⟨va_K.moved (hW ▸ Vm.Alike.refl s.vm) h.1, va_Nw.same rfl hW h.2.1, va_Nw.same rfl hW h.2.2⟩
abbrev gm_rm (rk : Nat) : Room := { frames := rk, cells := 0, slots := 0, locals := 36 * rk }
/-- A CONTRACT: with the world G the method answers r, and the world is G' -/
def gm_C (w : gm_Wd) (y : MethodName) (cc : ByteArray) (mL : Nat) (ret : Option FieldType) (rk : Nat) (av : List Value) (G : Gm) (r : Option Value) (G' : Gm) : Prop :=
  Met w.1 y (Cond.code y cc mL ret :: TB) (gm_rm rk) (va_Pc av (fun U => va_P (gm_D w) vwCl (gm_w w G) U.heap ∧ gm_K w U ∧ gm_J w))
    (fun _ st oc t => (oc = .returned r ∧ va_P (gm_D w) vwCl (gm_w w G') t.heap) ∧ va_F (gm_A w) st t) 0 0 (gm_A w)
theorem gm_in {y : MethodName} {cc : ByteArray} {mL : Nat} {ret : Option FieldType} (hy : Cond.code y cc mL ret ∈ TB) : GoodIn TB (Cond.code y cc mL ret :: TB) := by
  intro q hq
  have hm : q ∈ TB := by
    rcases List.mem_cons.mp hq with h | h
    · rw [h]; exact hy
    · exact h
  exact ⟨hm, good_of_word (tb_ok q hm)⟩
/-- where a walk stands: machine, frame, what is asked, what may change, the world's numbers -/
abbrev gm_Cx : Type := Program × Env × Room × State × MethodId × Array Value × List Frame × Method × Code × (State → Prop) × (Nat → Prop) × (Nat × Nat) × gm_Wd
abbrev cx_p (x : gm_Cx) : Program := x.1
abbrev cx_e (x : gm_Cx) : Env := x.2.1
abbrev cx_R (x : gm_Cx) : Room := x.2.2.1
abbrev cx_s (x : gm_Cx) : State := x.2.2.2.1
abbrev cx_m (x : gm_Cx) : MethodId := x.2.2.2.2.1
abbrev cx_args (x : gm_Cx) : Array Value := x.2.2.2.2.2.1
abbrev cx_below (x : gm_Cx) : List Frame := x.2.2.2.2.2.2.1
abbrev cx_meth (x : gm_Cx) : Method := x.2.2.2.2.2.2.2.1
abbrev cx_c (x : gm_Cx) : Code := x.2.2.2.2.2.2.2.2.1
abbrev cx_Q (x : gm_Cx) : State → Prop := x.2.2.2.2.2.2.2.2.2.1
abbrev cx_A (x : gm_Cx) : Nat → Prop := x.2.2.2.2.2.2.2.2.2.2.1
abbrev cx_k (x : gm_Cx) : Nat × Nat := x.2.2.2.2.2.2.2.2.2.2.2.1
abbrev cx_w (x : gm_Cx) : gm_Wd := x.2.2.2.2.2.2.2.2.2.2.2.2
/-- what holds of it, all the way -/
def gm_X (x : gm_Cx) (cc : ByteArray) (nL : Nat) (own : String) (ret : Option FieldType) (rk : Nat) : Prop :=
  (cx_p x).tables.exec = Jvm.exec ∧ (cx_c x).code = cc ∧ (cx_c x).maxLocals = nL ∧ (cx_s x).vm.findClass own = some (cx_m x).cls ∧ (∀ w ∈ TB, w.before (cx_args x) (cx_s x) = true) ∧ gm_K (cx_w x) (cx_s x) ∧ gm_J (cx_w x) ∧ (cx_meth x).sig.returnType = ret ∧ (cx_meth x).locks = false ∧ (∀ q, gm_A (cx_w x) q → cx_A x q) ∧ (rk ≤ (cx_R x).frames ∧ 36 * rk ≤ (cx_R x).locals ∧ (cx_k x).1 ≤ (cx_R x).cells ∧ (cx_k x).2 ≤ (cx_R x).slots)
/-- the machine, at pc with these locals and this stack, in the world G, comes to what is asked -/
def gm_V (x : gm_Cx) (G : Gm) (pc : Nat) (lv : List (Nat × Value)) (st : List Value) : Prop :=
  ∀ (H : Heap) (locs : List Loc) (ls : Array Slot), va_P (gm_D (cx_w x)) vwCl (gm_w (cx_w x) G) H → va_S (cx_A x) (cx_s x).heap H locs → lv_has ls (cx_c x).maxLocals lv → W (cx_p x) (cx_w x).1 (cx_e x) (cx_R x) (cx_s x) (cx_m x) (cx_args x) (cx_below x) (cx_meth x) (cx_c x) H locs (cx_k x).1 (cx_k x).2 (cx_Q x) (F0 (cx_m x) pc ls st)
end
section
section
variable {x : gm_Cx} {cc : ByteArray} {nL : Nat} {own : String} {ret : Option FieldType} {rk : Nat} {G : Gm} {pc : Nat} {lv : List (Nat × Value)} {st : List Value}
theorem gv_iconst (C : gm_X x cc nL own ret rk) {z : Int} (v : Int32) (hv : Int32.ofInt z = v) (d : decode cc pc = .ok (.iconst z, 1)) (n : Nat) (hn : pc + 1 = n) (k : gm_V x G n lv (.int v :: st)) : gm_V x G pc lv (st) := by
  subst hn
  exact fun H locs ls hP hS hl => lv_iconst C.1 C.2.1 d hv (k H locs ls hP hS hl)
theorem gv_bipush (C : gm_X x cc nL own ret rk) {z : Int} (v : Int32) (hv : (Int8.ofInt z).toInt32 = v) (d : decode cc pc = .ok (.bipush z, 2)) (n : Nat) (hn : pc + 2 = n) (k : gm_V x G n lv (.int v :: st)) : gm_V x G pc lv (st) := by
  subst hn
  exact fun H locs ls hP hS hl => lv_bipush C.1 C.2.1 d hv (k H locs ls hP hS hl)
theorem gv_sipush (C : gm_X x cc nL own ret rk) {z : Int} (v : Int32) (hv : (Int16.ofInt z).toInt32 = v) (d : decode cc pc = .ok (.sipush z, 3)) (n : Nat) (hn : pc + 3 = n) (k : gm_V x G n lv (.int v :: st)) : gm_V x G pc lv (st) := by
  subst hn
  exact fun H locs ls hP hS hl => lv_sipush C.1 C.2.1 d hv (k H locs ls hP hS hl)
theorem gv_ldc (C : gm_X x cc nL own ret rk) {z : Nat} (v : Int32) (hv : Cond.constant own z v ∈ TB) (d : decode cc pc = .ok (.ldc z, 2)) (n : Nat) (hn : pc + 2 = n) (k : gm_V x G n lv (.int v :: st)) : gm_V x G pc lv (st) := by
  subst hn
  exact fun H locs ls hP hS hl => lv_ldc C.1 C.2.1 C.2.2.2.1 (C.2.2.2.2.1 _ hv) d (k H locs ls hP hS hl)
theorem gv_iload_n (C : gm_X x cc nL own ret rk) {j : Fin 4} {i : Nat} {v : Int32} (hi : (j : Nat) = i) (q : Nat) (hq : lv[q]? = some (i, .int v)) (d : decode cc pc = .ok (.iload_n j, 1)) (n : Nat) (hn : pc + 1 = n) (k : gm_V x G n lv (.int v :: st)) : gm_V x G pc lv (st) := by
  subst hn
  exact fun H locs ls hP hS hl => lv_iload_n C.1 C.2.1 d hi (lv_at hl q hq) (k H locs ls hP hS hl)
theorem gv_iload (C : gm_X x cc nL own ret rk) {i : Nat} {v : Int32} (q : Nat) (hq : lv[q]? = some (i, .int v)) (d : decode cc pc = .ok (.iload i, 2)) (n : Nat) (hn : pc + 2 = n) (k : gm_V x G n lv (.int v :: st)) : gm_V x G pc lv (st) := by
  subst hn
  exact fun H locs ls hP hS hl => lv_iload C.1 C.2.1 d (lv_at hl q hq) (k H locs ls hP hS hl)
theorem gv_aload_n (C : gm_X x cc nL own ret rk) {j : Fin 4} {i : Nat} {v : Nat} (hi : (j : Nat) = i) (q : Nat) (hq : lv[q]? = some (i, .ref v)) (d : decode cc pc = .ok (.aload_n j, 1)) (n : Nat) (hn : pc + 1 = n) (k : gm_V x G n lv (.ref v :: st)) : gm_V x G pc lv (st) := by
  subst hn
  exact fun H locs ls hP hS hl => lv_aload_n C.1 C.2.1 d hi (lv_at hl q hq) (k H locs ls hP hS hl)
theorem gv_aload (C : gm_X x cc nL own ret rk) {i : Nat} {v : Nat} (q : Nat) (hq : lv[q]? = some (i, .ref v)) (d : decode cc pc = .ok (.aload i, 2)) (n : Nat) (hn : pc + 2 = n) (k : gm_V x G n lv (.ref v :: st)) : gm_V x G pc lv (st) := by
  subst hn
  exact fun H locs ls hP hS hl => lv_aload C.1 C.2.1 d (lv_at hl q hq) (k H locs ls hP hS hl)
theorem gv_aload_nN (C : gm_X x cc nL own ret rk) {j : Fin 4} {i : Nat} (hi : (j : Nat) = i) (q : Nat) (hq : lv[q]? = some (i, .null)) (d : decode cc pc = .ok (.aload_n j, 1)) (n : Nat) (hn : pc + 1 = n) (k : gm_V x G n lv (.null :: st)) : gm_V x G pc lv (st) := by
  subst hn
  exact fun H locs ls hP hS hl => lv_aload_nN C.1 C.2.1 d hi (lv_at hl q hq) (k H locs ls hP hS hl)
theorem gv_aloadN (C : gm_X x cc nL own ret rk) {i : Nat} (q : Nat) (hq : lv[q]? = some (i, .null)) (d : decode cc pc = .ok (.aload i, 2)) (n : Nat) (hn : pc + 2 = n) (k : gm_V x G n lv (.null :: st)) : gm_V x G pc lv (st) := by
  subst hn
  exact fun H locs ls hP hS hl => lv_aloadN C.1 C.2.1 d (lv_at hl q hq) (k H locs ls hP hS hl)
theorem gv_iadd (C : gm_X x cc nL own ret rk) {a b : Int32} (d : decode cc pc = .ok (.iadd, 1)) (n : Nat) (hn : pc + 1 = n) (k : gm_V x G n lv (.int (a + b) :: st)) : gm_V x G pc lv (.int b :: .int a :: st) := by
  subst hn
  exact fun H locs ls hP hS hl => lv_iadd C.1 C.2.1 d (k H locs ls hP hS hl)
theorem gv_isub (C : gm_X x cc nL own ret rk) {a b : Int32} (d : decode cc pc = .ok (.isub, 1)) (n : Nat) (hn : pc + 1 = n) (k : gm_V x G n lv (.int (a - b) :: st)) : gm_V x G pc lv (.int b :: .int a :: st) := by
  subst hn
  exact fun H locs ls hP hS hl => lv_isub C.1 C.2.1 d (k H locs ls hP hS hl)
theorem gv_imul (C : gm_X x cc nL own ret rk) {a b : Int32} (d : decode cc pc = .ok (.imul, 1)) (n : Nat) (hn : pc + 1 = n) (k : gm_V x G n lv (.int (a * b) :: st)) : gm_V x G pc lv (.int b :: .int a :: st) := by
  subst hn
  exact fun H locs ls hP hS hl => lv_imul C.1 C.2.1 d (k H locs ls hP hS hl)
theorem gv_iand (C : gm_X x cc nL own ret rk) {a b : Int32} (d : decode cc pc = .ok (.iand, 1)) (n : Nat) (hn : pc + 1 = n) (k : gm_V x G n lv (.int (a &&& b) :: st)) : gm_V x G pc lv (.int b :: .int a :: st) := by
  subst hn
  exact fun H locs ls hP hS hl => lv_iand C.1 C.2.1 d (k H locs ls hP hS hl)
theorem gv_ishl (C : gm_X x cc nL own ret rk) {a b : Int32} (d : decode cc pc = .ok (.ishl, 1)) (n : Nat) (hn : pc + 1 = n) (k : gm_V x G n lv (.int (a <<< (b &&& 31)) :: st)) : gm_V x G pc lv (.int b :: .int a :: st) := by
  subst hn
  exact fun H locs ls hP hS hl => lv_ishl C.1 C.2.1 d (k H locs ls hP hS hl)
theorem gv_ishr (C : gm_X x cc nL own ret rk) {a b : Int32} (d : decode cc pc = .ok (.ishr, 1)) (n : Nat) (hn : pc + 1 = n) (k : gm_V x G n lv (.int (a >>> (b &&& 31)) :: st)) : gm_V x G pc lv (.int b :: .int a :: st) := by
  subst hn
  exact fun H locs ls hP hS hl => lv_ishr C.1 C.2.1 d (k H locs ls hP hS hl)
theorem gv_irem (C : gm_X x cc nL own ret rk) {a b : Int32} (hb : ¬ b = 0) (d : decode cc pc = .ok (.irem, 1)) (n : Nat) (hn : pc + 1 = n) (k : gm_V x G n lv (.int (a - a / b * b) :: st)) : gm_V x G pc lv (.int b :: .int a :: st) := by
  subst hn
  exact fun H locs ls hP hS hl => lv_irem C.1 C.2.1 d hb (k H locs ls hP hS hl)
theorem gv_dup (C : gm_X x cc nL own ret rk) {v : Value} (hv : v.category = 1) (d : decode cc pc = .ok (.dup, 1)) (n : Nat) (hn : pc + 1 = n) (k : gm_V x G n lv (v :: v :: st)) : gm_V x G pc lv (v :: st) := by
  subst hn
  exact fun H locs ls hP hS hl => lv_dup C.1 C.2.1 d hv (k H locs ls hP hS hl)
theorem gv_pop (C : gm_X x cc nL own ret rk) {v : Value} (hv : v.category = 1) (d : decode cc pc = .ok (.pop, 1)) (n : Nat) (hn : pc + 1 = n) (k : gm_V x G n lv (st)) : gm_V x G pc lv (v :: st) := by
  subst hn
  exact fun H locs ls hP hS hl => lv_pop C.1 C.2.1 d hv (k H locs ls hP hS hl)
theorem gv_dup2 (C : gm_X x cc nL own ret rk) {v u : Value} (hv : v.category = 1) (hu : u.category = 1) (d : decode cc pc = .ok (.dup2, 1)) (n : Nat) (hn : pc + 1 = n) (k : gm_V x G n lv (v :: u :: v :: u :: st)) : gm_V x G pc lv (v :: u :: st) := by
  subst hn
  exact fun H locs ls hP hS hl => lv_dup2_11 C.1 C.2.1 d hv hu (k H locs ls hP hS hl)
theorem gv_null (C : gm_X x cc nL own ret rk)  (d : decode cc pc = .ok (.aconst_null, 1)) (n : Nat) (hn : pc + 1 = n) (k : gm_V x G n lv (.null :: st)) : gm_V x G pc lv (st) := by
  subst hn
  exact fun H locs ls hP hS hl => lv_null C.1 C.2.1 d (k H locs ls hP hS hl)
theorem gv_ifnull (C : gm_X x cc nL own ret rk) {o : Int} {v : Nat} (d : decode cc pc = .ok (.ifnull o, 3)) (n : Nat) (hn : pc + 3 = n) (k : gm_V x G n lv (st)) : gm_V x G pc lv (.ref v :: st) := by
  subst hn
  exact fun H locs ls hP hS hl => lv_ifnull C.1 C.2.1 d (k H locs ls hP hS hl)
theorem gv_ifnonnullN (C : gm_X x cc nL own ret rk) {o : Int} (d : decode cc pc = .ok (.ifnonnull o, 3)) (n : Nat) (hn : pc + 3 = n) (k : gm_V x G n lv (st)) : gm_V x G pc lv (.null :: st) := by
  subst hn
  exact fun H locs ls hP hS hl => lv_ifnonnullN C.1 C.2.1 d (k H locs ls hP hS hl)
theorem gv_istore_n (C : gm_X x cc nL own ret rk) {j : Fin 4} {i : Nat} {v : Int32} (hi : (j : Nat) = i) (lv' : List (Nat × Value)) (hi' : i < nL) (hlv : (i, Value.int v) :: lv.filter (fun q => !(q.1 == i) && !(q.1 + 1 == i && q.2.category == 2)) = lv') (d : decode cc pc = .ok (.istore_n j, 1)) (n : Nat) (hn : pc + 1 = n) (k : gm_V x G n lv' (st)) : gm_V x G pc lv (.int v :: st) := by
  subst hn
  exact fun H locs ls hP hS hl => lv_istore_n C.1 C.2.1 d hi hl (by rw [C.2.2.1]; exact hi') hlv (fun ls' hl' => k H locs ls' hP hS hl')
theorem gv_istore (C : gm_X x cc nL own ret rk) {i : Nat} {v : Int32} (lv' : List (Nat × Value)) (hi' : i < nL) (hlv : (i, Value.int v) :: lv.filter (fun q => !(q.1 == i) && !(q.1 + 1 == i && q.2.category == 2)) = lv') (d : decode cc pc = .ok (.istore i, 2)) (n : Nat) (hn : pc + 2 = n) (k : gm_V x G n lv' (st)) : gm_V x G pc lv (.int v :: st) := by
  subst hn
  exact fun H locs ls hP hS hl => lv_istore C.1 C.2.1 d hl (by rw [C.2.2.1]; exact hi') hlv (fun ls' hl' => k H locs ls' hP hS hl')
theorem gv_astore_n (C : gm_X x cc nL own ret rk) {j : Fin 4} {i : Nat} {v : Nat} (hi : (j : Nat) = i) (lv' : List (Nat × Value)) (hi' : i < nL) (hlv : (i, Value.ref v) :: lv.filter (fun q => !(q.1 == i) && !(q.1 + 1 == i && q.2.category == 2)) = lv') (d : decode cc pc = .ok (.astore_n j, 1)) (n : Nat) (hn : pc + 1 = n) (k : gm_V x G n lv' (st)) : gm_V x G pc lv (.ref v :: st) := by
  subst hn
  exact fun H locs ls hP hS hl => lv_astore_n C.1 C.2.1 d hi hl (by rw [C.2.2.1]; exact hi') hlv (fun ls' hl' => k H locs ls' hP hS hl')
theorem gv_astore (C : gm_X x cc nL own ret rk) {i : Nat} {v : Nat} (lv' : List (Nat × Value)) (hi' : i < nL) (hlv : (i, Value.ref v) :: lv.filter (fun q => !(q.1 == i) && !(q.1 + 1 == i && q.2.category == 2)) = lv') (d : decode cc pc = .ok (.astore i, 2)) (n : Nat) (hn : pc + 2 = n) (k : gm_V x G n lv' (st)) : gm_V x G pc lv (.ref v :: st) := by
  subst hn
  exact fun H locs ls hP hS hl => lv_astore C.1 C.2.1 d hl (by rw [C.2.2.1]; exact hi') hlv (fun ls' hl' => k H locs ls' hP hS hl')
theorem gv_astore_nN (C : gm_X x cc nL own ret rk) {j : Fin 4} {i : Nat} (hi : (j : Nat) = i) (lv' : List (Nat × Value)) (hi' : i < nL) (hlv : (i, Value.null) :: lv.filter (fun q => !(q.1 == i) && !(q.1 + 1 == i && q.2.category == 2)) = lv') (d : decode cc pc = .ok (.astore_n j, 1)) (n : Nat) (hn : pc + 1 = n) (k : gm_V x G n lv' (st)) : gm_V x G pc lv (.null :: st) := by
  subst hn
  exact fun H locs ls hP hS hl => lv_astore_nN C.1 C.2.1 d hi hl (by rw [C.2.2.1]; exact hi') hlv (fun ls' hl' => k H locs ls' hP hS hl')
theorem gv_astoreN (C : gm_X x cc nL own ret rk) {i : Nat} (lv' : List (Nat × Value)) (hi' : i < nL) (hlv : (i, Value.null) :: lv.filter (fun q => !(q.1 == i) && !(q.1 + 1 == i && q.2.category == 2)) = lv') (d : decode cc pc = .ok (.astore i, 2)) (n : Nat) (hn : pc + 2 = n) (k : gm_V x G n lv' (st)) : gm_V x G pc lv (.null :: st) := by
  subst hn
  exact fun H locs ls hP hS hl => lv_astoreN C.1 C.2.1 d hl (by rw [C.2.2.1]; exact hi') hlv (fun ls' hl' => k H locs ls' hP hS hl')
theorem gv_iinc (C : gm_X x cc nL own ret rk) {i : Nat} {z : Int} {v u : Int32} (q : Nat) (hq : lv[q]? = some (i, .int v)) (hu : v + Int32.ofInt z = u) (lv' : List (Nat × Value)) (hi' : i < nL) (hlv : (i, Value.int u) :: lv.filter (fun q => !(q.1 == i) && !(q.1 + 1 == i && q.2.category == 2)) = lv') (d : decode cc pc = .ok (.iinc i z, 3)) (n : Nat) (hn : pc + 3 = n) (k : gm_V x G n lv' (st)) : gm_V x G pc lv (st) := by
  subst hn
  exact fun H locs ls hP hS hl => lv_iinc C.1 C.2.1 d hl hq hu (by rw [C.2.2.1]; exact hi') hlv (fun ls' hl' => k H locs ls' hP hS hl')
theorem gv_if_eq (C : gm_X x cc nL own ret rk) {a : Int32} {o : Int} (d : decode cc pc = .ok (.ifCond .eq o, 3)) (t : Nat) (ht : (pc : Int) + o = (t : Int)) (n : Nat) (hn : pc + 3 = n) (kp : a = 0 → gm_V x G t lv st) (kn : ¬ a = 0 → gm_V x G n lv st) : gm_V x G pc lv (.int a :: st) := by
  subst hn
  exact fun H locs ls hP hS hl => lv_if_eq C.1 C.2.1 d ht (fun c => kp c H locs ls hP hS hl) (fun c => kn c H locs ls hP hS hl)
theorem gv_if_lt (C : gm_X x cc nL own ret rk) {a : Int32} {o : Int} (d : decode cc pc = .ok (.ifCond .lt o, 3)) (t : Nat) (ht : (pc : Int) + o = (t : Int)) (n : Nat) (hn : pc + 3 = n) (kp : a < 0 → gm_V x G t lv st) (kn : ¬ a < 0 → gm_V x G n lv st) : gm_V x G pc lv (.int a :: st) := by
  subst hn
  exact fun H locs ls hP hS hl => lv_if_lt C.1 C.2.1 d ht (fun c => kp c H locs ls hP hS hl) (fun c => kn c H locs ls hP hS hl)
theorem gv_if_ge (C : gm_X x cc nL own ret rk) {a : Int32} {o : Int} (d : decode cc pc = .ok (.ifCond .ge o, 3)) (t : Nat) (ht : (pc : Int) + o = (t : Int)) (n : Nat) (hn : pc + 3 = n) (kp : 0 ≤ a → gm_V x G t lv st) (kn : ¬ 0 ≤ a → gm_V x G n lv st) : gm_V x G pc lv (.int a :: st) := by
  subst hn
  exact fun H locs ls hP hS hl => lv_if_ge C.1 C.2.1 d ht (fun c => kp c H locs ls hP hS hl) (fun c => kn c H locs ls hP hS hl)
theorem gv_if_gt (C : gm_X x cc nL own ret rk) {a : Int32} {o : Int} (d : decode cc pc = .ok (.ifCond .gt o, 3)) (t : Nat) (ht : (pc : Int) + o = (t : Int)) (n : Nat) (hn : pc + 3 = n) (kp : 0 < a → gm_V x G t lv st) (kn : ¬ 0 < a → gm_V x G n lv st) : gm_V x G pc lv (.int a :: st) := by
  subst hn
  exact fun H locs ls hP hS hl => lv_if_gt C.1 C.2.1 d ht (fun c => kp c H locs ls hP hS hl) (fun c => kn c H locs ls hP hS hl)
theorem gv_if_le (C : gm_X x cc nL own ret rk) {a : Int32} {o : Int} (d : decode cc pc = .ok (.ifCond .le o, 3)) (t : Nat) (ht : (pc : Int) + o = (t : Int)) (n : Nat) (hn : pc + 3 = n) (kp : a ≤ 0 → gm_V x G t lv st) (kn : ¬ a ≤ 0 → gm_V x G n lv st) : gm_V x G pc lv (.int a :: st) := by
  subst hn
  exact fun H locs ls hP hS hl => lv_if_le C.1 C.2.1 d ht (fun c => kp c H locs ls hP hS hl) (fun c => kn c H locs ls hP hS hl)
theorem gv_if_ne (C : gm_X x cc nL own ret rk) {a : Int32} {o : Int} (d : decode cc pc = .ok (.ifCond .ne o, 3)) (t : Nat) (ht : (pc : Int) + o = (t : Int)) (n : Nat) (hn : pc + 3 = n) (kp : a = 0 → gm_V x G n lv st) (kn : ¬ a = 0 → gm_V x G t lv st) : gm_V x G pc lv (.int a :: st) := by
  subst hn
  exact fun H locs ls hP hS hl => lv_if_ne C.1 C.2.1 d ht (fun c => kn c H locs ls hP hS hl) (fun c => kp c H locs ls hP hS hl)
theorem gv_icmp_eq (C : gm_X x cc nL own ret rk) {a b : Int32} {o : Int} (d : decode cc pc = .ok (.if_icmp .eq o, 3)) (t : Nat) (ht : (pc : Int) + o = (t : Int)) (n : Nat) (hn : pc + 3 = n) (kp : a = b → gm_V x G t lv st) (kn : ¬ a = b → gm_V x G n lv st) : gm_V x G pc lv (.int b :: .int a :: st) := by
  subst hn
  exact fun H locs ls hP hS hl => lv_icmp_eq C.1 C.2.1 d ht (fun c => kp c H locs ls hP hS hl) (fun c => kn c H locs ls hP hS hl)
theorem gv_icmp_lt (C : gm_X x cc nL own ret rk) {a b : Int32} {o : Int} (d : decode cc pc = .ok (.if_icmp .lt o, 3)) (t : Nat) (ht : (pc : Int) + o = (t : Int)) (n : Nat) (hn : pc + 3 = n) (kp : a < b → gm_V x G t lv st) (kn : ¬ a < b → gm_V x G n lv st) : gm_V x G pc lv (.int b :: .int a :: st) := by
  subst hn
  exact fun H locs ls hP hS hl => lv_icmp_lt C.1 C.2.1 d ht (fun c => kp c H locs ls hP hS hl) (fun c => kn c H locs ls hP hS hl)
theorem gv_icmp_ge (C : gm_X x cc nL own ret rk) {a b : Int32} {o : Int} (d : decode cc pc = .ok (.if_icmp .ge o, 3)) (t : Nat) (ht : (pc : Int) + o = (t : Int)) (n : Nat) (hn : pc + 3 = n) (kp : b ≤ a → gm_V x G t lv st) (kn : ¬ b ≤ a → gm_V x G n lv st) : gm_V x G pc lv (.int b :: .int a :: st) := by
  subst hn
  exact fun H locs ls hP hS hl => lv_icmp_ge C.1 C.2.1 d ht (fun c => kp c H locs ls hP hS hl) (fun c => kn c H locs ls hP hS hl)
theorem gv_icmp_gt (C : gm_X x cc nL own ret rk) {a b : Int32} {o : Int} (d : decode cc pc = .ok (.if_icmp .gt o, 3)) (t : Nat) (ht : (pc : Int) + o = (t : Int)) (n : Nat) (hn : pc + 3 = n) (kp : b < a → gm_V x G t lv st) (kn : ¬ b < a → gm_V x G n lv st) : gm_V x G pc lv (.int b :: .int a :: st) := by
  subst hn
  exact fun H locs ls hP hS hl => lv_icmp_gt C.1 C.2.1 d ht (fun c => kp c H locs ls hP hS hl) (fun c => kn c H locs ls hP hS hl)
theorem gv_icmp_le (C : gm_X x cc nL own ret rk) {a b : Int32} {o : Int} (d : decode cc pc = .ok (.if_icmp .le o, 3)) (t : Nat) (ht : (pc : Int) + o = (t : Int)) (n : Nat) (hn : pc + 3 = n) (kp : a ≤ b → gm_V x G t lv st) (kn : ¬ a ≤ b → gm_V x G n lv st) : gm_V x G pc lv (.int b :: .int a :: st) := by
  subst hn
  exact fun H locs ls hP hS hl => lv_icmp_le C.1 C.2.1 d ht (fun c => kp c H locs ls hP hS hl) (fun c => kn c H locs ls hP hS hl)
theorem gv_icmp_ne (C : gm_X x cc nL own ret rk) {a b : Int32} {o : Int} (d : decode cc pc = .ok (.if_icmp .ne o, 3)) (t : Nat) (ht : (pc : Int) + o = (t : Int)) (n : Nat) (hn : pc + 3 = n) (kp : a = b → gm_V x G n lv st) (kn : ¬ a = b → gm_V x G t lv st) : gm_V x G pc lv (.int b :: .int a :: st) := by
  subst hn
  exact fun H locs ls hP hS hl => lv_icmp_ne C.1 C.2.1 d ht (fun c => kn c H locs ls hP hS hl) (fun c => kp c H locs ls hP hS hl)
theorem gv_goto (C : gm_X x cc nL own ret rk) {o : Int} (d : decode cc pc = .ok (.goto o, 3)) (t : Nat) (ht : (pc : Int) + o = (t : Int)) (k : gm_V x G t lv st) : gm_V x G pc lv st := fun H locs ls hP hS hl => lv_goto C.1 C.2.1 d ht (k H locs ls hP hS hl)
theorem gv_ifnonnull (C : gm_X x cc nL own ret rk) {o : Int} {v : Nat} (d : decode cc pc = .ok (.ifnonnull o, 3)) (t : Nat) (ht : (pc : Int) + o = (t : Int)) (k : gm_V x G t lv st) : gm_V x G pc lv (.ref v :: st) := fun H locs ls hP hS hl => lv_ifnonnull C.1 C.2.1 d ht (k H locs ls hP hS hl)
theorem gv_ifnullN (C : gm_X x cc nL own ret rk) {o : Int} (d : decode cc pc = .ok (.ifnull o, 3)) (t : Nat) (ht : (pc : Int) + o = (t : Int)) (k : gm_V x G t lv st) : gm_V x G pc lv (.null :: st) := fun H locs ls hP hS hl => lv_ifnullN C.1 C.2.1 d ht (k H locs ls hP hS hl)
theorem gv_tableIn (C : gm_X x cc nL own ret rk) {df lo hi : Int} {os : Array Int} {ln : Nat} {a : Int32} (v : Int32) (hv : a = v) (d : decode cc pc = .ok (.tableswitch df lo hi os, ln)) (h1 : ¬ v.toInt < lo) (h2 : ¬ hi < v.toInt) {o : Int} (ho : os[(v.toInt - lo).toNat]? = some o) (t : Nat) (ht : (pc : Int) + o = (t : Int)) (k : gm_V x G t lv st) : gm_V x G pc lv (.int a :: st) := by
  subst hv
  exact fun H locs ls hP hS hl => lv_tableIn C.1 C.2.1 d h1 h2 ho ht (k H locs ls hP hS hl)
theorem gv_tableOut (C : gm_X x cc nL own ret rk) {df lo hi : Int} {os : Array Int} {ln : Nat} {a : Int32} (d : decode cc pc = .ok (.tableswitch df lo hi os, ln)) (h : a.toInt < lo ∨ hi < a.toInt) (t : Nat) (ht : (pc : Int) + df = (t : Int)) (k : gm_V x G t lv st) : gm_V x G pc lv (.int a :: st) := fun H locs ls hP hS hl => lv_tableOut C.1 C.2.1 d h ht (k H locs ls hP hS hl)
theorem gv_lookup (C : gm_X x cc nL own ret rk) {df : Int} {ps : Array (Int × Int)} {ln : Nat} {a : Int32} {o : Int} (d : decode cc pc = .ok (.lookupswitch df ps, ln)) (hp : (ps.toList.zip (ps.toList.drop 1)).all (fun (a, next) => a.1 < next.1) = true) (ho : Op.lookupswitch.offset ps.toList df a.toInt = o) (t : Nat) (ht : (pc : Int) + o = (t : Int)) (k : gm_V x G t lv st) : gm_V x G pc lv (.int a :: st) := fun H locs ls hP hS hl => lv_lookup C.1 C.2.1 d hp ho ht (k H locs ls hP hS hl)
theorem gv_getf (C : gm_X x cc nL own ret rk) {a b c ci i N idx : Nat} {fs : List Value} {v : Value} {Cn : String} {T : u_T} (hid : (a, b, c) ∈ gm_ids) (hc : gm_cel (gm_cy (cx_w x)) (gm_ad (cx_w x)) (G a b c) a b c = .inr (ci, fs)) (hcl : vwCl[ci]? = some (Cn, T, N)) (hin : ∀ w ∈ u_ws Cn T N, w ∈ TB) (hi : i < N) (hv : fs[i]? = some v) (hlk : Cond.fieldLink own idx (T i).1 (T i).2.1 (T i).2.2.1 ∈ TB) (d : decode cc pc = .ok (.getfield idx, 3)) (n : Nat) (hn : pc + 3 = n) (k : gm_V x G n lv (v :: st)) : gm_V x G pc lv (.ref (gm_ad (cx_w x) a b c) :: st) := by
  subst hn
  obtain ⟨q, hq⟩ := gm_at hid
  have he := gm_w_at (cx_w x) G hq
  rw [hc] at he
  exact fun H locs ls hP hS hl => va_get C.1 C.2.1 C.2.2.2.2.1 hin C.2.2.2.1 C.2.2.2.2.2.1.1 hP q he hcl i hi (C.2.2.2.2.1 _ hlk) (fun _ h => h) hv d (k H locs ls hP hS hl)
theorem gv_putf (C : gm_X x cc nL own ret rk) {a b c ci i N idx : Nat} {fs : List Value} {v : Int32} {Cn : String} {T : u_T} {ty : FieldType} (hid : (a, b, c) ∈ gm_ids) (hc : ∀ g : Nat → Int32, ∃ fs : List Value, gm_cel (gm_cy (cx_w x)) (gm_ad (cx_w x)) g a b c = .inr (ci, fs) ∧ i < fs.length ∧ gm_cel (gm_cy (cx_w x)) (gm_ad (cx_w x)) (upd g i v) a b c = .inr (ci, fs.set i (.int v))) (hcl : vwCl[ci]? = some (Cn, T, N)) (hin : ∀ w ∈ u_ws Cn T N, w ∈ TB) (ty0 : Nat → FieldType) (hty : ∀ k, k < N → parseFieldDescriptor (T k).2.2.1 = some (ty0 k)) (hnm : ∀ a, a < N → ∀ b, b < N → a ≠ b → (T a).2.1 ≠ (T b).2.1) (hi : i < N) (hfin : (T i).2.2.2 = false) (hd : parseFieldDescriptor (T i).2.2.1 = some ty) (hnr : narrow ty (.int v) = .int v) (hft : fits ty (.int v) = true) (hlk : Cond.fieldLink own idx (T i).1 (T i).2.1 (T i).2.2.1 ∈ TB) (d : decode cc pc = .ok (.putfield idx, 3)) (n : Nat) (hn : pc + 3 = n) (k : gm_V x (gm_up G a b c i v) n lv st) : gm_V x G pc lv (.int v :: .ref (gm_ad (cx_w x) a b c) :: st) := by
  subst hn
  obtain ⟨q, hq⟩ := gm_at hid
  obtain ⟨fs, h1, h2, h3⟩ := hc (G a b c)
  have he := gm_w_at (cx_w x) G hq
  rw [h1] at he
  have hset := gm_set (cx_w x) (G := G) (G' := gm_up G a b c i v) hq gm_up_ne
  rw [gm_up_at, h3] at hset
  intro H locs ls hP hS hl
  refine va_put C.1 C.2.1 C.2.2.2.2.1 hin ty0 hty hnm C.2.2.2.1 C.2.2.2.2.2.1.1 hP ((gm_dis C.2.2.2.2.2.2.1 G).weaken (fun _ q _ h => C.2.2.2.2.2.2.2.2.2.1 q.1 h)) hS q he hcl i hi (C.2.2.2.2.1 _ hlk) (fun _ h => h) hfin hd hnr hft h2 d (fun H1 locs1 hP1 _ hS1 => k H1 locs1 ls ?_ hS1 hl)
  rw [hset] at hP1
  exact hP1
theorem gv_iald (C : gm_X x cc nL own ret rk) {b c m : Nat} {i : Int32} (hid : (8, b, c) ∈ gm_ids) (hm : gm_len b c = m) (g : ¬ (i < 0 ∨ m ≤ i.toNatClampNeg)) (d : decode cc pc = .ok (.iaload, 1)) (n : Nat) (hn : pc + 1 = n) (k : gm_V x G n lv (.int (G 8 b c i.toNatClampNeg) :: st)) : gm_V x G pc lv (.int i :: .ref (gm_ad (cx_w x) 8 b c) :: st) := by
  subst hn hm
  obtain ⟨q, hq⟩ := gm_at hid
  have he := gm_w_at (cx_w x) G hq
  exact fun H locs ls hP hS hl => va_iald C.1 C.2.1 C.2.2.2.2.2.1.1 hP q 0 he rfl g d (k H locs ls hP hS hl)
theorem gv_iast (C : gm_X x cc nL own ret rk) {b c m : Nat} {i v : Int32} (hid : (8, b, c) ∈ gm_ids) (hm : gm_len b c = m) (g : ¬ (i < 0 ∨ m ≤ i.toNatClampNeg)) (d : decode cc pc = .ok (.iastore, 1)) (n : Nat) (hn : pc + 1 = n) (k : gm_V x (gm_up G 8 b c i.toNatClampNeg v) n lv st) : gm_V x G pc lv (.int v :: .int i :: .ref (gm_ad (cx_w x) 8 b c) :: st) := by
  subst hn hm
  obtain ⟨q, hq⟩ := gm_at hid
  have he := gm_w_at (cx_w x) G hq
  have hset := gm_set (cx_w x) (G := G) (G' := gm_up G 8 b c i.toNatClampNeg v) hq gm_up_ne
  rw [gm_up_at] at hset
  intro H locs ls hP hS hl
  refine va_iast C.1 C.2.1 C.2.2.2.2.2.1.1 hP ((gm_dis C.2.2.2.2.2.2.1 G).weaken (fun _ q _ h => C.2.2.2.2.2.2.2.2.2.1 q.1 h)) hS q 0 he rfl g d (fun H1 locs1 hP1 _ hS1 => k H1 locs1 ls ?_ hS1 hl)
  rw [← hset]
  exact hP1
theorem gv_zald (C : gm_X x cc nL own ret rk) {b c : Nat} {i : Int32} (hid : (9, b, c) ∈ gm_ids) (g : ¬ (i < 0 ∨ 2 ≤ i.toNatClampNeg)) (d : decode cc pc = .ok (.baload, 1)) (n : Nat) (hn : pc + 1 = n) (k : gm_V x G n lv (.int (G 9 b c i.toNatClampNeg) :: st)) : gm_V x G pc lv (.int i :: .ref (gm_ad (cx_w x) 9 b c) :: st) := by
  subst hn
  obtain ⟨q, hq⟩ := gm_at hid
  have he := gm_w_at (cx_w x) G hq
  exact fun H locs ls hP hS hl => va_zald C.1 C.2.1 C.2.2.2.2.2.1.1 hP q 1 he rfl g d (k H locs ls hP hS hl)
theorem gv_zast (C : gm_X x cc nL own ret rk) {b c : Nat} {i v : Int32} (hid : (9, b, c) ∈ gm_ids) (g : ¬ (i < 0 ∨ 2 ≤ i.toNatClampNeg)) (hv : vp_nar .boolean v = v) (d : decode cc pc = .ok (.bastore, 1)) (n : Nat) (hn : pc + 1 = n) (k : gm_V x (gm_up G 9 b c i.toNatClampNeg v) n lv st) : gm_V x G pc lv (.int v :: .int i :: .ref (gm_ad (cx_w x) 9 b c) :: st) := by
  subst hn
  obtain ⟨q, hq⟩ := gm_at hid
  have he := gm_w_at (cx_w x) G hq
  have hset := gm_set (cx_w x) (G := G) (G' := gm_up G 9 b c i.toNatClampNeg v) hq gm_up_ne
  rw [gm_up_at] at hset
  intro H locs ls hP hS hl
  refine va_zast C.1 C.2.1 C.2.2.2.2.2.1.1 hP ((gm_dis C.2.2.2.2.2.2.1 G).weaken (fun _ q _ h => C.2.2.2.2.2.2.2.2.2.1 q.1 h)) hS q 1 he rfl g d (fun H1 locs1 hP1 _ hS1 => k H1 locs1 ls ?_ hS1 hl)
  rw [hv] at hP1
  rw [← hset]
  exact hP1
theorem gv_aald10 (C : gm_X x cc nL own ret rk) {b : Nat} {i : Int32} (hid : (10, b, 0) ∈ gm_ids) (g : ¬ (i < 0 ∨ 10 ≤ i.toNatClampNeg)) (d : decode cc pc = .ok (.aaload, 1)) (n : Nat) (hn : pc + 1 = n) (k : gm_V x G n lv (.ref (gm_ad (cx_w x) 0 b i.toNatClampNeg) :: st)) : gm_V x G pc lv (.int i :: .ref (gm_ad (cx_w x) 10 b 0) :: st) := by
  subst hn
  obtain ⟨q, hq⟩ := gm_at hid
  have he := gm_w_at (cx_w x) G hq
  exact fun H locs ls hP hS hl => va_aldq (C := RX0) C.1 C.2.1 C.2.2.2.2.2.1.1 hP q 2 he rfl g d (k H locs ls hP hS hl)
theorem gv_aald11 (C : gm_X x cc nL own ret rk) {b : Nat} {i : Int32} (hid : (11, b, 0) ∈ gm_ids) (g : ¬ (i < 0 ∨ 2 ≤ i.toNatClampNeg)) (d : decode cc pc = .ok (.aaload, 1)) (n : Nat) (hn : pc + 1 = n) (k : gm_V x G n lv (.ref (gm_ad (cx_w x) 1 (i.toNatClampNeg + 2) 0) :: st)) : gm_V x G pc lv (.int i :: .ref (gm_ad (cx_w x) 11 b 0) :: st) := by
  subst hn
  obtain ⟨q, hq⟩ := gm_at hid
  have he := gm_w_at (cx_w x) G hq
  exact fun H locs ls hP hS hl => va_aldq (C := RX1) C.1 C.2.1 C.2.2.2.2.2.1.1 hP q 3 he rfl g d (k H locs ls hP hS hl)
theorem gv_aald12 (C : gm_X x cc nL own ret rk) {b : Nat} {i : Int32} (hid : (12, b, 0) ∈ gm_ids) (g : ¬ (i < 0 ∨ 5 ≤ i.toNatClampNeg)) (d : decode cc pc = .ok (.aaload, 1)) (n : Nat) (hn : pc + 1 = n) (k : gm_V x G n lv (.ref (gm_ad (cx_w x) 4 b i.toNatClampNeg) :: st)) : gm_V x G pc lv (.int i :: .ref (gm_ad (cx_w x) 12 b 0) :: st) := by
  subst hn
  obtain ⟨q, hq⟩ := gm_at hid
  have he := gm_w_at (cx_w x) G hq
  exact fun H locs ls hP hS hl => va_aldq (C := RX4) C.1 C.2.1 C.2.2.2.2.2.1.1 hP q 4 he rfl g d (k H locs ls hP hS hl)
theorem gv_aald13 (C : gm_X x cc nL own ret rk) {b : Nat} {i : Int32} (hid : (13, b, 0) ∈ gm_ids) (g : ¬ (i < 0 ∨ 12 ≤ i.toNatClampNeg)) (d : decode cc pc = .ok (.aaload, 1)) (n : Nat) (hn : pc + 1 = n) (k : gm_V x G n lv (.ref (gm_ad (cx_w x) 5 b i.toNatClampNeg) :: st)) : gm_V x G pc lv (.int i :: .ref (gm_ad (cx_w x) 13 b 0) :: st) := by
  subst hn
  obtain ⟨q, hq⟩ := gm_at hid
  have he := gm_w_at (cx_w x) G hq
  exact fun H locs ls hP hS hl => va_aldq (C := RX5) C.1 C.2.1 C.2.2.2.2.2.1.1 hP q 5 he rfl g d (k H locs ls hP hS hl)
theorem gv_max (C : gm_X x cc nL own ret rk) {a b : Int32} {idx : Nat} (hlk : Cond.methodLink own idx Lib.Math.max.name ∈ TB) (h1 : Cond.static Lib.Math.max.name ∈ TB) (h2 : Cond.initialized "java/lang/Math" ∈ TB) (h3 : Cond.code Lib.Math.max.name Lib.Math.max.code 2 (some .int) ∈ TB) (hrk : 1 ≤ rk) (hs : (st.map fun v => v.category).sum ≤ 8) (d : decode cc pc = .ok (.invokestatic idx, 3)) (n : Nat) (hn : pc + 3 = n) (k : gm_V x G n lv (.int (if a < b then b else a) :: st)) : gm_V x G pc lv (.int b :: .int a :: st) := by
  subst hn
  obtain ⟨r1, r2, r3, r4⟩ := C.2.2.2.2.2.2.2.2.2.2
  exact fun H locs ls hP hS hl => va_mmax C.1 C.2.1 (hl.1).symm C.2.2.2.1 (C.2.2.2.2.1 _ hlk) (C.2.2.2.2.1 _ h1) (C.2.2.2.2.1 _ h2) (C.2.2.2.2.1 _ h3) (by omega) (by omega) r3 r4 d (k H locs ls hP hS hl)
def gm_cp (G : Gm) (b c b' c' m : Nat) : Gm := fun a1 b1 c1 k1 => if a1 = 8 ∧ b1 = b' ∧ c1 = c' then va_cpy (G 8 b c) (G 8 b' c') 0 0 m k1 else G a1 b1 c1 k1
theorem gv_copy (C : gm_X x cc nL own ret rk) {b c b' c' : Nat} {z : Int32} (m : Nat) (hz : z.toNatClampNeg = m) (hz0 : ¬ z < 0) {idx : Nat} (hid : (8, b, c) ∈ gm_ids) (hid' : (8, b', c') ∈ gm_ids) (hm : m ≤ gm_len b c) (hm' : m ≤ gm_len b' c') (hlk : Cond.methodLink own idx arraycopyName ∈ TB) (h1 : Cond.native arraycopyName ∈ TB) (h2 : Cond.static arraycopyName ∈ TB) (h3 : Cond.initialized "java/lang/System" ∈ TB) (hrk : 1 ≤ rk) (hs : (st.map fun v => v.category).sum ≤ 8) (d : decode cc pc = .ok (.invokestatic idx, 3)) (n : Nat) (hn : pc + 3 = n) (k : gm_V x (gm_cp G b c b' c' m) n lv st) : gm_V x G pc lv (.int z :: .int 0 :: .ref (gm_ad (cx_w x) 8 b' c') :: .int 0 :: .ref (gm_ad (cx_w x) 8 b c) :: st) := by
  subst hn
  obtain ⟨r1, r2, r3, r4⟩ := C.2.2.2.2.2.2.2.2.2.2
  obtain ⟨q, hq⟩ := gm_at hid
  obtain ⟨q', hq'⟩ := gm_at hid'
  have he := gm_w_at (cx_w x) G hq
  have he' := gm_w_at (cx_w x) G hq'
  have hset := gm_set (cx_w x) (G := G) (G' := gm_cp G b c b' c' m) hq' (fun a1 b1 c1 h => by funext k1; simp only [gm_cp]; rw [if_neg]; rintro ⟨e1, e2, e3⟩; exact h ⟨e1, e2, e3⟩)
  have hself : gm_cp G b c b' c' m 8 b' c' = va_cpy (G 8 b c) (G 8 b' c') 0 0 m := by funext k1; simp [gm_cp]
  rw [hself] at hset
  intro H locs ls hP hS hl
  refine va_copyi (ty := .int) C.1 C.2.1 (hl.1).symm C.2.2.2.1 (C.2.2.2.2.1 _ hlk) (C.2.2.2.2.1 _ h1) (C.2.2.2.2.1 _ h2) (C.2.2.2.2.1 _ h3) C.2.2.2.2.2.1.1 hP ((gm_dis C.2.2.2.2.2.2.1 G).weaken (fun _ q _ h => C.2.2.2.2.2.2.2.2.2.1 q.1 h)) hS q q' 0 0 he he' rfl rfl rfl (by decide) (by decide) hz0 (by rw [hz]; simpa using hm) (by rw [hz]; simpa using hm') (fun i _ => rfl) (by omega) ?_ d (fun H1 locs1 hP1 _ hS1 => k H1 locs1 ls ?_ hS1 hl)
  · have : nativeFrameWords "java/lang/System" "arraycopy" 5 + 11 ≤ 28 := by decide
    omega
  · rw [← hset]
    rw [hz] at hP1
    exact hP1
def gm_Qc (w : gm_Wd) (r : Option Value) (G' : Gm) : Array Value → State → Outcome → State → Prop := fun _ st oc t => (oc = .returned r ∧ va_P (gm_D w) vwCl (gm_w w G') t.heap) ∧ va_F (gm_A w) st t
/-- what a method's walk is asked for -/
def gm_E (x : gm_Cx) (r : Option Value) (G' : Gm) : Prop := cx_Q x = MQ (cx_below x) (gm_Qc (cx_w x) r G') (cx_args x) (cx_s x) (cx_k x).1 (cx_k x).2 (gm_A (cx_w x)) ∧ cx_A x = gm_A (cx_w x)
theorem gv_iret (C : gm_X x cc nL own (some .int) rk) {v : Int32} {r : Option Value} {G' : Gm} (E : gm_E x r G') (h1 : some (.int v) = r) (h2 : G = G') (d : decode cc pc = .ok (.ireturn, 1)) : gm_V x G pc lv [.int v] := by
  subst h1 h2
  intro H locs ls hP hS hl
  obtain ⟨hQ, hA⟩ := E
  rw [hA] at hS
  rw [hQ]
  exact W.iret C.1 C.2.1 C.2.2.2.2.2.2.2.1 (fun t ht hW => ⟨⟨rfl, by rw [ht]; exact hP⟩, hS.F ht⟩) hS.2.2 d C.2.2.2.2.2.2.2.2.1
theorem gv_zret (C : gm_X x cc nL own (some .boolean) rk) {v : Int32} {r : Option Value} {G' : Gm} (E : gm_E x r G') (hz : v = 0 ∨ v = 1) (h1 : some (.int v) = r) (h2 : G = G') (d : decode cc pc = .ok (.ireturn, 1)) : gm_V x G pc lv [.int v] := by
  subst h1 h2
  intro H locs ls hP hS hl
  obtain ⟨hQ, hA⟩ := E
  rw [hA] at hS
  rw [hQ]
  exact W.zret C.1 C.2.1 C.2.2.2.2.2.2.2.1 (by rcases hz with rfl | rfl <;> rfl) (fun t ht hW => ⟨⟨rfl, by rw [ht]; exact hP⟩, hS.F ht⟩) hS.2.2 d C.2.2.2.2.2.2.2.2.1
theorem gv_vret (C : gm_X x cc nL own none rk) {r : Option Value} {G' : Gm} (E : gm_E x r G') (h1 : none = r) (h2 : G = G') (d : decode cc pc = .ok (.return_, 1)) : gm_V x G pc lv [] := by
  subst h1 h2
  intro H locs ls hP hS hl
  obtain ⟨hQ, hA⟩ := E
  rw [hA] at hS
  rw [hQ]
  exact W.vret C.1 C.2.1 C.2.2.2.2.2.2.2.1 (fun t ht hW => ⟨⟨rfl, by rw [ht]; exact hP⟩, hS.F ht⟩) hS.2.2 d C.2.2.2.2.2.2.2.2.1
theorem gv_aret {nm : String} (C : gm_X x cc nL own (some (.object nm)) rk) {v : Value} {r : Option Value} {G' : Gm} (E : gm_E x r G') (hv : v = .null ∨ ∃ a, v = .ref a) (h1 : some v = r) (h2 : G = G') (d : decode cc pc = .ok (.areturn, 1)) : gm_V x G pc lv [v] := by
  subst h1 h2
  intro H locs ls hP hS hl
  obtain ⟨hQ, hA⟩ := E
  rw [hA] at hS
  rw [hQ]
  exact W.aret C.1 C.2.1 C.2.2.2.2.2.2.2.1 (Or.inl ⟨_, rfl⟩) hv (fun t ht hW => ⟨⟨rfl, by rw [ht]; exact hP⟩, hS.F ht⟩) hS.2.2 d C.2.2.2.2.2.2.2.2.1
/-- other words for the locals -/
theorem gm_lv {lv' : List (Nat × Value)} (h : lv = lv') (k : gm_V x G pc lv' st) : gm_V x G pc lv st := h ▸ k
theorem gm_ls (ks : List Nat) {lv' : List (Nat × Value)} (h : lv_pick lv ks = lv') (k : gm_V x G pc lv' st) : gm_V x G pc lv st := fun H locs ls hP hS hl => k H locs ls hP hS (lv_sub hl ks h)
end
/-- A METHOD'S CONTRACT OUT OF ITS WALK -/
theorem gm_start {w : gm_Wd} {y : MethodName} {cc : ByteArray} {mL : Nat} {ret : Option FieldType} {rk : Nat} {av : List Value} {G : Gm} {r : Option Value} {G' : Gm} (hy : plainName y.cls = true) (hav : (lg_sl av).length ≤ mL)
    (body : ∀ x : gm_Cx, cx_w x = w → gm_X x cc mL y.cls ret rk → gm_E x r G' → gm_V x G 0 (lv_args 0 av) []) : gm_C w y cc mL ret rk av G r G' := by
  refine Met.ofW (cc := cc) (maxL := mL) (ret := ret) hy rfl ?_
  intro p e s m args below meth c s₁ B hml hv
  obtain ⟨rfl, hP, hK, hJ⟩ := hv
  have hts := atoms_spec (ws := Cond.code y cc mL ret :: TB) B.pre
  have hl := lv_entry av (n := mL) hav
  rw [lg_entry_eq]
  have := body (p, e, gm_rm rk, s, m, av.toArray, below, meth, c, MQ below (gm_Qc w r G') av.toArray s 0 0 (gm_A w), gm_A w, (0, 0), w) rfl
    ⟨B.exec, B.bytes, hml, findClass_of_methodNamed B.named, fun q hq => hts q (List.mem_cons_of_mem _ hq), hK, hJ, B.returns, B.notSynchronized, fun _ h => h, Nat.le_refl _, Nat.le_refl _, Nat.le_refl _, Nat.le_refl _⟩ ⟨rfl, rfl⟩
  exact this s.heap [] _ hP va_S.rf (by rw [hml]; exact hl)
/-- what a call needs of a method -/
def gm_M (y : MethodName) (bytes : ByteArray) (mL : Nat) (ret : Option FieldType) (n : Nat) : Prop := Cond.code y bytes mL ret ∈ TB ∧ Cond.initialized y.cls ∈ TB ∧ (y.cls ≠ "java/lang/invoke/MethodHandle" ∧ y.cls ≠ "java/lang/invoke/VarHandle" ∧ (parseMethodDescriptor y.desc).map (fun d => d.parameters.length) = some n) ∧ mL ≤ 17
section
variable {x : gm_Cx} {cc : ByteArray} {nL : Nat} {own : String} {ret : Option FieldType} {rk : Nat} {G G1 : Gm} {pc : Nat} {lv : List (Nat × Value)} {st st0 : List Value}
  {y : MethodName} {bytes : ByteArray} {mL : Nat} {rt : Option FieldType} {kn k' idx : Nat} {r : Option Value} {As : List Value}
theorem gm_pre (C : gm_X x cc nL own ret rk) {av : List Value} {H : Heap} (hP : va_P (gm_D (cx_w x)) vwCl (gm_w (cx_w x) G) H) : PreS (cx_s x) H (va_Pc av (fun U => va_P (gm_D (cx_w x)) vwCl (gm_w (cx_w x) G) U.heap ∧ gm_K (cx_w x) U ∧ gm_J (cx_w x))) av :=
  ⟨fun a U g mk q => by obtain ⟨q0, qP, qK, qJ⟩ := q; exact ⟨q0, qP, gm_K_same (s := U) (U := U.calling g mk a) rfl qK, qJ⟩, fun U hU hW => ⟨rfl, by rw [hU]; exact hP, gm_K_warm hW C.2.2.2.2.2.1, C.2.2.2.2.2.2.1⟩⟩
theorem gm_back (C : gm_X x cc nL own ret rk) {H : Heap} {locs : List Loc} {ls : Array Slot} {a : Array Value} (hS : va_S (cx_A x) (cx_s x).heap H locs) (hl : lv_has ls (cx_c x).maxLocals lv)
    (hr : va_Run (cx_p x) (cx_w x).1 (cx_e x) (cx_R x) (cx_s x) (cx_m x) (cx_args x) (cx_below x) (cx_meth x) (cx_c x) H locs (cx_k x).1 (cx_k x).2 0 0 (F0 (cx_m x) pc ls st0) st ((fun _ st oc t => (oc = .returned r ∧ va_P (gm_D (cx_w x)) vwCl (gm_w (cx_w x) G1) t.heap) ∧ va_F (gm_A (cx_w x)) st t : Array Value → State → Outcome → State → Prop) a) (gm_A (cx_w x)))
    (k : gm_V x G1 (pc + 3) lv (r.toList ++ st)) : W (cx_p x) (cx_w x).1 (cx_e x) (cx_R x) (cx_s x) (cx_m x) (cx_args x) (cx_below x) (cx_meth x) (cx_c x) H locs (cx_k x).1 (cx_k x).2 (cx_Q x) (F0 (cx_m x) pc ls st0) := by
  have hA := C.2.2.2.2.2.2.2.2.2.1
  intro T hT X
  obtain ⟨v, st₀, t, T', L, h0, X', hL, e1, e2, ⟨⟨hv, hP1⟩, hz, hk⟩, sp⟩ := hr T hT X
  cases hv
  rw [h0] at hz hk
  obtain ⟨t2, a1, b1⟩ := k T'.heap (locs ++ L) ls (by rw [e1]; exact hP1)
    ⟨Nat.le_trans hS.1 (by rw [e1]; exact hz), fun q h1 h2 => by rw [e1, hk q (Nat.lt_of_lt_of_le h1 hS.1) (fun z => h2 (hA q z))]; exact hS.2.1 q h1 h2, fun q hq => by
      rcases List.mem_append.mp hq with h | h
      · exact hS.2.2 q h
      · exact hA _ (hL q h)⟩ hl T' rfl X'
  exact ⟨t2, sp t2 a1, b1⟩
theorem gm_B (C : gm_X x cc nL own ret rk) (M : gm_M y bytes mL rt kn) (hk : k' + 1 ≤ rk) (hlk : Cond.methodLink own idx y ∈ TB) : CallB (cx_R x) (cx_s x) (cx_args x) own idx y bytes mL rt (Cond.code y bytes mL rt :: TB) (gm_rm k') 0 0 kn := by
  obtain ⟨r1, r2, r3, r4⟩ := C.2.2.2.2.2.2.2.2.2.2
  obtain ⟨m1, m2, m3, m4⟩ := M
  exact callB_of kn C.2.2.2.2.1 (gm_in m1) rfl rfl rfl (C.2.2.2.2.1 _ m2) (C.2.2.2.2.1 _ hlk) m3 ⟨by show k' + 1 ≤ _; omega, by show 8 + (mL + 11) + 36 * k' ≤ _; omega⟩
theorem gv_callV (C : gm_X x cc nL own ret rk) (M : gm_M y bytes mL rt kn) (M2 : Cond.instanceMethod y ∈ TB ∧ Cond.selects y.cls y y ∈ TB) (hk : k' + 1 ≤ rk) (hlk : Cond.methodLink own idx y ∈ TB)
    {a b c ci : Nat} {q : vw_C} (hid : (a, b, c) ∈ gm_ids) (hc : ∃ fs, gm_cel (gm_cy (cx_w x)) (gm_ad (cx_w x)) (G a b c) a b c = .inr (ci, fs)) (hq : vwCl[ci]? = some q) (hqy : q.1 = y.cls)
    (hM : gm_C (cx_w x) y bytes mL rt k' (.ref (gm_ad (cx_w x) a b c) :: As) G r G1) (hn : As.length = kn) (hst : st0 = As.reverse ++ .ref (gm_ad (cx_w x) a b c) :: st) (hs : (st.map fun v => v.category).sum ≤ 8) (d : decode cc pc = .ok (.invokevirtual idx, 3)) (n : Nat) (hpc : pc + 3 = n) (k : gm_V x G1 n lv (r.toList ++ st)) : gm_V x G pc lv st0 := by
  subst hpc
  intro H locs ls hP hS hl
  obtain ⟨k0, hk0⟩ := gm_at hid
  have he := gm_w_at (cx_w x) G hk0
  obtain ⟨fs, hc⟩ := hc
  rw [hc] at he
  have hrv := va_recv C.2.2.2.2.2.1.1 hP hq he
  rw [hqy] at hrv
  refine gm_back (a := (Value.ref (gm_ad (cx_w x) a b c) :: As).toArray) C hS hl (va_runV (b := gm_ad (cx_w x) a b c) (As := As) (rest := st) (C := y.cls) ⟨C.1, C.2.1, rfl, C.2.2.2.1, C.2.2.2.2.1⟩ hM ⟨gm_B C M hk hlk, C.2.2.2.2.1 _ M2.1, C.2.2.2.2.1 _ M2.2⟩ ⟨(gm_pre C hP).1, hrv, (gm_pre C hP).2⟩ rfl hn hl.1 hst (lv_room hs) d ⟨?_, ?_⟩) k
  · have := C.2.2.2.2.2.2.2.2.2.2.2.2.1; omega
  · have := C.2.2.2.2.2.2.2.2.2.2.2.2.2; omega
theorem gv_callS (C : gm_X x cc nL own ret rk) (M : gm_M y bytes mL rt kn) (M2 : Cond.static y ∈ TB) (hk : k' + 1 ≤ rk) (hlk : Cond.methodLink own idx y ∈ TB)
    (hM : gm_C (cx_w x) y bytes mL rt k' As G r G1) (hn : As.length = kn) (hst : st0 = As.reverse ++ st) (hs : (st.map fun v => v.category).sum ≤ 8) (d : decode cc pc = .ok (.invokestatic idx, 3)) (n : Nat) (hpc : pc + 3 = n) (k : gm_V x G1 n lv (r.toList ++ st)) : gm_V x G pc lv st0 := by
  subst hpc
  intro H locs ls hP hS hl
  refine gm_back (a := As.toArray) C hS hl (va_runS (As := As) (rest := st) ⟨C.1, C.2.1, rfl, C.2.2.2.1, C.2.2.2.2.1⟩ hM ⟨gm_B C M hk hlk, C.2.2.2.2.1 _ M2⟩ (gm_pre C hP) rfl hn hl.1 hst (lv_room hs) d ⟨?_, ?_⟩) k
  · have := C.2.2.2.2.2.2.2.2.2.2.2.2.1; omega
  · have := C.2.2.2.2.2.2.2.2.2.2.2.2.2; omega
theorem gv_callSN (C : gm_X x cc nL own ret rk) (M : gm_M y bytes mL rt kn) (M2 : Cond.static y ∈ TB) (hk : k' + 1 ≤ rk) {host : String} (hlk : va_Nw (.methodLinkNest own idx y host) (cx_s x))
    (hM : gm_C (cx_w x) y bytes mL rt k' As G r G1) (hn : As.length = kn) (hst : st0 = As.reverse ++ st) (hs : (st.map fun v => v.category).sum ≤ 8) (d : decode cc pc = .ok (.invokestatic idx, 3)) (n : Nat) (hpc : pc + 3 = n) (k : gm_V x G1 n lv (r.toList ++ st)) : gm_V x G pc lv st0 := by
  subst hpc
  intro H locs ls hP hS hl
  obtain ⟨r1, r2, r3, r4⟩ := C.2.2.2.2.2.2.2.2.2.2
  obtain ⟨m1, m2, m3, m4⟩ := M
  refine gm_back (a := As.toArray) C hS hl (va_runSN (As := As) (rest := st) ⟨C.1, C.2.1, rfl, C.2.2.2.1, C.2.2.2.2.1⟩ hM ⟨va_cnB kn C.2.2.2.2.1 (gm_in m1) rfl rfl rfl hlk (C.2.2.2.2.1 _ m2) m3 ⟨by show k' + 1 ≤ _; omega, by show 8 + (mL + 11) + 36 * k' ≤ _; omega⟩, C.2.2.2.2.1 _ M2, trivial⟩ (gm_pre C hP) rfl hn hl.1 hst (lv_room hs) d ⟨?_, ?_⟩) k
  · omega
  · omega
end
end
section
theorem in_BlockBellsLaw : Cond.initialized RL ∈ TB := tb_T (List.mem_append_left _ (List.mem_of_getElem? (i := 0) rfl)) rfl
theorem in_BlockBells : Cond.initialized RX6 ∈ TB := tb_T (List.mem_append_left _ (List.mem_of_getElem? (i := 1) rfl)) rfl
theorem in_BlockBells_Line : Cond.initialized RX1 ∈ TB := tb_T (List.mem_append_left _ (List.mem_of_getElem? (i := 2) rfl)) rfl
theorem in_BlockBells_Section : Cond.initialized RX4 ∈ TB := tb_T (List.mem_append_left _ (List.mem_of_getElem? (i := 3) rfl)) rfl
theorem in_BlockBells_Block : Cond.initialized RX0 ∈ TB := tb_T (List.mem_append_left _ (List.mem_of_getElem? (i := 4) rfl)) rfl
theorem in_BlockBells_Train : Cond.initialized RX5 ∈ TB := tb_T (List.mem_append_left _ (List.mem_of_getElem? (i := 5) rfl)) rfl
theorem in_BlockBells_Register : Cond.initialized RX3 ∈ TB := tb_T (List.mem_append_left _ (List.mem_of_getElem? (i := 6) rfl)) rfl
theorem in_BlockBells_Pad : Cond.initialized RX2 ∈ TB := tb_T (List.mem_append_left _ (List.mem_of_getElem? (i := 7) rfl)) rfl
theorem in_BlockBellsModel : Cond.initialized RX7 ∈ TB := tb_T (List.mem_append_left _ (List.mem_of_getElem? (i := 8) rfl)) rfl
theorem in_java_lang_Math : Cond.initialized RJ9 ∈ TB := tb_T (List.mem_append_left _ (List.mem_of_getElem? (i := 9) rfl)) rfl
theorem in_java_lang_System : Cond.initialized RJ10 ∈ TB := tb_T (List.mem_append_left _ (List.mem_of_getElem? (i := 10) rfl)) rfl
theorem clL_7 : Cond.classLink RL 7 RX6 ∈ TB := tb_T (List.mem_append_left _ (List.mem_of_getElem? (i := 11) rfl)) rfl
theorem nwX6 : Cond.instantiable RX6 5 ∈ TB := tb_T (List.mem_append_left _ (List.mem_of_getElem? (i := 12) rfl)) rfl
theorem mkL_9 : Cond.methodLink RL 9 yX6_init ∈ TB := tb_T (List.mem_append_left _ (List.mem_of_getElem? (i := 13) rfl)) rfl
theorem mi_yX6_init : Cond.instanceMethod yX6_init ∈ TB := tb_T (List.mem_append_left _ (List.mem_of_getElem? (i := 14) rfl)) rfl
theorem mkX6_3 : Cond.methodLink RX6 3 objectInit ∈ TB := tb_T (List.mem_append_left _ (List.mem_of_getElem? (i := 16) rfl)) rfl
theorem mi_objectInit : Cond.instanceMethod objectInit ∈ TB := tb_T (List.mem_append_left _ (List.mem_of_getElem? (i := 17) rfl)) rfl
theorem clX6_9 : Cond.classLink RX6 9 RX1 ∈ TB := tb_T (List.mem_append_left _ (List.mem_of_getElem? (i := 19) rfl)) rfl
theorem nwX1 : Cond.instantiable RX1 8 ∈ TB := tb_T (List.mem_append_left _ (List.mem_of_getElem? (i := 20) rfl)) rfl
theorem mkX6_11 : Cond.methodLink RX6 11 yX1_init ∈ TB := tb_T (List.mem_append_left _ (List.mem_of_getElem? (i := 21) rfl)) rfl
theorem mi_yX1_init : Cond.instanceMethod yX1_init ∈ TB := tb_T (List.mem_append_left _ (List.mem_of_getElem? (i := 22) rfl)) rfl
theorem mkX1_3 : Cond.methodLink RX1 3 objectInit ∈ TB := tb_T (List.mem_append_left _ (List.mem_of_getElem? (i := 24) rfl)) rfl
theorem clX1_9 : Cond.classLink RX1 9 RX4 ∈ TB := tb_T (List.mem_append_left _ (List.mem_of_getElem? (i := 25) rfl)) rfl
theorem clX1_17 : Cond.classLink RX1 17 RX0 ∈ TB := tb_T (List.mem_append_left _ (List.mem_of_getElem? (i := 27) rfl)) rfl
theorem nwX4 : Cond.instantiable RX4 6 ∈ TB := tb_T (List.mem_append_left _ (List.mem_of_getElem? (i := 29) rfl)) rfl
theorem mkX1_23 : Cond.methodLink RX1 23 yX4_init ∈ TB := tb_T (List.mem_append_left _ (List.mem_of_getElem? (i := 30) rfl)) rfl
theorem mi_yX4_init : Cond.instanceMethod yX4_init ∈ TB := tb_T (List.mem_append_left _ (List.mem_of_getElem? (i := 31) rfl)) rfl
theorem mkX4_3 : Cond.methodLink RX4 3 objectInit ∈ TB := tb_T (List.mem_append_left _ (List.mem_of_getElem? (i := 33) rfl)) rfl
theorem lkX4_9 : Cond.fieldLink RX4 9 "BlockBells$Section" "number" "I" ∈ TB := tb_T (List.mem_append_left _ (List.mem_of_getElem? (i := 34) rfl)) rfl
theorem lkX3_35 : Cond.fieldLink RX3 35 "BlockBells$Section" "number" "I" ∈ TB := tb_T (List.mem_append_left _ (List.mem_of_getElem? (i := 35) rfl)) rfl
theorem lkX0_35 : Cond.fieldLink RX0 35 "BlockBells$Section" "number" "I" ∈ TB := tb_T (List.mem_append_left _ (List.mem_of_getElem? (i := 36) rfl)) rfl
theorem lkX5_44 : Cond.fieldLink RX5 44 "BlockBells$Section" "number" "I" ∈ TB := tb_T (List.mem_append_left _ (List.mem_of_getElem? (i := 37) rfl)) rfl
theorem lkX1_135 : Cond.fieldLink RX1 135 "BlockBells$Section" "number" "I" ∈ TB := tb_T (List.mem_append_left _ (List.mem_of_getElem? (i := 38) rfl)) rfl
theorem lkX4_15 : Cond.fieldLink RX4 15 "BlockBells$Section" "single" "Z" ∈ TB := tb_T (List.mem_append_left _ (List.mem_of_getElem? (i := 39) rfl)) rfl
theorem lkX1_231 : Cond.fieldLink RX1 231 "BlockBells$Section" "single" "Z" ∈ TB := tb_T (List.mem_append_left _ (List.mem_of_getElem? (i := 40) rfl)) rfl
theorem lkX4_19 : Cond.fieldLink RX4 19 "BlockBells$Section" "runningTime" "I" ∈ TB := tb_T (List.mem_append_left _ (List.mem_of_getElem? (i := 41) rfl)) rfl
theorem lkX6_46 : Cond.fieldLink RX6 46 "BlockBells$Section" "runningTime" "I" ∈ TB := tb_T (List.mem_append_left _ (List.mem_of_getElem? (i := 42) rfl)) rfl
theorem lkX5_47 : Cond.fieldLink RX5 47 "BlockBells$Section" "runningTime" "I" ∈ TB := tb_T (List.mem_append_left _ (List.mem_of_getElem? (i := 43) rfl)) rfl
theorem lkX1_259 : Cond.fieldLink RX1 259 "BlockBells$Section" "runningTime" "I" ∈ TB := tb_T (List.mem_append_left _ (List.mem_of_getElem? (i := 44) rfl)) rfl
theorem lkX4_22 : Cond.fieldLink RX4 22 "BlockBells$Section" "lowerTokens" "I" ∈ TB := tb_T (List.mem_append_left _ (List.mem_of_getElem? (i := 45) rfl)) rfl
theorem lkX4_25 : Cond.fieldLink RX4 25 "BlockBells$Section" "higherTokens" "I" ∈ TB := tb_T (List.mem_append_left _ (List.mem_of_getElem? (i := 46) rfl)) rfl
theorem lkX1_70 : Cond.fieldLink RX1 70 "BlockBells$Section" "tokenOut" "Z" ∈ TB := tb_T (List.mem_append_left _ (List.mem_of_getElem? (i := 47) rfl)) rfl
theorem lkX4_28 : Cond.fieldLink RX4 28 "BlockBells$Section" "tokenOut" "Z" ∈ TB := tb_T (List.mem_append_left _ (List.mem_of_getElem? (i := 48) rfl)) rfl
theorem nwX0 : Cond.instantiable RX0 7 ∈ TB := tb_T (List.mem_append_left _ (List.mem_of_getElem? (i := 62) rfl)) rfl
theorem mkX1_26 : Cond.methodLink RX1 26 yX0_init ∈ TB := tb_T (List.mem_append_left _ (List.mem_of_getElem? (i := 63) rfl)) rfl
theorem mi_yX0_init : Cond.instanceMethod yX0_init ∈ TB := tb_T (List.mem_append_left _ (List.mem_of_getElem? (i := 64) rfl)) rfl
theorem mkX0_3 : Cond.methodLink RX0 3 objectInit ∈ TB := tb_T (List.mem_append_left _ (List.mem_of_getElem? (i := 66) rfl)) rfl
theorem lkX0_9 : Cond.fieldLink RX0 9 "BlockBells$Block" "section" "LBlockBells$Section;" ∈ TB := tb_T (List.mem_append_left _ (List.mem_of_getElem? (i := 67) rfl)) rfl
theorem lkX3_29 : Cond.fieldLink RX3 29 "BlockBells$Block" "section" "LBlockBells$Section;" ∈ TB := tb_T (List.mem_append_left _ (List.mem_of_getElem? (i := 68) rfl)) rfl
theorem lkX1_131 : Cond.fieldLink RX1 131 "BlockBells$Block" "section" "LBlockBells$Section;" ∈ TB := tb_T (List.mem_append_left _ (List.mem_of_getElem? (i := 69) rfl)) rfl
theorem lkX0_15 : Cond.fieldLink RX0 15 "BlockBells$Block" "direction" "I" ∈ TB := tb_T (List.mem_append_left _ (List.mem_of_getElem? (i := 70) rfl)) rfl
theorem lkX3_40 : Cond.fieldLink RX3 40 "BlockBells$Block" "direction" "I" ∈ TB := tb_T (List.mem_append_left _ (List.mem_of_getElem? (i := 71) rfl)) rfl
theorem lkX1_220 : Cond.fieldLink RX1 220 "BlockBells$Block" "direction" "I" ∈ TB := tb_T (List.mem_append_left _ (List.mem_of_getElem? (i := 72) rfl)) rfl
theorem lkX0_19 : Cond.fieldLink RX0 19 "BlockBells$Block" "state" "I" ∈ TB := tb_T (List.mem_append_left _ (List.mem_of_getElem? (i := 73) rfl)) rfl
theorem lkX1_125 : Cond.fieldLink RX1 125 "BlockBells$Block" "state" "I" ∈ TB := tb_T (List.mem_append_left _ (List.mem_of_getElem? (i := 74) rfl)) rfl
theorem lkX0_22 : Cond.fieldLink RX0 22 "BlockBells$Block" "offered" "I" ∈ TB := tb_T (List.mem_append_left _ (List.mem_of_getElem? (i := 75) rfl)) rfl
theorem lkX1_169 : Cond.fieldLink RX1 169 "BlockBells$Block" "offered" "I" ∈ TB := tb_T (List.mem_append_left _ (List.mem_of_getElem? (i := 76) rfl)) rfl
theorem lkX0_25 : Cond.fieldLink RX0 25 "BlockBells$Block" "holder" "I" ∈ TB := tb_T (List.mem_append_left _ (List.mem_of_getElem? (i := 77) rfl)) rfl
theorem lkX1_128 : Cond.fieldLink RX1 128 "BlockBells$Block" "holder" "I" ∈ TB := tb_T (List.mem_append_left _ (List.mem_of_getElem? (i := 78) rfl)) rfl
theorem lkX0_28 : Cond.fieldLink RX0 28 "BlockBells$Block" "part" "Z" ∈ TB := tb_T (List.mem_append_left _ (List.mem_of_getElem? (i := 79) rfl)) rfl
theorem lkX1_197 : Cond.fieldLink RX1 197 "BlockBells$Block" "part" "Z" ∈ TB := tb_T (List.mem_append_left _ (List.mem_of_getElem? (i := 80) rfl)) rfl
theorem lkX0_32 : Cond.fieldLink RX0 32 "BlockBells$Block" "engineTicks" "I" ∈ TB := tb_T (List.mem_append_left _ (List.mem_of_getElem? (i := 81) rfl)) rfl
theorem lkX1_256 : Cond.fieldLink RX1 256 "BlockBells$Block" "engineTicks" "I" ∈ TB := tb_T (List.mem_append_left _ (List.mem_of_getElem? (i := 82) rfl)) rfl
theorem clX1_29 : Cond.classLink RX1 29 RX5 ∈ TB := tb_T (List.mem_append_left _ (List.mem_of_getElem? (i := 98) rfl)) rfl
theorem nwX5 : Cond.instantiable RX5 9 ∈ TB := tb_T (List.mem_append_left _ (List.mem_of_getElem? (i := 100) rfl)) rfl
theorem mkX1_35 : Cond.methodLink RX1 35 yX5_init ∈ TB := tb_T (List.mem_append_left _ (List.mem_of_getElem? (i := 101) rfl)) rfl
theorem mi_yX5_init : Cond.instanceMethod yX5_init ∈ TB := tb_T (List.mem_append_left _ (List.mem_of_getElem? (i := 102) rfl)) rfl
theorem mkX5_3 : Cond.methodLink RX5 3 objectInit ∈ TB := tb_T (List.mem_append_left _ (List.mem_of_getElem? (i := 104) rfl)) rfl
theorem lkX5_9 : Cond.fieldLink RX5 9 "BlockBells$Train" "number" "I" ∈ TB := tb_T (List.mem_append_left _ (List.mem_of_getElem? (i := 105) rfl)) rfl
theorem lkX1_153 : Cond.fieldLink RX1 153 "BlockBells$Train" "number" "I" ∈ TB := tb_T (List.mem_append_left _ (List.mem_of_getElem? (i := 106) rfl)) rfl
theorem lkX5_15 : Cond.fieldLink RX5 15 "BlockBells$Train" "kind" "I" ∈ TB := tb_T (List.mem_append_left _ (List.mem_of_getElem? (i := 107) rfl)) rfl
theorem lkX1_210 : Cond.fieldLink RX1 210 "BlockBells$Train" "kind" "I" ∈ TB := tb_T (List.mem_append_left _ (List.mem_of_getElem? (i := 108) rfl)) rfl
theorem lkX5_18 : Cond.fieldLink RX5 18 "BlockBells$Train" "direction" "I" ∈ TB := tb_T (List.mem_append_left _ (List.mem_of_getElem? (i := 109) rfl)) rfl
theorem lkX1_118 : Cond.fieldLink RX1 118 "BlockBells$Train" "direction" "I" ∈ TB := tb_T (List.mem_append_left _ (List.mem_of_getElem? (i := 110) rfl)) rfl
theorem lkX5_38 : Cond.fieldLink RX5 38 "BlockBells$Train" "where" "I" ∈ TB := tb_T (List.mem_append_left _ (List.mem_of_getElem? (i := 111) rfl)) rfl
theorem lkX1_100 : Cond.fieldLink RX1 100 "BlockBells$Train" "where" "I" ∈ TB := tb_T (List.mem_append_left _ (List.mem_of_getElem? (i := 112) rfl)) rfl
theorem lkX5_41 : Cond.fieldLink RX5 41 "BlockBells$Train" "place" "I" ∈ TB := tb_T (List.mem_append_left _ (List.mem_of_getElem? (i := 113) rfl)) rfl
theorem lkX1_115 : Cond.fieldLink RX1 115 "BlockBells$Train" "place" "I" ∈ TB := tb_T (List.mem_append_left _ (List.mem_of_getElem? (i := 114) rfl)) rfl
theorem lkX5_25 : Cond.fieldLink RX5 25 "BlockBells$Train" "ticksLeft" "I" ∈ TB := tb_T (List.mem_append_left _ (List.mem_of_getElem? (i := 115) rfl)) rfl
theorem lkX1_246 : Cond.fieldLink RX1 246 "BlockBells$Train" "ticksLeft" "I" ∈ TB := tb_T (List.mem_append_left _ (List.mem_of_getElem? (i := 116) rfl)) rfl
theorem lkX5_28 : Cond.fieldLink RX5 28 "BlockBells$Train" "whole" "Z" ∈ TB := tb_T (List.mem_append_left _ (List.mem_of_getElem? (i := 117) rfl)) rfl
theorem lkX1_194 : Cond.fieldLink RX1 194 "BlockBells$Train" "whole" "Z" ∈ TB := tb_T (List.mem_append_left _ (List.mem_of_getElem? (i := 118) rfl)) rfl
theorem lkX5_32 : Cond.fieldLink RX5 32 "BlockBells$Train" "appearedAt" "I" ∈ TB := tb_T (List.mem_append_left _ (List.mem_of_getElem? (i := 119) rfl)) rfl
theorem lkX1_191 : Cond.fieldLink RX1 191 "BlockBells$Train" "appearedAt" "I" ∈ TB := tb_T (List.mem_append_left _ (List.mem_of_getElem? (i := 120) rfl)) rfl
theorem lkX5_35 : Cond.fieldLink RX5 35 "BlockBells$Train" "leftAt" "I" ∈ TB := tb_T (List.mem_append_left _ (List.mem_of_getElem? (i := 121) rfl)) rfl
theorem clX1_40 : Cond.classLink RX1 40 RX3 ∈ TB := tb_T (List.mem_append_left _ (List.mem_of_getElem? (i := 141) rfl)) rfl
theorem nwX3 : Cond.instantiable RX3 2 ∈ TB := tb_T (List.mem_append_left _ (List.mem_of_getElem? (i := 142) rfl)) rfl
theorem mkX1_42 : Cond.methodLink RX1 42 yX3_init ∈ TB := tb_T (List.mem_append_left _ (List.mem_of_getElem? (i := 143) rfl)) rfl
theorem mi_yX3_init : Cond.instanceMethod yX3_init ∈ TB := tb_T (List.mem_append_left _ (List.mem_of_getElem? (i := 144) rfl)) rfl
theorem mkX3_3 : Cond.methodLink RX3 3 objectInit ∈ TB := tb_T (List.mem_append_left _ (List.mem_of_getElem? (i := 146) rfl)) rfl
theorem lkX3_9 : Cond.fieldLink RX3 9 "BlockBells$Register" "rows" "[I" ∈ TB := tb_T (List.mem_append_left _ (List.mem_of_getElem? (i := 147) rfl)) rfl
theorem lkX3_21 : Cond.fieldLink RX3 21 "BlockBells$Register" "total" "I" ∈ TB := tb_T (List.mem_append_left _ (List.mem_of_getElem? (i := 148) rfl)) rfl
theorem lkX1_64 : Cond.fieldLink RX1 64 "BlockBells$Register" "total" "I" ∈ TB := tb_T (List.mem_append_left _ (List.mem_of_getElem? (i := 149) rfl)) rfl
theorem lkX6_229 : Cond.fieldLink RX6 229 "BlockBells$Register" "total" "I" ∈ TB := tb_T (List.mem_append_left _ (List.mem_of_getElem? (i := 150) rfl)) rfl
theorem mkX1_47 : Cond.methodLink RX1 47 yX1_layOut ∈ TB := tb_T (List.mem_append_left _ (List.mem_of_getElem? (i := 157) rfl)) rfl
theorem mi_yX1_layOut : Cond.instanceMethod yX1_layOut ∈ TB := tb_T (List.mem_append_left _ (List.mem_of_getElem? (i := 158) rfl)) rfl
theorem me_yX1_layOut : Cond.selects RX1 yX1_layOut yX1_layOut ∈ TB := tb_T (List.mem_append_left _ (List.mem_of_getElem? (i := 159) rfl)) rfl
theorem mkX1_55 : Cond.methodLink RX1 55 yX4_layOut ∈ TB := tb_T (List.mem_append_left _ (List.mem_of_getElem? (i := 161) rfl)) rfl
theorem mi_yX4_layOut : Cond.instanceMethod yX4_layOut ∈ TB := tb_T (List.mem_append_left _ (List.mem_of_getElem? (i := 162) rfl)) rfl
theorem me_yX4_layOut : Cond.selects RX4 yX4_layOut yX4_layOut ∈ TB := tb_T (List.mem_append_left _ (List.mem_of_getElem? (i := 163) rfl)) rfl
theorem mkX1_58 : Cond.methodLink RX1 58 yX1_clearTraffic ∈ TB := tb_T (List.mem_append_left _ (List.mem_of_getElem? (i := 165) rfl)) rfl
theorem mi_yX1_clearTraffic : Cond.instanceMethod yX1_clearTraffic ∈ TB := tb_T (List.mem_append_left _ (List.mem_of_getElem? (i := 166) rfl)) rfl
theorem me_yX1_clearTraffic : Cond.selects RX1 yX1_clearTraffic yX1_clearTraffic ∈ TB := tb_T (List.mem_append_left _ (List.mem_of_getElem? (i := 167) rfl)) rfl
theorem mkX1_74 : Cond.methodLink RX1 74 yX0_reset ∈ TB := tb_T (List.mem_append_left _ (List.mem_of_getElem? (i := 169) rfl)) rfl
theorem mi_yX0_reset : Cond.instanceMethod yX0_reset ∈ TB := tb_T (List.mem_append_left _ (List.mem_of_getElem? (i := 170) rfl)) rfl
theorem me_yX0_reset : Cond.selects RX0 yX0_reset yX0_reset ∈ TB := tb_T (List.mem_append_left _ (List.mem_of_getElem? (i := 171) rfl)) rfl
theorem lkX1_11 : Cond.fieldLink RX1 11 "BlockBells$Line" "sections" "[LBlockBells$Section;" ∈ TB := tb_T (List.mem_append_left _ (List.mem_of_getElem? (i := 173) rfl)) rfl
theorem lkX1_19 : Cond.fieldLink RX1 19 "BlockBells$Line" "blocks" "[LBlockBells$Block;" ∈ TB := tb_T (List.mem_append_left _ (List.mem_of_getElem? (i := 174) rfl)) rfl
theorem lkX1_31 : Cond.fieldLink RX1 31 "BlockBells$Line" "trains" "[LBlockBells$Train;" ∈ TB := tb_T (List.mem_append_left _ (List.mem_of_getElem? (i := 175) rfl)) rfl
theorem lkX1_36 : Cond.fieldLink RX1 36 "BlockBells$Line" "loops" "[I" ∈ TB := tb_T (List.mem_append_left _ (List.mem_of_getElem? (i := 176) rfl)) rfl
theorem lkX1_43 : Cond.fieldLink RX1 43 "BlockBells$Line" "register" "LBlockBells$Register;" ∈ TB := tb_T (List.mem_append_left _ (List.mem_of_getElem? (i := 177) rfl)) rfl
theorem lkX6_139 : Cond.fieldLink RX6 139 "BlockBells$Line" "register" "LBlockBells$Register;" ∈ TB := tb_T (List.mem_append_left _ (List.mem_of_getElem? (i := 178) rfl)) rfl
theorem lkX1_51 : Cond.fieldLink RX1 51 "BlockBells$Line" "boxes" "I" ∈ TB := tb_T (List.mem_append_left _ (List.mem_of_getElem? (i := 179) rfl)) rfl
theorem lkX6_235 : Cond.fieldLink RX6 235 "BlockBells$Line" "boxes" "I" ∈ TB := tb_T (List.mem_append_left _ (List.mem_of_getElem? (i := 180) rfl)) rfl
theorem lkX6_34 : Cond.fieldLink RX6 34 "BlockBells$Line" "appeared" "I" ∈ TB := tb_T (List.mem_append_left _ (List.mem_of_getElem? (i := 181) rfl)) rfl
theorem lkX1_67 : Cond.fieldLink RX1 67 "BlockBells$Line" "appeared" "I" ∈ TB := tb_T (List.mem_append_left _ (List.mem_of_getElem? (i := 182) rfl)) rfl
theorem lkX1_61 : Cond.fieldLink RX1 61 "BlockBells$Line" "time" "I" ∈ TB := tb_T (List.mem_append_left _ (List.mem_of_getElem? (i := 183) rfl)) rfl
theorem lkX6_131 : Cond.fieldLink RX6 131 "BlockBells$Line" "time" "I" ∈ TB := tb_T (List.mem_append_left _ (List.mem_of_getElem? (i := 184) rfl)) rfl
theorem clX6_27 : Cond.classLink RX6 27 RX2 ∈ TB := tb_T (List.mem_append_left _ (List.mem_of_getElem? (i := 203) rfl)) rfl
theorem nwX2 : Cond.instantiable RX2 6 ∈ TB := tb_T (List.mem_append_left _ (List.mem_of_getElem? (i := 204) rfl)) rfl
theorem mkX6_29 : Cond.methodLink RX6 29 yX2_init ∈ TB := tb_T (List.mem_append_left _ (List.mem_of_getElem? (i := 205) rfl)) rfl
theorem mi_yX2_init : Cond.instanceMethod yX2_init ∈ TB := tb_T (List.mem_append_left _ (List.mem_of_getElem? (i := 206) rfl)) rfl
theorem mkX2_3 : Cond.methodLink RX2 3 objectInit ∈ TB := tb_T (List.mem_append_left _ (List.mem_of_getElem? (i := 208) rfl)) rfl
theorem lkX2_9 : Cond.fieldLink RX2 9 "BlockBells$Pad" "signs" "[I" ∈ TB := tb_T (List.mem_append_left _ (List.mem_of_getElem? (i := 209) rfl)) rfl
theorem lkX2_15 : Cond.fieldLink RX2 15 "BlockBells$Pad" "length" "I" ∈ TB := tb_T (List.mem_append_left _ (List.mem_of_getElem? (i := 210) rfl)) rfl
theorem lkX6_238 : Cond.fieldLink RX6 238 "BlockBells$Pad" "length" "I" ∈ TB := tb_T (List.mem_append_left _ (List.mem_of_getElem? (i := 211) rfl)) rfl
theorem lkX2_34 : Cond.fieldLink RX2 34 "BlockBells$Pad" "at" "I" ∈ TB := tb_T (List.mem_append_left _ (List.mem_of_getElem? (i := 212) rfl)) rfl
theorem lkX2_37 : Cond.fieldLink RX2 37 "BlockBells$Pad" "letter" "I" ∈ TB := tb_T (List.mem_append_left _ (List.mem_of_getElem? (i := 213) rfl)) rfl
theorem lkX6_183 : Cond.fieldLink RX6 183 "BlockBells$Pad" "letter" "I" ∈ TB := tb_T (List.mem_append_left _ (List.mem_of_getElem? (i := 214) rfl)) rfl
theorem lkX2_40 : Cond.fieldLink RX2 40 "BlockBells$Pad" "number" "I" ∈ TB := tb_T (List.mem_append_left _ (List.mem_of_getElem? (i := 215) rfl)) rfl
theorem lkX6_186 : Cond.fieldLink RX6 186 "BlockBells$Pad" "number" "I" ∈ TB := tb_T (List.mem_append_left _ (List.mem_of_getElem? (i := 216) rfl)) rfl
theorem lkX2_43 : Cond.fieldLink RX2 43 "BlockBells$Pad" "direction" "I" ∈ TB := tb_T (List.mem_append_left _ (List.mem_of_getElem? (i := 217) rfl)) rfl
theorem lkX6_189 : Cond.fieldLink RX6 189 "BlockBells$Pad" "direction" "I" ∈ TB := tb_T (List.mem_append_left _ (List.mem_of_getElem? (i := 218) rfl)) rfl
theorem lkX6_12 : Cond.fieldLink RX6 12 "BlockBells" "line" "LBlockBells$Line;" ∈ TB := tb_T (List.mem_append_left _ (List.mem_of_getElem? (i := 233) rfl)) rfl
theorem lkX6_16 : Cond.fieldLink RX6 16 "BlockBells" "trial" "LBlockBells$Line;" ∈ TB := tb_T (List.mem_append_left _ (List.mem_of_getElem? (i := 234) rfl)) rfl
theorem lkX6_19 : Cond.fieldLink RX6 19 "BlockBells" "slots" "[LBlockBells$Line;" ∈ TB := tb_T (List.mem_append_left _ (List.mem_of_getElem? (i := 235) rfl)) rfl
theorem lkX6_23 : Cond.fieldLink RX6 23 "BlockBells" "saved" "[Z" ∈ TB := tb_T (List.mem_append_left _ (List.mem_of_getElem? (i := 236) rfl)) rfl
theorem lkX6_30 : Cond.fieldLink RX6 30 "BlockBells" "pad" "LBlockBells$Pad;" ∈ TB := tb_T (List.mem_append_left _ (List.mem_of_getElem? (i := 237) rfl)) rfl
theorem mkL_13 : Cond.methodLink RL 13 yX6_setUp ∈ TB := tb_T (List.mem_append_right _ (List.mem_append_left _ (List.mem_of_getElem? (i := 9) rfl))) rfl
theorem mi_yX6_setUp : Cond.instanceMethod yX6_setUp ∈ TB := tb_T (List.mem_append_right _ (List.mem_append_left _ (List.mem_of_getElem? (i := 10) rfl))) rfl
theorem me_yX6_setUp : Cond.selects RX6 yX6_setUp yX6_setUp ∈ TB := tb_T (List.mem_append_right _ (List.mem_append_left _ (List.mem_of_getElem? (i := 11) rfl))) rfl
theorem mkX6_38 : Cond.methodLink RX6 38 yX1_layOut ∈ TB := tb_T (List.mem_append_right _ (List.mem_append_left _ (List.mem_of_getElem? (i := 13) rfl))) rfl
theorem mkL_18 : Cond.methodLink RL 18 yX6_setTime ∈ TB := tb_T (List.mem_append_right _ (List.mem_append_left _ (List.mem_of_getElem? (i := 14) rfl))) rfl
theorem mi_yX6_setTime : Cond.instanceMethod yX6_setTime ∈ TB := tb_T (List.mem_append_right _ (List.mem_append_left _ (List.mem_of_getElem? (i := 15) rfl))) rfl
theorem me_yX6_setTime : Cond.selects RX6 yX6_setTime yX6_setTime ∈ TB := tb_T (List.mem_append_right _ (List.mem_append_left _ (List.mem_of_getElem? (i := 16) rfl))) rfl
theorem mkX6_42 : Cond.methodLink RX6 42 yX1_sectionAt ∈ TB := tb_T (List.mem_append_right _ (List.mem_append_left _ (List.mem_of_getElem? (i := 18) rfl))) rfl
theorem mi_yX1_sectionAt : Cond.instanceMethod yX1_sectionAt ∈ TB := tb_T (List.mem_append_right _ (List.mem_append_left _ (List.mem_of_getElem? (i := 19) rfl))) rfl
theorem me_yX1_sectionAt : Cond.selects RX1 yX1_sectionAt yX1_sectionAt ∈ TB := tb_T (List.mem_append_right _ (List.mem_append_left _ (List.mem_of_getElem? (i := 20) rfl))) rfl
theorem mkL_22 : Cond.methodLink RL 22 yX6_setLoops ∈ TB := tb_T (List.mem_append_right _ (List.mem_append_left _ (List.mem_of_getElem? (i := 22) rfl))) rfl
theorem mi_yX6_setLoops : Cond.instanceMethod yX6_setLoops ∈ TB := tb_T (List.mem_append_right _ (List.mem_append_left _ (List.mem_of_getElem? (i := 23) rfl))) rfl
theorem me_yX6_setLoops : Cond.selects RX6 yX6_setLoops yX6_setLoops ∈ TB := tb_T (List.mem_append_right _ (List.mem_append_left _ (List.mem_of_getElem? (i := 24) rfl))) rfl
theorem mkX6_51 : Cond.methodLink RX6 51 yX1_hasBox ∈ TB := tb_T (List.mem_append_right _ (List.mem_append_left _ (List.mem_of_getElem? (i := 26) rfl))) rfl
theorem mi_yX1_hasBox : Cond.instanceMethod yX1_hasBox ∈ TB := tb_T (List.mem_append_right _ (List.mem_append_left _ (List.mem_of_getElem? (i := 27) rfl))) rfl
theorem me_yX1_hasBox : Cond.selects RX1 yX1_hasBox yX1_hasBox ∈ TB := tb_T (List.mem_append_right _ (List.mem_append_left _ (List.mem_of_getElem? (i := 28) rfl))) rfl
theorem mkX6_55 : Cond.methodLink RX6 55 yX6_isDirection ∈ TB := tb_T (List.mem_append_right _ (List.mem_append_left _ (List.mem_of_getElem? (i := 30) rfl))) rfl
theorem ms_yX6_isDirection : Cond.static yX6_isDirection ∈ TB := tb_T (List.mem_append_right _ (List.mem_append_left _ (List.mem_of_getElem? (i := 31) rfl))) rfl
theorem mkX6_58 : Cond.methodLink RX6 58 yX1_changeLoops ∈ TB := tb_T (List.mem_append_right _ (List.mem_append_left _ (List.mem_of_getElem? (i := 33) rfl))) rfl
theorem mi_yX1_changeLoops : Cond.instanceMethod yX1_changeLoops ∈ TB := tb_T (List.mem_append_right _ (List.mem_append_left _ (List.mem_of_getElem? (i := 34) rfl))) rfl
theorem me_yX1_changeLoops : Cond.selects RX1 yX1_changeLoops yX1_changeLoops ∈ TB := tb_T (List.mem_append_right _ (List.mem_append_left _ (List.mem_of_getElem? (i := 35) rfl))) rfl
theorem mkX1_107 : Cond.methodLink RX1 107 yX1_trainsStanding ∈ TB := tb_T (List.mem_append_right _ (List.mem_append_left _ (List.mem_of_getElem? (i := 37) rfl))) rfl
theorem mi_yX1_trainsStanding : Cond.instanceMethod yX1_trainsStanding ∈ TB := tb_T (List.mem_append_right _ (List.mem_append_left _ (List.mem_of_getElem? (i := 38) rfl))) rfl
theorem me_yX1_trainsStanding : Cond.selects RX1 yX1_trainsStanding yX1_trainsStanding ∈ TB := tb_T (List.mem_append_right _ (List.mem_append_left _ (List.mem_of_getElem? (i := 39) rfl))) rfl
theorem mkX1_111 : Cond.methodLink RX1 111 yX5_stands ∈ TB := tb_T (List.mem_append_right _ (List.mem_append_left _ (List.mem_of_getElem? (i := 41) rfl))) rfl
theorem mi_yX5_stands : Cond.instanceMethod yX5_stands ∈ TB := tb_T (List.mem_append_right _ (List.mem_append_left _ (List.mem_of_getElem? (i := 42) rfl))) rfl
theorem me_yX5_stands : Cond.selects RX5 yX5_stands yX5_stands ∈ TB := tb_T (List.mem_append_right _ (List.mem_append_left _ (List.mem_of_getElem? (i := 43) rfl))) rfl
theorem mkL_27 : Cond.methodLink RL 27 yX6_moveTokens ∈ TB := tb_T (List.mem_append_right _ (List.mem_append_left _ (List.mem_of_getElem? (i := 45) rfl))) rfl
theorem mi_yX6_moveTokens : Cond.instanceMethod yX6_moveTokens ∈ TB := tb_T (List.mem_append_right _ (List.mem_append_left _ (List.mem_of_getElem? (i := 46) rfl))) rfl
theorem me_yX6_moveTokens : Cond.selects RX6 yX6_moveTokens yX6_moveTokens ∈ TB := tb_T (List.mem_append_right _ (List.mem_append_left _ (List.mem_of_getElem? (i := 47) rfl))) rfl
theorem mkX6_62 : Cond.methodLink RX6 62 yX4_moveUp ∈ TB := tb_T (List.mem_append_right _ (List.mem_append_left _ (List.mem_of_getElem? (i := 49) rfl))) rfl
theorem mi_yX4_moveUp : Cond.instanceMethod yX4_moveUp ∈ TB := tb_T (List.mem_append_right _ (List.mem_append_left _ (List.mem_of_getElem? (i := 50) rfl))) rfl
theorem me_yX4_moveUp : Cond.selects RX4 yX4_moveUp yX4_moveUp ∈ TB := tb_T (List.mem_append_right _ (List.mem_append_left _ (List.mem_of_getElem? (i := 51) rfl))) rfl
theorem mkL_31 : Cond.methodLink RL 31 yX6_section ∈ TB := tb_T (List.mem_append_right _ (List.mem_append_left _ (List.mem_of_getElem? (i := 53) rfl))) rfl
theorem mi_yX6_section : Cond.instanceMethod yX6_section ∈ TB := tb_T (List.mem_append_right _ (List.mem_append_left _ (List.mem_of_getElem? (i := 54) rfl))) rfl
theorem me_yX6_section : Cond.selects RX6 yX6_section yX6_section ∈ TB := tb_T (List.mem_append_right _ (List.mem_append_left _ (List.mem_of_getElem? (i := 55) rfl))) rfl
theorem mkX6_66 : Cond.methodLink RX6 66 yX4_property ∈ TB := tb_T (List.mem_append_right _ (List.mem_append_left _ (List.mem_of_getElem? (i := 57) rfl))) rfl
theorem mi_yX4_property : Cond.instanceMethod yX4_property ∈ TB := tb_T (List.mem_append_right _ (List.mem_append_left _ (List.mem_of_getElem? (i := 58) rfl))) rfl
theorem me_yX4_property : Cond.selects RX4 yX4_property yX4_property ∈ TB := tb_T (List.mem_append_right _ (List.mem_append_left _ (List.mem_of_getElem? (i := 59) rfl))) rfl
theorem mkL_35 : Cond.methodLink RL 35 yX6_block ∈ TB := tb_T (List.mem_append_right _ (List.mem_append_left _ (List.mem_of_getElem? (i := 61) rfl))) rfl
theorem mi_yX6_block : Cond.instanceMethod yX6_block ∈ TB := tb_T (List.mem_append_right _ (List.mem_append_left _ (List.mem_of_getElem? (i := 62) rfl))) rfl
theorem me_yX6_block : Cond.selects RX6 yX6_block yX6_block ∈ TB := tb_T (List.mem_append_right _ (List.mem_append_left _ (List.mem_of_getElem? (i := 63) rfl))) rfl
theorem mkX6_69 : Cond.methodLink RX6 69 yX1_blockAt ∈ TB := tb_T (List.mem_append_right _ (List.mem_append_left _ (List.mem_of_getElem? (i := 65) rfl))) rfl
theorem mi_yX1_blockAt : Cond.instanceMethod yX1_blockAt ∈ TB := tb_T (List.mem_append_right _ (List.mem_append_left _ (List.mem_of_getElem? (i := 66) rfl))) rfl
theorem me_yX1_blockAt : Cond.selects RX1 yX1_blockAt yX1_blockAt ∈ TB := tb_T (List.mem_append_right _ (List.mem_append_left _ (List.mem_of_getElem? (i := 67) rfl))) rfl
theorem mkX6_73 : Cond.methodLink RX6 73 yX0_property ∈ TB := tb_T (List.mem_append_right _ (List.mem_append_left _ (List.mem_of_getElem? (i := 69) rfl))) rfl
theorem mi_yX0_property : Cond.instanceMethod yX0_property ∈ TB := tb_T (List.mem_append_right _ (List.mem_append_left _ (List.mem_of_getElem? (i := 70) rfl))) rfl
theorem me_yX0_property : Cond.selects RX0 yX0_property yX0_property ∈ TB := tb_T (List.mem_append_right _ (List.mem_append_left _ (List.mem_of_getElem? (i := 71) rfl))) rfl
theorem mkL_39 : Cond.methodLink RL 39 yX6_appear ∈ TB := tb_T (List.mem_append_right _ (List.mem_append_left _ (List.mem_of_getElem? (i := 73) rfl))) rfl
theorem mi_yX6_appear : Cond.instanceMethod yX6_appear ∈ TB := tb_T (List.mem_append_right _ (List.mem_append_left _ (List.mem_of_getElem? (i := 74) rfl))) rfl
theorem me_yX6_appear : Cond.selects RX6 yX6_appear yX6_appear ∈ TB := tb_T (List.mem_append_right _ (List.mem_append_left _ (List.mem_of_getElem? (i := 75) rfl))) rfl
theorem mkX6_76 : Cond.methodLink RX6 76 yX6_isKind ∈ TB := tb_T (List.mem_append_right _ (List.mem_append_left _ (List.mem_of_getElem? (i := 77) rfl))) rfl
theorem ms_yX6_isKind : Cond.static yX6_isKind ∈ TB := tb_T (List.mem_append_right _ (List.mem_append_left _ (List.mem_of_getElem? (i := 78) rfl))) rfl
theorem mkX6_79 : Cond.methodLink RX6 79 yX1_bringNew ∈ TB := tb_T (List.mem_append_right _ (List.mem_append_left _ (List.mem_of_getElem? (i := 80) rfl))) rfl
theorem mi_yX1_bringNew : Cond.instanceMethod yX1_bringNew ∈ TB := tb_T (List.mem_append_right _ (List.mem_append_left _ (List.mem_of_getElem? (i := 81) rfl))) rfl
theorem me_yX1_bringNew : Cond.selects RX1 yX1_bringNew yX1_bringNew ∈ TB := tb_T (List.mem_append_right _ (List.mem_append_left _ (List.mem_of_getElem? (i := 82) rfl))) rfl
theorem mkX1_103 : Cond.methodLink RX1 103 yX1_firstBox ∈ TB := tb_T (List.mem_append_right _ (List.mem_append_left _ (List.mem_of_getElem? (i := 84) rfl))) rfl
theorem mi_yX1_firstBox : Cond.instanceMethod yX1_firstBox ∈ TB := tb_T (List.mem_append_right _ (List.mem_append_left _ (List.mem_of_getElem? (i := 85) rfl))) rfl
theorem me_yX1_firstBox : Cond.selects RX1 yX1_firstBox yX1_firstBox ∈ TB := tb_T (List.mem_append_right _ (List.mem_append_left _ (List.mem_of_getElem? (i := 86) rfl))) rfl
theorem mkX1_145 : Cond.methodLink RX1 145 yX1_isLineFree ∈ TB := tb_T (List.mem_append_right _ (List.mem_append_left _ (List.mem_of_getElem? (i := 88) rfl))) rfl
theorem mi_yX1_isLineFree : Cond.instanceMethod yX1_isLineFree ∈ TB := tb_T (List.mem_append_right _ (List.mem_append_left _ (List.mem_of_getElem? (i := 89) rfl))) rfl
theorem me_yX1_isLineFree : Cond.selects RX1 yX1_isLineFree yX1_isLineFree ∈ TB := tb_T (List.mem_append_right _ (List.mem_append_left _ (List.mem_of_getElem? (i := 90) rfl))) rfl
theorem mkX1_149 : Cond.methodLink RX1 149 yX5_start ∈ TB := tb_T (List.mem_append_right _ (List.mem_append_left _ (List.mem_of_getElem? (i := 92) rfl))) rfl
theorem mi_yX5_start : Cond.instanceMethod yX5_start ∈ TB := tb_T (List.mem_append_right _ (List.mem_append_left _ (List.mem_of_getElem? (i := 93) rfl))) rfl
theorem me_yX5_start : Cond.selects RX5 yX5_start yX5_start ∈ TB := tb_T (List.mem_append_right _ (List.mem_append_left _ (List.mem_of_getElem? (i := 94) rfl))) rfl
theorem mkX5_21 : Cond.methodLink RX5 21 yX5_standAt ∈ TB := tb_T (List.mem_append_right _ (List.mem_append_left _ (List.mem_of_getElem? (i := 96) rfl))) rfl
theorem mi_yX5_standAt : Cond.instanceMethod yX5_standAt ∈ TB := tb_T (List.mem_append_right _ (List.mem_append_left _ (List.mem_of_getElem? (i := 97) rfl))) rfl
theorem me_yX5_standAt : Cond.selects RX5 yX5_standAt yX5_standAt ∈ TB := tb_T (List.mem_append_right _ (List.mem_append_left _ (List.mem_of_getElem? (i := 98) rfl))) rfl
theorem mkL_43 : Cond.methodLink RL 43 yX6_train ∈ TB := tb_T (List.mem_append_right _ (List.mem_append_left _ (List.mem_of_getElem? (i := 100) rfl))) rfl
theorem mi_yX6_train : Cond.instanceMethod yX6_train ∈ TB := tb_T (List.mem_append_right _ (List.mem_append_left _ (List.mem_of_getElem? (i := 101) rfl))) rfl
theorem me_yX6_train : Cond.selects RX6 yX6_train yX6_train ∈ TB := tb_T (List.mem_append_right _ (List.mem_append_left _ (List.mem_of_getElem? (i := 102) rfl))) rfl
theorem mkX6_83 : Cond.methodLink RX6 83 yX1_trainAt ∈ TB := tb_T (List.mem_append_right _ (List.mem_append_left _ (List.mem_of_getElem? (i := 104) rfl))) rfl
theorem mi_yX1_trainAt : Cond.instanceMethod yX1_trainAt ∈ TB := tb_T (List.mem_append_right _ (List.mem_append_left _ (List.mem_of_getElem? (i := 105) rfl))) rfl
theorem me_yX1_trainAt : Cond.selects RX1 yX1_trainAt yX1_trainAt ∈ TB := tb_T (List.mem_append_right _ (List.mem_append_left _ (List.mem_of_getElem? (i := 106) rfl))) rfl
theorem mkX6_87 : Cond.methodLink RX6 87 yX5_property ∈ TB := tb_T (List.mem_append_right _ (List.mem_append_left _ (List.mem_of_getElem? (i := 108) rfl))) rfl
theorem mi_yX5_property : Cond.instanceMethod yX5_property ∈ TB := tb_T (List.mem_append_right _ (List.mem_append_left _ (List.mem_of_getElem? (i := 109) rfl))) rfl
theorem me_yX5_property : Cond.selects RX5 yX5_property yX5_property ∈ TB := tb_T (List.mem_append_right _ (List.mem_append_left _ (List.mem_of_getElem? (i := 110) rfl))) rfl
theorem mkL_47 : Cond.methodLink RL 47 yX6_shunt ∈ TB := tb_T (List.mem_append_right _ (List.mem_append_left _ (List.mem_of_getElem? (i := 112) rfl))) rfl
theorem mi_yX6_shunt : Cond.instanceMethod yX6_shunt ∈ TB := tb_T (List.mem_append_right _ (List.mem_append_left _ (List.mem_of_getElem? (i := 113) rfl))) rfl
theorem me_yX6_shunt : Cond.selects RX6 yX6_shunt yX6_shunt ∈ TB := tb_T (List.mem_append_right _ (List.mem_append_left _ (List.mem_of_getElem? (i := 114) rfl))) rfl
theorem mkX6_90 : Cond.methodLink RX6 90 yX1_shuntTrain ∈ TB := tb_T (List.mem_append_right _ (List.mem_append_left _ (List.mem_of_getElem? (i := 116) rfl))) rfl
theorem mi_yX1_shuntTrain : Cond.instanceMethod yX1_shuntTrain ∈ TB := tb_T (List.mem_append_right _ (List.mem_append_left _ (List.mem_of_getElem? (i := 117) rfl))) rfl
theorem me_yX1_shuntTrain : Cond.selects RX1 yX1_shuntTrain yX1_shuntTrain ∈ TB := tb_T (List.mem_append_right _ (List.mem_append_left _ (List.mem_of_getElem? (i := 118) rfl))) rfl
theorem mkX1_158 : Cond.methodLink RX1 158 yX1_shuntToLoop ∈ TB := tb_T (List.mem_append_right _ (List.mem_append_left _ (List.mem_of_getElem? (i := 120) rfl))) rfl
theorem mi_yX1_shuntToLoop : Cond.instanceMethod yX1_shuntToLoop ∈ TB := tb_T (List.mem_append_right _ (List.mem_append_left _ (List.mem_of_getElem? (i := 122) rfl))) rfl
theorem mkX1_165 : Cond.methodLink RX1 165 yX1_nextBlock ∈ TB := tb_T (List.mem_append_right _ (List.mem_append_left _ (List.mem_of_getElem? (i := 124) rfl))) rfl
theorem mi_yX1_nextBlock : Cond.instanceMethod yX1_nextBlock ∈ TB := tb_T (List.mem_append_right _ (List.mem_append_left _ (List.mem_of_getElem? (i := 125) rfl))) rfl
theorem me_yX1_nextBlock : Cond.selects RX1 yX1_nextBlock yX1_nextBlock ∈ TB := tb_T (List.mem_append_right _ (List.mem_append_left _ (List.mem_of_getElem? (i := 126) rfl))) rfl
theorem mkX1_121 : Cond.methodLink RX1 121 yX1_blockAt ∈ TB := tb_T (List.mem_append_right _ (List.mem_append_left _ (List.mem_of_getElem? (i := 128) rfl))) rfl
theorem mkX1_172 : Cond.methodLink RX1 172 yX1_hasBox ∈ TB := tb_T (List.mem_append_right _ (List.mem_append_left _ (List.mem_of_getElem? (i := 129) rfl))) rfl
theorem mkX1_179 : Cond.methodLink RX1 179 yX5_standAt ∈ TB := tb_T (List.mem_append_right _ (List.mem_append_left _ (List.mem_of_getElem? (i := 131) rfl))) rfl
theorem mkX1_162 : Cond.methodLink RX1 162 yX1_shuntBack ∈ TB := tb_T (List.mem_append_right _ (List.mem_append_left _ (List.mem_of_getElem? (i := 132) rfl))) rfl
theorem mi_yX1_shuntBack : Cond.instanceMethod yX1_shuntBack ∈ TB := tb_T (List.mem_append_right _ (List.mem_append_left _ (List.mem_of_getElem? (i := 134) rfl))) rfl
theorem mkX1_182 : Cond.methodLink RX1 182 yX1_blockTo ∈ TB := tb_T (List.mem_append_right _ (List.mem_append_left _ (List.mem_of_getElem? (i := 136) rfl))) rfl
theorem mi_yX1_blockTo : Cond.instanceMethod yX1_blockTo ∈ TB := tb_T (List.mem_append_right _ (List.mem_append_left _ (List.mem_of_getElem? (i := 137) rfl))) rfl
theorem me_yX1_blockTo : Cond.selects RX1 yX1_blockTo yX1_blockTo ∈ TB := tb_T (List.mem_append_right _ (List.mem_append_left _ (List.mem_of_getElem? (i := 138) rfl))) rfl
theorem mkL_52 : Cond.methodLink RL 52 yX6_leave ∈ TB := tb_T (List.mem_append_right _ (List.mem_append_left _ (List.mem_of_getElem? (i := 140) rfl))) rfl
theorem mi_yX6_leave : Cond.instanceMethod yX6_leave ∈ TB := tb_T (List.mem_append_right _ (List.mem_append_left _ (List.mem_of_getElem? (i := 141) rfl))) rfl
theorem me_yX6_leave : Cond.selects RX6 yX6_leave yX6_leave ∈ TB := tb_T (List.mem_append_right _ (List.mem_append_left _ (List.mem_of_getElem? (i := 142) rfl))) rfl
theorem mkX6_94 : Cond.methodLink RX6 94 yX1_letLeave ∈ TB := tb_T (List.mem_append_right _ (List.mem_append_left _ (List.mem_of_getElem? (i := 144) rfl))) rfl
theorem mi_yX1_letLeave : Cond.instanceMethod yX1_letLeave ∈ TB := tb_T (List.mem_append_right _ (List.mem_append_left _ (List.mem_of_getElem? (i := 145) rfl))) rfl
theorem me_yX1_letLeave : Cond.selects RX1 yX1_letLeave yX1_letLeave ∈ TB := tb_T (List.mem_append_right _ (List.mem_append_left _ (List.mem_of_getElem? (i := 146) rfl))) rfl
theorem mkX1_185 : Cond.methodLink RX1 185 yX1_lastBox ∈ TB := tb_T (List.mem_append_right _ (List.mem_append_left _ (List.mem_of_getElem? (i := 148) rfl))) rfl
theorem mi_yX1_lastBox : Cond.instanceMethod yX1_lastBox ∈ TB := tb_T (List.mem_append_right _ (List.mem_append_left _ (List.mem_of_getElem? (i := 149) rfl))) rfl
theorem me_yX1_lastBox : Cond.selects RX1 yX1_lastBox yX1_lastBox ∈ TB := tb_T (List.mem_append_right _ (List.mem_append_left _ (List.mem_of_getElem? (i := 150) rfl))) rfl
theorem mkX1_188 : Cond.methodLink RX1 188 yX5_go ∈ TB := tb_T (List.mem_append_right _ (List.mem_append_left _ (List.mem_of_getElem? (i := 152) rfl))) rfl
theorem mi_yX5_go : Cond.instanceMethod yX5_go ∈ TB := tb_T (List.mem_append_right _ (List.mem_append_left _ (List.mem_of_getElem? (i := 153) rfl))) rfl
theorem me_yX5_go : Cond.selects RX5 yX5_go yX5_go ∈ TB := tb_T (List.mem_append_right _ (List.mem_append_left _ (List.mem_of_getElem? (i := 154) rfl))) rfl
theorem mkL_56 : Cond.methodLink RL 56 yX6_divide ∈ TB := tb_T (List.mem_append_right _ (List.mem_append_left _ (List.mem_of_getElem? (i := 156) rfl))) rfl
theorem mi_yX6_divide : Cond.instanceMethod yX6_divide ∈ TB := tb_T (List.mem_append_right _ (List.mem_append_left _ (List.mem_of_getElem? (i := 157) rfl))) rfl
theorem me_yX6_divide : Cond.selects RX6 yX6_divide yX6_divide ∈ TB := tb_T (List.mem_append_right _ (List.mem_append_left _ (List.mem_of_getElem? (i := 158) rfl))) rfl
theorem mkX6_97 : Cond.methodLink RX6 97 yX1_divideTrain ∈ TB := tb_T (List.mem_append_right _ (List.mem_append_left _ (List.mem_of_getElem? (i := 160) rfl))) rfl
theorem mi_yX1_divideTrain : Cond.instanceMethod yX1_divideTrain ∈ TB := tb_T (List.mem_append_right _ (List.mem_append_left _ (List.mem_of_getElem? (i := 161) rfl))) rfl
theorem me_yX1_divideTrain : Cond.selects RX1 yX1_divideTrain yX1_divideTrain ∈ TB := tb_T (List.mem_append_right _ (List.mem_append_left _ (List.mem_of_getElem? (i := 162) rfl))) rfl
theorem mkL_60 : Cond.methodLink RL 60 yX6_offer ∈ TB := tb_T (List.mem_append_right _ (List.mem_append_left _ (List.mem_of_getElem? (i := 164) rfl))) rfl
theorem mi_yX6_offer : Cond.instanceMethod yX6_offer ∈ TB := tb_T (List.mem_append_right _ (List.mem_append_left _ (List.mem_of_getElem? (i := 165) rfl))) rfl
theorem me_yX6_offer : Cond.selects RX6 yX6_offer yX6_offer ∈ TB := tb_T (List.mem_append_right _ (List.mem_append_left _ (List.mem_of_getElem? (i := 166) rfl))) rfl
theorem mkX6_100 : Cond.methodLink RX6 100 yX1_offerTrain ∈ TB := tb_T (List.mem_append_right _ (List.mem_append_left _ (List.mem_of_getElem? (i := 168) rfl))) rfl
theorem mi_yX1_offerTrain : Cond.instanceMethod yX1_offerTrain ∈ TB := tb_T (List.mem_append_right _ (List.mem_append_left _ (List.mem_of_getElem? (i := 169) rfl))) rfl
theorem me_yX1_offerTrain : Cond.selects RX1 yX1_offerTrain yX1_offerTrain ∈ TB := tb_T (List.mem_append_right _ (List.mem_append_left _ (List.mem_of_getElem? (i := 170) rfl))) rfl
theorem ms_yX6_offerCode : Cond.static yX6_offerCode ∈ TB := tb_T (List.mem_append_right _ (List.mem_append_left _ (List.mem_of_getElem? (i := 173) rfl))) rfl
theorem mkX1_216 : Cond.methodLink RX1 216 yX1_ringRear ∈ TB := tb_T (List.mem_append_right _ (List.mem_append_left _ (List.mem_of_getElem? (i := 175) rfl))) rfl
theorem mi_yX1_ringRear : Cond.instanceMethod yX1_ringRear ∈ TB := tb_T (List.mem_append_right _ (List.mem_append_left _ (List.mem_of_getElem? (i := 177) rfl))) rfl
theorem mkX1_200 : Cond.methodLink RX1 200 yX0_rearBox ∈ TB := tb_T (List.mem_append_right _ (List.mem_append_left _ (List.mem_of_getElem? (i := 179) rfl))) rfl
theorem mi_yX0_rearBox : Cond.instanceMethod yX0_rearBox ∈ TB := tb_T (List.mem_append_right _ (List.mem_append_left _ (List.mem_of_getElem? (i := 180) rfl))) rfl
theorem me_yX0_rearBox : Cond.selects RX0 yX0_rearBox yX0_rearBox ∈ TB := tb_T (List.mem_append_right _ (List.mem_append_left _ (List.mem_of_getElem? (i := 181) rfl))) rfl
theorem mkX1_203 : Cond.methodLink RX1 203 yX3_record ∈ TB := tb_T (List.mem_append_right _ (List.mem_append_left _ (List.mem_of_getElem? (i := 183) rfl))) rfl
theorem mi_yX3_record : Cond.instanceMethod yX3_record ∈ TB := tb_T (List.mem_append_right _ (List.mem_append_left _ (List.mem_of_getElem? (i := 184) rfl))) rfl
theorem me_yX3_record : Cond.selects RX3 yX3_record yX3_record ∈ TB := tb_T (List.mem_append_right _ (List.mem_append_left _ (List.mem_of_getElem? (i := 185) rfl))) rfl
theorem mkX3_25 : Cond.methodLink RX3 25 yX3_rowOf ∈ TB := tb_T (List.mem_append_right _ (List.mem_append_left _ (List.mem_of_getElem? (i := 187) rfl))) rfl
theorem ms_yX3_rowOf : Cond.static yX3_rowOf ∈ TB := tb_T (List.mem_append_right _ (List.mem_append_left _ (List.mem_of_getElem? (i := 188) rfl))) rfl
theorem knX3_53 : Cond.constant RX3 53 (2147483647) ∈ TB := tb_T (List.mem_append_right _ (List.mem_append_left _ (List.mem_of_getElem? (i := 190) rfl))) rfl
theorem mkL_64 : Cond.methodLink RL 64 yX6_answer ∈ TB := tb_T (List.mem_append_right _ (List.mem_append_left _ (List.mem_of_getElem? (i := 191) rfl))) rfl
theorem mi_yX6_answer : Cond.instanceMethod yX6_answer ∈ TB := tb_T (List.mem_append_right _ (List.mem_append_left _ (List.mem_of_getElem? (i := 192) rfl))) rfl
theorem me_yX6_answer : Cond.selects RX6 yX6_answer yX6_answer ∈ TB := tb_T (List.mem_append_right _ (List.mem_append_left _ (List.mem_of_getElem? (i := 193) rfl))) rfl
theorem mkX6_103 : Cond.methodLink RX6 103 yX1_accept ∈ TB := tb_T (List.mem_append_right _ (List.mem_append_left _ (List.mem_of_getElem? (i := 195) rfl))) rfl
theorem mi_yX1_accept : Cond.instanceMethod yX1_accept ∈ TB := tb_T (List.mem_append_right _ (List.mem_append_left _ (List.mem_of_getElem? (i := 196) rfl))) rfl
theorem me_yX1_accept : Cond.selects RX1 yX1_accept yX1_accept ∈ TB := tb_T (List.mem_append_right _ (List.mem_append_left _ (List.mem_of_getElem? (i := 197) rfl))) rfl
theorem mkX1_96 : Cond.methodLink RX1 96 yX1_trainAt ∈ TB := tb_T (List.mem_append_right _ (List.mem_append_left _ (List.mem_of_getElem? (i := 199) rfl))) rfl
theorem mkX1_207 : Cond.methodLink RX1 207 yX0_boxAhead ∈ TB := tb_T (List.mem_append_right _ (List.mem_append_left _ (List.mem_of_getElem? (i := 200) rfl))) rfl
theorem mi_yX0_boxAhead : Cond.instanceMethod yX0_boxAhead ∈ TB := tb_T (List.mem_append_right _ (List.mem_append_left _ (List.mem_of_getElem? (i := 201) rfl))) rfl
theorem me_yX0_boxAhead : Cond.selects RX0 yX0_boxAhead yX0_boxAhead ∈ TB := tb_T (List.mem_append_right _ (List.mem_append_left _ (List.mem_of_getElem? (i := 202) rfl))) rfl
theorem mkX1_221 : Cond.methodLink RX1 221 yX1_isTokenReady ∈ TB := tb_T (List.mem_append_right _ (List.mem_append_left _ (List.mem_of_getElem? (i := 204) rfl))) rfl
theorem mi_yX1_isTokenReady : Cond.instanceMethod yX1_isTokenReady ∈ TB := tb_T (List.mem_append_right _ (List.mem_append_left _ (List.mem_of_getElem? (i := 206) rfl))) rfl
theorem mkX1_234 : Cond.methodLink RX1 234 yX0_rearEnd ∈ TB := tb_T (List.mem_append_right _ (List.mem_append_left _ (List.mem_of_getElem? (i := 208) rfl))) rfl
theorem mi_yX0_rearEnd : Cond.instanceMethod yX0_rearEnd ∈ TB := tb_T (List.mem_append_right _ (List.mem_append_left _ (List.mem_of_getElem? (i := 209) rfl))) rfl
theorem me_yX0_rearEnd : Cond.selects RX0 yX0_rearEnd yX0_rearEnd ∈ TB := tb_T (List.mem_append_right _ (List.mem_append_left _ (List.mem_of_getElem? (i := 210) rfl))) rfl
theorem mkX1_237 : Cond.methodLink RX1 237 yX4_hasToken ∈ TB := tb_T (List.mem_append_right _ (List.mem_append_left _ (List.mem_of_getElem? (i := 212) rfl))) rfl
theorem mi_yX4_hasToken : Cond.instanceMethod yX4_hasToken ∈ TB := tb_T (List.mem_append_right _ (List.mem_append_left _ (List.mem_of_getElem? (i := 213) rfl))) rfl
theorem me_yX4_hasToken : Cond.selects RX4 yX4_hasToken yX4_hasToken ∈ TB := tb_T (List.mem_append_right _ (List.mem_append_left _ (List.mem_of_getElem? (i := 214) rfl))) rfl
theorem mkX1_225 : Cond.methodLink RX1 225 yX0_makeClear ∈ TB := tb_T (List.mem_append_right _ (List.mem_append_left _ (List.mem_of_getElem? (i := 216) rfl))) rfl
theorem mi_yX0_makeClear : Cond.instanceMethod yX0_makeClear ∈ TB := tb_T (List.mem_append_right _ (List.mem_append_left _ (List.mem_of_getElem? (i := 217) rfl))) rfl
theorem me_yX0_makeClear : Cond.selects RX0 yX0_makeClear yX0_makeClear ∈ TB := tb_T (List.mem_append_right _ (List.mem_append_left _ (List.mem_of_getElem? (i := 218) rfl))) rfl
theorem mkX0_40 : Cond.methodLink RX0 40 yX0_rearEnd ∈ TB := tb_T (List.mem_append_right _ (List.mem_append_left _ (List.mem_of_getElem? (i := 220) rfl))) rfl
theorem mkX0_44 : Cond.methodLink RX0 44 yX4_takeToken ∈ TB := tb_T (List.mem_append_right _ (List.mem_append_left _ (List.mem_of_getElem? (i := 221) rfl))) rfl
theorem mi_yX4_takeToken : Cond.instanceMethod yX4_takeToken ∈ TB := tb_T (List.mem_append_right _ (List.mem_append_left _ (List.mem_of_getElem? (i := 222) rfl))) rfl
theorem me_yX4_takeToken : Cond.selects RX4 yX4_takeToken yX4_takeToken ∈ TB := tb_T (List.mem_append_right _ (List.mem_append_left _ (List.mem_of_getElem? (i := 223) rfl))) rfl
theorem mkX4_31 : Cond.methodLink RX4 31 yX4_addTokens ∈ TB := tb_T (List.mem_append_right _ (List.mem_append_left _ (List.mem_of_getElem? (i := 225) rfl))) rfl
theorem mi_yX4_addTokens : Cond.instanceMethod yX4_addTokens ∈ TB := tb_T (List.mem_append_right _ (List.mem_append_left _ (List.mem_of_getElem? (i := 227) rfl))) rfl
theorem mkX1_228 : Cond.methodLink RX1 228 yX1_ringAhead ∈ TB := tb_T (List.mem_append_right _ (List.mem_append_left _ (List.mem_of_getElem? (i := 229) rfl))) rfl
theorem mi_yX1_ringAhead : Cond.instanceMethod yX1_ringAhead ∈ TB := tb_T (List.mem_append_right _ (List.mem_append_left _ (List.mem_of_getElem? (i := 231) rfl))) rfl
theorem mkX6_107 : Cond.methodLink RX6 107 yX1_refuse ∈ TB := tb_T (List.mem_append_right _ (List.mem_append_left _ (List.mem_of_getElem? (i := 233) rfl))) rfl
theorem mi_yX1_refuse : Cond.instanceMethod yX1_refuse ∈ TB := tb_T (List.mem_append_right _ (List.mem_append_left _ (List.mem_of_getElem? (i := 234) rfl))) rfl
theorem me_yX1_refuse : Cond.selects RX1 yX1_refuse yX1_refuse ∈ TB := tb_T (List.mem_append_right _ (List.mem_append_left _ (List.mem_of_getElem? (i := 235) rfl))) rfl
theorem mkL_69 : Cond.methodLink RL 69 yX6_cancel ∈ TB := tb_T (List.mem_append_right _ (List.mem_append_left _ (List.mem_of_getElem? (i := 237) rfl))) rfl
theorem mi_yX6_cancel : Cond.instanceMethod yX6_cancel ∈ TB := tb_T (List.mem_append_right _ (List.mem_append_left _ (List.mem_of_getElem? (i := 238) rfl))) rfl
theorem me_yX6_cancel : Cond.selects RX6 yX6_cancel yX6_cancel ∈ TB := tb_T (List.mem_append_right _ (List.mem_append_left _ (List.mem_of_getElem? (i := 239) rfl))) rfl
theorem mkX6_110 : Cond.methodLink RX6 110 yX1_cancelBlock ∈ TB := tb_T (List.mem_append_right _ (List.mem_append_right _ (List.mem_append_left _ (List.mem_of_getElem? (i := 1) rfl)))) rfl
theorem mi_yX1_cancelBlock : Cond.instanceMethod yX1_cancelBlock ∈ TB := tb_T (List.mem_append_right _ (List.mem_append_right _ (List.mem_append_left _ (List.mem_of_getElem? (i := 2) rfl)))) rfl
theorem me_yX1_cancelBlock : Cond.selects RX1 yX1_cancelBlock yX1_cancelBlock ∈ TB := tb_T (List.mem_append_right _ (List.mem_append_right _ (List.mem_append_left _ (List.mem_of_getElem? (i := 3) rfl)))) rfl
theorem mkX1_240 : Cond.methodLink RX1 240 yX0_takeBack ∈ TB := tb_T (List.mem_append_right _ (List.mem_append_right _ (List.mem_append_left _ (List.mem_of_getElem? (i := 5) rfl)))) rfl
theorem mi_yX0_takeBack : Cond.instanceMethod yX0_takeBack ∈ TB := tb_T (List.mem_append_right _ (List.mem_append_right _ (List.mem_append_left _ (List.mem_of_getElem? (i := 6) rfl)))) rfl
theorem me_yX0_takeBack : Cond.selects RX0 yX0_takeBack yX0_takeBack ∈ TB := tb_T (List.mem_append_right _ (List.mem_append_right _ (List.mem_append_left _ (List.mem_of_getElem? (i := 7) rfl)))) rfl
theorem mkX0_48 : Cond.methodLink RX0 48 yX4_putToken ∈ TB := tb_T (List.mem_append_right _ (List.mem_append_right _ (List.mem_append_left _ (List.mem_of_getElem? (i := 9) rfl)))) rfl
theorem mi_yX4_putToken : Cond.instanceMethod yX4_putToken ∈ TB := tb_T (List.mem_append_right _ (List.mem_append_right _ (List.mem_append_left _ (List.mem_of_getElem? (i := 10) rfl)))) rfl
theorem me_yX4_putToken : Cond.selects RX4 yX4_putToken yX4_putToken ∈ TB := tb_T (List.mem_append_right _ (List.mem_append_right _ (List.mem_append_left _ (List.mem_of_getElem? (i := 11) rfl)))) rfl
theorem mkL_73 : Cond.methodLink RL 73 yX6_depart ∈ TB := tb_T (List.mem_append_right _ (List.mem_append_right _ (List.mem_append_left _ (List.mem_of_getElem? (i := 13) rfl)))) rfl
theorem mi_yX6_depart : Cond.instanceMethod yX6_depart ∈ TB := tb_T (List.mem_append_right _ (List.mem_append_right _ (List.mem_append_left _ (List.mem_of_getElem? (i := 14) rfl)))) rfl
theorem me_yX6_depart : Cond.selects RX6 yX6_depart yX6_depart ∈ TB := tb_T (List.mem_append_right _ (List.mem_append_right _ (List.mem_append_left _ (List.mem_of_getElem? (i := 15) rfl)))) rfl
theorem mkX6_113 : Cond.methodLink RX6 113 yX1_letDepart ∈ TB := tb_T (List.mem_append_right _ (List.mem_append_right _ (List.mem_append_left _ (List.mem_of_getElem? (i := 17) rfl)))) rfl
theorem mi_yX1_letDepart : Cond.instanceMethod yX1_letDepart ∈ TB := tb_T (List.mem_append_right _ (List.mem_append_right _ (List.mem_append_left _ (List.mem_of_getElem? (i := 18) rfl)))) rfl
theorem me_yX1_letDepart : Cond.selects RX1 yX1_letDepart yX1_letDepart ∈ TB := tb_T (List.mem_append_right _ (List.mem_append_right _ (List.mem_append_left _ (List.mem_of_getElem? (i := 19) rfl)))) rfl
theorem mkX1_243 : Cond.methodLink RX1 243 yX5_enter ∈ TB := tb_T (List.mem_append_right _ (List.mem_append_right _ (List.mem_append_left _ (List.mem_of_getElem? (i := 21) rfl)))) rfl
theorem mi_yX5_enter : Cond.instanceMethod yX5_enter ∈ TB := tb_T (List.mem_append_right _ (List.mem_append_right _ (List.mem_append_left _ (List.mem_of_getElem? (i := 22) rfl)))) rfl
theorem me_yX5_enter : Cond.selects RX5 yX5_enter yX5_enter ∈ TB := tb_T (List.mem_append_right _ (List.mem_append_right _ (List.mem_append_left _ (List.mem_of_getElem? (i := 23) rfl)))) rfl
theorem mkL_77 : Cond.methodLink RL 77 yX6_admit ∈ TB := tb_T (List.mem_append_right _ (List.mem_append_right _ (List.mem_append_left _ (List.mem_of_getElem? (i := 25) rfl)))) rfl
theorem mi_yX6_admit : Cond.instanceMethod yX6_admit ∈ TB := tb_T (List.mem_append_right _ (List.mem_append_right _ (List.mem_append_left _ (List.mem_of_getElem? (i := 26) rfl)))) rfl
theorem me_yX6_admit : Cond.selects RX6 yX6_admit yX6_admit ∈ TB := tb_T (List.mem_append_right _ (List.mem_append_right _ (List.mem_append_left _ (List.mem_of_getElem? (i := 27) rfl)))) rfl
theorem mkX6_116 : Cond.methodLink RX6 116 yX1_admitTrain ∈ TB := tb_T (List.mem_append_right _ (List.mem_append_right _ (List.mem_append_left _ (List.mem_of_getElem? (i := 29) rfl)))) rfl
theorem mi_yX1_admitTrain : Cond.instanceMethod yX1_admitTrain ∈ TB := tb_T (List.mem_append_right _ (List.mem_append_right _ (List.mem_append_left _ (List.mem_of_getElem? (i := 30) rfl)))) rfl
theorem me_yX1_admitTrain : Cond.selects RX1 yX1_admitTrain yX1_admitTrain ∈ TB := tb_T (List.mem_append_right _ (List.mem_append_right _ (List.mem_append_left _ (List.mem_of_getElem? (i := 31) rfl)))) rfl
theorem mkX1_249 : Cond.methodLink RX1 249 yX1_trainInside ∈ TB := tb_T (List.mem_append_right _ (List.mem_append_right _ (List.mem_append_left _ (List.mem_of_getElem? (i := 33) rfl)))) rfl
theorem mi_yX1_trainInside : Cond.instanceMethod yX1_trainInside ∈ TB := tb_T (List.mem_append_right _ (List.mem_append_right _ (List.mem_append_left _ (List.mem_of_getElem? (i := 34) rfl)))) rfl
theorem me_yX1_trainInside : Cond.selects RX1 yX1_trainInside yX1_trainInside ∈ TB := tb_T (List.mem_append_right _ (List.mem_append_right _ (List.mem_append_left _ (List.mem_of_getElem? (i := 35) rfl)))) rfl
theorem mkL_81 : Cond.methodLink RL 81 yX6_out ∈ TB := tb_T (List.mem_append_right _ (List.mem_append_right _ (List.mem_append_left _ (List.mem_of_getElem? (i := 37) rfl)))) rfl
theorem mi_yX6_out : Cond.instanceMethod yX6_out ∈ TB := tb_T (List.mem_append_right _ (List.mem_append_right _ (List.mem_append_left _ (List.mem_of_getElem? (i := 38) rfl)))) rfl
theorem me_yX6_out : Cond.selects RX6 yX6_out yX6_out ∈ TB := tb_T (List.mem_append_right _ (List.mem_append_right _ (List.mem_append_left _ (List.mem_of_getElem? (i := 39) rfl)))) rfl
theorem mkX6_119 : Cond.methodLink RX6 119 yX1_reportOut ∈ TB := tb_T (List.mem_append_right _ (List.mem_append_right _ (List.mem_append_left _ (List.mem_of_getElem? (i := 41) rfl)))) rfl
theorem mi_yX1_reportOut : Cond.instanceMethod yX1_reportOut ∈ TB := tb_T (List.mem_append_right _ (List.mem_append_right _ (List.mem_append_left _ (List.mem_of_getElem? (i := 42) rfl)))) rfl
theorem me_yX1_reportOut : Cond.selects RX1 yX1_reportOut yX1_reportOut ∈ TB := tb_T (List.mem_append_right _ (List.mem_append_right _ (List.mem_append_left _ (List.mem_of_getElem? (i := 43) rfl)))) rfl
theorem mkX1_253 : Cond.methodLink RX1 253 yX0_makeFree ∈ TB := tb_T (List.mem_append_right _ (List.mem_append_right _ (List.mem_append_left _ (List.mem_of_getElem? (i := 45) rfl)))) rfl
theorem mi_yX0_makeFree : Cond.instanceMethod yX0_makeFree ∈ TB := tb_T (List.mem_append_right _ (List.mem_append_right _ (List.mem_append_left _ (List.mem_of_getElem? (i := 46) rfl)))) rfl
theorem me_yX0_makeFree : Cond.selects RX0 yX0_makeFree yX0_makeFree ∈ TB := tb_T (List.mem_append_right _ (List.mem_append_right _ (List.mem_append_left _ (List.mem_of_getElem? (i := 47) rfl)))) rfl
theorem mkX0_51 : Cond.methodLink RX0 51 yX0_endAhead ∈ TB := tb_T (List.mem_append_right _ (List.mem_append_right _ (List.mem_append_left _ (List.mem_of_getElem? (i := 49) rfl)))) rfl
theorem mi_yX0_endAhead : Cond.instanceMethod yX0_endAhead ∈ TB := tb_T (List.mem_append_right _ (List.mem_append_right _ (List.mem_append_left _ (List.mem_of_getElem? (i := 50) rfl)))) rfl
theorem me_yX0_endAhead : Cond.selects RX0 yX0_endAhead yX0_endAhead ∈ TB := tb_T (List.mem_append_right _ (List.mem_append_right _ (List.mem_append_left _ (List.mem_of_getElem? (i := 51) rfl)))) rfl
theorem mkL_85 : Cond.methodLink RL 85 yX6_assist ∈ TB := tb_T (List.mem_append_right _ (List.mem_append_right _ (List.mem_append_left _ (List.mem_of_getElem? (i := 53) rfl)))) rfl
theorem mi_yX6_assist : Cond.instanceMethod yX6_assist ∈ TB := tb_T (List.mem_append_right _ (List.mem_append_right _ (List.mem_append_left _ (List.mem_of_getElem? (i := 54) rfl)))) rfl
theorem me_yX6_assist : Cond.selects RX6 yX6_assist yX6_assist ∈ TB := tb_T (List.mem_append_right _ (List.mem_append_right _ (List.mem_append_left _ (List.mem_of_getElem? (i := 55) rfl)))) rfl
theorem mkX6_122 : Cond.methodLink RX6 122 yX1_sendEngine ∈ TB := tb_T (List.mem_append_right _ (List.mem_append_right _ (List.mem_append_left _ (List.mem_of_getElem? (i := 57) rfl)))) rfl
theorem mi_yX1_sendEngine : Cond.instanceMethod yX1_sendEngine ∈ TB := tb_T (List.mem_append_right _ (List.mem_append_right _ (List.mem_append_left _ (List.mem_of_getElem? (i := 58) rfl)))) rfl
theorem me_yX1_sendEngine : Cond.selects RX1 yX1_sendEngine yX1_sendEngine ∈ TB := tb_T (List.mem_append_right _ (List.mem_append_right _ (List.mem_append_left _ (List.mem_of_getElem? (i := 59) rfl)))) rfl
theorem mkL_89 : Cond.methodLink RL 89 yX6_obstruct ∈ TB := tb_T (List.mem_append_right _ (List.mem_append_right _ (List.mem_append_left _ (List.mem_of_getElem? (i := 61) rfl)))) rfl
theorem mi_yX6_obstruct : Cond.instanceMethod yX6_obstruct ∈ TB := tb_T (List.mem_append_right _ (List.mem_append_right _ (List.mem_append_left _ (List.mem_of_getElem? (i := 62) rfl)))) rfl
theorem me_yX6_obstruct : Cond.selects RX6 yX6_obstruct yX6_obstruct ∈ TB := tb_T (List.mem_append_right _ (List.mem_append_right _ (List.mem_append_left _ (List.mem_of_getElem? (i := 63) rfl)))) rfl
theorem mkX6_125 : Cond.methodLink RX6 125 yX1_obstructBlock ∈ TB := tb_T (List.mem_append_right _ (List.mem_append_right _ (List.mem_append_left _ (List.mem_of_getElem? (i := 65) rfl)))) rfl
theorem mi_yX1_obstructBlock : Cond.instanceMethod yX1_obstructBlock ∈ TB := tb_T (List.mem_append_right _ (List.mem_append_right _ (List.mem_append_left _ (List.mem_of_getElem? (i := 66) rfl)))) rfl
theorem me_yX1_obstructBlock : Cond.selects RX1 yX1_obstructBlock yX1_obstructBlock ∈ TB := tb_T (List.mem_append_right _ (List.mem_append_right _ (List.mem_append_left _ (List.mem_of_getElem? (i := 67) rfl)))) rfl
theorem mkL_93 : Cond.methodLink RL 93 yX6_lift ∈ TB := tb_T (List.mem_append_right _ (List.mem_append_right _ (List.mem_append_left _ (List.mem_of_getElem? (i := 69) rfl)))) rfl
theorem mi_yX6_lift : Cond.instanceMethod yX6_lift ∈ TB := tb_T (List.mem_append_right _ (List.mem_append_right _ (List.mem_append_left _ (List.mem_of_getElem? (i := 70) rfl)))) rfl
theorem me_yX6_lift : Cond.selects RX6 yX6_lift yX6_lift ∈ TB := tb_T (List.mem_append_right _ (List.mem_append_right _ (List.mem_append_left _ (List.mem_of_getElem? (i := 71) rfl)))) rfl
theorem mkX6_128 : Cond.methodLink RX6 128 yX1_liftBlock ∈ TB := tb_T (List.mem_append_right _ (List.mem_append_right _ (List.mem_append_left _ (List.mem_of_getElem? (i := 73) rfl)))) rfl
theorem mi_yX1_liftBlock : Cond.instanceMethod yX1_liftBlock ∈ TB := tb_T (List.mem_append_right _ (List.mem_append_right _ (List.mem_append_left _ (List.mem_of_getElem? (i := 74) rfl)))) rfl
theorem me_yX1_liftBlock : Cond.selects RX1 yX1_liftBlock yX1_liftBlock ∈ TB := tb_T (List.mem_append_right _ (List.mem_append_right _ (List.mem_append_left _ (List.mem_of_getElem? (i := 75) rfl)))) rfl
theorem mkL_97 : Cond.methodLink RL 97 yX6_pass ∈ TB := tb_T (List.mem_append_right _ (List.mem_append_right _ (List.mem_append_left _ (List.mem_of_getElem? (i := 77) rfl)))) rfl
theorem mi_yX6_pass : Cond.instanceMethod yX6_pass ∈ TB := tb_T (List.mem_append_right _ (List.mem_append_right _ (List.mem_append_left _ (List.mem_of_getElem? (i := 78) rfl)))) rfl
theorem me_yX6_pass : Cond.selects RX6 yX6_pass yX6_pass ∈ TB := tb_T (List.mem_append_right _ (List.mem_append_right _ (List.mem_append_left _ (List.mem_of_getElem? (i := 79) rfl)))) rfl
theorem knX6_134 : Cond.constant RX6 134 (1000000) ∈ TB := tb_T (List.mem_append_right _ (List.mem_append_right _ (List.mem_append_left _ (List.mem_of_getElem? (i := 81) rfl)))) rfl
theorem mkX6_135 : Cond.methodLink RX6 135 yX1_letPass ∈ TB := tb_T (List.mem_append_right _ (List.mem_append_right _ (List.mem_append_left _ (List.mem_of_getElem? (i := 82) rfl)))) rfl
theorem mi_yX1_letPass : Cond.instanceMethod yX1_letPass ∈ TB := tb_T (List.mem_append_right _ (List.mem_append_right _ (List.mem_append_left _ (List.mem_of_getElem? (i := 83) rfl)))) rfl
theorem me_yX1_letPass : Cond.selects RX1 yX1_letPass yX1_letPass ∈ TB := tb_T (List.mem_append_right _ (List.mem_append_right _ (List.mem_append_left _ (List.mem_of_getElem? (i := 84) rfl)))) rfl
theorem mkX1_262 : Cond.methodLink RX1 262 yX5_letPass ∈ TB := tb_T (List.mem_append_right _ (List.mem_append_right _ (List.mem_append_left _ (List.mem_of_getElem? (i := 86) rfl)))) rfl
theorem mi_yX5_letPass : Cond.instanceMethod yX5_letPass ∈ TB := tb_T (List.mem_append_right _ (List.mem_append_right _ (List.mem_append_left _ (List.mem_of_getElem? (i := 87) rfl)))) rfl
theorem me_yX5_letPass : Cond.selects RX5 yX5_letPass yX5_letPass ∈ TB := tb_T (List.mem_append_right _ (List.mem_append_right _ (List.mem_append_left _ (List.mem_of_getElem? (i := 88) rfl)))) rfl
theorem mkX5_50 : Cond.methodLink RX5 50 yJ9_max_7cf53 ∈ TB := tb_T (List.mem_append_right _ (List.mem_append_right _ (List.mem_append_left _ (List.mem_of_getElem? (i := 90) rfl)))) rfl
theorem ms_yJ9_max_7cf53 : Cond.static yJ9_max_7cf53 ∈ TB := tb_T (List.mem_append_right _ (List.mem_append_right _ (List.mem_append_left _ (List.mem_of_getElem? (i := 91) rfl)))) rfl
theorem mkX1_138 : Cond.methodLink RX1 138 yX1_blockCount ∈ TB := tb_T (List.mem_append_right _ (List.mem_append_right _ (List.mem_append_left _ (List.mem_of_getElem? (i := 93) rfl)))) rfl
theorem mi_yX1_blockCount : Cond.instanceMethod yX1_blockCount ∈ TB := tb_T (List.mem_append_right _ (List.mem_append_right _ (List.mem_append_left _ (List.mem_of_getElem? (i := 94) rfl)))) rfl
theorem me_yX1_blockCount : Cond.selects RX1 yX1_blockCount yX1_blockCount ∈ TB := tb_T (List.mem_append_right _ (List.mem_append_right _ (List.mem_append_left _ (List.mem_of_getElem? (i := 95) rfl)))) rfl
theorem mkX1_265 : Cond.methodLink RX1 265 yX0_letPass ∈ TB := tb_T (List.mem_append_right _ (List.mem_append_right _ (List.mem_append_left _ (List.mem_of_getElem? (i := 97) rfl)))) rfl
theorem mi_yX0_letPass : Cond.instanceMethod yX0_letPass ∈ TB := tb_T (List.mem_append_right _ (List.mem_append_right _ (List.mem_append_left _ (List.mem_of_getElem? (i := 98) rfl)))) rfl
theorem me_yX0_letPass : Cond.selects RX0 yX0_letPass yX0_letPass ∈ TB := tb_T (List.mem_append_right _ (List.mem_append_right _ (List.mem_append_left _ (List.mem_of_getElem? (i := 99) rfl)))) rfl
theorem mkX0_54 : Cond.methodLink RX0 54 yJ9_max_7cf53 ∈ TB := tb_T (List.mem_append_right _ (List.mem_append_right _ (List.mem_append_left _ (List.mem_of_getElem? (i := 101) rfl)))) rfl
theorem mkL_101 : Cond.methodLink RL 101 yX6_signal ∈ TB := tb_T (List.mem_append_right _ (List.mem_append_right _ (List.mem_append_left _ (List.mem_of_getElem? (i := 102) rfl)))) rfl
theorem mi_yX6_signal : Cond.instanceMethod yX6_signal ∈ TB := tb_T (List.mem_append_right _ (List.mem_append_right _ (List.mem_append_left _ (List.mem_of_getElem? (i := 103) rfl)))) rfl
theorem me_yX6_signal : Cond.selects RX6 yX6_signal yX6_signal ∈ TB := tb_T (List.mem_append_right _ (List.mem_append_right _ (List.mem_append_left _ (List.mem_of_getElem? (i := 104) rfl)))) rfl
theorem mkX6_143 : Cond.methodLink RX6 143 yX3_property ∈ TB := tb_T (List.mem_append_right _ (List.mem_append_right _ (List.mem_append_left _ (List.mem_of_getElem? (i := 106) rfl)))) rfl
theorem mi_yX3_property : Cond.instanceMethod yX3_property ∈ TB := tb_T (List.mem_append_right _ (List.mem_append_right _ (List.mem_append_left _ (List.mem_of_getElem? (i := 107) rfl)))) rfl
theorem me_yX3_property : Cond.selects RX3 yX3_property yX3_property ∈ TB := tb_T (List.mem_append_right _ (List.mem_append_right _ (List.mem_append_left _ (List.mem_of_getElem? (i := 108) rfl)))) rfl
theorem mkX3_43 : Cond.methodLink RX3 43 yX3_oldest ∈ TB := tb_T (List.mem_append_right _ (List.mem_append_right _ (List.mem_append_left _ (List.mem_of_getElem? (i := 110) rfl)))) rfl
theorem mi_yX3_oldest : Cond.instanceMethod yX3_oldest ∈ TB := tb_T (List.mem_append_right _ (List.mem_append_right _ (List.mem_append_left _ (List.mem_of_getElem? (i := 112) rfl)))) rfl
theorem mkX3_47 : Cond.methodLink RX3 47 yJ9_max_7cf53 ∈ TB := tb_T (List.mem_append_right _ (List.mem_append_right _ (List.mem_append_left _ (List.mem_of_getElem? (i := 114) rfl)))) rfl
theorem mkL_105 : Cond.methodLink RL 105 yX6_rung ∈ TB := tb_T (List.mem_append_right _ (List.mem_append_right _ (List.mem_append_left _ (List.mem_of_getElem? (i := 115) rfl)))) rfl
theorem mi_yX6_rung : Cond.instanceMethod yX6_rung ∈ TB := tb_T (List.mem_append_right _ (List.mem_append_right _ (List.mem_append_left _ (List.mem_of_getElem? (i := 116) rfl)))) rfl
theorem me_yX6_rung : Cond.selects RX6 yX6_rung yX6_rung ∈ TB := tb_T (List.mem_append_right _ (List.mem_append_right _ (List.mem_append_left _ (List.mem_of_getElem? (i := 117) rfl)))) rfl
theorem mkX6_147 : Cond.methodLink RX6 147 yX3_countOf ∈ TB := tb_T (List.mem_append_right _ (List.mem_append_right _ (List.mem_append_left _ (List.mem_of_getElem? (i := 119) rfl)))) rfl
theorem mi_yX3_countOf : Cond.instanceMethod yX3_countOf ∈ TB := tb_T (List.mem_append_right _ (List.mem_append_right _ (List.mem_append_left _ (List.mem_of_getElem? (i := 120) rfl)))) rfl
theorem me_yX3_countOf : Cond.selects RX3 yX3_countOf yX3_countOf ∈ TB := tb_T (List.mem_append_right _ (List.mem_append_right _ (List.mem_append_left _ (List.mem_of_getElem? (i := 121) rfl)))) rfl
theorem mkL_109 : Cond.methodLink RL 109 yX6_work ∈ TB := tb_T (List.mem_append_right _ (List.mem_append_right _ (List.mem_append_left _ (List.mem_of_getElem? (i := 123) rfl)))) rfl
theorem mi_yX6_work : Cond.instanceMethod yX6_work ∈ TB := tb_T (List.mem_append_right _ (List.mem_append_right _ (List.mem_append_left _ (List.mem_of_getElem? (i := 124) rfl)))) rfl
theorem me_yX6_work : Cond.selects RX6 yX6_work yX6_work ∈ TB := tb_T (List.mem_append_right _ (List.mem_append_right _ (List.mem_append_left _ (List.mem_of_getElem? (i := 125) rfl)))) rfl
theorem mkX6_150 : Cond.methodLink RX6 150 yX1_workTick ∈ TB := tb_T (List.mem_append_right _ (List.mem_append_right _ (List.mem_append_left _ (List.mem_of_getElem? (i := 127) rfl)))) rfl
theorem mi_yX1_workTick : Cond.instanceMethod yX1_workTick ∈ TB := tb_T (List.mem_append_right _ (List.mem_append_right _ (List.mem_append_left _ (List.mem_of_getElem? (i := 128) rfl)))) rfl
theorem me_yX1_workTick : Cond.selects RX1 yX1_workTick yX1_workTick ∈ TB := tb_T (List.mem_append_right _ (List.mem_append_right _ (List.mem_append_left _ (List.mem_of_getElem? (i := 129) rfl)))) rfl
theorem mkX1_266 : Cond.methodLink RX1 266 yX1_clearSections ∈ TB := tb_T (List.mem_append_right _ (List.mem_append_right _ (List.mem_append_left _ (List.mem_of_getElem? (i := 131) rfl)))) rfl
theorem mi_yX1_clearSections : Cond.instanceMethod yX1_clearSections ∈ TB := tb_T (List.mem_append_right _ (List.mem_append_right _ (List.mem_append_left _ (List.mem_of_getElem? (i := 133) rfl)))) rfl
theorem mkX1_282 : Cond.methodLink RX1 282 yX1_reportOut ∈ TB := tb_T (List.mem_append_right _ (List.mem_append_right _ (List.mem_append_left _ (List.mem_of_getElem? (i := 135) rfl)))) rfl
theorem mkX1_286 : Cond.methodLink RX1 286 yX1_sendEngine ∈ TB := tb_T (List.mem_append_right _ (List.mem_append_right _ (List.mem_append_left _ (List.mem_of_getElem? (i := 136) rfl)))) rfl
theorem mkX1_289 : Cond.methodLink RX1 289 yX1_admitTrain ∈ TB := tb_T (List.mem_append_right _ (List.mem_append_right _ (List.mem_append_left _ (List.mem_of_getElem? (i := 137) rfl)))) rfl
theorem mkX1_269 : Cond.methodLink RX1 269 yX1_leaveAll ∈ TB := tb_T (List.mem_append_right _ (List.mem_append_right _ (List.mem_append_left _ (List.mem_of_getElem? (i := 138) rfl)))) rfl
theorem mi_yX1_leaveAll : Cond.instanceMethod yX1_leaveAll ∈ TB := tb_T (List.mem_append_right _ (List.mem_append_right _ (List.mem_append_left _ (List.mem_of_getElem? (i := 140) rfl)))) rfl
theorem mkX1_292 : Cond.methodLink RX1 292 yX1_letLeave ∈ TB := tb_T (List.mem_append_right _ (List.mem_append_right _ (List.mem_append_left _ (List.mem_of_getElem? (i := 142) rfl)))) rfl
theorem mkX1_272 : Cond.methodLink RX1 272 yX1_offerAll ∈ TB := tb_T (List.mem_append_right _ (List.mem_append_right _ (List.mem_append_left _ (List.mem_of_getElem? (i := 143) rfl)))) rfl
theorem mi_yX1_offerAll : Cond.instanceMethod yX1_offerAll ∈ TB := tb_T (List.mem_append_right _ (List.mem_append_right _ (List.mem_append_left _ (List.mem_of_getElem? (i := 145) rfl)))) rfl
theorem mkX1_295 : Cond.methodLink RX1 295 yX1_offerTrain ∈ TB := tb_T (List.mem_append_right _ (List.mem_append_right _ (List.mem_append_left _ (List.mem_of_getElem? (i := 147) rfl)))) rfl
theorem mkX1_275 : Cond.methodLink RX1 275 yX1_answerAll ∈ TB := tb_T (List.mem_append_right _ (List.mem_append_right _ (List.mem_append_left _ (List.mem_of_getElem? (i := 148) rfl)))) rfl
theorem mi_yX1_answerAll : Cond.instanceMethod yX1_answerAll ∈ TB := tb_T (List.mem_append_right _ (List.mem_append_right _ (List.mem_append_left _ (List.mem_of_getElem? (i := 150) rfl)))) rfl
theorem mkX1_298 : Cond.methodLink RX1 298 yX1_accept ∈ TB := tb_T (List.mem_append_right _ (List.mem_append_right _ (List.mem_append_left _ (List.mem_of_getElem? (i := 152) rfl)))) rfl
theorem mkX1_301 : Cond.methodLink RX1 301 yX1_refuse ∈ TB := tb_T (List.mem_append_right _ (List.mem_append_right _ (List.mem_append_left _ (List.mem_of_getElem? (i := 153) rfl)))) rfl
theorem mkX1_278 : Cond.methodLink RX1 278 yX1_departAll ∈ TB := tb_T (List.mem_append_right _ (List.mem_append_right _ (List.mem_append_left _ (List.mem_of_getElem? (i := 154) rfl)))) rfl
theorem mi_yX1_departAll : Cond.instanceMethod yX1_departAll ∈ TB := tb_T (List.mem_append_right _ (List.mem_append_right _ (List.mem_append_left _ (List.mem_of_getElem? (i := 156) rfl)))) rfl
theorem mkX1_304 : Cond.methodLink RX1 304 yX1_letDepart ∈ TB := tb_T (List.mem_append_right _ (List.mem_append_right _ (List.mem_append_left _ (List.mem_of_getElem? (i := 158) rfl)))) rfl
theorem mkX1_281 : Cond.methodLink RX1 281 yX1_letPass ∈ TB := tb_T (List.mem_append_right _ (List.mem_append_right _ (List.mem_append_left _ (List.mem_of_getElem? (i := 159) rfl)))) rfl
theorem mkL_113 : Cond.methodLink RL 113 yX6_forecast ∈ TB := tb_T (List.mem_append_right _ (List.mem_append_right _ (List.mem_append_left _ (List.mem_of_getElem? (i := 160) rfl)))) rfl
theorem mi_yX6_forecast : Cond.instanceMethod yX6_forecast ∈ TB := tb_T (List.mem_append_right _ (List.mem_append_right _ (List.mem_append_left _ (List.mem_of_getElem? (i := 161) rfl)))) rfl
theorem me_yX6_forecast : Cond.selects RX6 yX6_forecast yX6_forecast ∈ TB := tb_T (List.mem_append_right _ (List.mem_append_right _ (List.mem_append_left _ (List.mem_of_getElem? (i := 162) rfl)))) rfl
theorem mkX6_154 : Cond.methodLink RX6 154 yX1_copyFrom ∈ TB := tb_T (List.mem_append_right _ (List.mem_append_right _ (List.mem_append_left _ (List.mem_of_getElem? (i := 164) rfl)))) rfl
theorem mi_yX1_copyFrom : Cond.instanceMethod yX1_copyFrom ∈ TB := tb_T (List.mem_append_right _ (List.mem_append_right _ (List.mem_append_left _ (List.mem_of_getElem? (i := 165) rfl)))) rfl
theorem me_yX1_copyFrom : Cond.selects RX1 yX1_copyFrom yX1_copyFrom ∈ TB := tb_T (List.mem_append_right _ (List.mem_append_right _ (List.mem_append_left _ (List.mem_of_getElem? (i := 166) rfl)))) rfl
theorem mkX1_77 : Cond.methodLink RX1 77 yX4_copyFrom ∈ TB := tb_T (List.mem_append_right _ (List.mem_append_right _ (List.mem_append_left _ (List.mem_of_getElem? (i := 168) rfl)))) rfl
theorem mi_yX4_copyFrom : Cond.instanceMethod yX4_copyFrom ∈ TB := tb_T (List.mem_append_right _ (List.mem_append_right _ (List.mem_append_left _ (List.mem_of_getElem? (i := 169) rfl)))) rfl
theorem me_yX4_copyFrom : Cond.selects RX4 yX4_copyFrom yX4_copyFrom ∈ TB := tb_T (List.mem_append_right _ (List.mem_append_right _ (List.mem_append_left _ (List.mem_of_getElem? (i := 170) rfl)))) rfl
theorem mkX1_81 : Cond.methodLink RX1 81 yX0_copyFrom ∈ TB := tb_T (List.mem_append_right _ (List.mem_append_right _ (List.mem_append_left _ (List.mem_of_getElem? (i := 172) rfl)))) rfl
theorem mi_yX0_copyFrom : Cond.instanceMethod yX0_copyFrom ∈ TB := tb_T (List.mem_append_right _ (List.mem_append_right _ (List.mem_append_left _ (List.mem_of_getElem? (i := 173) rfl)))) rfl
theorem me_yX0_copyFrom : Cond.selects RX0 yX0_copyFrom yX0_copyFrom ∈ TB := tb_T (List.mem_append_right _ (List.mem_append_right _ (List.mem_append_left _ (List.mem_of_getElem? (i := 174) rfl)))) rfl
theorem mkX1_84 : Cond.methodLink RX1 84 yX5_copyFrom ∈ TB := tb_T (List.mem_append_right _ (List.mem_append_right _ (List.mem_append_left _ (List.mem_of_getElem? (i := 176) rfl)))) rfl
theorem mi_yX5_copyFrom : Cond.instanceMethod yX5_copyFrom ∈ TB := tb_T (List.mem_append_right _ (List.mem_append_right _ (List.mem_append_left _ (List.mem_of_getElem? (i := 177) rfl)))) rfl
theorem me_yX5_copyFrom : Cond.selects RX5 yX5_copyFrom yX5_copyFrom ∈ TB := tb_T (List.mem_append_right _ (List.mem_append_right _ (List.mem_append_left _ (List.mem_of_getElem? (i := 178) rfl)))) rfl
theorem mkX1_87 : Cond.methodLink RX1 87 arraycopyName ∈ TB := tb_T (List.mem_append_right _ (List.mem_append_right _ (List.mem_append_left _ (List.mem_of_getElem? (i := 180) rfl)))) rfl
theorem ms_arraycopyName : Cond.static arraycopyName ∈ TB := tb_T (List.mem_append_right _ (List.mem_append_right _ (List.mem_append_left _ (List.mem_of_getElem? (i := 181) rfl)))) rfl
theorem mn_arraycopyName : Cond.native arraycopyName ∈ TB := tb_T (List.mem_append_right _ (List.mem_append_right _ (List.mem_append_left _ (List.mem_of_getElem? (i := 182) rfl)))) rfl
theorem mkX1_93 : Cond.methodLink RX1 93 yX3_copyFrom ∈ TB := tb_T (List.mem_append_right _ (List.mem_append_right _ (List.mem_append_left _ (List.mem_of_getElem? (i := 183) rfl)))) rfl
theorem mi_yX3_copyFrom : Cond.instanceMethod yX3_copyFrom ∈ TB := tb_T (List.mem_append_right _ (List.mem_append_right _ (List.mem_append_left _ (List.mem_of_getElem? (i := 184) rfl)))) rfl
theorem me_yX3_copyFrom : Cond.selects RX3 yX3_copyFrom yX3_copyFrom ∈ TB := tb_T (List.mem_append_right _ (List.mem_append_right _ (List.mem_append_left _ (List.mem_of_getElem? (i := 185) rfl)))) rfl
theorem mkX3_15 : Cond.methodLink RX3 15 arraycopyName ∈ TB := tb_T (List.mem_append_right _ (List.mem_append_right _ (List.mem_append_left _ (List.mem_of_getElem? (i := 187) rfl)))) rfl
theorem mkX6_158 : Cond.methodLink RX6 158 yX1_isGone ∈ TB := tb_T (List.mem_append_right _ (List.mem_append_right _ (List.mem_append_left _ (List.mem_of_getElem? (i := 188) rfl)))) rfl
theorem mi_yX1_isGone : Cond.instanceMethod yX1_isGone ∈ TB := tb_T (List.mem_append_right _ (List.mem_append_right _ (List.mem_append_left _ (List.mem_of_getElem? (i := 189) rfl)))) rfl
theorem me_yX1_isGone : Cond.selects RX1 yX1_isGone yX1_isGone ∈ TB := tb_T (List.mem_append_right _ (List.mem_append_right _ (List.mem_append_left _ (List.mem_of_getElem? (i := 190) rfl)))) rfl
theorem mkL_117 : Cond.methodLink RL 117 yX6_capacity ∈ TB := tb_T (List.mem_append_right _ (List.mem_append_right _ (List.mem_append_left _ (List.mem_of_getElem? (i := 192) rfl)))) rfl
theorem mi_yX6_capacity : Cond.instanceMethod yX6_capacity ∈ TB := tb_T (List.mem_append_right _ (List.mem_append_right _ (List.mem_append_left _ (List.mem_of_getElem? (i := 193) rfl)))) rfl
theorem me_yX6_capacity : Cond.selects RX6 yX6_capacity yX6_capacity ∈ TB := tb_T (List.mem_append_right _ (List.mem_append_right _ (List.mem_append_left _ (List.mem_of_getElem? (i := 194) rfl)))) rfl
theorem mkX6_161 : Cond.methodLink RX6 161 yX1_clearTraffic ∈ TB := tb_T (List.mem_append_right _ (List.mem_append_right _ (List.mem_append_left _ (List.mem_of_getElem? (i := 196) rfl)))) rfl
theorem mkX6_164 : Cond.methodLink RX6 164 yX1_bringSpare ∈ TB := tb_T (List.mem_append_right _ (List.mem_append_right _ (List.mem_append_left _ (List.mem_of_getElem? (i := 197) rfl)))) rfl
theorem mi_yX1_bringSpare : Cond.instanceMethod yX1_bringSpare ∈ TB := tb_T (List.mem_append_right _ (List.mem_append_right _ (List.mem_append_left _ (List.mem_of_getElem? (i := 198) rfl)))) rfl
theorem me_yX1_bringSpare : Cond.selects RX1 yX1_bringSpare yX1_bringSpare ∈ TB := tb_T (List.mem_append_right _ (List.mem_append_right _ (List.mem_append_left _ (List.mem_of_getElem? (i := 199) rfl)))) rfl
theorem mkX1_154 : Cond.methodLink RX1 154 yX1_bringNew ∈ TB := tb_T (List.mem_append_right _ (List.mem_append_right _ (List.mem_append_left _ (List.mem_of_getElem? (i := 201) rfl)))) rfl
theorem mkL_121 : Cond.methodLink RL 121 yX6_say ∈ TB := tb_T (List.mem_append_right _ (List.mem_append_right _ (List.mem_append_left _ (List.mem_of_getElem? (i := 202) rfl)))) rfl
theorem mi_yX6_say : Cond.instanceMethod yX6_say ∈ TB := tb_T (List.mem_append_right _ (List.mem_append_right _ (List.mem_append_left _ (List.mem_of_getElem? (i := 203) rfl)))) rfl
theorem me_yX6_say : Cond.selects RX6 yX6_say yX6_say ∈ TB := tb_T (List.mem_append_right _ (List.mem_append_right _ (List.mem_append_left _ (List.mem_of_getElem? (i := 204) rfl)))) rfl
theorem mkX6_167 : Cond.methodLink RX6 167 yX2_append ∈ TB := tb_T (List.mem_append_right _ (List.mem_append_right _ (List.mem_append_left _ (List.mem_of_getElem? (i := 206) rfl)))) rfl
theorem mi_yX2_append : Cond.instanceMethod yX2_append ∈ TB := tb_T (List.mem_append_right _ (List.mem_append_right _ (List.mem_append_left _ (List.mem_of_getElem? (i := 207) rfl)))) rfl
theorem me_yX2_append : Cond.selects RX2 yX2_append yX2_append ∈ TB := tb_T (List.mem_append_right _ (List.mem_append_right _ (List.mem_append_left _ (List.mem_of_getElem? (i := 208) rfl)))) rfl
theorem mkL_125 : Cond.methodLink RL 125 yX6_wipe ∈ TB := tb_T (List.mem_append_right _ (List.mem_append_right _ (List.mem_append_left _ (List.mem_of_getElem? (i := 210) rfl)))) rfl
theorem mi_yX6_wipe : Cond.instanceMethod yX6_wipe ∈ TB := tb_T (List.mem_append_right _ (List.mem_append_right _ (List.mem_append_left _ (List.mem_of_getElem? (i := 211) rfl)))) rfl
theorem me_yX6_wipe : Cond.selects RX6 yX6_wipe yX6_wipe ∈ TB := tb_T (List.mem_append_right _ (List.mem_append_right _ (List.mem_append_left _ (List.mem_of_getElem? (i := 212) rfl)))) rfl
theorem mkX6_170 : Cond.methodLink RX6 170 yX2_empty ∈ TB := tb_T (List.mem_append_right _ (List.mem_append_right _ (List.mem_append_left _ (List.mem_of_getElem? (i := 214) rfl)))) rfl
theorem mi_yX2_empty : Cond.instanceMethod yX2_empty ∈ TB := tb_T (List.mem_append_right _ (List.mem_append_right _ (List.mem_append_left _ (List.mem_of_getElem? (i := 215) rfl)))) rfl
theorem me_yX2_empty : Cond.selects RX2 yX2_empty yX2_empty ∈ TB := tb_T (List.mem_append_right _ (List.mem_append_right _ (List.mem_append_left _ (List.mem_of_getElem? (i := 216) rfl)))) rfl
theorem mkL_130 : Cond.methodLink RL 130 yX6_fault ∈ TB := tb_T (List.mem_append_right _ (List.mem_append_right _ (List.mem_append_left _ (List.mem_of_getElem? (i := 218) rfl)))) rfl
theorem mi_yX6_fault : Cond.instanceMethod yX6_fault ∈ TB := tb_T (List.mem_append_right _ (List.mem_append_right _ (List.mem_append_left _ (List.mem_of_getElem? (i := 219) rfl)))) rfl
theorem me_yX6_fault : Cond.selects RX6 yX6_fault yX6_fault ∈ TB := tb_T (List.mem_append_right _ (List.mem_append_right _ (List.mem_append_left _ (List.mem_of_getElem? (i := 220) rfl)))) rfl
theorem mkX6_173 : Cond.methodLink RX6 173 yX2_firstFault ∈ TB := tb_T (List.mem_append_right _ (List.mem_append_right _ (List.mem_append_left _ (List.mem_of_getElem? (i := 222) rfl)))) rfl
theorem mi_yX2_firstFault : Cond.instanceMethod yX2_firstFault ∈ TB := tb_T (List.mem_append_right _ (List.mem_append_right _ (List.mem_append_left _ (List.mem_of_getElem? (i := 223) rfl)))) rfl
theorem me_yX2_firstFault : Cond.selects RX2 yX2_firstFault yX2_firstFault ∈ TB := tb_T (List.mem_append_right _ (List.mem_append_right _ (List.mem_append_left _ (List.mem_of_getElem? (i := 224) rfl)))) rfl
theorem mkX2_19 : Cond.methodLink RX2 19 yX2_after ∈ TB := tb_T (List.mem_append_right _ (List.mem_append_right _ (List.mem_append_left _ (List.mem_of_getElem? (i := 226) rfl)))) rfl
theorem ms_yX2_after : Cond.static yX2_after ∈ TB := tb_T (List.mem_append_right _ (List.mem_append_right _ (List.mem_append_left _ (List.mem_of_getElem? (i := 227) rfl)))) rfl
theorem mkX2_23 : Cond.methodLink RX2 23 yX2_afterLetter ∈ TB := tb_T (List.mem_append_right _ (List.mem_append_right _ (List.mem_append_left _ (List.mem_of_getElem? (i := 229) rfl)))) rfl
theorem ms_yX2_afterLetter : Cond.static yX2_afterLetter ∈ TB := tb_T (List.mem_append_right _ (List.mem_append_right _ (List.mem_append_left _ (List.mem_of_getElem? (i := 230) rfl)))) rfl
theorem mkX2_27 : Cond.methodLink RX2 27 yX2_isBetween ∈ TB := tb_T (List.mem_append_right _ (List.mem_append_right _ (List.mem_append_left _ (List.mem_of_getElem? (i := 232) rfl)))) rfl
theorem ms_yX2_isBetween : Cond.static yX2_isBetween ∈ TB := tb_T (List.mem_append_right _ (List.mem_append_right _ (List.mem_append_left _ (List.mem_of_getElem? (i := 233) rfl)))) rfl
theorem mkX2_31 : Cond.methodLink RX2 31 yX2_afterOrder ∈ TB := tb_T (List.mem_append_right _ (List.mem_append_right _ (List.mem_append_left _ (List.mem_of_getElem? (i := 235) rfl)))) rfl
theorem ms_yX2_afterOrder : Cond.static yX2_afterOrder ∈ TB := tb_T (List.mem_append_right _ (List.mem_append_right _ (List.mem_append_left _ (List.mem_of_getElem? (i := 236) rfl)))) rfl
theorem mkL_134 : Cond.methodLink RL 134 yX6_carryOut ∈ TB := tb_T (List.mem_append_right _ (List.mem_append_right _ (List.mem_append_left _ (List.mem_of_getElem? (i := 238) rfl)))) rfl
theorem mi_yX6_carryOut : Cond.instanceMethod yX6_carryOut ∈ TB := tb_T (List.mem_append_right _ (List.mem_append_right _ (List.mem_append_left _ (List.mem_of_getElem? (i := 239) rfl)))) rfl
theorem me_yX6_carryOut : Cond.selects RX6 yX6_carryOut yX6_carryOut ∈ TB := tb_T (List.mem_append_right _ (List.mem_append_right _ (List.mem_append_right _ (List.mem_append_left _ (List.mem_of_getElem? (i := 0) rfl))))) rfl
theorem mkX6_176 : Cond.methodLink RX6 176 yX2_rewind ∈ TB := tb_T (List.mem_append_right _ (List.mem_append_right _ (List.mem_append_right _ (List.mem_append_left _ (List.mem_of_getElem? (i := 2) rfl))))) rfl
theorem mi_yX2_rewind : Cond.instanceMethod yX2_rewind ∈ TB := tb_T (List.mem_append_right _ (List.mem_append_right _ (List.mem_append_right _ (List.mem_append_left _ (List.mem_of_getElem? (i := 3) rfl))))) rfl
theorem me_yX2_rewind : Cond.selects RX2 yX2_rewind yX2_rewind ∈ TB := tb_T (List.mem_append_right _ (List.mem_append_right _ (List.mem_append_right _ (List.mem_append_left _ (List.mem_of_getElem? (i := 4) rfl))))) rfl
theorem mkX6_179 : Cond.methodLink RX6 179 yX2_readOrder ∈ TB := tb_T (List.mem_append_right _ (List.mem_append_right _ (List.mem_append_right _ (List.mem_append_left _ (List.mem_of_getElem? (i := 6) rfl))))) rfl
theorem mi_yX2_readOrder : Cond.instanceMethod yX2_readOrder ∈ TB := tb_T (List.mem_append_right _ (List.mem_append_right _ (List.mem_append_right _ (List.mem_append_left _ (List.mem_of_getElem? (i := 7) rfl))))) rfl
theorem me_yX2_readOrder : Cond.selects RX2 yX2_readOrder yX2_readOrder ∈ TB := tb_T (List.mem_append_right _ (List.mem_append_right _ (List.mem_append_right _ (List.mem_append_left _ (List.mem_of_getElem? (i := 8) rfl))))) rfl
theorem mkX2_46 : Cond.methodLink RX2 46 yX2_readSign ∈ TB := tb_T (List.mem_append_right _ (List.mem_append_right _ (List.mem_append_right _ (List.mem_append_left _ (List.mem_of_getElem? (i := 10) rfl))))) rfl
theorem mi_yX2_readSign : Cond.instanceMethod yX2_readSign ∈ TB := tb_T (List.mem_append_right _ (List.mem_append_right _ (List.mem_append_right _ (List.mem_append_left _ (List.mem_of_getElem? (i := 12) rfl))))) rfl
theorem mkX6_192 : Cond.methodLink RX6 192 yX6_obey ∈ TB := tb_T (List.mem_append_right _ (List.mem_append_right _ (List.mem_append_right _ (List.mem_append_left _ (List.mem_of_getElem? (i := 14) rfl))))) rfl
theorem mi_yX6_obey : Cond.instanceMethod yX6_obey ∈ TB := tb_T (List.mem_append_right _ (List.mem_append_right _ (List.mem_append_right _ (List.mem_append_left _ (List.mem_of_getElem? (i := 16) rfl))))) rfl
theorem mkX6_195 : Cond.methodLink RX6 195 yX6_offer ∈ TB := tb_T (List.mem_append_right _ (List.mem_append_right _ (List.mem_append_right _ (List.mem_append_left _ (List.mem_of_getElem? (i := 18) rfl))))) rfl
theorem mkX6_198 : Cond.methodLink RX6 198 yX6_depart ∈ TB := tb_T (List.mem_append_right _ (List.mem_append_right _ (List.mem_append_right _ (List.mem_append_left _ (List.mem_of_getElem? (i := 19) rfl))))) rfl
theorem mkX6_201 : Cond.methodLink RX6 201 yX6_shunt ∈ TB := tb_T (List.mem_append_right _ (List.mem_append_right _ (List.mem_append_right _ (List.mem_append_left _ (List.mem_of_getElem? (i := 20) rfl))))) rfl
theorem mkX6_204 : Cond.methodLink RX6 204 yX6_leave ∈ TB := tb_T (List.mem_append_right _ (List.mem_append_right _ (List.mem_append_right _ (List.mem_append_left _ (List.mem_of_getElem? (i := 21) rfl))))) rfl
theorem mkX6_207 : Cond.methodLink RX6 207 yX6_answer ∈ TB := tb_T (List.mem_append_right _ (List.mem_append_right _ (List.mem_append_right _ (List.mem_append_left _ (List.mem_of_getElem? (i := 22) rfl))))) rfl
theorem mkX6_211 : Cond.methodLink RX6 211 yX6_cancel ∈ TB := tb_T (List.mem_append_right _ (List.mem_append_right _ (List.mem_append_right _ (List.mem_append_left _ (List.mem_of_getElem? (i := 23) rfl))))) rfl
theorem mkX6_214 : Cond.methodLink RX6 214 yX6_admit ∈ TB := tb_T (List.mem_append_right _ (List.mem_append_right _ (List.mem_append_right _ (List.mem_append_left _ (List.mem_of_getElem? (i := 24) rfl))))) rfl
theorem mkX6_217 : Cond.methodLink RX6 217 yX6_out ∈ TB := tb_T (List.mem_append_right _ (List.mem_append_right _ (List.mem_append_right _ (List.mem_append_left _ (List.mem_of_getElem? (i := 25) rfl))))) rfl
theorem mkX6_220 : Cond.methodLink RX6 220 yX6_assist ∈ TB := tb_T (List.mem_append_right _ (List.mem_append_right _ (List.mem_append_right _ (List.mem_append_left _ (List.mem_of_getElem? (i := 26) rfl))))) rfl
theorem mkX6_223 : Cond.methodLink RX6 223 yX6_pass ∈ TB := tb_T (List.mem_append_right _ (List.mem_append_right _ (List.mem_append_right _ (List.mem_append_left _ (List.mem_of_getElem? (i := 27) rfl))))) rfl
theorem mkL_138 : Cond.methodLink RL 138 yX6_count ∈ TB := tb_T (List.mem_append_right _ (List.mem_append_right _ (List.mem_append_right _ (List.mem_append_left _ (List.mem_of_getElem? (i := 28) rfl))))) rfl
theorem mi_yX6_count : Cond.instanceMethod yX6_count ∈ TB := tb_T (List.mem_append_right _ (List.mem_append_right _ (List.mem_append_right _ (List.mem_append_left _ (List.mem_of_getElem? (i := 29) rfl))))) rfl
theorem me_yX6_count : Cond.selects RX6 yX6_count yX6_count ∈ TB := tb_T (List.mem_append_right _ (List.mem_append_right _ (List.mem_append_right _ (List.mem_append_left _ (List.mem_of_getElem? (i := 30) rfl))))) rfl
theorem mkX6_226 : Cond.methodLink RX6 226 yX1_trainsThatAre ∈ TB := tb_T (List.mem_append_right _ (List.mem_append_right _ (List.mem_append_right _ (List.mem_append_left _ (List.mem_of_getElem? (i := 32) rfl))))) rfl
theorem mi_yX1_trainsThatAre : Cond.instanceMethod yX1_trainsThatAre ∈ TB := tb_T (List.mem_append_right _ (List.mem_append_right _ (List.mem_append_right _ (List.mem_append_left _ (List.mem_of_getElem? (i := 33) rfl))))) rfl
theorem me_yX1_trainsThatAre : Cond.selects RX1 yX1_trainsThatAre yX1_trainsThatAre ∈ TB := tb_T (List.mem_append_right _ (List.mem_append_right _ (List.mem_append_right _ (List.mem_append_left _ (List.mem_of_getElem? (i := 34) rfl))))) rfl
theorem mkX6_232 : Cond.methodLink RX6 232 yX1_blocksOtherThan ∈ TB := tb_T (List.mem_append_right _ (List.mem_append_right _ (List.mem_append_right _ (List.mem_append_left _ (List.mem_of_getElem? (i := 36) rfl))))) rfl
theorem mi_yX1_blocksOtherThan : Cond.instanceMethod yX1_blocksOtherThan ∈ TB := tb_T (List.mem_append_right _ (List.mem_append_right _ (List.mem_append_right _ (List.mem_append_left _ (List.mem_of_getElem? (i := 37) rfl))))) rfl
theorem me_yX1_blocksOtherThan : Cond.selects RX1 yX1_blocksOtherThan yX1_blocksOtherThan ∈ TB := tb_T (List.mem_append_right _ (List.mem_append_right _ (List.mem_append_right _ (List.mem_append_left _ (List.mem_of_getElem? (i := 38) rfl))))) rfl
theorem mkX1_142 : Cond.methodLink RX1 142 yX0_property ∈ TB := tb_T (List.mem_append_right _ (List.mem_append_right _ (List.mem_append_right _ (List.mem_append_left _ (List.mem_of_getElem? (i := 40) rfl))))) rfl
theorem mkL_142 : Cond.methodLink RL 142 yX6_save ∈ TB := tb_T (List.mem_append_right _ (List.mem_append_right _ (List.mem_append_right _ (List.mem_append_left _ (List.mem_of_getElem? (i := 41) rfl))))) rfl
theorem mi_yX6_save : Cond.instanceMethod yX6_save ∈ TB := tb_T (List.mem_append_right _ (List.mem_append_right _ (List.mem_append_right _ (List.mem_append_left _ (List.mem_of_getElem? (i := 42) rfl))))) rfl
theorem me_yX6_save : Cond.selects RX6 yX6_save yX6_save ∈ TB := tb_T (List.mem_append_right _ (List.mem_append_right _ (List.mem_append_right _ (List.mem_append_left _ (List.mem_of_getElem? (i := 43) rfl))))) rfl
theorem mkL_146 : Cond.methodLink RL 146 yX6_restore ∈ TB := tb_T (List.mem_append_right _ (List.mem_append_right _ (List.mem_append_right _ (List.mem_append_left _ (List.mem_of_getElem? (i := 45) rfl))))) rfl
theorem mi_yX6_restore : Cond.instanceMethod yX6_restore ∈ TB := tb_T (List.mem_append_right _ (List.mem_append_right _ (List.mem_append_right _ (List.mem_append_left _ (List.mem_of_getElem? (i := 46) rfl))))) rfl
theorem me_yX6_restore : Cond.selects RX6 yX6_restore yX6_restore ∈ TB := tb_T (List.mem_append_right _ (List.mem_append_right _ (List.mem_append_right _ (List.mem_append_left _ (List.mem_of_getElem? (i := 47) rfl))))) rfl
theorem clL_10 : Cond.classLink RL 10 RX7 ∈ TB := tb_T (List.mem_append_right _ (List.mem_append_right _ (List.mem_append_right _ (List.mem_append_left _ (List.mem_of_getElem? (i := 49) rfl))))) rfl
theorem nwX7 : Cond.instantiable RX7 10 ∈ TB := tb_T (List.mem_append_right _ (List.mem_append_right _ (List.mem_append_right _ (List.mem_append_left _ (List.mem_of_getElem? (i := 50) rfl))))) rfl
theorem mkL_12 : Cond.methodLink RL 12 yX7_init ∈ TB := tb_T (List.mem_append_right _ (List.mem_append_right _ (List.mem_append_right _ (List.mem_append_left _ (List.mem_of_getElem? (i := 51) rfl))))) rfl
theorem mi_yX7_init : Cond.instanceMethod yX7_init ∈ TB := tb_T (List.mem_append_right _ (List.mem_append_right _ (List.mem_append_right _ (List.mem_append_left _ (List.mem_of_getElem? (i := 52) rfl))))) rfl
theorem mkX7_1 : Cond.methodLink RX7 1 objectInit ∈ TB := tb_T (List.mem_append_right _ (List.mem_append_right _ (List.mem_append_right _ (List.mem_append_left _ (List.mem_of_getElem? (i := 54) rfl))))) rfl
theorem mkX7_29 : Cond.methodLink RX7 29 yX7_lay ∈ TB := tb_T (List.mem_append_right _ (List.mem_append_right _ (List.mem_append_right _ (List.mem_append_left _ (List.mem_of_getElem? (i := 55) rfl))))) rfl
theorem mi_yX7_lay : Cond.instanceMethod yX7_lay ∈ TB := tb_T (List.mem_append_right _ (List.mem_append_right _ (List.mem_append_right _ (List.mem_append_left _ (List.mem_of_getElem? (i := 57) rfl))))) rfl
theorem mkX7_33 : Cond.methodLink RX7 33 yX7_layBlocks ∈ TB := tb_T (List.mem_append_right _ (List.mem_append_right _ (List.mem_append_right _ (List.mem_append_left _ (List.mem_of_getElem? (i := 59) rfl))))) rfl
theorem mi_yX7_layBlocks : Cond.instanceMethod yX7_layBlocks ∈ TB := tb_T (List.mem_append_right _ (List.mem_append_right _ (List.mem_append_right _ (List.mem_append_left _ (List.mem_of_getElem? (i := 61) rfl))))) rfl
theorem lkX7_7 : Cond.fieldLink RX7 7 "BlockBellsModel" "at" "[I" ∈ TB := tb_T (List.mem_append_right _ (List.mem_append_right _ (List.mem_append_right _ (List.mem_append_left _ (List.mem_of_getElem? (i := 63) rfl))))) rfl
theorem lkX7_13 : Cond.fieldLink RX7 13 "BlockBellsModel" "aside" "[I" ∈ TB := tb_T (List.mem_append_right _ (List.mem_append_right _ (List.mem_append_right _ (List.mem_append_left _ (List.mem_of_getElem? (i := 64) rfl))))) rfl
theorem lkX7_16 : Cond.fieldLink RX7 16 "BlockBellsModel" "slots" "[I" ∈ TB := tb_T (List.mem_append_right _ (List.mem_append_right _ (List.mem_append_right _ (List.mem_append_left _ (List.mem_of_getElem? (i := 65) rfl))))) rfl
theorem lkX7_19 : Cond.fieldLink RX7 19 "BlockBellsModel" "isSaved" "[Z" ∈ TB := tb_T (List.mem_append_right _ (List.mem_append_right _ (List.mem_append_right _ (List.mem_append_left _ (List.mem_of_getElem? (i := 66) rfl))))) rfl
theorem lkX7_23 : Cond.fieldLink RX7 23 "BlockBellsModel" "pad" "[I" ∈ TB := tb_T (List.mem_append_right _ (List.mem_append_right _ (List.mem_append_right _ (List.mem_append_left _ (List.mem_of_getElem? (i := 67) rfl))))) rfl
theorem lkX7_177 : Cond.fieldLink RX7 177 "BlockBellsModel" "padMany" "I" ∈ TB := tb_T (List.mem_append_right _ (List.mem_append_right _ (List.mem_append_right _ (List.mem_append_left _ (List.mem_of_getElem? (i := 68) rfl))))) rfl
theorem lkX7_181 : Cond.fieldLink RX7 181 "BlockBellsModel" "reading" "I" ∈ TB := tb_T (List.mem_append_right _ (List.mem_append_right _ (List.mem_append_right _ (List.mem_append_left _ (List.mem_of_getElem? (i := 69) rfl))))) rfl
theorem lkX7_187 : Cond.fieldLink RX7 187 "BlockBellsModel" "isWrong" "Z" ∈ TB := tb_T (List.mem_append_right _ (List.mem_append_right _ (List.mem_append_right _ (List.mem_append_left _ (List.mem_of_getElem? (i := 70) rfl))))) rfl
theorem lkX7_26 : Cond.fieldLink RX7 26 "BlockBellsModel" "orders" "[I" ∈ TB := tb_T (List.mem_append_right _ (List.mem_append_right _ (List.mem_append_right _ (List.mem_append_left _ (List.mem_of_getElem? (i := 71) rfl))))) rfl
theorem lkX7_197 : Cond.fieldLink RX7 197 "BlockBellsModel" "orderMany" "I" ∈ TB := tb_T (List.mem_append_right _ (List.mem_append_right _ (List.mem_append_right _ (List.mem_append_left _ (List.mem_of_getElem? (i := 72) rfl))))) rfl
theorem mkL_17 : Cond.methodLink RL 17 yX7_setUp ∈ TB := tb_T (List.mem_append_right _ (List.mem_append_right _ (List.mem_append_right _ (List.mem_append_left _ (List.mem_of_getElem? (i := 94) rfl))))) rfl
theorem mi_yX7_setUp : Cond.instanceMethod yX7_setUp ∈ TB := tb_T (List.mem_append_right _ (List.mem_append_right _ (List.mem_append_right _ (List.mem_append_left _ (List.mem_of_getElem? (i := 95) rfl))))) rfl
theorem me_yX7_setUp : Cond.selects RX7 yX7_setUp yX7_setUp ∈ TB := tb_T (List.mem_append_right _ (List.mem_append_right _ (List.mem_append_right _ (List.mem_append_left _ (List.mem_of_getElem? (i := 96) rfl))))) rfl
theorem mkX7_40 : Cond.methodLink RX7 40 yX7_in ∈ TB := tb_T (List.mem_append_right _ (List.mem_append_right _ (List.mem_append_right _ (List.mem_append_left _ (List.mem_of_getElem? (i := 98) rfl))))) rfl
theorem ms_yX7_in : Cond.static yX7_in ∈ TB := tb_T (List.mem_append_right _ (List.mem_append_right _ (List.mem_append_right _ (List.mem_append_left _ (List.mem_of_getElem? (i := 99) rfl))))) rfl
theorem mkL_21 : Cond.methodLink RL 21 yX7_setTime ∈ TB := tb_T (List.mem_append_right _ (List.mem_append_right _ (List.mem_append_right _ (List.mem_append_left _ (List.mem_of_getElem? (i := 101) rfl))))) rfl
theorem mi_yX7_setTime : Cond.instanceMethod yX7_setTime ∈ TB := tb_T (List.mem_append_right _ (List.mem_append_right _ (List.mem_append_right _ (List.mem_append_left _ (List.mem_of_getElem? (i := 102) rfl))))) rfl
theorem me_yX7_setTime : Cond.selects RX7 yX7_setTime yX7_setTime ∈ TB := tb_T (List.mem_append_right _ (List.mem_append_right _ (List.mem_append_right _ (List.mem_append_left _ (List.mem_of_getElem? (i := 103) rfl))))) rfl
theorem mkX7_44 : Cond.methodLink RX7 44 yX7_isSection ∈ TB := tb_T (List.mem_append_right _ (List.mem_append_right _ (List.mem_append_right _ (List.mem_append_left _ (List.mem_of_getElem? (i := 105) rfl))))) rfl
theorem mi_yX7_isSection : Cond.instanceMethod yX7_isSection ∈ TB := tb_T (List.mem_append_right _ (List.mem_append_right _ (List.mem_append_right _ (List.mem_append_left _ (List.mem_of_getElem? (i := 107) rfl))))) rfl
theorem mkX7_36 : Cond.methodLink RX7 36 yX7_sections ∈ TB := tb_T (List.mem_append_right _ (List.mem_append_right _ (List.mem_append_right _ (List.mem_append_left _ (List.mem_of_getElem? (i := 109) rfl))))) rfl
theorem mi_yX7_sections : Cond.instanceMethod yX7_sections ∈ TB := tb_T (List.mem_append_right _ (List.mem_append_right _ (List.mem_append_right _ (List.mem_append_left _ (List.mem_of_getElem? (i := 111) rfl))))) rfl
theorem mkL_26 : Cond.methodLink RL 26 yX7_setLoops ∈ TB := tb_T (List.mem_append_right _ (List.mem_append_right _ (List.mem_append_right _ (List.mem_append_left _ (List.mem_of_getElem? (i := 113) rfl))))) rfl
theorem mi_yX7_setLoops : Cond.instanceMethod yX7_setLoops ∈ TB := tb_T (List.mem_append_right _ (List.mem_append_right _ (List.mem_append_right _ (List.mem_append_left _ (List.mem_of_getElem? (i := 114) rfl))))) rfl
theorem me_yX7_setLoops : Cond.selects RX7 yX7_setLoops yX7_setLoops ∈ TB := tb_T (List.mem_append_right _ (List.mem_append_right _ (List.mem_append_right _ (List.mem_append_left _ (List.mem_of_getElem? (i := 115) rfl))))) rfl
theorem mkX7_48 : Cond.methodLink RX7 48 yX7_isWay ∈ TB := tb_T (List.mem_append_right _ (List.mem_append_right _ (List.mem_append_right _ (List.mem_append_left _ (List.mem_of_getElem? (i := 117) rfl))))) rfl
theorem ms_yX7_isWay : Cond.static yX7_isWay ∈ TB := tb_T (List.mem_append_right _ (List.mem_append_right _ (List.mem_append_right _ (List.mem_append_left _ (List.mem_of_getElem? (i := 118) rfl))))) rfl
theorem mkX7_65 : Cond.methodLink RX7 65 yX7_many ∈ TB := tb_T (List.mem_append_right _ (List.mem_append_right _ (List.mem_append_right _ (List.mem_append_left _ (List.mem_of_getElem? (i := 120) rfl))))) rfl
theorem mi_yX7_many : Cond.instanceMethod yX7_many ∈ TB := tb_T (List.mem_append_right _ (List.mem_append_right _ (List.mem_append_right _ (List.mem_append_left _ (List.mem_of_getElem? (i := 122) rfl))))) rfl
theorem mkX7_61 : Cond.methodLink RX7 61 yX7_ofTrain ∈ TB := tb_T (List.mem_append_right _ (List.mem_append_right _ (List.mem_append_right _ (List.mem_append_left _ (List.mem_of_getElem? (i := 124) rfl))))) rfl
theorem mi_yX7_ofTrain : Cond.instanceMethod yX7_ofTrain ∈ TB := tb_T (List.mem_append_right _ (List.mem_append_right _ (List.mem_append_right _ (List.mem_append_left _ (List.mem_of_getElem? (i := 126) rfl))))) rfl
theorem mkL_30 : Cond.methodLink RL 30 yX7_moveTokens ∈ TB := tb_T (List.mem_append_right _ (List.mem_append_right _ (List.mem_append_right _ (List.mem_append_left _ (List.mem_of_getElem? (i := 128) rfl))))) rfl
theorem mi_yX7_moveTokens : Cond.instanceMethod yX7_moveTokens ∈ TB := tb_T (List.mem_append_right _ (List.mem_append_right _ (List.mem_append_right _ (List.mem_append_left _ (List.mem_of_getElem? (i := 129) rfl))))) rfl
theorem me_yX7_moveTokens : Cond.selects RX7 yX7_moveTokens yX7_moveTokens ∈ TB := tb_T (List.mem_append_right _ (List.mem_append_right _ (List.mem_append_right _ (List.mem_append_left _ (List.mem_of_getElem? (i := 130) rfl))))) rfl
theorem mkX7_58 : Cond.methodLink RX7 58 yX7_isSingle ∈ TB := tb_T (List.mem_append_right _ (List.mem_append_right _ (List.mem_append_right _ (List.mem_append_left _ (List.mem_of_getElem? (i := 132) rfl))))) rfl
theorem mi_yX7_isSingle : Cond.instanceMethod yX7_isSingle ∈ TB := tb_T (List.mem_append_right _ (List.mem_append_right _ (List.mem_append_right _ (List.mem_append_left _ (List.mem_of_getElem? (i := 134) rfl))))) rfl
theorem mkL_34 : Cond.methodLink RL 34 yX7_section ∈ TB := tb_T (List.mem_append_right _ (List.mem_append_right _ (List.mem_append_right _ (List.mem_append_left _ (List.mem_of_getElem? (i := 136) rfl))))) rfl
theorem mi_yX7_section : Cond.instanceMethod yX7_section ∈ TB := tb_T (List.mem_append_right _ (List.mem_append_right _ (List.mem_append_right _ (List.mem_append_left _ (List.mem_of_getElem? (i := 137) rfl))))) rfl
theorem me_yX7_section : Cond.selects RX7 yX7_section yX7_section ∈ TB := tb_T (List.mem_append_right _ (List.mem_append_right _ (List.mem_append_right _ (List.mem_append_left _ (List.mem_of_getElem? (i := 138) rfl))))) rfl
theorem mkX7_68 : Cond.methodLink RX7 68 yX7_isTokenOut ∈ TB := tb_T (List.mem_append_right _ (List.mem_append_right _ (List.mem_append_right _ (List.mem_append_left _ (List.mem_of_getElem? (i := 140) rfl))))) rfl
theorem mi_yX7_isTokenOut : Cond.instanceMethod yX7_isTokenOut ∈ TB := tb_T (List.mem_append_right _ (List.mem_append_right _ (List.mem_append_right _ (List.mem_append_left _ (List.mem_of_getElem? (i := 142) rfl))))) rfl
theorem mkX7_55 : Cond.methodLink RX7 55 yX7_ofBlock ∈ TB := tb_T (List.mem_append_right _ (List.mem_append_right _ (List.mem_append_right _ (List.mem_append_left _ (List.mem_of_getElem? (i := 144) rfl))))) rfl
theorem mi_yX7_ofBlock : Cond.instanceMethod yX7_ofBlock ∈ TB := tb_T (List.mem_append_right _ (List.mem_append_right _ (List.mem_append_right _ (List.mem_append_left _ (List.mem_of_getElem? (i := 146) rfl))))) rfl
theorem mkX7_51 : Cond.methodLink RX7 51 yX7_place ∈ TB := tb_T (List.mem_append_right _ (List.mem_append_right _ (List.mem_append_right _ (List.mem_append_left _ (List.mem_of_getElem? (i := 148) rfl))))) rfl
theorem ms_yX7_place : Cond.static yX7_place ∈ TB := tb_T (List.mem_append_right _ (List.mem_append_right _ (List.mem_append_right _ (List.mem_append_left _ (List.mem_of_getElem? (i := 149) rfl))))) rfl
theorem mkL_38 : Cond.methodLink RL 38 yX7_block ∈ TB := tb_T (List.mem_append_right _ (List.mem_append_right _ (List.mem_append_right _ (List.mem_append_left _ (List.mem_of_getElem? (i := 151) rfl))))) rfl
theorem mi_yX7_block : Cond.instanceMethod yX7_block ∈ TB := tb_T (List.mem_append_right _ (List.mem_append_right _ (List.mem_append_right _ (List.mem_append_left _ (List.mem_of_getElem? (i := 152) rfl))))) rfl
theorem me_yX7_block : Cond.selects RX7 yX7_block yX7_block ∈ TB := tb_T (List.mem_append_right _ (List.mem_append_right _ (List.mem_append_right _ (List.mem_append_left _ (List.mem_of_getElem? (i := 153) rfl))))) rfl
theorem mkX7_71 : Cond.methodLink RX7 71 yX7_isBlock ∈ TB := tb_T (List.mem_append_right _ (List.mem_append_right _ (List.mem_append_right _ (List.mem_append_left _ (List.mem_of_getElem? (i := 155) rfl))))) rfl
theorem mi_yX7_isBlock : Cond.instanceMethod yX7_isBlock ∈ TB := tb_T (List.mem_append_right _ (List.mem_append_right _ (List.mem_append_right _ (List.mem_append_left _ (List.mem_of_getElem? (i := 157) rfl))))) rfl
theorem mkL_42 : Cond.methodLink RL 42 yX7_appear ∈ TB := tb_T (List.mem_append_right _ (List.mem_append_right _ (List.mem_append_right _ (List.mem_append_left _ (List.mem_of_getElem? (i := 159) rfl))))) rfl
theorem mi_yX7_appear : Cond.instanceMethod yX7_appear ∈ TB := tb_T (List.mem_append_right _ (List.mem_append_right _ (List.mem_append_right _ (List.mem_append_left _ (List.mem_of_getElem? (i := 160) rfl))))) rfl
theorem me_yX7_appear : Cond.selects RX7 yX7_appear yX7_appear ∈ TB := tb_T (List.mem_append_right _ (List.mem_append_right _ (List.mem_append_right _ (List.mem_append_left _ (List.mem_of_getElem? (i := 161) rfl))))) rfl
theorem mkX7_79 : Cond.methodLink RX7 79 yX7_firstBox ∈ TB := tb_T (List.mem_append_right _ (List.mem_append_right _ (List.mem_append_right _ (List.mem_append_left _ (List.mem_of_getElem? (i := 163) rfl))))) rfl
theorem mi_yX7_firstBox : Cond.instanceMethod yX7_firstBox ∈ TB := tb_T (List.mem_append_right _ (List.mem_append_right _ (List.mem_append_right _ (List.mem_append_left _ (List.mem_of_getElem? (i := 165) rfl))))) rfl
theorem mkX7_83 : Cond.methodLink RX7 83 yX7_isFree ∈ TB := tb_T (List.mem_append_right _ (List.mem_append_right _ (List.mem_append_right _ (List.mem_append_left _ (List.mem_of_getElem? (i := 167) rfl))))) rfl
theorem mi_yX7_isFree : Cond.instanceMethod yX7_isFree ∈ TB := tb_T (List.mem_append_right _ (List.mem_append_right _ (List.mem_append_right _ (List.mem_append_left _ (List.mem_of_getElem? (i := 169) rfl))))) rfl
theorem mkX7_86 : Cond.methodLink RX7 86 yX7_add ∈ TB := tb_T (List.mem_append_right _ (List.mem_append_right _ (List.mem_append_right _ (List.mem_append_left _ (List.mem_of_getElem? (i := 171) rfl))))) rfl
theorem mi_yX7_add : Cond.instanceMethod yX7_add ∈ TB := tb_T (List.mem_append_right _ (List.mem_append_right _ (List.mem_append_right _ (List.mem_append_left _ (List.mem_of_getElem? (i := 173) rfl))))) rfl
theorem mkX7_75 : Cond.methodLink RX7 75 yX7_layTrain ∈ TB := tb_T (List.mem_append_right _ (List.mem_append_right _ (List.mem_append_right _ (List.mem_append_left _ (List.mem_of_getElem? (i := 175) rfl))))) rfl
theorem mi_yX7_layTrain : Cond.instanceMethod yX7_layTrain ∈ TB := tb_T (List.mem_append_right _ (List.mem_append_right _ (List.mem_append_right _ (List.mem_append_left _ (List.mem_of_getElem? (i := 177) rfl))))) rfl
theorem mkL_46 : Cond.methodLink RL 46 yX7_train ∈ TB := tb_T (List.mem_append_right _ (List.mem_append_right _ (List.mem_append_right _ (List.mem_append_left _ (List.mem_of_getElem? (i := 179) rfl))))) rfl
theorem mi_yX7_train : Cond.instanceMethod yX7_train ∈ TB := tb_T (List.mem_append_right _ (List.mem_append_right _ (List.mem_append_right _ (List.mem_append_left _ (List.mem_of_getElem? (i := 180) rfl))))) rfl
theorem me_yX7_train : Cond.selects RX7 yX7_train yX7_train ∈ TB := tb_T (List.mem_append_right _ (List.mem_append_right _ (List.mem_append_right _ (List.mem_append_left _ (List.mem_of_getElem? (i := 181) rfl))))) rfl
theorem mkX7_89 : Cond.methodLink RX7 89 yX7_isTrain ∈ TB := tb_T (List.mem_append_right _ (List.mem_append_right _ (List.mem_append_right _ (List.mem_append_left _ (List.mem_of_getElem? (i := 183) rfl))))) rfl
theorem mi_yX7_isTrain : Cond.instanceMethod yX7_isTrain ∈ TB := tb_T (List.mem_append_right _ (List.mem_append_right _ (List.mem_append_right _ (List.mem_append_left _ (List.mem_of_getElem? (i := 185) rfl))))) rfl
theorem mkL_51 : Cond.methodLink RL 51 yX7_shunt ∈ TB := tb_T (List.mem_append_right _ (List.mem_append_right _ (List.mem_append_right _ (List.mem_append_left _ (List.mem_of_getElem? (i := 187) rfl))))) rfl
theorem mi_yX7_shunt : Cond.instanceMethod yX7_shunt ∈ TB := tb_T (List.mem_append_right _ (List.mem_append_right _ (List.mem_append_right _ (List.mem_append_left _ (List.mem_of_getElem? (i := 188) rfl))))) rfl
theorem me_yX7_shunt : Cond.selects RX7 yX7_shunt yX7_shunt ∈ TB := tb_T (List.mem_append_right _ (List.mem_append_right _ (List.mem_append_right _ (List.mem_append_left _ (List.mem_of_getElem? (i := 189) rfl))))) rfl
theorem mkX7_101 : Cond.methodLink RX7 101 yX7_canGoIn ∈ TB := tb_T (List.mem_append_right _ (List.mem_append_right _ (List.mem_append_right _ (List.mem_append_left _ (List.mem_of_getElem? (i := 191) rfl))))) rfl
theorem mi_yX7_canGoIn : Cond.instanceMethod yX7_canGoIn ∈ TB := tb_T (List.mem_append_right _ (List.mem_append_right _ (List.mem_append_right _ (List.mem_append_left _ (List.mem_of_getElem? (i := 193) rfl))))) rfl
theorem mkX7_95 : Cond.methodLink RX7 95 yX7_isOffered ∈ TB := tb_T (List.mem_append_right _ (List.mem_append_right _ (List.mem_append_right _ (List.mem_append_left _ (List.mem_of_getElem? (i := 195) rfl))))) rfl
theorem mi_yX7_isOffered : Cond.instanceMethod yX7_isOffered ∈ TB := tb_T (List.mem_append_right _ (List.mem_append_right _ (List.mem_append_right _ (List.mem_append_left _ (List.mem_of_getElem? (i := 197) rfl))))) rfl
theorem mkX7_92 : Cond.methodLink RX7 92 yX7_nextSection ∈ TB := tb_T (List.mem_append_right _ (List.mem_append_right _ (List.mem_append_right _ (List.mem_append_left _ (List.mem_of_getElem? (i := 199) rfl))))) rfl
theorem mi_yX7_nextSection : Cond.instanceMethod yX7_nextSection ∈ TB := tb_T (List.mem_append_right _ (List.mem_append_right _ (List.mem_append_right _ (List.mem_append_left _ (List.mem_of_getElem? (i := 201) rfl))))) rfl
theorem mkX7_98 : Cond.methodLink RX7 98 yX7_isClearFor ∈ TB := tb_T (List.mem_append_right _ (List.mem_append_right _ (List.mem_append_right _ (List.mem_append_left _ (List.mem_of_getElem? (i := 203) rfl))))) rfl
theorem mi_yX7_isClearFor : Cond.instanceMethod yX7_isClearFor ∈ TB := tb_T (List.mem_append_right _ (List.mem_append_right _ (List.mem_append_right _ (List.mem_append_left _ (List.mem_of_getElem? (i := 205) rfl))))) rfl
theorem mkX7_104 : Cond.methodLink RX7 104 yX7_isCalmBehind ∈ TB := tb_T (List.mem_append_right _ (List.mem_append_right _ (List.mem_append_right _ (List.mem_append_left _ (List.mem_of_getElem? (i := 207) rfl))))) rfl
theorem mi_yX7_isCalmBehind : Cond.instanceMethod yX7_isCalmBehind ∈ TB := tb_T (List.mem_append_right _ (List.mem_append_right _ (List.mem_append_right _ (List.mem_append_left _ (List.mem_of_getElem? (i := 209) rfl))))) rfl
theorem mkL_55 : Cond.methodLink RL 55 yX7_leave ∈ TB := tb_T (List.mem_append_right _ (List.mem_append_right _ (List.mem_append_right _ (List.mem_append_left _ (List.mem_of_getElem? (i := 211) rfl))))) rfl
theorem mi_yX7_leave : Cond.instanceMethod yX7_leave ∈ TB := tb_T (List.mem_append_right _ (List.mem_append_right _ (List.mem_append_right _ (List.mem_append_left _ (List.mem_of_getElem? (i := 212) rfl))))) rfl
theorem me_yX7_leave : Cond.selects RX7 yX7_leave yX7_leave ∈ TB := tb_T (List.mem_append_right _ (List.mem_append_right _ (List.mem_append_right _ (List.mem_append_left _ (List.mem_of_getElem? (i := 213) rfl))))) rfl
theorem mkL_59 : Cond.methodLink RL 59 yX7_divide ∈ TB := tb_T (List.mem_append_right _ (List.mem_append_right _ (List.mem_append_right _ (List.mem_append_left _ (List.mem_of_getElem? (i := 215) rfl))))) rfl
theorem mi_yX7_divide : Cond.instanceMethod yX7_divide ∈ TB := tb_T (List.mem_append_right _ (List.mem_append_right _ (List.mem_append_right _ (List.mem_append_left _ (List.mem_of_getElem? (i := 216) rfl))))) rfl
theorem me_yX7_divide : Cond.selects RX7 yX7_divide yX7_divide ∈ TB := tb_T (List.mem_append_right _ (List.mem_append_right _ (List.mem_append_right _ (List.mem_append_left _ (List.mem_of_getElem? (i := 217) rfl))))) rfl
theorem mkL_63 : Cond.methodLink RL 63 yX7_offer ∈ TB := tb_T (List.mem_append_right _ (List.mem_append_right _ (List.mem_append_right _ (List.mem_append_left _ (List.mem_of_getElem? (i := 219) rfl))))) rfl
theorem mi_yX7_offer : Cond.instanceMethod yX7_offer ∈ TB := tb_T (List.mem_append_right _ (List.mem_append_right _ (List.mem_append_right _ (List.mem_append_left _ (List.mem_of_getElem? (i := 220) rfl))))) rfl
theorem me_yX7_offer : Cond.selects RX7 yX7_offer yX7_offer ∈ TB := tb_T (List.mem_append_right _ (List.mem_append_right _ (List.mem_append_right _ (List.mem_append_left _ (List.mem_of_getElem? (i := 221) rfl))))) rfl
theorem mkX7_107 : Cond.methodLink RX7 107 yX7_rear ∈ TB := tb_T (List.mem_append_right _ (List.mem_append_right _ (List.mem_append_right _ (List.mem_append_left _ (List.mem_of_getElem? (i := 223) rfl))))) rfl
theorem ms_yX7_rear : Cond.static yX7_rear ∈ TB := tb_T (List.mem_append_right _ (List.mem_append_right _ (List.mem_append_right _ (List.mem_append_left _ (List.mem_of_getElem? (i := 224) rfl))))) rfl
theorem mkX7_110 : Cond.methodLink RX7 110 yX7_codeOf ∈ TB := tb_T (List.mem_append_right _ (List.mem_append_right _ (List.mem_append_right _ (List.mem_append_left _ (List.mem_of_getElem? (i := 226) rfl))))) rfl
theorem ms_yX7_codeOf : Cond.static yX7_codeOf ∈ TB := tb_T (List.mem_append_right _ (List.mem_append_right _ (List.mem_append_right _ (List.mem_append_left _ (List.mem_of_getElem? (i := 227) rfl))))) rfl
theorem mkX7_113 : Cond.methodLink RX7 113 yX7_ring ∈ TB := tb_T (List.mem_append_right _ (List.mem_append_right _ (List.mem_append_right _ (List.mem_append_left _ (List.mem_of_getElem? (i := 229) rfl))))) rfl
theorem mi_yX7_ring : Cond.instanceMethod yX7_ring ∈ TB := tb_T (List.mem_append_right _ (List.mem_append_right _ (List.mem_append_right _ (List.mem_append_left _ (List.mem_of_getElem? (i := 231) rfl))))) rfl
theorem mkL_68 : Cond.methodLink RL 68 yX7_answer ∈ TB := tb_T (List.mem_append_right _ (List.mem_append_right _ (List.mem_append_right _ (List.mem_append_left _ (List.mem_of_getElem? (i := 233) rfl))))) rfl
theorem mi_yX7_answer : Cond.instanceMethod yX7_answer ∈ TB := tb_T (List.mem_append_right _ (List.mem_append_right _ (List.mem_append_right _ (List.mem_append_left _ (List.mem_of_getElem? (i := 234) rfl))))) rfl
theorem me_yX7_answer : Cond.selects RX7 yX7_answer yX7_answer ∈ TB := tb_T (List.mem_append_right _ (List.mem_append_right _ (List.mem_append_right _ (List.mem_append_left _ (List.mem_of_getElem? (i := 235) rfl))))) rfl
theorem mkX7_123 : Cond.methodLink RX7 123 yX7_canAccept ∈ TB := tb_T (List.mem_append_right _ (List.mem_append_right _ (List.mem_append_right _ (List.mem_append_left _ (List.mem_of_getElem? (i := 237) rfl))))) rfl
theorem mi_yX7_canAccept : Cond.instanceMethod yX7_canAccept ∈ TB := tb_T (List.mem_append_right _ (List.mem_append_right _ (List.mem_append_right _ (List.mem_append_left _ (List.mem_of_getElem? (i := 239) rfl))))) rfl
theorem mkX7_117 : Cond.methodLink RX7 117 yX7_tokensAt ∈ TB := tb_T (List.mem_append_right _ (List.mem_append_right _ (List.mem_append_right _ (List.mem_append_right _ (List.mem_of_getElem? (i := 1) rfl))))) rfl
theorem ms_yX7_tokensAt : Cond.static yX7_tokensAt ∈ TB := tb_T (List.mem_append_right _ (List.mem_append_right _ (List.mem_append_right _ (List.mem_append_right _ (List.mem_of_getElem? (i := 2) rfl))))) rfl
theorem mkX7_120 : Cond.methodLink RX7 120 yX7_ahead ∈ TB := tb_T (List.mem_append_right _ (List.mem_append_right _ (List.mem_append_right _ (List.mem_append_right _ (List.mem_of_getElem? (i := 4) rfl))))) rfl
theorem ms_yX7_ahead : Cond.static yX7_ahead ∈ TB := tb_T (List.mem_append_right _ (List.mem_append_right _ (List.mem_append_right _ (List.mem_append_right _ (List.mem_of_getElem? (i := 5) rfl))))) rfl
theorem mkL_72 : Cond.methodLink RL 72 yX7_cancel ∈ TB := tb_T (List.mem_append_right _ (List.mem_append_right _ (List.mem_append_right _ (List.mem_append_right _ (List.mem_of_getElem? (i := 7) rfl))))) rfl
theorem mi_yX7_cancel : Cond.instanceMethod yX7_cancel ∈ TB := tb_T (List.mem_append_right _ (List.mem_append_right _ (List.mem_append_right _ (List.mem_append_right _ (List.mem_of_getElem? (i := 8) rfl))))) rfl
theorem me_yX7_cancel : Cond.selects RX7 yX7_cancel yX7_cancel ∈ TB := tb_T (List.mem_append_right _ (List.mem_append_right _ (List.mem_append_right _ (List.mem_append_right _ (List.mem_of_getElem? (i := 9) rfl))))) rfl
theorem mkX7_126 : Cond.methodLink RX7 126 yX7_unclear ∈ TB := tb_T (List.mem_append_right _ (List.mem_append_right _ (List.mem_append_right _ (List.mem_append_right _ (List.mem_of_getElem? (i := 11) rfl))))) rfl
theorem mi_yX7_unclear : Cond.instanceMethod yX7_unclear ∈ TB := tb_T (List.mem_append_right _ (List.mem_append_right _ (List.mem_append_right _ (List.mem_append_right _ (List.mem_of_getElem? (i := 13) rfl))))) rfl
theorem mkL_76 : Cond.methodLink RL 76 yX7_depart ∈ TB := tb_T (List.mem_append_right _ (List.mem_append_right _ (List.mem_append_right _ (List.mem_append_right _ (List.mem_of_getElem? (i := 15) rfl))))) rfl
theorem mi_yX7_depart : Cond.instanceMethod yX7_depart ∈ TB := tb_T (List.mem_append_right _ (List.mem_append_right _ (List.mem_append_right _ (List.mem_append_right _ (List.mem_of_getElem? (i := 16) rfl))))) rfl
theorem me_yX7_depart : Cond.selects RX7 yX7_depart yX7_depart ∈ TB := tb_T (List.mem_append_right _ (List.mem_append_right _ (List.mem_append_right _ (List.mem_append_right _ (List.mem_of_getElem? (i := 17) rfl))))) rfl
theorem mkL_80 : Cond.methodLink RL 80 yX7_admit ∈ TB := tb_T (List.mem_append_right _ (List.mem_append_right _ (List.mem_append_right _ (List.mem_append_right _ (List.mem_of_getElem? (i := 19) rfl))))) rfl
theorem mi_yX7_admit : Cond.instanceMethod yX7_admit ∈ TB := tb_T (List.mem_append_right _ (List.mem_append_right _ (List.mem_append_right _ (List.mem_append_right _ (List.mem_of_getElem? (i := 20) rfl))))) rfl
theorem me_yX7_admit : Cond.selects RX7 yX7_admit yX7_admit ∈ TB := tb_T (List.mem_append_right _ (List.mem_append_right _ (List.mem_append_right _ (List.mem_append_right _ (List.mem_of_getElem? (i := 21) rfl))))) rfl
theorem mkX7_129 : Cond.methodLink RX7 129 yX7_isInside ∈ TB := tb_T (List.mem_append_right _ (List.mem_append_right _ (List.mem_append_right _ (List.mem_append_right _ (List.mem_of_getElem? (i := 23) rfl))))) rfl
theorem mi_yX7_isInside : Cond.instanceMethod yX7_isInside ∈ TB := tb_T (List.mem_append_right _ (List.mem_append_right _ (List.mem_append_right _ (List.mem_append_right _ (List.mem_of_getElem? (i := 25) rfl))))) rfl
theorem mkL_84 : Cond.methodLink RL 84 yX7_out ∈ TB := tb_T (List.mem_append_right _ (List.mem_append_right _ (List.mem_append_right _ (List.mem_append_right _ (List.mem_of_getElem? (i := 27) rfl))))) rfl
theorem mi_yX7_out : Cond.instanceMethod yX7_out ∈ TB := tb_T (List.mem_append_right _ (List.mem_append_right _ (List.mem_append_right _ (List.mem_append_right _ (List.mem_of_getElem? (i := 28) rfl))))) rfl
theorem me_yX7_out : Cond.selects RX7 yX7_out yX7_out ∈ TB := tb_T (List.mem_append_right _ (List.mem_append_right _ (List.mem_append_right _ (List.mem_append_right _ (List.mem_of_getElem? (i := 29) rfl))))) rfl
theorem mkL_88 : Cond.methodLink RL 88 yX7_assist ∈ TB := tb_T (List.mem_append_right _ (List.mem_append_right _ (List.mem_append_right _ (List.mem_append_right _ (List.mem_of_getElem? (i := 31) rfl))))) rfl
theorem mi_yX7_assist : Cond.instanceMethod yX7_assist ∈ TB := tb_T (List.mem_append_right _ (List.mem_append_right _ (List.mem_append_right _ (List.mem_append_right _ (List.mem_of_getElem? (i := 32) rfl))))) rfl
theorem me_yX7_assist : Cond.selects RX7 yX7_assist yX7_assist ∈ TB := tb_T (List.mem_append_right _ (List.mem_append_right _ (List.mem_append_right _ (List.mem_append_right _ (List.mem_of_getElem? (i := 33) rfl))))) rfl
theorem mkL_92 : Cond.methodLink RL 92 yX7_obstruct ∈ TB := tb_T (List.mem_append_right _ (List.mem_append_right _ (List.mem_append_right _ (List.mem_append_right _ (List.mem_of_getElem? (i := 35) rfl))))) rfl
theorem mi_yX7_obstruct : Cond.instanceMethod yX7_obstruct ∈ TB := tb_T (List.mem_append_right _ (List.mem_append_right _ (List.mem_append_right _ (List.mem_append_right _ (List.mem_of_getElem? (i := 36) rfl))))) rfl
theorem me_yX7_obstruct : Cond.selects RX7 yX7_obstruct yX7_obstruct ∈ TB := tb_T (List.mem_append_right _ (List.mem_append_right _ (List.mem_append_right _ (List.mem_append_right _ (List.mem_of_getElem? (i := 37) rfl))))) rfl
theorem mkL_96 : Cond.methodLink RL 96 yX7_lift ∈ TB := tb_T (List.mem_append_right _ (List.mem_append_right _ (List.mem_append_right _ (List.mem_append_right _ (List.mem_of_getElem? (i := 39) rfl))))) rfl
theorem mi_yX7_lift : Cond.instanceMethod yX7_lift ∈ TB := tb_T (List.mem_append_right _ (List.mem_append_right _ (List.mem_append_right _ (List.mem_append_right _ (List.mem_of_getElem? (i := 40) rfl))))) rfl
theorem me_yX7_lift : Cond.selects RX7 yX7_lift yX7_lift ∈ TB := tb_T (List.mem_append_right _ (List.mem_append_right _ (List.mem_append_right _ (List.mem_append_right _ (List.mem_of_getElem? (i := 41) rfl))))) rfl
theorem mkL_100 : Cond.methodLink RL 100 yX7_pass ∈ TB := tb_T (List.mem_append_right _ (List.mem_append_right _ (List.mem_append_right _ (List.mem_append_right _ (List.mem_of_getElem? (i := 43) rfl))))) rfl
theorem mi_yX7_pass : Cond.instanceMethod yX7_pass ∈ TB := tb_T (List.mem_append_right _ (List.mem_append_right _ (List.mem_append_right _ (List.mem_append_right _ (List.mem_of_getElem? (i := 44) rfl))))) rfl
theorem me_yX7_pass : Cond.selects RX7 yX7_pass yX7_pass ∈ TB := tb_T (List.mem_append_right _ (List.mem_append_right _ (List.mem_append_right _ (List.mem_append_right _ (List.mem_of_getElem? (i := 45) rfl))))) rfl
theorem knX7_132 : Cond.constant RX7 132 (1000000) ∈ TB := tb_T (List.mem_append_right _ (List.mem_append_right _ (List.mem_append_right _ (List.mem_append_right _ (List.mem_of_getElem? (i := 47) rfl))))) rfl
theorem mkX7_133 : Cond.methodLink RX7 133 yX7_tick ∈ TB := tb_T (List.mem_append_right _ (List.mem_append_right _ (List.mem_append_right _ (List.mem_append_right _ (List.mem_of_getElem? (i := 48) rfl))))) rfl
theorem mi_yX7_tick : Cond.instanceMethod yX7_tick ∈ TB := tb_T (List.mem_append_right _ (List.mem_append_right _ (List.mem_append_right _ (List.mem_append_right _ (List.mem_of_getElem? (i := 50) rfl))))) rfl
theorem mkL_104 : Cond.methodLink RL 104 yX7_signal ∈ TB := tb_T (List.mem_append_right _ (List.mem_append_right _ (List.mem_append_right _ (List.mem_append_right _ (List.mem_of_getElem? (i := 52) rfl))))) rfl
theorem mi_yX7_signal : Cond.instanceMethod yX7_signal ∈ TB := tb_T (List.mem_append_right _ (List.mem_append_right _ (List.mem_append_right _ (List.mem_append_right _ (List.mem_of_getElem? (i := 53) rfl))))) rfl
theorem me_yX7_signal : Cond.selects RX7 yX7_signal yX7_signal ∈ TB := tb_T (List.mem_append_right _ (List.mem_append_right _ (List.mem_append_right _ (List.mem_append_right _ (List.mem_of_getElem? (i := 54) rfl))))) rfl
theorem mkL_108 : Cond.methodLink RL 108 yX7_rung ∈ TB := tb_T (List.mem_append_right _ (List.mem_append_right _ (List.mem_append_right _ (List.mem_append_right _ (List.mem_of_getElem? (i := 56) rfl))))) rfl
theorem mi_yX7_rung : Cond.instanceMethod yX7_rung ∈ TB := tb_T (List.mem_append_right _ (List.mem_append_right _ (List.mem_append_right _ (List.mem_append_right _ (List.mem_of_getElem? (i := 57) rfl))))) rfl
theorem me_yX7_rung : Cond.selects RX7 yX7_rung yX7_rung ∈ TB := tb_T (List.mem_append_right _ (List.mem_append_right _ (List.mem_append_right _ (List.mem_append_right _ (List.mem_of_getElem? (i := 58) rfl))))) rfl
theorem mkL_112 : Cond.methodLink RL 112 yX7_work ∈ TB := tb_T (List.mem_append_right _ (List.mem_append_right _ (List.mem_append_right _ (List.mem_append_right _ (List.mem_of_getElem? (i := 60) rfl))))) rfl
theorem mi_yX7_work : Cond.instanceMethod yX7_work ∈ TB := tb_T (List.mem_append_right _ (List.mem_append_right _ (List.mem_append_right _ (List.mem_append_right _ (List.mem_of_getElem? (i := 61) rfl))))) rfl
theorem me_yX7_work : Cond.selects RX7 yX7_work yX7_work ∈ TB := tb_T (List.mem_append_right _ (List.mem_append_right _ (List.mem_append_right _ (List.mem_append_right _ (List.mem_of_getElem? (i := 62) rfl))))) rfl
theorem mkX7_165 : Cond.methodLink RX7 165 yX7_trainsAt ∈ TB := tb_T (List.mem_append_right _ (List.mem_append_right _ (List.mem_append_right _ (List.mem_append_right _ (List.mem_of_getElem? (i := 64) rfl))))) rfl
theorem mi_yX7_trainsAt : Cond.instanceMethod yX7_trainsAt ∈ TB := tb_T (List.mem_append_right _ (List.mem_append_right _ (List.mem_append_right _ (List.mem_append_right _ (List.mem_of_getElem? (i := 66) rfl))))) rfl
theorem mkX7_168 : Cond.methodLink RX7 168 yX7_workTick ∈ TB := tb_T (List.mem_append_right _ (List.mem_append_right _ (List.mem_append_right _ (List.mem_append_right _ (List.mem_of_getElem? (i := 68) rfl))))) rfl
theorem mi_yX7_workTick : Cond.instanceMethod yX7_workTick ∈ TB := tb_T (List.mem_append_right _ (List.mem_append_right _ (List.mem_append_right _ (List.mem_append_right _ (List.mem_of_getElem? (i := 70) rfl))))) rfl
theorem mkX7_158 : Cond.methodLink RX7 158 yX7_workBlocks ∈ TB := tb_T (List.mem_append_right _ (List.mem_append_right _ (List.mem_append_right _ (List.mem_append_right _ (List.mem_of_getElem? (i := 72) rfl))))) rfl
theorem mi_yX7_workBlocks : Cond.instanceMethod yX7_workBlocks ∈ TB := tb_T (List.mem_append_right _ (List.mem_append_right _ (List.mem_append_right _ (List.mem_append_right _ (List.mem_of_getElem? (i := 74) rfl))))) rfl
theorem mkX7_136 : Cond.methodLink RX7 136 yX7_out ∈ TB := tb_T (List.mem_append_right _ (List.mem_append_right _ (List.mem_append_right _ (List.mem_append_right _ (List.mem_of_getElem? (i := 76) rfl))))) rfl
theorem mkX7_139 : Cond.methodLink RX7 139 yX7_assist ∈ TB := tb_T (List.mem_append_right _ (List.mem_append_right _ (List.mem_append_right _ (List.mem_append_right _ (List.mem_of_getElem? (i := 77) rfl))))) rfl
theorem mkX7_142 : Cond.methodLink RX7 142 yX7_admit ∈ TB := tb_T (List.mem_append_right _ (List.mem_append_right _ (List.mem_append_right _ (List.mem_append_right _ (List.mem_of_getElem? (i := 78) rfl))))) rfl
theorem mkX7_145 : Cond.methodLink RX7 145 yX7_answer ∈ TB := tb_T (List.mem_append_right _ (List.mem_append_right _ (List.mem_append_right _ (List.mem_append_right _ (List.mem_of_getElem? (i := 79) rfl))))) rfl
theorem mkX7_162 : Cond.methodLink RX7 162 yX7_workTrains ∈ TB := tb_T (List.mem_append_right _ (List.mem_append_right _ (List.mem_append_right _ (List.mem_append_right _ (List.mem_of_getElem? (i := 80) rfl))))) rfl
theorem mi_yX7_workTrains : Cond.instanceMethod yX7_workTrains ∈ TB := tb_T (List.mem_append_right _ (List.mem_append_right _ (List.mem_append_right _ (List.mem_append_right _ (List.mem_of_getElem? (i := 82) rfl))))) rfl
theorem mkX7_149 : Cond.methodLink RX7 149 yX7_leave ∈ TB := tb_T (List.mem_append_right _ (List.mem_append_right _ (List.mem_append_right _ (List.mem_append_right _ (List.mem_of_getElem? (i := 84) rfl))))) rfl
theorem mkX7_152 : Cond.methodLink RX7 152 yX7_offer ∈ TB := tb_T (List.mem_append_right _ (List.mem_append_right _ (List.mem_append_right _ (List.mem_append_right _ (List.mem_of_getElem? (i := 85) rfl))))) rfl
theorem mkX7_155 : Cond.methodLink RX7 155 yX7_depart ∈ TB := tb_T (List.mem_append_right _ (List.mem_append_right _ (List.mem_append_right _ (List.mem_append_right _ (List.mem_of_getElem? (i := 86) rfl))))) rfl
theorem mkL_116 : Cond.methodLink RL 116 yX7_forecast ∈ TB := tb_T (List.mem_append_right _ (List.mem_append_right _ (List.mem_append_right _ (List.mem_append_right _ (List.mem_of_getElem? (i := 87) rfl))))) rfl
theorem mi_yX7_forecast : Cond.instanceMethod yX7_forecast ∈ TB := tb_T (List.mem_append_right _ (List.mem_append_right _ (List.mem_append_right _ (List.mem_append_right _ (List.mem_of_getElem? (i := 88) rfl))))) rfl
theorem me_yX7_forecast : Cond.selects RX7 yX7_forecast yX7_forecast ∈ TB := tb_T (List.mem_append_right _ (List.mem_append_right _ (List.mem_append_right _ (List.mem_append_right _ (List.mem_of_getElem? (i := 89) rfl))))) rfl
theorem mkX7_171 : Cond.methodLink RX7 171 yX7_putAside ∈ TB := tb_T (List.mem_append_right _ (List.mem_append_right _ (List.mem_append_right _ (List.mem_append_right _ (List.mem_of_getElem? (i := 91) rfl))))) rfl
theorem mi_yX7_putAside : Cond.instanceMethod yX7_putAside ∈ TB := tb_T (List.mem_append_right _ (List.mem_append_right _ (List.mem_append_right _ (List.mem_append_right _ (List.mem_of_getElem? (i := 93) rfl))))) rfl
theorem mkX7_174 : Cond.methodLink RX7 174 yX7_putBack ∈ TB := tb_T (List.mem_append_right _ (List.mem_append_right _ (List.mem_append_right _ (List.mem_append_right _ (List.mem_of_getElem? (i := 95) rfl))))) rfl
theorem mi_yX7_putBack : Cond.instanceMethod yX7_putBack ∈ TB := tb_T (List.mem_append_right _ (List.mem_append_right _ (List.mem_append_right _ (List.mem_append_right _ (List.mem_of_getElem? (i := 97) rfl))))) rfl
theorem mkL_120 : Cond.methodLink RL 120 yX7_capacity ∈ TB := tb_T (List.mem_append_right _ (List.mem_append_right _ (List.mem_append_right _ (List.mem_append_right _ (List.mem_of_getElem? (i := 99) rfl))))) rfl
theorem mi_yX7_capacity : Cond.instanceMethod yX7_capacity ∈ TB := tb_T (List.mem_append_right _ (List.mem_append_right _ (List.mem_append_right _ (List.mem_append_right _ (List.mem_of_getElem? (i := 100) rfl))))) rfl
theorem me_yX7_capacity : Cond.selects RX7 yX7_capacity yX7_capacity ∈ TB := tb_T (List.mem_append_right _ (List.mem_append_right _ (List.mem_append_right _ (List.mem_append_right _ (List.mem_of_getElem? (i := 101) rfl))))) rfl
theorem mkL_124 : Cond.methodLink RL 124 yX7_say ∈ TB := tb_T (List.mem_append_right _ (List.mem_append_right _ (List.mem_append_right _ (List.mem_append_right _ (List.mem_of_getElem? (i := 103) rfl))))) rfl
theorem mi_yX7_say : Cond.instanceMethod yX7_say ∈ TB := tb_T (List.mem_append_right _ (List.mem_append_right _ (List.mem_append_right _ (List.mem_append_right _ (List.mem_of_getElem? (i := 104) rfl))))) rfl
theorem me_yX7_say : Cond.selects RX7 yX7_say yX7_say ∈ TB := tb_T (List.mem_append_right _ (List.mem_append_right _ (List.mem_append_right _ (List.mem_append_right _ (List.mem_of_getElem? (i := 105) rfl))))) rfl
theorem mkL_129 : Cond.methodLink RL 129 yX7_wipe ∈ TB := tb_T (List.mem_append_right _ (List.mem_append_right _ (List.mem_append_right _ (List.mem_append_right _ (List.mem_of_getElem? (i := 107) rfl))))) rfl
theorem mi_yX7_wipe : Cond.instanceMethod yX7_wipe ∈ TB := tb_T (List.mem_append_right _ (List.mem_append_right _ (List.mem_append_right _ (List.mem_append_right _ (List.mem_of_getElem? (i := 108) rfl))))) rfl
theorem me_yX7_wipe : Cond.selects RX7 yX7_wipe yX7_wipe ∈ TB := tb_T (List.mem_append_right _ (List.mem_append_right _ (List.mem_append_right _ (List.mem_append_right _ (List.mem_of_getElem? (i := 109) rfl))))) rfl
theorem mkL_133 : Cond.methodLink RL 133 yX7_fault ∈ TB := tb_T (List.mem_append_right _ (List.mem_append_right _ (List.mem_append_right _ (List.mem_append_right _ (List.mem_of_getElem? (i := 111) rfl))))) rfl
theorem mi_yX7_fault : Cond.instanceMethod yX7_fault ∈ TB := tb_T (List.mem_append_right _ (List.mem_append_right _ (List.mem_append_right _ (List.mem_append_right _ (List.mem_of_getElem? (i := 112) rfl))))) rfl
theorem me_yX7_fault : Cond.selects RX7 yX7_fault yX7_fault ∈ TB := tb_T (List.mem_append_right _ (List.mem_append_right _ (List.mem_append_right _ (List.mem_append_right _ (List.mem_of_getElem? (i := 113) rfl))))) rfl
theorem mkX7_206 : Cond.methodLink RX7 206 yX7_readOrder ∈ TB := tb_T (List.mem_append_right _ (List.mem_append_right _ (List.mem_append_right _ (List.mem_append_right _ (List.mem_of_getElem? (i := 115) rfl))))) rfl
theorem mi_yX7_readOrder : Cond.instanceMethod yX7_readOrder ∈ TB := tb_T (List.mem_append_right _ (List.mem_append_right _ (List.mem_append_right _ (List.mem_append_right _ (List.mem_of_getElem? (i := 117) rfl))))) rfl
theorem mkX7_184 : Cond.methodLink RX7 184 yX7_nextSign ∈ TB := tb_T (List.mem_append_right _ (List.mem_append_right _ (List.mem_append_right _ (List.mem_append_right _ (List.mem_of_getElem? (i := 119) rfl))))) rfl
theorem mi_yX7_nextSign : Cond.instanceMethod yX7_nextSign ∈ TB := tb_T (List.mem_append_right _ (List.mem_append_right _ (List.mem_append_right _ (List.mem_append_right _ (List.mem_of_getElem? (i := 121) rfl))))) rfl
theorem mkX7_191 : Cond.methodLink RX7 191 yX7_isForTrain ∈ TB := tb_T (List.mem_append_right _ (List.mem_append_right _ (List.mem_append_right _ (List.mem_append_right _ (List.mem_of_getElem? (i := 123) rfl))))) rfl
theorem ms_yX7_isForTrain : Cond.static yX7_isForTrain ∈ TB := tb_T (List.mem_append_right _ (List.mem_append_right _ (List.mem_append_right _ (List.mem_append_right _ (List.mem_of_getElem? (i := 124) rfl))))) rfl
theorem mkX7_194 : Cond.methodLink RX7 194 yX7_isForBlock ∈ TB := tb_T (List.mem_append_right _ (List.mem_append_right _ (List.mem_append_right _ (List.mem_append_right _ (List.mem_of_getElem? (i := 126) rfl))))) rfl
theorem ms_yX7_isForBlock : Cond.static yX7_isForBlock ∈ TB := tb_T (List.mem_append_right _ (List.mem_append_right _ (List.mem_append_right _ (List.mem_append_right _ (List.mem_of_getElem? (i := 127) rfl))))) rfl
theorem mkX7_200 : Cond.methodLink RX7 200 yX7_takeNumber ∈ TB := tb_T (List.mem_append_right _ (List.mem_append_right _ (List.mem_append_right _ (List.mem_append_right _ (List.mem_of_getElem? (i := 129) rfl))))) rfl
theorem mi_yX7_takeNumber : Cond.instanceMethod yX7_takeNumber ∈ TB := tb_T (List.mem_append_right _ (List.mem_append_right _ (List.mem_append_right _ (List.mem_append_right _ (List.mem_of_getElem? (i := 131) rfl))))) rfl
theorem mkX7_203 : Cond.methodLink RX7 203 yX7_takeSide ∈ TB := tb_T (List.mem_append_right _ (List.mem_append_right _ (List.mem_append_right _ (List.mem_append_right _ (List.mem_of_getElem? (i := 133) rfl))))) rfl
theorem mi_yX7_takeSide : Cond.instanceMethod yX7_takeSide ∈ TB := tb_T (List.mem_append_right _ (List.mem_append_right _ (List.mem_append_right _ (List.mem_append_right _ (List.mem_of_getElem? (i := 135) rfl))))) rfl
theorem mkL_137 : Cond.methodLink RL 137 yX7_carryOut ∈ TB := tb_T (List.mem_append_right _ (List.mem_append_right _ (List.mem_append_right _ (List.mem_append_right _ (List.mem_of_getElem? (i := 137) rfl))))) rfl
theorem mi_yX7_carryOut : Cond.instanceMethod yX7_carryOut ∈ TB := tb_T (List.mem_append_right _ (List.mem_append_right _ (List.mem_append_right _ (List.mem_append_right _ (List.mem_of_getElem? (i := 138) rfl))))) rfl
theorem me_yX7_carryOut : Cond.selects RX7 yX7_carryOut yX7_carryOut ∈ TB := tb_T (List.mem_append_right _ (List.mem_append_right _ (List.mem_append_right _ (List.mem_append_right _ (List.mem_of_getElem? (i := 139) rfl))))) rfl
theorem mkX7_218 : Cond.methodLink RX7 218 yX7_fault ∈ TB := tb_T (List.mem_append_right _ (List.mem_append_right _ (List.mem_append_right _ (List.mem_append_right _ (List.mem_of_getElem? (i := 141) rfl))))) rfl
theorem mkX7_221 : Cond.methodLink RX7 221 yX7_carryOutOne ∈ TB := tb_T (List.mem_append_right _ (List.mem_append_right _ (List.mem_append_right _ (List.mem_append_right _ (List.mem_of_getElem? (i := 142) rfl))))) rfl
theorem mi_yX7_carryOutOne : Cond.instanceMethod yX7_carryOutOne ∈ TB := tb_T (List.mem_append_right _ (List.mem_append_right _ (List.mem_append_right _ (List.mem_append_right _ (List.mem_of_getElem? (i := 144) rfl))))) rfl
theorem mkX7_209 : Cond.methodLink RX7 209 yX7_shunt ∈ TB := tb_T (List.mem_append_right _ (List.mem_append_right _ (List.mem_append_right _ (List.mem_append_right _ (List.mem_of_getElem? (i := 146) rfl))))) rfl
theorem mkX7_212 : Cond.methodLink RX7 212 yX7_cancel ∈ TB := tb_T (List.mem_append_right _ (List.mem_append_right _ (List.mem_append_right _ (List.mem_append_right _ (List.mem_of_getElem? (i := 147) rfl))))) rfl
theorem mkX7_215 : Cond.methodLink RX7 215 yX7_pass ∈ TB := tb_T (List.mem_append_right _ (List.mem_append_right _ (List.mem_append_right _ (List.mem_append_right _ (List.mem_of_getElem? (i := 148) rfl))))) rfl
theorem mkL_141 : Cond.methodLink RL 141 yX7_count ∈ TB := tb_T (List.mem_append_right _ (List.mem_append_right _ (List.mem_append_right _ (List.mem_append_right _ (List.mem_of_getElem? (i := 149) rfl))))) rfl
theorem mi_yX7_count : Cond.instanceMethod yX7_count ∈ TB := tb_T (List.mem_append_right _ (List.mem_append_right _ (List.mem_append_right _ (List.mem_append_right _ (List.mem_of_getElem? (i := 150) rfl))))) rfl
theorem me_yX7_count : Cond.selects RX7 yX7_count yX7_count ∈ TB := tb_T (List.mem_append_right _ (List.mem_append_right _ (List.mem_append_right _ (List.mem_append_right _ (List.mem_of_getElem? (i := 151) rfl))))) rfl
theorem mkX7_224 : Cond.methodLink RX7 224 yX7_blocksWith ∈ TB := tb_T (List.mem_append_right _ (List.mem_append_right _ (List.mem_append_right _ (List.mem_append_right _ (List.mem_of_getElem? (i := 153) rfl))))) rfl
theorem mi_yX7_blocksWith : Cond.instanceMethod yX7_blocksWith ∈ TB := tb_T (List.mem_append_right _ (List.mem_append_right _ (List.mem_append_right _ (List.mem_append_right _ (List.mem_of_getElem? (i := 155) rfl))))) rfl
theorem mkL_145 : Cond.methodLink RL 145 yX7_save ∈ TB := tb_T (List.mem_append_right _ (List.mem_append_right _ (List.mem_append_right _ (List.mem_append_right _ (List.mem_of_getElem? (i := 157) rfl))))) rfl
theorem mi_yX7_save : Cond.instanceMethod yX7_save ∈ TB := tb_T (List.mem_append_right _ (List.mem_append_right _ (List.mem_append_right _ (List.mem_append_right _ (List.mem_of_getElem? (i := 158) rfl))))) rfl
theorem me_yX7_save : Cond.selects RX7 yX7_save yX7_save ∈ TB := tb_T (List.mem_append_right _ (List.mem_append_right _ (List.mem_append_right _ (List.mem_append_right _ (List.mem_of_getElem? (i := 159) rfl))))) rfl
theorem mkL_149 : Cond.methodLink RL 149 yX7_restore ∈ TB := tb_T (List.mem_append_right _ (List.mem_append_right _ (List.mem_append_right _ (List.mem_append_right _ (List.mem_of_getElem? (i := 161) rfl))))) rfl
theorem mi_yX7_restore : Cond.instanceMethod yX7_restore ∈ TB := tb_T (List.mem_append_right _ (List.mem_append_right _ (List.mem_append_right _ (List.mem_append_right _ (List.mem_of_getElem? (i := 162) rfl))))) rfl
theorem me_yX7_restore : Cond.selects RX7 yX7_restore yX7_restore ∈ TB := tb_T (List.mem_append_right _ (List.mem_append_right _ (List.mem_append_right _ (List.mem_append_right _ (List.mem_of_getElem? (i := 163) rfl))))) rfl
theorem me_yX1_shuntToLoop : Cond.selects RX1 yX1_shuntToLoop yX1_shuntToLoop ∈ TB := tb_S (List.mem_append_left _ (List.mem_of_getElem? (i := 0) rfl)) rfl
theorem me_yX1_shuntBack : Cond.selects RX1 yX1_shuntBack yX1_shuntBack ∈ TB := tb_S (List.mem_append_left _ (List.mem_of_getElem? (i := 1) rfl)) rfl
theorem me_yX1_ringRear : Cond.selects RX1 yX1_ringRear yX1_ringRear ∈ TB := tb_S (List.mem_append_left _ (List.mem_of_getElem? (i := 2) rfl)) rfl
theorem me_yX1_isTokenReady : Cond.selects RX1 yX1_isTokenReady yX1_isTokenReady ∈ TB := tb_S (List.mem_append_left _ (List.mem_of_getElem? (i := 3) rfl)) rfl
theorem me_yX4_addTokens : Cond.selects RX4 yX4_addTokens yX4_addTokens ∈ TB := tb_S (List.mem_append_left _ (List.mem_of_getElem? (i := 4) rfl)) rfl
theorem me_yX1_ringAhead : Cond.selects RX1 yX1_ringAhead yX1_ringAhead ∈ TB := tb_S (List.mem_append_left _ (List.mem_of_getElem? (i := 5) rfl)) rfl
theorem me_yX3_oldest : Cond.selects RX3 yX3_oldest yX3_oldest ∈ TB := tb_S (List.mem_append_left _ (List.mem_of_getElem? (i := 6) rfl)) rfl
theorem me_yX1_clearSections : Cond.selects RX1 yX1_clearSections yX1_clearSections ∈ TB := tb_S (List.mem_append_left _ (List.mem_of_getElem? (i := 7) rfl)) rfl
theorem me_yX1_leaveAll : Cond.selects RX1 yX1_leaveAll yX1_leaveAll ∈ TB := tb_S (List.mem_append_left _ (List.mem_of_getElem? (i := 8) rfl)) rfl
theorem me_yX1_offerAll : Cond.selects RX1 yX1_offerAll yX1_offerAll ∈ TB := tb_S (List.mem_append_left _ (List.mem_of_getElem? (i := 9) rfl)) rfl
theorem me_yX1_answerAll : Cond.selects RX1 yX1_answerAll yX1_answerAll ∈ TB := tb_S (List.mem_append_left _ (List.mem_of_getElem? (i := 10) rfl)) rfl
theorem me_yX1_departAll : Cond.selects RX1 yX1_departAll yX1_departAll ∈ TB := tb_S (List.mem_append_left _ (List.mem_of_getElem? (i := 11) rfl)) rfl
theorem me_yX2_readSign : Cond.selects RX2 yX2_readSign yX2_readSign ∈ TB := tb_S (List.mem_append_left _ (List.mem_of_getElem? (i := 12) rfl)) rfl
theorem me_yX6_obey : Cond.selects RX6 yX6_obey yX6_obey ∈ TB := tb_S (List.mem_append_left _ (List.mem_of_getElem? (i := 13) rfl)) rfl
theorem me_yX7_lay : Cond.selects RX7 yX7_lay yX7_lay ∈ TB := tb_S (List.mem_append_left _ (List.mem_of_getElem? (i := 14) rfl)) rfl
theorem me_yX7_layBlocks : Cond.selects RX7 yX7_layBlocks yX7_layBlocks ∈ TB := tb_S (List.mem_append_left _ (List.mem_of_getElem? (i := 15) rfl)) rfl
theorem me_yX7_isSection : Cond.selects RX7 yX7_isSection yX7_isSection ∈ TB := tb_S (List.mem_append_right _ (List.mem_append_left _ (List.mem_of_getElem? (i := 0) rfl))) rfl
theorem me_yX7_sections : Cond.selects RX7 yX7_sections yX7_sections ∈ TB := tb_S (List.mem_append_right _ (List.mem_append_left _ (List.mem_of_getElem? (i := 1) rfl))) rfl
theorem me_yX7_many : Cond.selects RX7 yX7_many yX7_many ∈ TB := tb_S (List.mem_append_right _ (List.mem_append_left _ (List.mem_of_getElem? (i := 2) rfl))) rfl
theorem me_yX7_ofTrain : Cond.selects RX7 yX7_ofTrain yX7_ofTrain ∈ TB := tb_S (List.mem_append_right _ (List.mem_append_left _ (List.mem_of_getElem? (i := 3) rfl))) rfl
theorem me_yX7_isSingle : Cond.selects RX7 yX7_isSingle yX7_isSingle ∈ TB := tb_S (List.mem_append_right _ (List.mem_append_left _ (List.mem_of_getElem? (i := 4) rfl))) rfl
theorem me_yX7_isTokenOut : Cond.selects RX7 yX7_isTokenOut yX7_isTokenOut ∈ TB := tb_S (List.mem_append_right _ (List.mem_append_left _ (List.mem_of_getElem? (i := 5) rfl))) rfl
theorem me_yX7_ofBlock : Cond.selects RX7 yX7_ofBlock yX7_ofBlock ∈ TB := tb_S (List.mem_append_right _ (List.mem_append_left _ (List.mem_of_getElem? (i := 6) rfl))) rfl
theorem me_yX7_isBlock : Cond.selects RX7 yX7_isBlock yX7_isBlock ∈ TB := tb_S (List.mem_append_right _ (List.mem_append_left _ (List.mem_of_getElem? (i := 7) rfl))) rfl
theorem me_yX7_firstBox : Cond.selects RX7 yX7_firstBox yX7_firstBox ∈ TB := tb_S (List.mem_append_right _ (List.mem_append_left _ (List.mem_of_getElem? (i := 8) rfl))) rfl
theorem me_yX7_isFree : Cond.selects RX7 yX7_isFree yX7_isFree ∈ TB := tb_S (List.mem_append_right _ (List.mem_append_left _ (List.mem_of_getElem? (i := 9) rfl))) rfl
theorem me_yX7_add : Cond.selects RX7 yX7_add yX7_add ∈ TB := tb_S (List.mem_append_right _ (List.mem_append_left _ (List.mem_of_getElem? (i := 10) rfl))) rfl
theorem me_yX7_layTrain : Cond.selects RX7 yX7_layTrain yX7_layTrain ∈ TB := tb_S (List.mem_append_right _ (List.mem_append_left _ (List.mem_of_getElem? (i := 11) rfl))) rfl
theorem me_yX7_isTrain : Cond.selects RX7 yX7_isTrain yX7_isTrain ∈ TB := tb_S (List.mem_append_right _ (List.mem_append_left _ (List.mem_of_getElem? (i := 12) rfl))) rfl
theorem me_yX7_canGoIn : Cond.selects RX7 yX7_canGoIn yX7_canGoIn ∈ TB := tb_S (List.mem_append_right _ (List.mem_append_left _ (List.mem_of_getElem? (i := 13) rfl))) rfl
theorem me_yX7_isOffered : Cond.selects RX7 yX7_isOffered yX7_isOffered ∈ TB := tb_S (List.mem_append_right _ (List.mem_append_left _ (List.mem_of_getElem? (i := 14) rfl))) rfl
theorem me_yX7_nextSection : Cond.selects RX7 yX7_nextSection yX7_nextSection ∈ TB := tb_S (List.mem_append_right _ (List.mem_append_left _ (List.mem_of_getElem? (i := 15) rfl))) rfl
theorem me_yX7_isClearFor : Cond.selects RX7 yX7_isClearFor yX7_isClearFor ∈ TB := tb_S (List.mem_append_right _ (List.mem_append_right _ (List.mem_append_left _ (List.mem_of_getElem? (i := 0) rfl)))) rfl
theorem me_yX7_isCalmBehind : Cond.selects RX7 yX7_isCalmBehind yX7_isCalmBehind ∈ TB := tb_S (List.mem_append_right _ (List.mem_append_right _ (List.mem_append_left _ (List.mem_of_getElem? (i := 1) rfl)))) rfl
theorem me_yX7_ring : Cond.selects RX7 yX7_ring yX7_ring ∈ TB := tb_S (List.mem_append_right _ (List.mem_append_right _ (List.mem_append_left _ (List.mem_of_getElem? (i := 2) rfl)))) rfl
theorem me_yX7_canAccept : Cond.selects RX7 yX7_canAccept yX7_canAccept ∈ TB := tb_S (List.mem_append_right _ (List.mem_append_right _ (List.mem_append_left _ (List.mem_of_getElem? (i := 3) rfl)))) rfl
theorem me_yX7_unclear : Cond.selects RX7 yX7_unclear yX7_unclear ∈ TB := tb_S (List.mem_append_right _ (List.mem_append_right _ (List.mem_append_left _ (List.mem_of_getElem? (i := 4) rfl)))) rfl
theorem me_yX7_isInside : Cond.selects RX7 yX7_isInside yX7_isInside ∈ TB := tb_S (List.mem_append_right _ (List.mem_append_right _ (List.mem_append_left _ (List.mem_of_getElem? (i := 5) rfl)))) rfl
theorem me_yX7_tick : Cond.selects RX7 yX7_tick yX7_tick ∈ TB := tb_S (List.mem_append_right _ (List.mem_append_right _ (List.mem_append_left _ (List.mem_of_getElem? (i := 6) rfl)))) rfl
theorem me_yX7_trainsAt : Cond.selects RX7 yX7_trainsAt yX7_trainsAt ∈ TB := tb_S (List.mem_append_right _ (List.mem_append_right _ (List.mem_append_left _ (List.mem_of_getElem? (i := 7) rfl)))) rfl
theorem me_yX7_workTick : Cond.selects RX7 yX7_workTick yX7_workTick ∈ TB := tb_S (List.mem_append_right _ (List.mem_append_right _ (List.mem_append_left _ (List.mem_of_getElem? (i := 8) rfl)))) rfl
theorem me_yX7_workBlocks : Cond.selects RX7 yX7_workBlocks yX7_workBlocks ∈ TB := tb_S (List.mem_append_right _ (List.mem_append_right _ (List.mem_append_left _ (List.mem_of_getElem? (i := 9) rfl)))) rfl
theorem me_yX7_workTrains : Cond.selects RX7 yX7_workTrains yX7_workTrains ∈ TB := tb_S (List.mem_append_right _ (List.mem_append_right _ (List.mem_append_left _ (List.mem_of_getElem? (i := 10) rfl)))) rfl
theorem me_yX7_putAside : Cond.selects RX7 yX7_putAside yX7_putAside ∈ TB := tb_S (List.mem_append_right _ (List.mem_append_right _ (List.mem_append_left _ (List.mem_of_getElem? (i := 11) rfl)))) rfl
theorem me_yX7_putBack : Cond.selects RX7 yX7_putBack yX7_putBack ∈ TB := tb_S (List.mem_append_right _ (List.mem_append_right _ (List.mem_append_left _ (List.mem_of_getElem? (i := 12) rfl)))) rfl
theorem me_yX7_readOrder : Cond.selects RX7 yX7_readOrder yX7_readOrder ∈ TB := tb_S (List.mem_append_right _ (List.mem_append_right _ (List.mem_append_left _ (List.mem_of_getElem? (i := 13) rfl)))) rfl
theorem me_yX7_nextSign : Cond.selects RX7 yX7_nextSign yX7_nextSign ∈ TB := tb_S (List.mem_append_right _ (List.mem_append_right _ (List.mem_append_left _ (List.mem_of_getElem? (i := 14) rfl)))) rfl
theorem me_yX7_takeNumber : Cond.selects RX7 yX7_takeNumber yX7_takeNumber ∈ TB := tb_S (List.mem_append_right _ (List.mem_append_right _ (List.mem_append_left _ (List.mem_of_getElem? (i := 15) rfl)))) rfl
theorem me_yX7_takeSide : Cond.selects RX7 yX7_takeSide yX7_takeSide ∈ TB := tb_S (List.mem_append_right _ (List.mem_append_right _ (List.mem_append_right _ (List.mem_of_getElem? (i := 0) rfl)))) rfl
theorem me_yX7_carryOutOne : Cond.selects RX7 yX7_carryOutOne yX7_carryOutOne ∈ TB := tb_S (List.mem_append_right _ (List.mem_append_right _ (List.mem_append_right _ (List.mem_of_getElem? (i := 1) rfl)))) rfl
theorem me_yX7_blocksWith : Cond.selects RX7 yX7_blocksWith yX7_blocksWith ∈ TB := tb_S (List.mem_append_right _ (List.mem_append_right _ (List.mem_append_right _ (List.mem_of_getElem? (i := 2) rfl)))) rfl
theorem mc_yX6_init : gm_M yX6_init cX6_init 2 none 0 := ⟨tb_T (List.mem_append_left _ (List.mem_of_getElem? (i := 15) rfl)) rfl, in_BlockBells, ⟨by decide +kernel, by decide +kernel, by decide +kernel⟩, by decide⟩
theorem mcx_objectInit : Cond.code objectInit ⟨#[0xb1]⟩ 1 none ∈ TB := tb_T (List.mem_append_left _ (List.mem_of_getElem? (i := 18) rfl)) rfl
theorem mc_yX1_init : gm_M yX1_init cX1_init 2 none 0 := ⟨tb_T (List.mem_append_left _ (List.mem_of_getElem? (i := 23) rfl)) rfl, in_BlockBells_Line, ⟨by decide +kernel, by decide +kernel, by decide +kernel⟩, by decide⟩
theorem mc_yX4_init : gm_M yX4_init cX4_init 2 none 1 := ⟨tb_T (List.mem_append_left _ (List.mem_of_getElem? (i := 32) rfl)) rfl, in_BlockBells_Section, ⟨by decide +kernel, by decide +kernel, by decide +kernel⟩, by decide⟩
theorem mc_yX0_init : gm_M yX0_init cX0_init 3 none 2 := ⟨tb_T (List.mem_append_left _ (List.mem_of_getElem? (i := 65) rfl)) rfl, in_BlockBells_Block, ⟨by decide +kernel, by decide +kernel, by decide +kernel⟩, by decide⟩
theorem mc_yX5_init : gm_M yX5_init cX5_init 2 none 1 := ⟨tb_T (List.mem_append_left _ (List.mem_of_getElem? (i := 103) rfl)) rfl, in_BlockBells_Train, ⟨by decide +kernel, by decide +kernel, by decide +kernel⟩, by decide⟩
theorem mc_yX3_init : gm_M yX3_init cX3_init 1 none 0 := ⟨tb_T (List.mem_append_left _ (List.mem_of_getElem? (i := 145) rfl)) rfl, in_BlockBells_Register, ⟨by decide +kernel, by decide +kernel, by decide +kernel⟩, by decide⟩
theorem mc_yX1_layOut : gm_M yX1_layOut cX1_layOut 4 none 2 := ⟨tb_T (List.mem_append_left _ (List.mem_of_getElem? (i := 160) rfl)) rfl, in_BlockBells_Line, ⟨by decide +kernel, by decide +kernel, by decide +kernel⟩, by decide⟩
theorem mc_yX4_layOut : gm_M yX4_layOut cX4_layOut 2 none 1 := ⟨tb_T (List.mem_append_left _ (List.mem_of_getElem? (i := 164) rfl)) rfl, in_BlockBells_Section, ⟨by decide +kernel, by decide +kernel, by decide +kernel⟩, by decide⟩
theorem mc_yX1_clearTraffic : gm_M yX1_clearTraffic cX1_clearTraffic 2 none 0 := ⟨tb_T (List.mem_append_left _ (List.mem_of_getElem? (i := 168) rfl)) rfl, in_BlockBells_Line, ⟨by decide +kernel, by decide +kernel, by decide +kernel⟩, by decide⟩
theorem mc_yX0_reset : gm_M yX0_reset cX0_reset 1 none 0 := ⟨tb_T (List.mem_append_left _ (List.mem_of_getElem? (i := 172) rfl)) rfl, in_BlockBells_Block, ⟨by decide +kernel, by decide +kernel, by decide +kernel⟩, by decide⟩
theorem mc_yX2_init : gm_M yX2_init cX2_init 1 none 0 := ⟨tb_T (List.mem_append_left _ (List.mem_of_getElem? (i := 207) rfl)) rfl, in_BlockBells_Pad, ⟨by decide +kernel, by decide +kernel, by decide +kernel⟩, by decide⟩
theorem mc_yX6_setUp : gm_M yX6_setUp cX6_setUp 4 (some .int) 2 := ⟨tb_T (List.mem_append_right _ (List.mem_append_left _ (List.mem_of_getElem? (i := 12) rfl))) rfl, in_BlockBells, ⟨by decide +kernel, by decide +kernel, by decide +kernel⟩, by decide⟩
theorem mc_yX6_setTime : gm_M yX6_setTime cX6_setTime 5 (some .int) 2 := ⟨tb_T (List.mem_append_right _ (List.mem_append_left _ (List.mem_of_getElem? (i := 17) rfl))) rfl, in_BlockBells, ⟨by decide +kernel, by decide +kernel, by decide +kernel⟩, by decide⟩
theorem mc_yX1_sectionAt : gm_M yX1_sectionAt cX1_sectionAt 2 (some (.object "BlockBells$Section")) 1 := ⟨tb_T (List.mem_append_right _ (List.mem_append_left _ (List.mem_of_getElem? (i := 21) rfl))) rfl, in_BlockBells_Line, ⟨by decide +kernel, by decide +kernel, by decide +kernel⟩, by decide⟩
theorem mc_yX6_setLoops : gm_M yX6_setLoops cX6_setLoops 4 (some .int) 3 := ⟨tb_T (List.mem_append_right _ (List.mem_append_left _ (List.mem_of_getElem? (i := 25) rfl))) rfl, in_BlockBells, ⟨by decide +kernel, by decide +kernel, by decide +kernel⟩, by decide⟩
theorem mc_yX1_hasBox : gm_M yX1_hasBox cX1_hasBox 2 (some .boolean) 1 := ⟨tb_T (List.mem_append_right _ (List.mem_append_left _ (List.mem_of_getElem? (i := 29) rfl))) rfl, in_BlockBells_Line, ⟨by decide +kernel, by decide +kernel, by decide +kernel⟩, by decide⟩
theorem mc_yX6_isDirection : gm_M yX6_isDirection cX6_isDirection 1 (some .boolean) 1 := ⟨tb_T (List.mem_append_right _ (List.mem_append_left _ (List.mem_of_getElem? (i := 32) rfl))) rfl, in_BlockBells, ⟨by decide +kernel, by decide +kernel, by decide +kernel⟩, by decide⟩
theorem mc_yX1_changeLoops : gm_M yX1_changeLoops cX1_changeLoops 5 (some .int) 3 := ⟨tb_T (List.mem_append_right _ (List.mem_append_left _ (List.mem_of_getElem? (i := 36) rfl))) rfl, in_BlockBells_Line, ⟨by decide +kernel, by decide +kernel, by decide +kernel⟩, by decide⟩
theorem mc_yX1_trainsStanding : gm_M yX1_trainsStanding cX1_trainsStanding 6 (some .int) 3 := ⟨tb_T (List.mem_append_right _ (List.mem_append_left _ (List.mem_of_getElem? (i := 40) rfl))) rfl, in_BlockBells_Line, ⟨by decide +kernel, by decide +kernel, by decide +kernel⟩, by decide⟩
theorem mc_yX5_stands : gm_M yX5_stands cX5_stands 4 (some .boolean) 3 := ⟨tb_T (List.mem_append_right _ (List.mem_append_left _ (List.mem_of_getElem? (i := 44) rfl))) rfl, in_BlockBells_Train, ⟨by decide +kernel, by decide +kernel, by decide +kernel⟩, by decide⟩
theorem mc_yX6_moveTokens : gm_M yX6_moveTokens cX6_moveTokens 4 (some .int) 2 := ⟨tb_T (List.mem_append_right _ (List.mem_append_left _ (List.mem_of_getElem? (i := 48) rfl))) rfl, in_BlockBells, ⟨by decide +kernel, by decide +kernel, by decide +kernel⟩, by decide⟩
theorem mc_yX4_moveUp : gm_M yX4_moveUp cX4_moveUp 2 (some .int) 1 := ⟨tb_T (List.mem_append_right _ (List.mem_append_left _ (List.mem_of_getElem? (i := 52) rfl))) rfl, in_BlockBells_Section, ⟨by decide +kernel, by decide +kernel, by decide +kernel⟩, by decide⟩
theorem mc_yX6_section : gm_M yX6_section cX6_section 4 (some .int) 2 := ⟨tb_T (List.mem_append_right _ (List.mem_append_left _ (List.mem_of_getElem? (i := 56) rfl))) rfl, in_BlockBells, ⟨by decide +kernel, by decide +kernel, by decide +kernel⟩, by decide⟩
theorem mc_yX4_property : gm_M yX4_property cX4_property 2 (some .int) 1 := ⟨tb_T (List.mem_append_right _ (List.mem_append_left _ (List.mem_of_getElem? (i := 60) rfl))) rfl, in_BlockBells_Section, ⟨by decide +kernel, by decide +kernel, by decide +kernel⟩, by decide⟩
theorem mc_yX6_block : gm_M yX6_block cX6_block 5 (some .int) 3 := ⟨tb_T (List.mem_append_right _ (List.mem_append_left _ (List.mem_of_getElem? (i := 64) rfl))) rfl, in_BlockBells, ⟨by decide +kernel, by decide +kernel, by decide +kernel⟩, by decide⟩
theorem mc_yX1_blockAt : gm_M yX1_blockAt cX1_blockAt 3 (some (.object "BlockBells$Block")) 2 := ⟨tb_T (List.mem_append_right _ (List.mem_append_left _ (List.mem_of_getElem? (i := 68) rfl))) rfl, in_BlockBells_Line, ⟨by decide +kernel, by decide +kernel, by decide +kernel⟩, by decide⟩
theorem mc_yX0_property : gm_M yX0_property cX0_property 2 (some .int) 1 := ⟨tb_T (List.mem_append_right _ (List.mem_append_left _ (List.mem_of_getElem? (i := 72) rfl))) rfl, in_BlockBells_Block, ⟨by decide +kernel, by decide +kernel, by decide +kernel⟩, by decide⟩
theorem mc_yX6_appear : gm_M yX6_appear cX6_appear 3 (some .int) 2 := ⟨tb_T (List.mem_append_right _ (List.mem_append_left _ (List.mem_of_getElem? (i := 76) rfl))) rfl, in_BlockBells, ⟨by decide +kernel, by decide +kernel, by decide +kernel⟩, by decide⟩
theorem mc_yX6_isKind : gm_M yX6_isKind cX6_isKind 1 (some .boolean) 1 := ⟨tb_T (List.mem_append_right _ (List.mem_append_left _ (List.mem_of_getElem? (i := 79) rfl))) rfl, in_BlockBells, ⟨by decide +kernel, by decide +kernel, by decide +kernel⟩, by decide⟩
theorem mc_yX1_bringNew : gm_M yX1_bringNew cX1_bringNew 5 (some .int) 2 := ⟨tb_T (List.mem_append_right _ (List.mem_append_left _ (List.mem_of_getElem? (i := 83) rfl))) rfl, in_BlockBells_Line, ⟨by decide +kernel, by decide +kernel, by decide +kernel⟩, by decide⟩
theorem mc_yX1_firstBox : gm_M yX1_firstBox cX1_firstBox 2 (some .int) 1 := ⟨tb_T (List.mem_append_right _ (List.mem_append_left _ (List.mem_of_getElem? (i := 87) rfl))) rfl, in_BlockBells_Line, ⟨by decide +kernel, by decide +kernel, by decide +kernel⟩, by decide⟩
theorem mc_yX1_isLineFree : gm_M yX1_isLineFree cX1_isLineFree 3 (some .boolean) 2 := ⟨tb_T (List.mem_append_right _ (List.mem_append_left _ (List.mem_of_getElem? (i := 91) rfl))) rfl, in_BlockBells_Line, ⟨by decide +kernel, by decide +kernel, by decide +kernel⟩, by decide⟩
theorem mc_yX5_start : gm_M yX5_start cX5_start 5 none 4 := ⟨tb_T (List.mem_append_right _ (List.mem_append_left _ (List.mem_of_getElem? (i := 95) rfl))) rfl, in_BlockBells_Train, ⟨by decide +kernel, by decide +kernel, by decide +kernel⟩, by decide⟩
theorem mc_yX5_standAt : gm_M yX5_standAt cX5_standAt 3 none 2 := ⟨tb_T (List.mem_append_right _ (List.mem_append_left _ (List.mem_of_getElem? (i := 99) rfl))) rfl, in_BlockBells_Train, ⟨by decide +kernel, by decide +kernel, by decide +kernel⟩, by decide⟩
theorem mc_yX6_train : gm_M yX6_train cX6_train 4 (some .int) 2 := ⟨tb_T (List.mem_append_right _ (List.mem_append_left _ (List.mem_of_getElem? (i := 103) rfl))) rfl, in_BlockBells, ⟨by decide +kernel, by decide +kernel, by decide +kernel⟩, by decide⟩
theorem mc_yX1_trainAt : gm_M yX1_trainAt cX1_trainAt 2 (some (.object "BlockBells$Train")) 1 := ⟨tb_T (List.mem_append_right _ (List.mem_append_left _ (List.mem_of_getElem? (i := 107) rfl))) rfl, in_BlockBells_Line, ⟨by decide +kernel, by decide +kernel, by decide +kernel⟩, by decide⟩
theorem mc_yX5_property : gm_M yX5_property cX5_property 2 (some .int) 1 := ⟨tb_T (List.mem_append_right _ (List.mem_append_left _ (List.mem_of_getElem? (i := 111) rfl))) rfl, in_BlockBells_Train, ⟨by decide +kernel, by decide +kernel, by decide +kernel⟩, by decide⟩
theorem mc_yX6_shunt : gm_M yX6_shunt cX6_shunt 3 (some .int) 1 := ⟨tb_T (List.mem_append_right _ (List.mem_append_left _ (List.mem_of_getElem? (i := 115) rfl))) rfl, in_BlockBells, ⟨by decide +kernel, by decide +kernel, by decide +kernel⟩, by decide⟩
theorem mc_yX1_shuntTrain : gm_M yX1_shuntTrain cX1_shuntTrain 2 (some .int) 1 := ⟨tb_T (List.mem_append_right _ (List.mem_append_left _ (List.mem_of_getElem? (i := 119) rfl))) rfl, in_BlockBells_Line, ⟨by decide +kernel, by decide +kernel, by decide +kernel⟩, by decide⟩
theorem mc_yX1_shuntToLoop : gm_M yX1_shuntToLoop cX1_shuntToLoop 4 (some .int) 1 := ⟨tb_T (List.mem_append_right _ (List.mem_append_left _ (List.mem_of_getElem? (i := 123) rfl))) rfl, in_BlockBells_Line, ⟨by decide +kernel, by decide +kernel, by decide +kernel⟩, by decide⟩
theorem mc_yX1_nextBlock : gm_M yX1_nextBlock cX1_nextBlock 2 (some (.object "BlockBells$Block")) 1 := ⟨tb_T (List.mem_append_right _ (List.mem_append_left _ (List.mem_of_getElem? (i := 127) rfl))) rfl, in_BlockBells_Line, ⟨by decide +kernel, by decide +kernel, by decide +kernel⟩, by decide⟩
theorem mc_yX1_shuntBack : gm_M yX1_shuntBack cX1_shuntBack 4 (some .int) 1 := ⟨tb_T (List.mem_append_right _ (List.mem_append_left _ (List.mem_of_getElem? (i := 135) rfl))) rfl, in_BlockBells_Line, ⟨by decide +kernel, by decide +kernel, by decide +kernel⟩, by decide⟩
theorem mc_yX1_blockTo : gm_M yX1_blockTo cX1_blockTo 3 (some (.object "BlockBells$Block")) 2 := ⟨tb_T (List.mem_append_right _ (List.mem_append_left _ (List.mem_of_getElem? (i := 139) rfl))) rfl, in_BlockBells_Line, ⟨by decide +kernel, by decide +kernel, by decide +kernel⟩, by decide⟩
theorem mc_yX6_leave : gm_M yX6_leave cX6_leave 3 (some .int) 1 := ⟨tb_T (List.mem_append_right _ (List.mem_append_left _ (List.mem_of_getElem? (i := 143) rfl))) rfl, in_BlockBells, ⟨by decide +kernel, by decide +kernel, by decide +kernel⟩, by decide⟩
theorem mc_yX1_letLeave : gm_M yX1_letLeave cX1_letLeave 2 (some .int) 1 := ⟨tb_T (List.mem_append_right _ (List.mem_append_left _ (List.mem_of_getElem? (i := 147) rfl))) rfl, in_BlockBells_Line, ⟨by decide +kernel, by decide +kernel, by decide +kernel⟩, by decide⟩
theorem mc_yX1_lastBox : gm_M yX1_lastBox cX1_lastBox 2 (some .int) 1 := ⟨tb_T (List.mem_append_right _ (List.mem_append_left _ (List.mem_of_getElem? (i := 151) rfl))) rfl, in_BlockBells_Line, ⟨by decide +kernel, by decide +kernel, by decide +kernel⟩, by decide⟩
theorem mc_yX5_go : gm_M yX5_go cX5_go 2 none 1 := ⟨tb_T (List.mem_append_right _ (List.mem_append_left _ (List.mem_of_getElem? (i := 155) rfl))) rfl, in_BlockBells_Train, ⟨by decide +kernel, by decide +kernel, by decide +kernel⟩, by decide⟩
theorem mc_yX6_divide : gm_M yX6_divide cX6_divide 3 (some .int) 1 := ⟨tb_T (List.mem_append_right _ (List.mem_append_left _ (List.mem_of_getElem? (i := 159) rfl))) rfl, in_BlockBells, ⟨by decide +kernel, by decide +kernel, by decide +kernel⟩, by decide⟩
theorem mc_yX1_divideTrain : gm_M yX1_divideTrain cX1_divideTrain 3 (some .int) 1 := ⟨tb_T (List.mem_append_right _ (List.mem_append_left _ (List.mem_of_getElem? (i := 163) rfl))) rfl, in_BlockBells_Line, ⟨by decide +kernel, by decide +kernel, by decide +kernel⟩, by decide⟩
theorem mc_yX6_offer : gm_M yX6_offer cX6_offer 3 (some .int) 1 := ⟨tb_T (List.mem_append_right _ (List.mem_append_left _ (List.mem_of_getElem? (i := 167) rfl))) rfl, in_BlockBells, ⟨by decide +kernel, by decide +kernel, by decide +kernel⟩, by decide⟩
theorem mc_yX1_offerTrain : gm_M yX1_offerTrain cX1_offerTrain 3 (some .int) 1 := ⟨tb_T (List.mem_append_right _ (List.mem_append_left _ (List.mem_of_getElem? (i := 171) rfl))) rfl, in_BlockBells_Line, ⟨by decide +kernel, by decide +kernel, by decide +kernel⟩, by decide⟩
theorem mc_yX6_offerCode : gm_M yX6_offerCode cX6_offerCode 1 (some .int) 1 := ⟨tb_T (List.mem_append_right _ (List.mem_append_left _ (List.mem_of_getElem? (i := 174) rfl))) rfl, in_BlockBells, ⟨by decide +kernel, by decide +kernel, by decide +kernel⟩, by decide⟩
theorem mc_yX1_ringRear : gm_M yX1_ringRear cX1_ringRear 3 (some .int) 2 := ⟨tb_T (List.mem_append_right _ (List.mem_append_left _ (List.mem_of_getElem? (i := 178) rfl))) rfl, in_BlockBells_Line, ⟨by decide +kernel, by decide +kernel, by decide +kernel⟩, by decide⟩
theorem mc_yX0_rearBox : gm_M yX0_rearBox cX0_rearBox 1 (some .int) 0 := ⟨tb_T (List.mem_append_right _ (List.mem_append_left _ (List.mem_of_getElem? (i := 182) rfl))) rfl, in_BlockBells_Block, ⟨by decide +kernel, by decide +kernel, by decide +kernel⟩, by decide⟩
theorem mc_yX3_record : gm_M yX3_record cX3_record 6 none 4 := ⟨tb_T (List.mem_append_right _ (List.mem_append_left _ (List.mem_of_getElem? (i := 186) rfl))) rfl, in_BlockBells_Register, ⟨by decide +kernel, by decide +kernel, by decide +kernel⟩, by decide⟩
theorem mc_yX3_rowOf : gm_M yX3_rowOf cX3_rowOf 1 (some .int) 1 := ⟨tb_T (List.mem_append_right _ (List.mem_append_left _ (List.mem_of_getElem? (i := 189) rfl))) rfl, in_BlockBells_Register, ⟨by decide +kernel, by decide +kernel, by decide +kernel⟩, by decide⟩
theorem mc_yX6_answer : gm_M yX6_answer cX6_answer 5 (some .int) 3 := ⟨tb_T (List.mem_append_right _ (List.mem_append_left _ (List.mem_of_getElem? (i := 194) rfl))) rfl, in_BlockBells, ⟨by decide +kernel, by decide +kernel, by decide +kernel⟩, by decide⟩
theorem mc_yX1_accept : gm_M yX1_accept cX1_accept 3 (some .int) 1 := ⟨tb_T (List.mem_append_right _ (List.mem_append_left _ (List.mem_of_getElem? (i := 198) rfl))) rfl, in_BlockBells_Line, ⟨by decide +kernel, by decide +kernel, by decide +kernel⟩, by decide⟩
theorem mc_yX0_boxAhead : gm_M yX0_boxAhead cX0_boxAhead 1 (some .int) 0 := ⟨tb_T (List.mem_append_right _ (List.mem_append_left _ (List.mem_of_getElem? (i := 203) rfl))) rfl, in_BlockBells_Block, ⟨by decide +kernel, by decide +kernel, by decide +kernel⟩, by decide⟩
theorem mc_yX1_isTokenReady : gm_M yX1_isTokenReady cX1_isTokenReady 5 (some .boolean) 1 := ⟨tb_T (List.mem_append_right _ (List.mem_append_left _ (List.mem_of_getElem? (i := 207) rfl))) rfl, in_BlockBells_Line, ⟨by decide +kernel, by decide +kernel, by decide +kernel⟩, by decide⟩
theorem mc_yX0_rearEnd : gm_M yX0_rearEnd cX0_rearEnd 1 (some .int) 0 := ⟨tb_T (List.mem_append_right _ (List.mem_append_left _ (List.mem_of_getElem? (i := 211) rfl))) rfl, in_BlockBells_Block, ⟨by decide +kernel, by decide +kernel, by decide +kernel⟩, by decide⟩
theorem mc_yX4_hasToken : gm_M yX4_hasToken cX4_hasToken 2 (some .boolean) 1 := ⟨tb_T (List.mem_append_right _ (List.mem_append_left _ (List.mem_of_getElem? (i := 215) rfl))) rfl, in_BlockBells_Section, ⟨by decide +kernel, by decide +kernel, by decide +kernel⟩, by decide⟩
theorem mc_yX0_makeClear : gm_M yX0_makeClear cX0_makeClear 1 none 0 := ⟨tb_T (List.mem_append_right _ (List.mem_append_left _ (List.mem_of_getElem? (i := 219) rfl))) rfl, in_BlockBells_Block, ⟨by decide +kernel, by decide +kernel, by decide +kernel⟩, by decide⟩
theorem mc_yX4_takeToken : gm_M yX4_takeToken cX4_takeToken 2 none 1 := ⟨tb_T (List.mem_append_right _ (List.mem_append_left _ (List.mem_of_getElem? (i := 224) rfl))) rfl, in_BlockBells_Section, ⟨by decide +kernel, by decide +kernel, by decide +kernel⟩, by decide⟩
theorem mc_yX4_addTokens : gm_M yX4_addTokens cX4_addTokens 3 none 2 := ⟨tb_T (List.mem_append_right _ (List.mem_append_left _ (List.mem_of_getElem? (i := 228) rfl))) rfl, in_BlockBells_Section, ⟨by decide +kernel, by decide +kernel, by decide +kernel⟩, by decide⟩
theorem mc_yX1_ringAhead : gm_M yX1_ringAhead cX1_ringAhead 3 (some .int) 2 := ⟨tb_T (List.mem_append_right _ (List.mem_append_left _ (List.mem_of_getElem? (i := 232) rfl))) rfl, in_BlockBells_Line, ⟨by decide +kernel, by decide +kernel, by decide +kernel⟩, by decide⟩
theorem mc_yX1_refuse : gm_M yX1_refuse cX1_refuse 2 (some .int) 1 := ⟨tb_T (List.mem_append_right _ (List.mem_append_left _ (List.mem_of_getElem? (i := 236) rfl))) rfl, in_BlockBells_Line, ⟨by decide +kernel, by decide +kernel, by decide +kernel⟩, by decide⟩
theorem mc_yX6_cancel : gm_M yX6_cancel cX6_cancel 4 (some .int) 2 := ⟨tb_T (List.mem_append_right _ (List.mem_append_right _ (List.mem_append_left _ (List.mem_of_getElem? (i := 0) rfl)))) rfl, in_BlockBells, ⟨by decide +kernel, by decide +kernel, by decide +kernel⟩, by decide⟩
theorem mc_yX1_cancelBlock : gm_M yX1_cancelBlock cX1_cancelBlock 2 (some .int) 1 := ⟨tb_T (List.mem_append_right _ (List.mem_append_right _ (List.mem_append_left _ (List.mem_of_getElem? (i := 4) rfl)))) rfl, in_BlockBells_Line, ⟨by decide +kernel, by decide +kernel, by decide +kernel⟩, by decide⟩
theorem mc_yX0_takeBack : gm_M yX0_takeBack cX0_takeBack 2 none 1 := ⟨tb_T (List.mem_append_right _ (List.mem_append_right _ (List.mem_append_left _ (List.mem_of_getElem? (i := 8) rfl)))) rfl, in_BlockBells_Block, ⟨by decide +kernel, by decide +kernel, by decide +kernel⟩, by decide⟩
theorem mc_yX4_putToken : gm_M yX4_putToken cX4_putToken 2 none 1 := ⟨tb_T (List.mem_append_right _ (List.mem_append_right _ (List.mem_append_left _ (List.mem_of_getElem? (i := 12) rfl)))) rfl, in_BlockBells_Section, ⟨by decide +kernel, by decide +kernel, by decide +kernel⟩, by decide⟩
theorem mc_yX6_depart : gm_M yX6_depart cX6_depart 3 (some .int) 1 := ⟨tb_T (List.mem_append_right _ (List.mem_append_right _ (List.mem_append_left _ (List.mem_of_getElem? (i := 16) rfl)))) rfl, in_BlockBells, ⟨by decide +kernel, by decide +kernel, by decide +kernel⟩, by decide⟩
theorem mc_yX1_letDepart : gm_M yX1_letDepart cX1_letDepart 3 (some .int) 1 := ⟨tb_T (List.mem_append_right _ (List.mem_append_right _ (List.mem_append_left _ (List.mem_of_getElem? (i := 20) rfl)))) rfl, in_BlockBells_Line, ⟨by decide +kernel, by decide +kernel, by decide +kernel⟩, by decide⟩
theorem mc_yX5_enter : gm_M yX5_enter cX5_enter 2 none 1 := ⟨tb_T (List.mem_append_right _ (List.mem_append_right _ (List.mem_append_left _ (List.mem_of_getElem? (i := 24) rfl)))) rfl, in_BlockBells_Train, ⟨by decide +kernel, by decide +kernel, by decide +kernel⟩, by decide⟩
theorem mc_yX6_admit : gm_M yX6_admit cX6_admit 4 (some .int) 2 := ⟨tb_T (List.mem_append_right _ (List.mem_append_right _ (List.mem_append_left _ (List.mem_of_getElem? (i := 28) rfl)))) rfl, in_BlockBells, ⟨by decide +kernel, by decide +kernel, by decide +kernel⟩, by decide⟩
theorem mc_yX1_admitTrain : gm_M yX1_admitTrain cX1_admitTrain 3 (some .int) 1 := ⟨tb_T (List.mem_append_right _ (List.mem_append_right _ (List.mem_append_left _ (List.mem_of_getElem? (i := 32) rfl)))) rfl, in_BlockBells_Line, ⟨by decide +kernel, by decide +kernel, by decide +kernel⟩, by decide⟩
theorem mc_yX1_trainInside : gm_M yX1_trainInside cX1_trainInside 3 (some (.object "BlockBells$Train")) 1 := ⟨tb_T (List.mem_append_right _ (List.mem_append_right _ (List.mem_append_left _ (List.mem_of_getElem? (i := 36) rfl)))) rfl, in_BlockBells_Line, ⟨by decide +kernel, by decide +kernel, by decide +kernel⟩, by decide⟩
theorem mc_yX6_out : gm_M yX6_out cX6_out 4 (some .int) 2 := ⟨tb_T (List.mem_append_right _ (List.mem_append_right _ (List.mem_append_left _ (List.mem_of_getElem? (i := 40) rfl)))) rfl, in_BlockBells, ⟨by decide +kernel, by decide +kernel, by decide +kernel⟩, by decide⟩
theorem mc_yX1_reportOut : gm_M yX1_reportOut cX1_reportOut 2 (some .int) 1 := ⟨tb_T (List.mem_append_right _ (List.mem_append_right _ (List.mem_append_left _ (List.mem_of_getElem? (i := 44) rfl)))) rfl, in_BlockBells_Line, ⟨by decide +kernel, by decide +kernel, by decide +kernel⟩, by decide⟩
theorem mc_yX0_makeFree : gm_M yX0_makeFree cX0_makeFree 1 none 0 := ⟨tb_T (List.mem_append_right _ (List.mem_append_right _ (List.mem_append_left _ (List.mem_of_getElem? (i := 48) rfl)))) rfl, in_BlockBells_Block, ⟨by decide +kernel, by decide +kernel, by decide +kernel⟩, by decide⟩
theorem mc_yX0_endAhead : gm_M yX0_endAhead cX0_endAhead 1 (some .int) 0 := ⟨tb_T (List.mem_append_right _ (List.mem_append_right _ (List.mem_append_left _ (List.mem_of_getElem? (i := 52) rfl)))) rfl, in_BlockBells_Block, ⟨by decide +kernel, by decide +kernel, by decide +kernel⟩, by decide⟩
theorem mc_yX6_assist : gm_M yX6_assist cX6_assist 4 (some .int) 2 := ⟨tb_T (List.mem_append_right _ (List.mem_append_right _ (List.mem_append_left _ (List.mem_of_getElem? (i := 56) rfl)))) rfl, in_BlockBells, ⟨by decide +kernel, by decide +kernel, by decide +kernel⟩, by decide⟩
theorem mc_yX1_sendEngine : gm_M yX1_sendEngine cX1_sendEngine 2 (some .int) 1 := ⟨tb_T (List.mem_append_right _ (List.mem_append_right _ (List.mem_append_left _ (List.mem_of_getElem? (i := 60) rfl)))) rfl, in_BlockBells_Line, ⟨by decide +kernel, by decide +kernel, by decide +kernel⟩, by decide⟩
theorem mc_yX6_obstruct : gm_M yX6_obstruct cX6_obstruct 4 (some .int) 2 := ⟨tb_T (List.mem_append_right _ (List.mem_append_right _ (List.mem_append_left _ (List.mem_of_getElem? (i := 64) rfl)))) rfl, in_BlockBells, ⟨by decide +kernel, by decide +kernel, by decide +kernel⟩, by decide⟩
theorem mc_yX1_obstructBlock : gm_M yX1_obstructBlock cX1_obstructBlock 3 (some .int) 1 := ⟨tb_T (List.mem_append_right _ (List.mem_append_right _ (List.mem_append_left _ (List.mem_of_getElem? (i := 68) rfl)))) rfl, in_BlockBells_Line, ⟨by decide +kernel, by decide +kernel, by decide +kernel⟩, by decide⟩
theorem mc_yX6_lift : gm_M yX6_lift cX6_lift 4 (some .int) 2 := ⟨tb_T (List.mem_append_right _ (List.mem_append_right _ (List.mem_append_left _ (List.mem_of_getElem? (i := 72) rfl)))) rfl, in_BlockBells, ⟨by decide +kernel, by decide +kernel, by decide +kernel⟩, by decide⟩
theorem mc_yX1_liftBlock : gm_M yX1_liftBlock cX1_liftBlock 2 (some .int) 1 := ⟨tb_T (List.mem_append_right _ (List.mem_append_right _ (List.mem_append_left _ (List.mem_of_getElem? (i := 76) rfl)))) rfl, in_BlockBells_Line, ⟨by decide +kernel, by decide +kernel, by decide +kernel⟩, by decide⟩
theorem mc_yX6_pass : gm_M yX6_pass cX6_pass 2 (some .int) 1 := ⟨tb_T (List.mem_append_right _ (List.mem_append_right _ (List.mem_append_left _ (List.mem_of_getElem? (i := 80) rfl)))) rfl, in_BlockBells, ⟨by decide +kernel, by decide +kernel, by decide +kernel⟩, by decide⟩
theorem mc_yX1_letPass : gm_M yX1_letPass cX1_letPass 3 none 1 := ⟨tb_T (List.mem_append_right _ (List.mem_append_right _ (List.mem_append_left _ (List.mem_of_getElem? (i := 85) rfl)))) rfl, in_BlockBells_Line, ⟨by decide +kernel, by decide +kernel, by decide +kernel⟩, by decide⟩
theorem mc_yX5_letPass : gm_M yX5_letPass cX5_letPass 2 none 1 := ⟨tb_T (List.mem_append_right _ (List.mem_append_right _ (List.mem_append_left _ (List.mem_of_getElem? (i := 89) rfl)))) rfl, in_BlockBells_Train, ⟨by decide +kernel, by decide +kernel, by decide +kernel⟩, by decide⟩
theorem mc_yJ9_max_7cf53 : gm_M yJ9_max_7cf53 cJ9_max_7cf53 2 (some .int) 2 := ⟨tb_T (List.mem_append_right _ (List.mem_append_right _ (List.mem_append_left _ (List.mem_of_getElem? (i := 92) rfl)))) rfl, in_java_lang_Math, ⟨by decide +kernel, by decide +kernel, by decide +kernel⟩, by decide⟩
theorem mc_yX1_blockCount : gm_M yX1_blockCount cX1_blockCount 1 (some .int) 0 := ⟨tb_T (List.mem_append_right _ (List.mem_append_right _ (List.mem_append_left _ (List.mem_of_getElem? (i := 96) rfl)))) rfl, in_BlockBells_Line, ⟨by decide +kernel, by decide +kernel, by decide +kernel⟩, by decide⟩
theorem mc_yX0_letPass : gm_M yX0_letPass cX0_letPass 2 none 1 := ⟨tb_T (List.mem_append_right _ (List.mem_append_right _ (List.mem_append_left _ (List.mem_of_getElem? (i := 100) rfl)))) rfl, in_BlockBells_Block, ⟨by decide +kernel, by decide +kernel, by decide +kernel⟩, by decide⟩
theorem mc_yX6_signal : gm_M yX6_signal cX6_signal 3 (some .int) 2 := ⟨tb_T (List.mem_append_right _ (List.mem_append_right _ (List.mem_append_left _ (List.mem_of_getElem? (i := 105) rfl)))) rfl, in_BlockBells, ⟨by decide +kernel, by decide +kernel, by decide +kernel⟩, by decide⟩
theorem mc_yX3_property : gm_M yX3_property cX3_property 3 (some .int) 2 := ⟨tb_T (List.mem_append_right _ (List.mem_append_right _ (List.mem_append_left _ (List.mem_of_getElem? (i := 109) rfl)))) rfl, in_BlockBells_Register, ⟨by decide +kernel, by decide +kernel, by decide +kernel⟩, by decide⟩
theorem mc_yX3_oldest : gm_M yX3_oldest cX3_oldest 1 (some .int) 0 := ⟨tb_T (List.mem_append_right _ (List.mem_append_right _ (List.mem_append_left _ (List.mem_of_getElem? (i := 113) rfl)))) rfl, in_BlockBells_Register, ⟨by decide +kernel, by decide +kernel, by decide +kernel⟩, by decide⟩
theorem mc_yX6_rung : gm_M yX6_rung cX6_rung 3 (some .int) 2 := ⟨tb_T (List.mem_append_right _ (List.mem_append_right _ (List.mem_append_left _ (List.mem_of_getElem? (i := 118) rfl)))) rfl, in_BlockBells, ⟨by decide +kernel, by decide +kernel, by decide +kernel⟩, by decide⟩
theorem mc_yX3_countOf : gm_M yX3_countOf cX3_countOf 6 (some .int) 2 := ⟨tb_T (List.mem_append_right _ (List.mem_append_right _ (List.mem_append_left _ (List.mem_of_getElem? (i := 122) rfl)))) rfl, in_BlockBells_Register, ⟨by decide +kernel, by decide +kernel, by decide +kernel⟩, by decide⟩
theorem mc_yX6_work : gm_M yX6_work cX6_work 4 (some .int) 1 := ⟨tb_T (List.mem_append_right _ (List.mem_append_right _ (List.mem_append_left _ (List.mem_of_getElem? (i := 126) rfl)))) rfl, in_BlockBells, ⟨by decide +kernel, by decide +kernel, by decide +kernel⟩, by decide⟩
theorem mc_yX1_workTick : gm_M yX1_workTick cX1_workTick 2 (some .int) 0 := ⟨tb_T (List.mem_append_right _ (List.mem_append_right _ (List.mem_append_left _ (List.mem_of_getElem? (i := 130) rfl)))) rfl, in_BlockBells_Line, ⟨by decide +kernel, by decide +kernel, by decide +kernel⟩, by decide⟩
theorem mc_yX1_clearSections : gm_M yX1_clearSections cX1_clearSections 3 none 0 := ⟨tb_T (List.mem_append_right _ (List.mem_append_right _ (List.mem_append_left _ (List.mem_of_getElem? (i := 134) rfl)))) rfl, in_BlockBells_Line, ⟨by decide +kernel, by decide +kernel, by decide +kernel⟩, by decide⟩
theorem mc_yX1_leaveAll : gm_M yX1_leaveAll cX1_leaveAll 3 (some .int) 0 := ⟨tb_T (List.mem_append_right _ (List.mem_append_right _ (List.mem_append_left _ (List.mem_of_getElem? (i := 141) rfl)))) rfl, in_BlockBells_Line, ⟨by decide +kernel, by decide +kernel, by decide +kernel⟩, by decide⟩
theorem mc_yX1_offerAll : gm_M yX1_offerAll cX1_offerAll 2 none 0 := ⟨tb_T (List.mem_append_right _ (List.mem_append_right _ (List.mem_append_left _ (List.mem_of_getElem? (i := 146) rfl)))) rfl, in_BlockBells_Line, ⟨by decide +kernel, by decide +kernel, by decide +kernel⟩, by decide⟩
theorem mc_yX1_answerAll : gm_M yX1_answerAll cX1_answerAll 2 none 0 := ⟨tb_T (List.mem_append_right _ (List.mem_append_right _ (List.mem_append_left _ (List.mem_of_getElem? (i := 151) rfl)))) rfl, in_BlockBells_Line, ⟨by decide +kernel, by decide +kernel, by decide +kernel⟩, by decide⟩
theorem mc_yX1_departAll : gm_M yX1_departAll cX1_departAll 2 none 0 := ⟨tb_T (List.mem_append_right _ (List.mem_append_right _ (List.mem_append_left _ (List.mem_of_getElem? (i := 157) rfl)))) rfl, in_BlockBells_Line, ⟨by decide +kernel, by decide +kernel, by decide +kernel⟩, by decide⟩
theorem mc_yX6_forecast : gm_M yX6_forecast cX6_forecast 4 (some .int) 2 := ⟨tb_T (List.mem_append_right _ (List.mem_append_right _ (List.mem_append_left _ (List.mem_of_getElem? (i := 163) rfl)))) rfl, in_BlockBells, ⟨by decide +kernel, by decide +kernel, by decide +kernel⟩, by decide⟩
theorem mc_yX1_copyFrom : gm_M yX1_copyFrom cX1_copyFrom 3 none 1 := ⟨tb_T (List.mem_append_right _ (List.mem_append_right _ (List.mem_append_left _ (List.mem_of_getElem? (i := 167) rfl)))) rfl, in_BlockBells_Line, ⟨by decide +kernel, by decide +kernel, by decide +kernel⟩, by decide⟩
theorem mc_yX4_copyFrom : gm_M yX4_copyFrom cX4_copyFrom 2 none 1 := ⟨tb_T (List.mem_append_right _ (List.mem_append_right _ (List.mem_append_left _ (List.mem_of_getElem? (i := 171) rfl)))) rfl, in_BlockBells_Section, ⟨by decide +kernel, by decide +kernel, by decide +kernel⟩, by decide⟩
theorem mc_yX0_copyFrom : gm_M yX0_copyFrom cX0_copyFrom 2 none 1 := ⟨tb_T (List.mem_append_right _ (List.mem_append_right _ (List.mem_append_left _ (List.mem_of_getElem? (i := 175) rfl)))) rfl, in_BlockBells_Block, ⟨by decide +kernel, by decide +kernel, by decide +kernel⟩, by decide⟩
theorem mc_yX5_copyFrom : gm_M yX5_copyFrom cX5_copyFrom 2 none 1 := ⟨tb_T (List.mem_append_right _ (List.mem_append_right _ (List.mem_append_left _ (List.mem_of_getElem? (i := 179) rfl)))) rfl, in_BlockBells_Train, ⟨by decide +kernel, by decide +kernel, by decide +kernel⟩, by decide⟩
theorem mc_yX3_copyFrom : gm_M yX3_copyFrom cX3_copyFrom 2 none 1 := ⟨tb_T (List.mem_append_right _ (List.mem_append_right _ (List.mem_append_left _ (List.mem_of_getElem? (i := 186) rfl)))) rfl, in_BlockBells_Register, ⟨by decide +kernel, by decide +kernel, by decide +kernel⟩, by decide⟩
theorem mc_yX1_isGone : gm_M yX1_isGone cX1_isGone 3 (some .boolean) 1 := ⟨tb_T (List.mem_append_right _ (List.mem_append_right _ (List.mem_append_left _ (List.mem_of_getElem? (i := 191) rfl)))) rfl, in_BlockBells_Line, ⟨by decide +kernel, by decide +kernel, by decide +kernel⟩, by decide⟩
theorem mc_yX6_capacity : gm_M yX6_capacity cX6_capacity 6 (some .int) 3 := ⟨tb_T (List.mem_append_right _ (List.mem_append_right _ (List.mem_append_left _ (List.mem_of_getElem? (i := 195) rfl)))) rfl, in_BlockBells, ⟨by decide +kernel, by decide +kernel, by decide +kernel⟩, by decide⟩
theorem mc_yX1_bringSpare : gm_M yX1_bringSpare cX1_bringSpare 5 none 2 := ⟨tb_T (List.mem_append_right _ (List.mem_append_right _ (List.mem_append_left _ (List.mem_of_getElem? (i := 200) rfl)))) rfl, in_BlockBells_Line, ⟨by decide +kernel, by decide +kernel, by decide +kernel⟩, by decide⟩
theorem mc_yX6_say : gm_M yX6_say cX6_say 2 (some .int) 1 := ⟨tb_T (List.mem_append_right _ (List.mem_append_right _ (List.mem_append_left _ (List.mem_of_getElem? (i := 205) rfl)))) rfl, in_BlockBells, ⟨by decide +kernel, by decide +kernel, by decide +kernel⟩, by decide⟩
theorem mc_yX2_append : gm_M yX2_append cX2_append 2 (some .int) 1 := ⟨tb_T (List.mem_append_right _ (List.mem_append_right _ (List.mem_append_left _ (List.mem_of_getElem? (i := 209) rfl)))) rfl, in_BlockBells_Pad, ⟨by decide +kernel, by decide +kernel, by decide +kernel⟩, by decide⟩
theorem mc_yX6_wipe : gm_M yX6_wipe cX6_wipe 1 (some .int) 0 := ⟨tb_T (List.mem_append_right _ (List.mem_append_right _ (List.mem_append_left _ (List.mem_of_getElem? (i := 213) rfl)))) rfl, in_BlockBells, ⟨by decide +kernel, by decide +kernel, by decide +kernel⟩, by decide⟩
theorem mc_yX2_empty : gm_M yX2_empty cX2_empty 2 (some .int) 0 := ⟨tb_T (List.mem_append_right _ (List.mem_append_right _ (List.mem_append_left _ (List.mem_of_getElem? (i := 217) rfl)))) rfl, in_BlockBells_Pad, ⟨by decide +kernel, by decide +kernel, by decide +kernel⟩, by decide⟩
theorem mc_yX6_fault : gm_M yX6_fault cX6_fault 1 (some .int) 0 := ⟨tb_T (List.mem_append_right _ (List.mem_append_right _ (List.mem_append_left _ (List.mem_of_getElem? (i := 221) rfl)))) rfl, in_BlockBells, ⟨by decide +kernel, by decide +kernel, by decide +kernel⟩, by decide⟩
theorem mc_yX2_firstFault : gm_M yX2_firstFault cX2_firstFault 3 (some .int) 0 := ⟨tb_T (List.mem_append_right _ (List.mem_append_right _ (List.mem_append_left _ (List.mem_of_getElem? (i := 225) rfl)))) rfl, in_BlockBells_Pad, ⟨by decide +kernel, by decide +kernel, by decide +kernel⟩, by decide⟩
theorem mc_yX2_after : gm_M yX2_after cX2_after 2 (some .int) 2 := ⟨tb_T (List.mem_append_right _ (List.mem_append_right _ (List.mem_append_left _ (List.mem_of_getElem? (i := 228) rfl)))) rfl, in_BlockBells_Pad, ⟨by decide +kernel, by decide +kernel, by decide +kernel⟩, by decide⟩
theorem mc_yX2_afterLetter : gm_M yX2_afterLetter cX2_afterLetter 1 (some .int) 1 := ⟨tb_T (List.mem_append_right _ (List.mem_append_right _ (List.mem_append_left _ (List.mem_of_getElem? (i := 231) rfl)))) rfl, in_BlockBells_Pad, ⟨by decide +kernel, by decide +kernel, by decide +kernel⟩, by decide⟩
theorem mc_yX2_isBetween : gm_M yX2_isBetween cX2_isBetween 3 (some .boolean) 3 := ⟨tb_T (List.mem_append_right _ (List.mem_append_right _ (List.mem_append_left _ (List.mem_of_getElem? (i := 234) rfl)))) rfl, in_BlockBells_Pad, ⟨by decide +kernel, by decide +kernel, by decide +kernel⟩, by decide⟩
theorem mc_yX2_afterOrder : gm_M yX2_afterOrder cX2_afterOrder 1 (some .int) 1 := ⟨tb_T (List.mem_append_right _ (List.mem_append_right _ (List.mem_append_left _ (List.mem_of_getElem? (i := 237) rfl)))) rfl, in_BlockBells_Pad, ⟨by decide +kernel, by decide +kernel, by decide +kernel⟩, by decide⟩
theorem mc_yX6_carryOut : gm_M yX6_carryOut cX6_carryOut 3 (some .int) 0 := ⟨tb_T (List.mem_append_right _ (List.mem_append_right _ (List.mem_append_right _ (List.mem_append_left _ (List.mem_of_getElem? (i := 1) rfl))))) rfl, in_BlockBells, ⟨by decide +kernel, by decide +kernel, by decide +kernel⟩, by decide⟩
theorem mc_yX2_rewind : gm_M yX2_rewind cX2_rewind 1 none 0 := ⟨tb_T (List.mem_append_right _ (List.mem_append_right _ (List.mem_append_right _ (List.mem_append_left _ (List.mem_of_getElem? (i := 5) rfl))))) rfl, in_BlockBells_Pad, ⟨by decide +kernel, by decide +kernel, by decide +kernel⟩, by decide⟩
theorem mc_yX2_readOrder : gm_M yX2_readOrder cX2_readOrder 1 (some .boolean) 0 := ⟨tb_T (List.mem_append_right _ (List.mem_append_right _ (List.mem_append_right _ (List.mem_append_left _ (List.mem_of_getElem? (i := 9) rfl))))) rfl, in_BlockBells_Pad, ⟨by decide +kernel, by decide +kernel, by decide +kernel⟩, by decide⟩
theorem mc_yX2_readSign : gm_M yX2_readSign cX2_readSign 2 none 1 := ⟨tb_T (List.mem_append_right _ (List.mem_append_right _ (List.mem_append_right _ (List.mem_append_left _ (List.mem_of_getElem? (i := 13) rfl))))) rfl, in_BlockBells_Pad, ⟨by decide +kernel, by decide +kernel, by decide +kernel⟩, by decide⟩
theorem mc_yX6_obey : gm_M yX6_obey cX6_obey 4 (some .int) 3 := ⟨tb_T (List.mem_append_right _ (List.mem_append_right _ (List.mem_append_right _ (List.mem_append_left _ (List.mem_of_getElem? (i := 17) rfl))))) rfl, in_BlockBells, ⟨by decide +kernel, by decide +kernel, by decide +kernel⟩, by decide⟩
theorem mc_yX6_count : gm_M yX6_count cX6_count 2 (some .int) 1 := ⟨tb_T (List.mem_append_right _ (List.mem_append_right _ (List.mem_append_right _ (List.mem_append_left _ (List.mem_of_getElem? (i := 31) rfl))))) rfl, in_BlockBells, ⟨by decide +kernel, by decide +kernel, by decide +kernel⟩, by decide⟩
theorem mc_yX1_trainsThatAre : gm_M yX1_trainsThatAre cX1_trainsThatAre 4 (some .int) 1 := ⟨tb_T (List.mem_append_right _ (List.mem_append_right _ (List.mem_append_right _ (List.mem_append_left _ (List.mem_of_getElem? (i := 35) rfl))))) rfl, in_BlockBells_Line, ⟨by decide +kernel, by decide +kernel, by decide +kernel⟩, by decide⟩
theorem mc_yX1_blocksOtherThan : gm_M yX1_blocksOtherThan cX1_blocksOtherThan 5 (some .int) 2 := ⟨tb_T (List.mem_append_right _ (List.mem_append_right _ (List.mem_append_right _ (List.mem_append_left _ (List.mem_of_getElem? (i := 39) rfl))))) rfl, in_BlockBells_Line, ⟨by decide +kernel, by decide +kernel, by decide +kernel⟩, by decide⟩
theorem mc_yX6_save : gm_M yX6_save cX6_save 2 (some .int) 1 := ⟨tb_T (List.mem_append_right _ (List.mem_append_right _ (List.mem_append_right _ (List.mem_append_left _ (List.mem_of_getElem? (i := 44) rfl))))) rfl, in_BlockBells, ⟨by decide +kernel, by decide +kernel, by decide +kernel⟩, by decide⟩
theorem mc_yX6_restore : gm_M yX6_restore cX6_restore 2 (some .int) 1 := ⟨tb_T (List.mem_append_right _ (List.mem_append_right _ (List.mem_append_right _ (List.mem_append_left _ (List.mem_of_getElem? (i := 48) rfl))))) rfl, in_BlockBells, ⟨by decide +kernel, by decide +kernel, by decide +kernel⟩, by decide⟩
theorem mc_yX7_init : gm_M yX7_init cX7_init 1 none 0 := ⟨tb_T (List.mem_append_right _ (List.mem_append_right _ (List.mem_append_right _ (List.mem_append_left _ (List.mem_of_getElem? (i := 53) rfl))))) rfl, in_BlockBellsModel, ⟨by decide +kernel, by decide +kernel, by decide +kernel⟩, by decide⟩
theorem mc_yX7_lay : gm_M yX7_lay cX7_lay 4 none 2 := ⟨tb_T (List.mem_append_right _ (List.mem_append_right _ (List.mem_append_right _ (List.mem_append_left _ (List.mem_of_getElem? (i := 58) rfl))))) rfl, in_BlockBellsModel, ⟨by decide +kernel, by decide +kernel, by decide +kernel⟩, by decide⟩
theorem mc_yX7_layBlocks : gm_M yX7_layBlocks cX7_layBlocks 2 none 0 := ⟨tb_T (List.mem_append_right _ (List.mem_append_right _ (List.mem_append_right _ (List.mem_append_left _ (List.mem_of_getElem? (i := 62) rfl))))) rfl, in_BlockBellsModel, ⟨by decide +kernel, by decide +kernel, by decide +kernel⟩, by decide⟩
theorem mc_yX7_setUp : gm_M yX7_setUp cX7_setUp 4 (some .int) 2 := ⟨tb_T (List.mem_append_right _ (List.mem_append_right _ (List.mem_append_right _ (List.mem_append_left _ (List.mem_of_getElem? (i := 97) rfl))))) rfl, in_BlockBellsModel, ⟨by decide +kernel, by decide +kernel, by decide +kernel⟩, by decide⟩
theorem mc_yX7_in : gm_M yX7_in cX7_in 3 (some .boolean) 3 := ⟨tb_T (List.mem_append_right _ (List.mem_append_right _ (List.mem_append_right _ (List.mem_append_left _ (List.mem_of_getElem? (i := 100) rfl))))) rfl, in_BlockBellsModel, ⟨by decide +kernel, by decide +kernel, by decide +kernel⟩, by decide⟩
theorem mc_yX7_setTime : gm_M yX7_setTime cX7_setTime 4 (some .int) 2 := ⟨tb_T (List.mem_append_right _ (List.mem_append_right _ (List.mem_append_right _ (List.mem_append_left _ (List.mem_of_getElem? (i := 104) rfl))))) rfl, in_BlockBellsModel, ⟨by decide +kernel, by decide +kernel, by decide +kernel⟩, by decide⟩
theorem mc_yX7_isSection : gm_M yX7_isSection cX7_isSection 2 (some .boolean) 1 := ⟨tb_T (List.mem_append_right _ (List.mem_append_right _ (List.mem_append_right _ (List.mem_append_left _ (List.mem_of_getElem? (i := 108) rfl))))) rfl, in_BlockBellsModel, ⟨by decide +kernel, by decide +kernel, by decide +kernel⟩, by decide⟩
theorem mc_yX7_sections : gm_M yX7_sections cX7_sections 1 (some .int) 0 := ⟨tb_T (List.mem_append_right _ (List.mem_append_right _ (List.mem_append_right _ (List.mem_append_left _ (List.mem_of_getElem? (i := 112) rfl))))) rfl, in_BlockBellsModel, ⟨by decide +kernel, by decide +kernel, by decide +kernel⟩, by decide⟩
theorem mc_yX7_setLoops : gm_M yX7_setLoops cX7_setLoops 5 (some .int) 3 := ⟨tb_T (List.mem_append_right _ (List.mem_append_right _ (List.mem_append_right _ (List.mem_append_left _ (List.mem_of_getElem? (i := 116) rfl))))) rfl, in_BlockBellsModel, ⟨by decide +kernel, by decide +kernel, by decide +kernel⟩, by decide⟩
theorem mc_yX7_isWay : gm_M yX7_isWay cX7_isWay 1 (some .boolean) 1 := ⟨tb_T (List.mem_append_right _ (List.mem_append_right _ (List.mem_append_right _ (List.mem_append_left _ (List.mem_of_getElem? (i := 119) rfl))))) rfl, in_BlockBellsModel, ⟨by decide +kernel, by decide +kernel, by decide +kernel⟩, by decide⟩
theorem mc_yX7_many : gm_M yX7_many cX7_many 6 (some .int) 3 := ⟨tb_T (List.mem_append_right _ (List.mem_append_right _ (List.mem_append_right _ (List.mem_append_left _ (List.mem_of_getElem? (i := 123) rfl))))) rfl, in_BlockBellsModel, ⟨by decide +kernel, by decide +kernel, by decide +kernel⟩, by decide⟩
theorem mc_yX7_ofTrain : gm_M yX7_ofTrain cX7_ofTrain 3 (some .int) 2 := ⟨tb_T (List.mem_append_right _ (List.mem_append_right _ (List.mem_append_right _ (List.mem_append_left _ (List.mem_of_getElem? (i := 127) rfl))))) rfl, in_BlockBellsModel, ⟨by decide +kernel, by decide +kernel, by decide +kernel⟩, by decide⟩
theorem mc_yX7_moveTokens : gm_M yX7_moveTokens cX7_moveTokens 5 (some .int) 2 := ⟨tb_T (List.mem_append_right _ (List.mem_append_right _ (List.mem_append_right _ (List.mem_append_left _ (List.mem_of_getElem? (i := 131) rfl))))) rfl, in_BlockBellsModel, ⟨by decide +kernel, by decide +kernel, by decide +kernel⟩, by decide⟩
theorem mc_yX7_isSingle : gm_M yX7_isSingle cX7_isSingle 2 (some .boolean) 1 := ⟨tb_T (List.mem_append_right _ (List.mem_append_right _ (List.mem_append_right _ (List.mem_append_left _ (List.mem_of_getElem? (i := 135) rfl))))) rfl, in_BlockBellsModel, ⟨by decide +kernel, by decide +kernel, by decide +kernel⟩, by decide⟩
theorem mc_yX7_section : gm_M yX7_section cX7_section 4 (some .int) 2 := ⟨tb_T (List.mem_append_right _ (List.mem_append_right _ (List.mem_append_right _ (List.mem_append_left _ (List.mem_of_getElem? (i := 139) rfl))))) rfl, in_BlockBellsModel, ⟨by decide +kernel, by decide +kernel, by decide +kernel⟩, by decide⟩
theorem mc_yX7_isTokenOut : gm_M yX7_isTokenOut cX7_isTokenOut 4 (some .boolean) 1 := ⟨tb_T (List.mem_append_right _ (List.mem_append_right _ (List.mem_append_right _ (List.mem_append_left _ (List.mem_of_getElem? (i := 143) rfl))))) rfl, in_BlockBellsModel, ⟨by decide +kernel, by decide +kernel, by decide +kernel⟩, by decide⟩
theorem mc_yX7_ofBlock : gm_M yX7_ofBlock cX7_ofBlock 4 (some .int) 3 := ⟨tb_T (List.mem_append_right _ (List.mem_append_right _ (List.mem_append_right _ (List.mem_append_left _ (List.mem_of_getElem? (i := 147) rfl))))) rfl, in_BlockBellsModel, ⟨by decide +kernel, by decide +kernel, by decide +kernel⟩, by decide⟩
theorem mc_yX7_place : gm_M yX7_place cX7_place 3 (some .int) 3 := ⟨tb_T (List.mem_append_right _ (List.mem_append_right _ (List.mem_append_right _ (List.mem_append_left _ (List.mem_of_getElem? (i := 150) rfl))))) rfl, in_BlockBellsModel, ⟨by decide +kernel, by decide +kernel, by decide +kernel⟩, by decide⟩
theorem mc_yX7_block : gm_M yX7_block cX7_block 4 (some .int) 3 := ⟨tb_T (List.mem_append_right _ (List.mem_append_right _ (List.mem_append_right _ (List.mem_append_left _ (List.mem_of_getElem? (i := 154) rfl))))) rfl, in_BlockBellsModel, ⟨by decide +kernel, by decide +kernel, by decide +kernel⟩, by decide⟩
theorem mc_yX7_isBlock : gm_M yX7_isBlock cX7_isBlock 3 (some .boolean) 2 := ⟨tb_T (List.mem_append_right _ (List.mem_append_right _ (List.mem_append_right _ (List.mem_append_left _ (List.mem_of_getElem? (i := 158) rfl))))) rfl, in_BlockBellsModel, ⟨by decide +kernel, by decide +kernel, by decide +kernel⟩, by decide⟩
theorem mc_yX7_appear : gm_M yX7_appear cX7_appear 3 (some .int) 2 := ⟨tb_T (List.mem_append_right _ (List.mem_append_right _ (List.mem_append_right _ (List.mem_append_left _ (List.mem_of_getElem? (i := 162) rfl))))) rfl, in_BlockBellsModel, ⟨by decide +kernel, by decide +kernel, by decide +kernel⟩, by decide⟩
theorem mc_yX7_firstBox : gm_M yX7_firstBox cX7_firstBox 2 (some .int) 1 := ⟨tb_T (List.mem_append_right _ (List.mem_append_right _ (List.mem_append_right _ (List.mem_append_left _ (List.mem_of_getElem? (i := 166) rfl))))) rfl, in_BlockBellsModel, ⟨by decide +kernel, by decide +kernel, by decide +kernel⟩, by decide⟩
theorem mc_yX7_isFree : gm_M yX7_isFree cX7_isFree 3 (some .boolean) 2 := ⟨tb_T (List.mem_append_right _ (List.mem_append_right _ (List.mem_append_right _ (List.mem_append_left _ (List.mem_of_getElem? (i := 170) rfl))))) rfl, in_BlockBellsModel, ⟨by decide +kernel, by decide +kernel, by decide +kernel⟩, by decide⟩
theorem mc_yX7_add : gm_M yX7_add cX7_add 4 (some .int) 2 := ⟨tb_T (List.mem_append_right _ (List.mem_append_right _ (List.mem_append_right _ (List.mem_append_left _ (List.mem_of_getElem? (i := 174) rfl))))) rfl, in_BlockBellsModel, ⟨by decide +kernel, by decide +kernel, by decide +kernel⟩, by decide⟩
theorem mc_yX7_layTrain : gm_M yX7_layTrain cX7_layTrain 4 none 3 := ⟨tb_T (List.mem_append_right _ (List.mem_append_right _ (List.mem_append_right _ (List.mem_append_left _ (List.mem_of_getElem? (i := 178) rfl))))) rfl, in_BlockBellsModel, ⟨by decide +kernel, by decide +kernel, by decide +kernel⟩, by decide⟩
theorem mc_yX7_train : gm_M yX7_train cX7_train 3 (some .int) 2 := ⟨tb_T (List.mem_append_right _ (List.mem_append_right _ (List.mem_append_right _ (List.mem_append_left _ (List.mem_of_getElem? (i := 182) rfl))))) rfl, in_BlockBellsModel, ⟨by decide +kernel, by decide +kernel, by decide +kernel⟩, by decide⟩
theorem mc_yX7_isTrain : gm_M yX7_isTrain cX7_isTrain 2 (some .boolean) 1 := ⟨tb_T (List.mem_append_right _ (List.mem_append_right _ (List.mem_append_right _ (List.mem_append_left _ (List.mem_of_getElem? (i := 186) rfl))))) rfl, in_BlockBellsModel, ⟨by decide +kernel, by decide +kernel, by decide +kernel⟩, by decide⟩
theorem mc_yX7_shunt : gm_M yX7_shunt cX7_shunt 4 (some .int) 1 := ⟨tb_T (List.mem_append_right _ (List.mem_append_right _ (List.mem_append_right _ (List.mem_append_left _ (List.mem_of_getElem? (i := 190) rfl))))) rfl, in_BlockBellsModel, ⟨by decide +kernel, by decide +kernel, by decide +kernel⟩, by decide⟩
theorem mc_yX7_canGoIn : gm_M yX7_canGoIn cX7_canGoIn 3 (some .boolean) 1 := ⟨tb_T (List.mem_append_right _ (List.mem_append_right _ (List.mem_append_right _ (List.mem_append_left _ (List.mem_of_getElem? (i := 194) rfl))))) rfl, in_BlockBellsModel, ⟨by decide +kernel, by decide +kernel, by decide +kernel⟩, by decide⟩
theorem mc_yX7_isOffered : gm_M yX7_isOffered cX7_isOffered 3 (some .boolean) 1 := ⟨tb_T (List.mem_append_right _ (List.mem_append_right _ (List.mem_append_right _ (List.mem_append_left _ (List.mem_of_getElem? (i := 198) rfl))))) rfl, in_BlockBellsModel, ⟨by decide +kernel, by decide +kernel, by decide +kernel⟩, by decide⟩
theorem mc_yX7_nextSection : gm_M yX7_nextSection cX7_nextSection 3 (some .int) 1 := ⟨tb_T (List.mem_append_right _ (List.mem_append_right _ (List.mem_append_right _ (List.mem_append_left _ (List.mem_of_getElem? (i := 202) rfl))))) rfl, in_BlockBellsModel, ⟨by decide +kernel, by decide +kernel, by decide +kernel⟩, by decide⟩
theorem mc_yX7_isClearFor : gm_M yX7_isClearFor cX7_isClearFor 4 (some .boolean) 1 := ⟨tb_T (List.mem_append_right _ (List.mem_append_right _ (List.mem_append_right _ (List.mem_append_left _ (List.mem_of_getElem? (i := 206) rfl))))) rfl, in_BlockBellsModel, ⟨by decide +kernel, by decide +kernel, by decide +kernel⟩, by decide⟩
theorem mc_yX7_isCalmBehind : gm_M yX7_isCalmBehind cX7_isCalmBehind 4 (some .boolean) 1 := ⟨tb_T (List.mem_append_right _ (List.mem_append_right _ (List.mem_append_right _ (List.mem_append_left _ (List.mem_of_getElem? (i := 210) rfl))))) rfl, in_BlockBellsModel, ⟨by decide +kernel, by decide +kernel, by decide +kernel⟩, by decide⟩
theorem mc_yX7_leave : gm_M yX7_leave cX7_leave 2 (some .int) 1 := ⟨tb_T (List.mem_append_right _ (List.mem_append_right _ (List.mem_append_right _ (List.mem_append_left _ (List.mem_of_getElem? (i := 214) rfl))))) rfl, in_BlockBellsModel, ⟨by decide +kernel, by decide +kernel, by decide +kernel⟩, by decide⟩
theorem mc_yX7_divide : gm_M yX7_divide cX7_divide 2 (some .int) 1 := ⟨tb_T (List.mem_append_right _ (List.mem_append_right _ (List.mem_append_right _ (List.mem_append_left _ (List.mem_of_getElem? (i := 218) rfl))))) rfl, in_BlockBellsModel, ⟨by decide +kernel, by decide +kernel, by decide +kernel⟩, by decide⟩
theorem mc_yX7_offer : gm_M yX7_offer cX7_offer 4 (some .int) 1 := ⟨tb_T (List.mem_append_right _ (List.mem_append_right _ (List.mem_append_right _ (List.mem_append_left _ (List.mem_of_getElem? (i := 222) rfl))))) rfl, in_BlockBellsModel, ⟨by decide +kernel, by decide +kernel, by decide +kernel⟩, by decide⟩
theorem mc_yX7_rear : gm_M yX7_rear cX7_rear 2 (some .int) 2 := ⟨tb_T (List.mem_append_right _ (List.mem_append_right _ (List.mem_append_right _ (List.mem_append_left _ (List.mem_of_getElem? (i := 225) rfl))))) rfl, in_BlockBellsModel, ⟨by decide +kernel, by decide +kernel, by decide +kernel⟩, by decide⟩
theorem mc_yX7_codeOf : gm_M yX7_codeOf cX7_codeOf 1 (some .int) 1 := ⟨tb_T (List.mem_append_right _ (List.mem_append_right _ (List.mem_append_right _ (List.mem_append_left _ (List.mem_of_getElem? (i := 228) rfl))))) rfl, in_BlockBellsModel, ⟨by decide +kernel, by decide +kernel, by decide +kernel⟩, by decide⟩
theorem mc_yX7_ring : gm_M yX7_ring cX7_ring 6 (some .int) 4 := ⟨tb_T (List.mem_append_right _ (List.mem_append_right _ (List.mem_append_right _ (List.mem_append_left _ (List.mem_of_getElem? (i := 232) rfl))))) rfl, in_BlockBellsModel, ⟨by decide +kernel, by decide +kernel, by decide +kernel⟩, by decide⟩
theorem mc_yX7_answer : gm_M yX7_answer cX7_answer 5 (some .int) 3 := ⟨tb_T (List.mem_append_right _ (List.mem_append_right _ (List.mem_append_right _ (List.mem_append_left _ (List.mem_of_getElem? (i := 236) rfl))))) rfl, in_BlockBellsModel, ⟨by decide +kernel, by decide +kernel, by decide +kernel⟩, by decide⟩
theorem mc_yX7_canAccept : gm_M yX7_canAccept cX7_canAccept 4 (some .boolean) 2 := ⟨tb_T (List.mem_append_right _ (List.mem_append_right _ (List.mem_append_right _ (List.mem_append_right _ (List.mem_of_getElem? (i := 0) rfl))))) rfl, in_BlockBellsModel, ⟨by decide +kernel, by decide +kernel, by decide +kernel⟩, by decide⟩
theorem mc_yX7_tokensAt : gm_M yX7_tokensAt cX7_tokensAt 2 (some .int) 2 := ⟨tb_T (List.mem_append_right _ (List.mem_append_right _ (List.mem_append_right _ (List.mem_append_right _ (List.mem_of_getElem? (i := 3) rfl))))) rfl, in_BlockBellsModel, ⟨by decide +kernel, by decide +kernel, by decide +kernel⟩, by decide⟩
theorem mc_yX7_ahead : gm_M yX7_ahead cX7_ahead 2 (some .int) 2 := ⟨tb_T (List.mem_append_right _ (List.mem_append_right _ (List.mem_append_right _ (List.mem_append_right _ (List.mem_of_getElem? (i := 6) rfl))))) rfl, in_BlockBellsModel, ⟨by decide +kernel, by decide +kernel, by decide +kernel⟩, by decide⟩
theorem mc_yX7_cancel : gm_M yX7_cancel cX7_cancel 4 (some .int) 2 := ⟨tb_T (List.mem_append_right _ (List.mem_append_right _ (List.mem_append_right _ (List.mem_append_right _ (List.mem_of_getElem? (i := 10) rfl))))) rfl, in_BlockBellsModel, ⟨by decide +kernel, by decide +kernel, by decide +kernel⟩, by decide⟩
theorem mc_yX7_unclear : gm_M yX7_unclear cX7_unclear 3 none 2 := ⟨tb_T (List.mem_append_right _ (List.mem_append_right _ (List.mem_append_right _ (List.mem_append_right _ (List.mem_of_getElem? (i := 14) rfl))))) rfl, in_BlockBellsModel, ⟨by decide +kernel, by decide +kernel, by decide +kernel⟩, by decide⟩
theorem mc_yX7_depart : gm_M yX7_depart cX7_depart 4 (some .int) 1 := ⟨tb_T (List.mem_append_right _ (List.mem_append_right _ (List.mem_append_right _ (List.mem_append_right _ (List.mem_of_getElem? (i := 18) rfl))))) rfl, in_BlockBellsModel, ⟨by decide +kernel, by decide +kernel, by decide +kernel⟩, by decide⟩
theorem mc_yX7_admit : gm_M yX7_admit cX7_admit 5 (some .int) 2 := ⟨tb_T (List.mem_append_right _ (List.mem_append_right _ (List.mem_append_right _ (List.mem_append_right _ (List.mem_of_getElem? (i := 22) rfl))))) rfl, in_BlockBellsModel, ⟨by decide +kernel, by decide +kernel, by decide +kernel⟩, by decide⟩
theorem mc_yX7_isInside : gm_M yX7_isInside cX7_isInside 4 (some .boolean) 2 := ⟨tb_T (List.mem_append_right _ (List.mem_append_right _ (List.mem_append_right _ (List.mem_append_right _ (List.mem_of_getElem? (i := 26) rfl))))) rfl, in_BlockBellsModel, ⟨by decide +kernel, by decide +kernel, by decide +kernel⟩, by decide⟩
theorem mc_yX7_out : gm_M yX7_out cX7_out 4 (some .int) 2 := ⟨tb_T (List.mem_append_right _ (List.mem_append_right _ (List.mem_append_right _ (List.mem_append_right _ (List.mem_of_getElem? (i := 30) rfl))))) rfl, in_BlockBellsModel, ⟨by decide +kernel, by decide +kernel, by decide +kernel⟩, by decide⟩
theorem mc_yX7_assist : gm_M yX7_assist cX7_assist 3 (some .int) 2 := ⟨tb_T (List.mem_append_right _ (List.mem_append_right _ (List.mem_append_right _ (List.mem_append_right _ (List.mem_of_getElem? (i := 34) rfl))))) rfl, in_BlockBellsModel, ⟨by decide +kernel, by decide +kernel, by decide +kernel⟩, by decide⟩
theorem mc_yX7_obstruct : gm_M yX7_obstruct cX7_obstruct 4 (some .int) 2 := ⟨tb_T (List.mem_append_right _ (List.mem_append_right _ (List.mem_append_right _ (List.mem_append_right _ (List.mem_of_getElem? (i := 38) rfl))))) rfl, in_BlockBellsModel, ⟨by decide +kernel, by decide +kernel, by decide +kernel⟩, by decide⟩
theorem mc_yX7_lift : gm_M yX7_lift cX7_lift 3 (some .int) 2 := ⟨tb_T (List.mem_append_right _ (List.mem_append_right _ (List.mem_append_right _ (List.mem_append_right _ (List.mem_of_getElem? (i := 42) rfl))))) rfl, in_BlockBellsModel, ⟨by decide +kernel, by decide +kernel, by decide +kernel⟩, by decide⟩
theorem mc_yX7_pass : gm_M yX7_pass cX7_pass 3 (some .int) 1 := ⟨tb_T (List.mem_append_right _ (List.mem_append_right _ (List.mem_append_right _ (List.mem_append_right _ (List.mem_of_getElem? (i := 46) rfl))))) rfl, in_BlockBellsModel, ⟨by decide +kernel, by decide +kernel, by decide +kernel⟩, by decide⟩
theorem mc_yX7_tick : gm_M yX7_tick cX7_tick 3 none 0 := ⟨tb_T (List.mem_append_right _ (List.mem_append_right _ (List.mem_append_right _ (List.mem_append_right _ (List.mem_of_getElem? (i := 51) rfl))))) rfl, in_BlockBellsModel, ⟨by decide +kernel, by decide +kernel, by decide +kernel⟩, by decide⟩
theorem mc_yX7_signal : gm_M yX7_signal cX7_signal 4 (some .int) 2 := ⟨tb_T (List.mem_append_right _ (List.mem_append_right _ (List.mem_append_right _ (List.mem_append_right _ (List.mem_of_getElem? (i := 55) rfl))))) rfl, in_BlockBellsModel, ⟨by decide +kernel, by decide +kernel, by decide +kernel⟩, by decide⟩
theorem mc_yX7_rung : gm_M yX7_rung cX7_rung 6 (some .int) 2 := ⟨tb_T (List.mem_append_right _ (List.mem_append_right _ (List.mem_append_right _ (List.mem_append_right _ (List.mem_of_getElem? (i := 59) rfl))))) rfl, in_BlockBellsModel, ⟨by decide +kernel, by decide +kernel, by decide +kernel⟩, by decide⟩
theorem mc_yX7_work : gm_M yX7_work cX7_work 4 (some .int) 1 := ⟨tb_T (List.mem_append_right _ (List.mem_append_right _ (List.mem_append_right _ (List.mem_append_right _ (List.mem_of_getElem? (i := 63) rfl))))) rfl, in_BlockBellsModel, ⟨by decide +kernel, by decide +kernel, by decide +kernel⟩, by decide⟩
theorem mc_yX7_trainsAt : gm_M yX7_trainsAt cX7_trainsAt 4 (some .int) 1 := ⟨tb_T (List.mem_append_right _ (List.mem_append_right _ (List.mem_append_right _ (List.mem_append_right _ (List.mem_of_getElem? (i := 67) rfl))))) rfl, in_BlockBellsModel, ⟨by decide +kernel, by decide +kernel, by decide +kernel⟩, by decide⟩
theorem mc_yX7_workTick : gm_M yX7_workTick cX7_workTick 1 none 0 := ⟨tb_T (List.mem_append_right _ (List.mem_append_right _ (List.mem_append_right _ (List.mem_append_right _ (List.mem_of_getElem? (i := 71) rfl))))) rfl, in_BlockBellsModel, ⟨by decide +kernel, by decide +kernel, by decide +kernel⟩, by decide⟩
theorem mc_yX7_workBlocks : gm_M yX7_workBlocks cX7_workBlocks 4 none 1 := ⟨tb_T (List.mem_append_right _ (List.mem_append_right _ (List.mem_append_right _ (List.mem_append_right _ (List.mem_of_getElem? (i := 75) rfl))))) rfl, in_BlockBellsModel, ⟨by decide +kernel, by decide +kernel, by decide +kernel⟩, by decide⟩
theorem mc_yX7_workTrains : gm_M yX7_workTrains cX7_workTrains 3 none 1 := ⟨tb_T (List.mem_append_right _ (List.mem_append_right _ (List.mem_append_right _ (List.mem_append_right _ (List.mem_of_getElem? (i := 83) rfl))))) rfl, in_BlockBellsModel, ⟨by decide +kernel, by decide +kernel, by decide +kernel⟩, by decide⟩
theorem mc_yX7_forecast : gm_M yX7_forecast cX7_forecast 5 (some .int) 2 := ⟨tb_T (List.mem_append_right _ (List.mem_append_right _ (List.mem_append_right _ (List.mem_append_right _ (List.mem_of_getElem? (i := 90) rfl))))) rfl, in_BlockBellsModel, ⟨by decide +kernel, by decide +kernel, by decide +kernel⟩, by decide⟩
theorem mc_yX7_putAside : gm_M yX7_putAside cX7_putAside 2 none 0 := ⟨tb_T (List.mem_append_right _ (List.mem_append_right _ (List.mem_append_right _ (List.mem_append_right _ (List.mem_of_getElem? (i := 94) rfl))))) rfl, in_BlockBellsModel, ⟨by decide +kernel, by decide +kernel, by decide +kernel⟩, by decide⟩
theorem mc_yX7_putBack : gm_M yX7_putBack cX7_putBack 2 none 0 := ⟨tb_T (List.mem_append_right _ (List.mem_append_right _ (List.mem_append_right _ (List.mem_append_right _ (List.mem_of_getElem? (i := 98) rfl))))) rfl, in_BlockBellsModel, ⟨by decide +kernel, by decide +kernel, by decide +kernel⟩, by decide⟩
theorem mc_yX7_capacity : gm_M yX7_capacity cX7_capacity 5 (some .int) 3 := ⟨tb_T (List.mem_append_right _ (List.mem_append_right _ (List.mem_append_right _ (List.mem_append_right _ (List.mem_of_getElem? (i := 102) rfl))))) rfl, in_BlockBellsModel, ⟨by decide +kernel, by decide +kernel, by decide +kernel⟩, by decide⟩
theorem mc_yX7_say : gm_M yX7_say cX7_say 2 (some .int) 1 := ⟨tb_T (List.mem_append_right _ (List.mem_append_right _ (List.mem_append_right _ (List.mem_append_right _ (List.mem_of_getElem? (i := 106) rfl))))) rfl, in_BlockBellsModel, ⟨by decide +kernel, by decide +kernel, by decide +kernel⟩, by decide⟩
theorem mc_yX7_wipe : gm_M yX7_wipe cX7_wipe 2 (some .int) 0 := ⟨tb_T (List.mem_append_right _ (List.mem_append_right _ (List.mem_append_right _ (List.mem_append_right _ (List.mem_of_getElem? (i := 110) rfl))))) rfl, in_BlockBellsModel, ⟨by decide +kernel, by decide +kernel, by decide +kernel⟩, by decide⟩
theorem mc_yX7_fault : gm_M yX7_fault cX7_fault 1 (some .int) 0 := ⟨tb_T (List.mem_append_right _ (List.mem_append_right _ (List.mem_append_right _ (List.mem_append_right _ (List.mem_of_getElem? (i := 114) rfl))))) rfl, in_BlockBellsModel, ⟨by decide +kernel, by decide +kernel, by decide +kernel⟩, by decide⟩
theorem mc_yX7_readOrder : gm_M yX7_readOrder cX7_readOrder 3 none 0 := ⟨tb_T (List.mem_append_right _ (List.mem_append_right _ (List.mem_append_right _ (List.mem_append_right _ (List.mem_of_getElem? (i := 118) rfl))))) rfl, in_BlockBellsModel, ⟨by decide +kernel, by decide +kernel, by decide +kernel⟩, by decide⟩
theorem mc_yX7_nextSign : gm_M yX7_nextSign cX7_nextSign 1 (some .int) 0 := ⟨tb_T (List.mem_append_right _ (List.mem_append_right _ (List.mem_append_right _ (List.mem_append_right _ (List.mem_of_getElem? (i := 122) rfl))))) rfl, in_BlockBellsModel, ⟨by decide +kernel, by decide +kernel, by decide +kernel⟩, by decide⟩
theorem mc_yX7_isForTrain : gm_M yX7_isForTrain cX7_isForTrain 1 (some .boolean) 1 := ⟨tb_T (List.mem_append_right _ (List.mem_append_right _ (List.mem_append_right _ (List.mem_append_right _ (List.mem_of_getElem? (i := 125) rfl))))) rfl, in_BlockBellsModel, ⟨by decide +kernel, by decide +kernel, by decide +kernel⟩, by decide⟩
theorem mc_yX7_isForBlock : gm_M yX7_isForBlock cX7_isForBlock 1 (some .boolean) 1 := ⟨tb_T (List.mem_append_right _ (List.mem_append_right _ (List.mem_append_right _ (List.mem_append_right _ (List.mem_of_getElem? (i := 128) rfl))))) rfl, in_BlockBellsModel, ⟨by decide +kernel, by decide +kernel, by decide +kernel⟩, by decide⟩
theorem mc_yX7_takeNumber : gm_M yX7_takeNumber cX7_takeNumber 4 (some .int) 2 := ⟨tb_T (List.mem_append_right _ (List.mem_append_right _ (List.mem_append_right _ (List.mem_append_right _ (List.mem_of_getElem? (i := 132) rfl))))) rfl, in_BlockBellsModel, ⟨by decide +kernel, by decide +kernel, by decide +kernel⟩, by decide⟩
theorem mc_yX7_takeSide : gm_M yX7_takeSide cX7_takeSide 1 (some .int) 0 := ⟨tb_T (List.mem_append_right _ (List.mem_append_right _ (List.mem_append_right _ (List.mem_append_right _ (List.mem_of_getElem? (i := 136) rfl))))) rfl, in_BlockBellsModel, ⟨by decide +kernel, by decide +kernel, by decide +kernel⟩, by decide⟩
theorem mc_yX7_carryOut : gm_M yX7_carryOut cX7_carryOut 2 (some .int) 0 := ⟨tb_T (List.mem_append_right _ (List.mem_append_right _ (List.mem_append_right _ (List.mem_append_right _ (List.mem_of_getElem? (i := 140) rfl))))) rfl, in_BlockBellsModel, ⟨by decide +kernel, by decide +kernel, by decide +kernel⟩, by decide⟩
theorem mc_yX7_carryOutOne : gm_M yX7_carryOutOne cX7_carryOutOne 4 (some .int) 3 := ⟨tb_T (List.mem_append_right _ (List.mem_append_right _ (List.mem_append_right _ (List.mem_append_right _ (List.mem_of_getElem? (i := 145) rfl))))) rfl, in_BlockBellsModel, ⟨by decide +kernel, by decide +kernel, by decide +kernel⟩, by decide⟩
theorem mc_yX7_count : gm_M yX7_count cX7_count 2 (some .int) 1 := ⟨tb_T (List.mem_append_right _ (List.mem_append_right _ (List.mem_append_right _ (List.mem_append_right _ (List.mem_of_getElem? (i := 152) rfl))))) rfl, in_BlockBellsModel, ⟨by decide +kernel, by decide +kernel, by decide +kernel⟩, by decide⟩
theorem mc_yX7_blocksWith : gm_M yX7_blocksWith cX7_blocksWith 5 (some .int) 1 := ⟨tb_T (List.mem_append_right _ (List.mem_append_right _ (List.mem_append_right _ (List.mem_append_right _ (List.mem_of_getElem? (i := 156) rfl))))) rfl, in_BlockBellsModel, ⟨by decide +kernel, by decide +kernel, by decide +kernel⟩, by decide⟩
theorem mc_yX7_save : gm_M yX7_save cX7_save 3 (some .int) 1 := ⟨tb_T (List.mem_append_right _ (List.mem_append_right _ (List.mem_append_right _ (List.mem_append_right _ (List.mem_of_getElem? (i := 160) rfl))))) rfl, in_BlockBellsModel, ⟨by decide +kernel, by decide +kernel, by decide +kernel⟩, by decide⟩
theorem mc_yX7_restore : gm_M yX7_restore cX7_restore 3 (some .int) 1 := ⟨tb_T (List.mem_append_right _ (List.mem_append_right _ (List.mem_append_right _ (List.mem_append_right _ (List.mem_of_getElem? (i := 164) rfl))))) rfl, in_BlockBellsModel, ⟨by decide +kernel, by decide +kernel, by decide +kernel⟩, by decide⟩
theorem iwX0 : ∀ w ∈ u_ws RX0 TX0 7, w ∈ TB := by
  intro w hw
  obtain ⟨j, hj, rfl⟩ := List.mem_map.mp hw
  have hj := List.mem_range.mp hj
  match j, hj with
  | 0, _ => exact (tb_T (List.mem_append_left _ (List.mem_of_getElem? (i := 83) rfl)) rfl : Cond.laysFinal RX0 "BlockBells$Block" "section" "LBlockBells$Section;" ∈ TB)
  | 1, _ => exact (tb_T (List.mem_append_left _ (List.mem_of_getElem? (i := 85) rfl)) rfl : Cond.laysFinal RX0 "BlockBells$Block" "direction" "I" ∈ TB)
  | 2, _ => exact (tb_T (List.mem_append_left _ (List.mem_of_getElem? (i := 87) rfl)) rfl : Cond.lays RX0 "BlockBells$Block" "state" "I" ∈ TB)
  | 3, _ => exact (tb_T (List.mem_append_left _ (List.mem_of_getElem? (i := 89) rfl)) rfl : Cond.lays RX0 "BlockBells$Block" "offered" "I" ∈ TB)
  | 4, _ => exact (tb_T (List.mem_append_left _ (List.mem_of_getElem? (i := 91) rfl)) rfl : Cond.lays RX0 "BlockBells$Block" "holder" "I" ∈ TB)
  | 5, _ => exact (tb_T (List.mem_append_left _ (List.mem_of_getElem? (i := 93) rfl)) rfl : Cond.lays RX0 "BlockBells$Block" "part" "Z" ∈ TB)
  | 6, _ => exact (tb_T (List.mem_append_left _ (List.mem_of_getElem? (i := 95) rfl)) rfl : Cond.lays RX0 "BlockBells$Block" "engineTicks" "I" ∈ TB)
  | j + 7, h => exact absurd h (by omega)
theorem iwX1 : ∀ w ∈ u_ws RX1 TX1 8, w ∈ TB := by
  intro w hw
  obtain ⟨j, hj, rfl⟩ := List.mem_map.mp hw
  have hj := List.mem_range.mp hj
  match j, hj with
  | 0, _ => exact (tb_T (List.mem_append_left _ (List.mem_of_getElem? (i := 185) rfl)) rfl : Cond.laysFinal RX1 "BlockBells$Line" "sections" "[LBlockBells$Section;" ∈ TB)
  | 1, _ => exact (tb_T (List.mem_append_left _ (List.mem_of_getElem? (i := 187) rfl)) rfl : Cond.laysFinal RX1 "BlockBells$Line" "blocks" "[LBlockBells$Block;" ∈ TB)
  | 2, _ => exact (tb_T (List.mem_append_left _ (List.mem_of_getElem? (i := 189) rfl)) rfl : Cond.laysFinal RX1 "BlockBells$Line" "trains" "[LBlockBells$Train;" ∈ TB)
  | 3, _ => exact (tb_T (List.mem_append_left _ (List.mem_of_getElem? (i := 191) rfl)) rfl : Cond.laysFinal RX1 "BlockBells$Line" "loops" "[I" ∈ TB)
  | 4, _ => exact (tb_T (List.mem_append_left _ (List.mem_of_getElem? (i := 193) rfl)) rfl : Cond.laysFinal RX1 "BlockBells$Line" "register" "LBlockBells$Register;" ∈ TB)
  | 5, _ => exact (tb_T (List.mem_append_left _ (List.mem_of_getElem? (i := 195) rfl)) rfl : Cond.lays RX1 "BlockBells$Line" "boxes" "I" ∈ TB)
  | 6, _ => exact (tb_T (List.mem_append_left _ (List.mem_of_getElem? (i := 197) rfl)) rfl : Cond.lays RX1 "BlockBells$Line" "appeared" "I" ∈ TB)
  | 7, _ => exact (tb_T (List.mem_append_left _ (List.mem_of_getElem? (i := 199) rfl)) rfl : Cond.lays RX1 "BlockBells$Line" "time" "I" ∈ TB)
  | j + 8, h => exact absurd h (by omega)
theorem iwX2 : ∀ w ∈ u_ws RX2 TX2 6, w ∈ TB := by
  intro w hw
  obtain ⟨j, hj, rfl⟩ := List.mem_map.mp hw
  have hj := List.mem_range.mp hj
  match j, hj with
  | 0, _ => exact (tb_T (List.mem_append_left _ (List.mem_of_getElem? (i := 219) rfl)) rfl : Cond.laysFinal RX2 "BlockBells$Pad" "signs" "[I" ∈ TB)
  | 1, _ => exact (tb_T (List.mem_append_left _ (List.mem_of_getElem? (i := 221) rfl)) rfl : Cond.lays RX2 "BlockBells$Pad" "length" "I" ∈ TB)
  | 2, _ => exact (tb_T (List.mem_append_left _ (List.mem_of_getElem? (i := 223) rfl)) rfl : Cond.lays RX2 "BlockBells$Pad" "at" "I" ∈ TB)
  | 3, _ => exact (tb_T (List.mem_append_left _ (List.mem_of_getElem? (i := 225) rfl)) rfl : Cond.lays RX2 "BlockBells$Pad" "letter" "I" ∈ TB)
  | 4, _ => exact (tb_T (List.mem_append_left _ (List.mem_of_getElem? (i := 227) rfl)) rfl : Cond.lays RX2 "BlockBells$Pad" "number" "I" ∈ TB)
  | 5, _ => exact (tb_T (List.mem_append_left _ (List.mem_of_getElem? (i := 229) rfl)) rfl : Cond.lays RX2 "BlockBells$Pad" "direction" "I" ∈ TB)
  | j + 6, h => exact absurd h (by omega)
theorem iwX3 : ∀ w ∈ u_ws RX3 TX3 2, w ∈ TB := by
  intro w hw
  obtain ⟨j, hj, rfl⟩ := List.mem_map.mp hw
  have hj := List.mem_range.mp hj
  match j, hj with
  | 0, _ => exact (tb_T (List.mem_append_left _ (List.mem_of_getElem? (i := 151) rfl)) rfl : Cond.laysFinal RX3 "BlockBells$Register" "rows" "[I" ∈ TB)
  | 1, _ => exact (tb_T (List.mem_append_left _ (List.mem_of_getElem? (i := 153) rfl)) rfl : Cond.lays RX3 "BlockBells$Register" "total" "I" ∈ TB)
  | j + 2, h => exact absurd h (by omega)
theorem iwX4 : ∀ w ∈ u_ws RX4 TX4 6, w ∈ TB := by
  intro w hw
  obtain ⟨j, hj, rfl⟩ := List.mem_map.mp hw
  have hj := List.mem_range.mp hj
  match j, hj with
  | 0, _ => exact (tb_T (List.mem_append_left _ (List.mem_of_getElem? (i := 49) rfl)) rfl : Cond.laysFinal RX4 "BlockBells$Section" "number" "I" ∈ TB)
  | 1, _ => exact (tb_T (List.mem_append_left _ (List.mem_of_getElem? (i := 51) rfl)) rfl : Cond.lays RX4 "BlockBells$Section" "single" "Z" ∈ TB)
  | 2, _ => exact (tb_T (List.mem_append_left _ (List.mem_of_getElem? (i := 53) rfl)) rfl : Cond.lays RX4 "BlockBells$Section" "runningTime" "I" ∈ TB)
  | 3, _ => exact (tb_T (List.mem_append_left _ (List.mem_of_getElem? (i := 55) rfl)) rfl : Cond.lays RX4 "BlockBells$Section" "lowerTokens" "I" ∈ TB)
  | 4, _ => exact (tb_T (List.mem_append_left _ (List.mem_of_getElem? (i := 57) rfl)) rfl : Cond.lays RX4 "BlockBells$Section" "higherTokens" "I" ∈ TB)
  | 5, _ => exact (tb_T (List.mem_append_left _ (List.mem_of_getElem? (i := 59) rfl)) rfl : Cond.lays RX4 "BlockBells$Section" "tokenOut" "Z" ∈ TB)
  | j + 6, h => exact absurd h (by omega)
theorem iwX5 : ∀ w ∈ u_ws RX5 TX5 9, w ∈ TB := by
  intro w hw
  obtain ⟨j, hj, rfl⟩ := List.mem_map.mp hw
  have hj := List.mem_range.mp hj
  match j, hj with
  | 0, _ => exact (tb_T (List.mem_append_left _ (List.mem_of_getElem? (i := 122) rfl)) rfl : Cond.laysFinal RX5 "BlockBells$Train" "number" "I" ∈ TB)
  | 1, _ => exact (tb_T (List.mem_append_left _ (List.mem_of_getElem? (i := 124) rfl)) rfl : Cond.lays RX5 "BlockBells$Train" "kind" "I" ∈ TB)
  | 2, _ => exact (tb_T (List.mem_append_left _ (List.mem_of_getElem? (i := 126) rfl)) rfl : Cond.lays RX5 "BlockBells$Train" "direction" "I" ∈ TB)
  | 3, _ => exact (tb_T (List.mem_append_left _ (List.mem_of_getElem? (i := 128) rfl)) rfl : Cond.lays RX5 "BlockBells$Train" "where" "I" ∈ TB)
  | 4, _ => exact (tb_T (List.mem_append_left _ (List.mem_of_getElem? (i := 130) rfl)) rfl : Cond.lays RX5 "BlockBells$Train" "place" "I" ∈ TB)
  | 5, _ => exact (tb_T (List.mem_append_left _ (List.mem_of_getElem? (i := 132) rfl)) rfl : Cond.lays RX5 "BlockBells$Train" "ticksLeft" "I" ∈ TB)
  | 6, _ => exact (tb_T (List.mem_append_left _ (List.mem_of_getElem? (i := 134) rfl)) rfl : Cond.lays RX5 "BlockBells$Train" "whole" "Z" ∈ TB)
  | 7, _ => exact (tb_T (List.mem_append_left _ (List.mem_of_getElem? (i := 136) rfl)) rfl : Cond.lays RX5 "BlockBells$Train" "appearedAt" "I" ∈ TB)
  | 8, _ => exact (tb_T (List.mem_append_left _ (List.mem_of_getElem? (i := 138) rfl)) rfl : Cond.lays RX5 "BlockBells$Train" "leftAt" "I" ∈ TB)
  | j + 9, h => exact absurd h (by omega)
theorem iwX6 : ∀ w ∈ u_ws RX6 TX6 5, w ∈ TB := by
  intro w hw
  obtain ⟨j, hj, rfl⟩ := List.mem_map.mp hw
  have hj := List.mem_range.mp hj
  match j, hj with
  | 0, _ => exact (tb_T (List.mem_append_left _ (List.mem_of_getElem? (i := 238) rfl)) rfl : Cond.laysFinal RX6 "BlockBells" "line" "LBlockBells$Line;" ∈ TB)
  | 1, _ => exact (tb_T (List.mem_append_right _ (List.mem_append_left _ (List.mem_of_getElem? (i := 0) rfl))) rfl : Cond.laysFinal RX6 "BlockBells" "trial" "LBlockBells$Line;" ∈ TB)
  | 2, _ => exact (tb_T (List.mem_append_right _ (List.mem_append_left _ (List.mem_of_getElem? (i := 2) rfl))) rfl : Cond.laysFinal RX6 "BlockBells" "slots" "[LBlockBells$Line;" ∈ TB)
  | 3, _ => exact (tb_T (List.mem_append_right _ (List.mem_append_left _ (List.mem_of_getElem? (i := 4) rfl))) rfl : Cond.laysFinal RX6 "BlockBells" "saved" "[Z" ∈ TB)
  | 4, _ => exact (tb_T (List.mem_append_right _ (List.mem_append_left _ (List.mem_of_getElem? (i := 6) rfl))) rfl : Cond.laysFinal RX6 "BlockBells" "pad" "LBlockBells$Pad;" ∈ TB)
  | j + 5, h => exact absurd h (by omega)
theorem iwX7 : ∀ w ∈ u_ws RX7 TX7 10, w ∈ TB := by
  intro w hw
  obtain ⟨j, hj, rfl⟩ := List.mem_map.mp hw
  have hj := List.mem_range.mp hj
  match j, hj with
  | 0, _ => exact (tb_T (List.mem_append_right _ (List.mem_append_right _ (List.mem_append_right _ (List.mem_append_left _ (List.mem_of_getElem? (i := 73) rfl))))) rfl : Cond.laysFinal RX7 "BlockBellsModel" "at" "[I" ∈ TB)
  | 1, _ => exact (tb_T (List.mem_append_right _ (List.mem_append_right _ (List.mem_append_right _ (List.mem_append_left _ (List.mem_of_getElem? (i := 75) rfl))))) rfl : Cond.laysFinal RX7 "BlockBellsModel" "aside" "[I" ∈ TB)
  | 2, _ => exact (tb_T (List.mem_append_right _ (List.mem_append_right _ (List.mem_append_right _ (List.mem_append_left _ (List.mem_of_getElem? (i := 77) rfl))))) rfl : Cond.laysFinal RX7 "BlockBellsModel" "slots" "[I" ∈ TB)
  | 3, _ => exact (tb_T (List.mem_append_right _ (List.mem_append_right _ (List.mem_append_right _ (List.mem_append_left _ (List.mem_of_getElem? (i := 79) rfl))))) rfl : Cond.laysFinal RX7 "BlockBellsModel" "isSaved" "[Z" ∈ TB)
  | 4, _ => exact (tb_T (List.mem_append_right _ (List.mem_append_right _ (List.mem_append_right _ (List.mem_append_left _ (List.mem_of_getElem? (i := 81) rfl))))) rfl : Cond.laysFinal RX7 "BlockBellsModel" "pad" "[I" ∈ TB)
  | 5, _ => exact (tb_T (List.mem_append_right _ (List.mem_append_right _ (List.mem_append_right _ (List.mem_append_left _ (List.mem_of_getElem? (i := 83) rfl))))) rfl : Cond.lays RX7 "BlockBellsModel" "padMany" "I" ∈ TB)
  | 6, _ => exact (tb_T (List.mem_append_right _ (List.mem_append_right _ (List.mem_append_right _ (List.mem_append_left _ (List.mem_of_getElem? (i := 85) rfl))))) rfl : Cond.lays RX7 "BlockBellsModel" "reading" "I" ∈ TB)
  | 7, _ => exact (tb_T (List.mem_append_right _ (List.mem_append_right _ (List.mem_append_right _ (List.mem_append_left _ (List.mem_of_getElem? (i := 87) rfl))))) rfl : Cond.lays RX7 "BlockBellsModel" "isWrong" "Z" ∈ TB)
  | 8, _ => exact (tb_T (List.mem_append_right _ (List.mem_append_right _ (List.mem_append_right _ (List.mem_append_left _ (List.mem_of_getElem? (i := 89) rfl))))) rfl : Cond.laysFinal RX7 "BlockBellsModel" "orders" "[I" ∈ TB)
  | 9, _ => exact (tb_T (List.mem_append_right _ (List.mem_append_right _ (List.mem_append_right _ (List.mem_append_left _ (List.mem_of_getElem? (i := 91) rfl))))) rfl : Cond.lays RX7 "BlockBellsModel" "orderMany" "I" ∈ TB)
  | j + 10, h => exact absurd h (by omega)
end
section
theorem gm_ip {P : Prop} [Decidable P] {α : Type} {A B : Option α} {r : α} (c : P) (h : (if P then A else B) = some r) : A = some r := by rwa [if_pos c] at h
theorem gm_iq {P : Prop} [Decidable P] {α : Type} {A B : Option α} {r : α} (c : ¬ P) (h : (if P then A else B) = some r) : B = some r := by rwa [if_neg c] at h
theorem gm_gd {P : Prop} [Decidable P] {α : Type} {B : Option α} {r : α} (h : (if P then none else B) = some r) : ¬ P ∧ B = some r := by
  by_cases c : P
  · rw [if_pos c] at h; cases h
  · rw [if_neg c] at h; exact ⟨c, h⟩
theorem gm_gp {P : Prop} [Decidable P] {α : Type} {B : Option α} {r : α} (h : (if P then B else none) = some r) : P ∧ B = some r := by
  by_cases c : P
  · rw [if_pos c] at h; exact ⟨c, h⟩
  · rw [if_neg c] at h; cases h
theorem gm_bd {α β : Type} {A : Option α} {f : α → Option β} {r : β} (h : A.bind f = some r) : ∃ a, A = some a ∧ f a = some r := Option.bind_eq_some_iff.mp h
/-- the two cases of an answer that may be null -/
def gm_el {β : Type} (o : Option Nat) (A : Option β) (B : Nat → Option β) : Option β := match o with
  | none => A
  | some t => B t
theorem gm_oc {β : Type} {o : Option Nat} {A : Option β} {B : Nat → Option β} {r : β} (h : gm_el o A B = some r) : (o = none ∧ A = some r) ∨ ∃ t, o = some t ∧ B t = some r := by
  cases o with
  | none => exact Or.inl ⟨rfl, h⟩
  | some t => exact Or.inr ⟨t, rfl, h⟩
theorem gm_lt {i : Int32} {m : Nat} (g : ¬ (i < 0 ∨ m ≤ i.toNatClampNeg)) : i.toNatClampNeg < m := Nat.lt_of_not_le fun q => g (Or.inr q)
theorem gm_s2 {i : Int32} (g : ¬ (i < 0 ∨ 2 ≤ i.toNatClampNeg)) : i.toNatClampNeg + 2 < 4 := by have := gm_lt g; omega
theorem gm_h2 {j : Nat} (h : j < 10) : j / 2 < 5 := by omega
theorem gm_l0 {l : Nat} (h : l < 4) : gm_len l 0 = 12 := by simp [gm_len, h]
theorem gm_l1 {l : Nat} (h : l < 4) : gm_len l 1 = 300 := by simp [gm_len, h]
theorem gm_zn {v : Int32} (h : v = 0 ∨ v = 1) : narrow .boolean (.int v) = .int v := by rcases h with rfl | rfl <;> rfl
theorem gm_zf {v : Int32} (h : v = 0 ∨ v = 1) : fits .boolean (.int v) = true := by rcases h with rfl | rfl <;> rfl
theorem gm_zv {v : Int32} (h : v = 0 ∨ v = 1) : vp_nar .boolean v = v := by rcases h with rfl | rfl <;> rfl
section
variable {x : gm_Cx} {cc : ByteArray} {nL : Nat} {own : String} {ret : Option FieldType} {rk : Nat} {G G1 : Gm} {pc : Nat} {lv : List (Nat × Value)} {st st0 : List Value}
  {y : MethodName} {bytes : ByteArray} {mL : Nat} {rt : Option FieldType} {kn k' idx : Nat} {As : List Value}
theorem gf_0_0 (C : gm_X x cc nL own ret rk) {b c : Nat} (hid : (0, b, c) ∈ gm_ids) (hlk : Cond.fieldLink own idx "BlockBells$Block" "section" "LBlockBells$Section;" ∈ TB) (d : decode cc pc = .ok (.getfield idx, 3)) (n : Nat) (hn : pc + 3 = n) (k : gm_V x G n lv (.ref (gm_ad (cx_w x) 4 b (c / 2)) :: st)) : gm_V x G pc lv (.ref (gm_ad (cx_w x) 0 b c) :: st) := gv_getf (ci := 0) (i := 0) (T := TX0) (N := 7) C hid rfl rfl iwX0 (by decide) rfl hlk d n hn k
theorem gf_0_1 (C : gm_X x cc nL own ret rk) {b c : Nat} (hid : (0, b, c) ∈ gm_ids) (hlk : Cond.fieldLink own idx "BlockBells$Block" "direction" "I" ∈ TB) (d : decode cc pc = .ok (.getfield idx, 3)) (n : Nat) (hn : pc + 3 = n) (k : gm_V x G n lv (.int (nI (c % 2)) :: st)) : gm_V x G pc lv (.ref (gm_ad (cx_w x) 0 b c) :: st) := gv_getf (ci := 0) (i := 1) (T := TX0) (N := 7) C hid rfl rfl iwX0 (by decide) rfl hlk d n hn k
theorem gf_0_2 (C : gm_X x cc nL own ret rk) {b c : Nat} (hid : (0, b, c) ∈ gm_ids) (hlk : Cond.fieldLink own idx "BlockBells$Block" "state" "I" ∈ TB) (d : decode cc pc = .ok (.getfield idx, 3)) (n : Nat) (hn : pc + 3 = n) (k : gm_V x G n lv (.int (G 0 b c 2) :: st)) : gm_V x G pc lv (.ref (gm_ad (cx_w x) 0 b c) :: st) := gv_getf (ci := 0) (i := 2) (T := TX0) (N := 7) C hid rfl rfl iwX0 (by decide) rfl hlk d n hn k
theorem pf_0_2 (C : gm_X x cc nL own ret rk) {b c : Nat} {v : Int32} (hid : (0, b, c) ∈ gm_ids) (hlk : Cond.fieldLink own idx "BlockBells$Block" "state" "I" ∈ TB) (d : decode cc pc = .ok (.putfield idx, 3)) (n : Nat) (hn : pc + 3 = n) (k : gm_V x (gm_up G 0 b c 2 v) n lv st) : gm_V x G pc lv (.int v :: .ref (gm_ad (cx_w x) 0 b c) :: st) := gv_putf (fs := []) (ci := 0) (i := 2) (T := TX0) (N := 7) C hid (fun g => ⟨_, rfl, Nat.le_of_ble_eq_true rfl, rfl⟩) rfl iwX0 tyX0 tyX0_ok nmX0 (by decide) rfl rfl rfl rfl hlk d n hn k
theorem gf_0_3 (C : gm_X x cc nL own ret rk) {b c : Nat} (hid : (0, b, c) ∈ gm_ids) (hlk : Cond.fieldLink own idx "BlockBells$Block" "offered" "I" ∈ TB) (d : decode cc pc = .ok (.getfield idx, 3)) (n : Nat) (hn : pc + 3 = n) (k : gm_V x G n lv (.int (G 0 b c 3) :: st)) : gm_V x G pc lv (.ref (gm_ad (cx_w x) 0 b c) :: st) := gv_getf (ci := 0) (i := 3) (T := TX0) (N := 7) C hid rfl rfl iwX0 (by decide) rfl hlk d n hn k
theorem pf_0_3 (C : gm_X x cc nL own ret rk) {b c : Nat} {v : Int32} (hid : (0, b, c) ∈ gm_ids) (hlk : Cond.fieldLink own idx "BlockBells$Block" "offered" "I" ∈ TB) (d : decode cc pc = .ok (.putfield idx, 3)) (n : Nat) (hn : pc + 3 = n) (k : gm_V x (gm_up G 0 b c 3 v) n lv st) : gm_V x G pc lv (.int v :: .ref (gm_ad (cx_w x) 0 b c) :: st) := gv_putf (fs := []) (ci := 0) (i := 3) (T := TX0) (N := 7) C hid (fun g => ⟨_, rfl, Nat.le_of_ble_eq_true rfl, rfl⟩) rfl iwX0 tyX0 tyX0_ok nmX0 (by decide) rfl rfl rfl rfl hlk d n hn k
theorem gf_0_4 (C : gm_X x cc nL own ret rk) {b c : Nat} (hid : (0, b, c) ∈ gm_ids) (hlk : Cond.fieldLink own idx "BlockBells$Block" "holder" "I" ∈ TB) (d : decode cc pc = .ok (.getfield idx, 3)) (n : Nat) (hn : pc + 3 = n) (k : gm_V x G n lv (.int (G 0 b c 4) :: st)) : gm_V x G pc lv (.ref (gm_ad (cx_w x) 0 b c) :: st) := gv_getf (ci := 0) (i := 4) (T := TX0) (N := 7) C hid rfl rfl iwX0 (by decide) rfl hlk d n hn k
theorem pf_0_4 (C : gm_X x cc nL own ret rk) {b c : Nat} {v : Int32} (hid : (0, b, c) ∈ gm_ids) (hlk : Cond.fieldLink own idx "BlockBells$Block" "holder" "I" ∈ TB) (d : decode cc pc = .ok (.putfield idx, 3)) (n : Nat) (hn : pc + 3 = n) (k : gm_V x (gm_up G 0 b c 4 v) n lv st) : gm_V x G pc lv (.int v :: .ref (gm_ad (cx_w x) 0 b c) :: st) := gv_putf (fs := []) (ci := 0) (i := 4) (T := TX0) (N := 7) C hid (fun g => ⟨_, rfl, Nat.le_of_ble_eq_true rfl, rfl⟩) rfl iwX0 tyX0 tyX0_ok nmX0 (by decide) rfl rfl rfl rfl hlk d n hn k
theorem gf_0_5 (C : gm_X x cc nL own ret rk) {b c : Nat} (hid : (0, b, c) ∈ gm_ids) (hlk : Cond.fieldLink own idx "BlockBells$Block" "part" "Z" ∈ TB) (d : decode cc pc = .ok (.getfield idx, 3)) (n : Nat) (hn : pc + 3 = n) (k : gm_V x G n lv (.int (G 0 b c 5) :: st)) : gm_V x G pc lv (.ref (gm_ad (cx_w x) 0 b c) :: st) := gv_getf (ci := 0) (i := 5) (T := TX0) (N := 7) C hid rfl rfl iwX0 (by decide) rfl hlk d n hn k
theorem pf_0_5 (C : gm_X x cc nL own ret rk) {b c : Nat} {v : Int32} (hid : (0, b, c) ∈ gm_ids) (hz : v = 0 ∨ v = 1) (hlk : Cond.fieldLink own idx "BlockBells$Block" "part" "Z" ∈ TB) (d : decode cc pc = .ok (.putfield idx, 3)) (n : Nat) (hn : pc + 3 = n) (k : gm_V x (gm_up G 0 b c 5 v) n lv st) : gm_V x G pc lv (.int v :: .ref (gm_ad (cx_w x) 0 b c) :: st) := gv_putf (fs := []) (ci := 0) (i := 5) (T := TX0) (N := 7) C hid (fun g => ⟨_, rfl, Nat.le_of_ble_eq_true rfl, rfl⟩) rfl iwX0 tyX0 tyX0_ok nmX0 (by decide) rfl rfl (gm_zn hz) (gm_zf hz) hlk d n hn k
theorem gf_0_6 (C : gm_X x cc nL own ret rk) {b c : Nat} (hid : (0, b, c) ∈ gm_ids) (hlk : Cond.fieldLink own idx "BlockBells$Block" "engineTicks" "I" ∈ TB) (d : decode cc pc = .ok (.getfield idx, 3)) (n : Nat) (hn : pc + 3 = n) (k : gm_V x G n lv (.int (G 0 b c 6) :: st)) : gm_V x G pc lv (.ref (gm_ad (cx_w x) 0 b c) :: st) := gv_getf (ci := 0) (i := 6) (T := TX0) (N := 7) C hid rfl rfl iwX0 (by decide) rfl hlk d n hn k
theorem pf_0_6 (C : gm_X x cc nL own ret rk) {b c : Nat} {v : Int32} (hid : (0, b, c) ∈ gm_ids) (hlk : Cond.fieldLink own idx "BlockBells$Block" "engineTicks" "I" ∈ TB) (d : decode cc pc = .ok (.putfield idx, 3)) (n : Nat) (hn : pc + 3 = n) (k : gm_V x (gm_up G 0 b c 6 v) n lv st) : gm_V x G pc lv (.int v :: .ref (gm_ad (cx_w x) 0 b c) :: st) := gv_putf (fs := []) (ci := 0) (i := 6) (T := TX0) (N := 7) C hid (fun g => ⟨_, rfl, Nat.le_of_ble_eq_true rfl, rfl⟩) rfl iwX0 tyX0 tyX0_ok nmX0 (by decide) rfl rfl rfl rfl hlk d n hn k
theorem gf_1_0 (C : gm_X x cc nL own ret rk) {b c : Nat} (hid : (1, b, c) ∈ gm_ids) (hlk : Cond.fieldLink own idx "BlockBells$Line" "sections" "[LBlockBells$Section;" ∈ TB) (d : decode cc pc = .ok (.getfield idx, 3)) (n : Nat) (hn : pc + 3 = n) (k : gm_V x G n lv (.ref (gm_ad (cx_w x) 12 b 0) :: st)) : gm_V x G pc lv (.ref (gm_ad (cx_w x) 1 b c) :: st) := gv_getf (ci := 1) (i := 0) (T := TX1) (N := 8) C hid rfl rfl iwX1 (by decide) rfl hlk d n hn k
theorem gf_1_1 (C : gm_X x cc nL own ret rk) {b c : Nat} (hid : (1, b, c) ∈ gm_ids) (hlk : Cond.fieldLink own idx "BlockBells$Line" "blocks" "[LBlockBells$Block;" ∈ TB) (d : decode cc pc = .ok (.getfield idx, 3)) (n : Nat) (hn : pc + 3 = n) (k : gm_V x G n lv (.ref (gm_ad (cx_w x) 10 b 0) :: st)) : gm_V x G pc lv (.ref (gm_ad (cx_w x) 1 b c) :: st) := gv_getf (ci := 1) (i := 1) (T := TX1) (N := 8) C hid rfl rfl iwX1 (by decide) rfl hlk d n hn k
theorem gf_1_2 (C : gm_X x cc nL own ret rk) {b c : Nat} (hid : (1, b, c) ∈ gm_ids) (hlk : Cond.fieldLink own idx "BlockBells$Line" "trains" "[LBlockBells$Train;" ∈ TB) (d : decode cc pc = .ok (.getfield idx, 3)) (n : Nat) (hn : pc + 3 = n) (k : gm_V x G n lv (.ref (gm_ad (cx_w x) 13 b 0) :: st)) : gm_V x G pc lv (.ref (gm_ad (cx_w x) 1 b c) :: st) := gv_getf (ci := 1) (i := 2) (T := TX1) (N := 8) C hid rfl rfl iwX1 (by decide) rfl hlk d n hn k
theorem gf_1_3 (C : gm_X x cc nL own ret rk) {b c : Nat} (hid : (1, b, c) ∈ gm_ids) (hlk : Cond.fieldLink own idx "BlockBells$Line" "loops" "[I" ∈ TB) (d : decode cc pc = .ok (.getfield idx, 3)) (n : Nat) (hn : pc + 3 = n) (k : gm_V x G n lv (.ref (gm_ad (cx_w x) 8 b 0) :: st)) : gm_V x G pc lv (.ref (gm_ad (cx_w x) 1 b c) :: st) := gv_getf (ci := 1) (i := 3) (T := TX1) (N := 8) C hid rfl rfl iwX1 (by decide) rfl hlk d n hn k
theorem gf_1_4 (C : gm_X x cc nL own ret rk) {b c : Nat} (hid : (1, b, c) ∈ gm_ids) (hlk : Cond.fieldLink own idx "BlockBells$Line" "register" "LBlockBells$Register;" ∈ TB) (d : decode cc pc = .ok (.getfield idx, 3)) (n : Nat) (hn : pc + 3 = n) (k : gm_V x G n lv (.ref (gm_ad (cx_w x) 3 b 0) :: st)) : gm_V x G pc lv (.ref (gm_ad (cx_w x) 1 b c) :: st) := gv_getf (ci := 1) (i := 4) (T := TX1) (N := 8) C hid rfl rfl iwX1 (by decide) rfl hlk d n hn k
theorem gf_1_5 (C : gm_X x cc nL own ret rk) {b c : Nat} (hid : (1, b, c) ∈ gm_ids) (hlk : Cond.fieldLink own idx "BlockBells$Line" "boxes" "I" ∈ TB) (d : decode cc pc = .ok (.getfield idx, 3)) (n : Nat) (hn : pc + 3 = n) (k : gm_V x G n lv (.int (G 1 b c 5) :: st)) : gm_V x G pc lv (.ref (gm_ad (cx_w x) 1 b c) :: st) := gv_getf (ci := 1) (i := 5) (T := TX1) (N := 8) C hid rfl rfl iwX1 (by decide) rfl hlk d n hn k
theorem pf_1_5 (C : gm_X x cc nL own ret rk) {b c : Nat} {v : Int32} (hid : (1, b, c) ∈ gm_ids) (hlk : Cond.fieldLink own idx "BlockBells$Line" "boxes" "I" ∈ TB) (d : decode cc pc = .ok (.putfield idx, 3)) (n : Nat) (hn : pc + 3 = n) (k : gm_V x (gm_up G 1 b c 5 v) n lv st) : gm_V x G pc lv (.int v :: .ref (gm_ad (cx_w x) 1 b c) :: st) := gv_putf (fs := []) (ci := 1) (i := 5) (T := TX1) (N := 8) C hid (fun g => ⟨_, rfl, Nat.le_of_ble_eq_true rfl, rfl⟩) rfl iwX1 tyX1 tyX1_ok nmX1 (by decide) rfl rfl rfl rfl hlk d n hn k
theorem gf_1_6 (C : gm_X x cc nL own ret rk) {b c : Nat} (hid : (1, b, c) ∈ gm_ids) (hlk : Cond.fieldLink own idx "BlockBells$Line" "appeared" "I" ∈ TB) (d : decode cc pc = .ok (.getfield idx, 3)) (n : Nat) (hn : pc + 3 = n) (k : gm_V x G n lv (.int (G 1 b c 6) :: st)) : gm_V x G pc lv (.ref (gm_ad (cx_w x) 1 b c) :: st) := gv_getf (ci := 1) (i := 6) (T := TX1) (N := 8) C hid rfl rfl iwX1 (by decide) rfl hlk d n hn k
theorem pf_1_6 (C : gm_X x cc nL own ret rk) {b c : Nat} {v : Int32} (hid : (1, b, c) ∈ gm_ids) (hlk : Cond.fieldLink own idx "BlockBells$Line" "appeared" "I" ∈ TB) (d : decode cc pc = .ok (.putfield idx, 3)) (n : Nat) (hn : pc + 3 = n) (k : gm_V x (gm_up G 1 b c 6 v) n lv st) : gm_V x G pc lv (.int v :: .ref (gm_ad (cx_w x) 1 b c) :: st) := gv_putf (fs := []) (ci := 1) (i := 6) (T := TX1) (N := 8) C hid (fun g => ⟨_, rfl, Nat.le_of_ble_eq_true rfl, rfl⟩) rfl iwX1 tyX1 tyX1_ok nmX1 (by decide) rfl rfl rfl rfl hlk d n hn k
theorem gf_1_7 (C : gm_X x cc nL own ret rk) {b c : Nat} (hid : (1, b, c) ∈ gm_ids) (hlk : Cond.fieldLink own idx "BlockBells$Line" "time" "I" ∈ TB) (d : decode cc pc = .ok (.getfield idx, 3)) (n : Nat) (hn : pc + 3 = n) (k : gm_V x G n lv (.int (G 1 b c 7) :: st)) : gm_V x G pc lv (.ref (gm_ad (cx_w x) 1 b c) :: st) := gv_getf (ci := 1) (i := 7) (T := TX1) (N := 8) C hid rfl rfl iwX1 (by decide) rfl hlk d n hn k
theorem pf_1_7 (C : gm_X x cc nL own ret rk) {b c : Nat} {v : Int32} (hid : (1, b, c) ∈ gm_ids) (hlk : Cond.fieldLink own idx "BlockBells$Line" "time" "I" ∈ TB) (d : decode cc pc = .ok (.putfield idx, 3)) (n : Nat) (hn : pc + 3 = n) (k : gm_V x (gm_up G 1 b c 7 v) n lv st) : gm_V x G pc lv (.int v :: .ref (gm_ad (cx_w x) 1 b c) :: st) := gv_putf (fs := []) (ci := 1) (i := 7) (T := TX1) (N := 8) C hid (fun g => ⟨_, rfl, Nat.le_of_ble_eq_true rfl, rfl⟩) rfl iwX1 tyX1 tyX1_ok nmX1 (by decide) rfl rfl rfl rfl hlk d n hn k
theorem gf_2_0 (C : gm_X x cc nL own ret rk) {b c : Nat} (hid : (2, b, c) ∈ gm_ids) (hlk : Cond.fieldLink own idx "BlockBells$Pad" "signs" "[I" ∈ TB) (d : decode cc pc = .ok (.getfield idx, 3)) (n : Nat) (hn : pc + 3 = n) (k : gm_V x G n lv (.ref (gm_ad (cx_w x) 8 4 0) :: st)) : gm_V x G pc lv (.ref (gm_ad (cx_w x) 2 b c) :: st) := gv_getf (ci := 2) (i := 0) (T := TX2) (N := 6) C hid rfl rfl iwX2 (by decide) rfl hlk d n hn k
theorem gf_2_1 (C : gm_X x cc nL own ret rk) {b c : Nat} (hid : (2, b, c) ∈ gm_ids) (hlk : Cond.fieldLink own idx "BlockBells$Pad" "length" "I" ∈ TB) (d : decode cc pc = .ok (.getfield idx, 3)) (n : Nat) (hn : pc + 3 = n) (k : gm_V x G n lv (.int (G 2 b c 1) :: st)) : gm_V x G pc lv (.ref (gm_ad (cx_w x) 2 b c) :: st) := gv_getf (ci := 2) (i := 1) (T := TX2) (N := 6) C hid rfl rfl iwX2 (by decide) rfl hlk d n hn k
theorem pf_2_1 (C : gm_X x cc nL own ret rk) {b c : Nat} {v : Int32} (hid : (2, b, c) ∈ gm_ids) (hlk : Cond.fieldLink own idx "BlockBells$Pad" "length" "I" ∈ TB) (d : decode cc pc = .ok (.putfield idx, 3)) (n : Nat) (hn : pc + 3 = n) (k : gm_V x (gm_up G 2 b c 1 v) n lv st) : gm_V x G pc lv (.int v :: .ref (gm_ad (cx_w x) 2 b c) :: st) := gv_putf (fs := []) (ci := 2) (i := 1) (T := TX2) (N := 6) C hid (fun g => ⟨_, rfl, Nat.le_of_ble_eq_true rfl, rfl⟩) rfl iwX2 tyX2 tyX2_ok nmX2 (by decide) rfl rfl rfl rfl hlk d n hn k
theorem gf_2_2 (C : gm_X x cc nL own ret rk) {b c : Nat} (hid : (2, b, c) ∈ gm_ids) (hlk : Cond.fieldLink own idx "BlockBells$Pad" "at" "I" ∈ TB) (d : decode cc pc = .ok (.getfield idx, 3)) (n : Nat) (hn : pc + 3 = n) (k : gm_V x G n lv (.int (G 2 b c 2) :: st)) : gm_V x G pc lv (.ref (gm_ad (cx_w x) 2 b c) :: st) := gv_getf (ci := 2) (i := 2) (T := TX2) (N := 6) C hid rfl rfl iwX2 (by decide) rfl hlk d n hn k
theorem pf_2_2 (C : gm_X x cc nL own ret rk) {b c : Nat} {v : Int32} (hid : (2, b, c) ∈ gm_ids) (hlk : Cond.fieldLink own idx "BlockBells$Pad" "at" "I" ∈ TB) (d : decode cc pc = .ok (.putfield idx, 3)) (n : Nat) (hn : pc + 3 = n) (k : gm_V x (gm_up G 2 b c 2 v) n lv st) : gm_V x G pc lv (.int v :: .ref (gm_ad (cx_w x) 2 b c) :: st) := gv_putf (fs := []) (ci := 2) (i := 2) (T := TX2) (N := 6) C hid (fun g => ⟨_, rfl, Nat.le_of_ble_eq_true rfl, rfl⟩) rfl iwX2 tyX2 tyX2_ok nmX2 (by decide) rfl rfl rfl rfl hlk d n hn k
theorem gf_2_3 (C : gm_X x cc nL own ret rk) {b c : Nat} (hid : (2, b, c) ∈ gm_ids) (hlk : Cond.fieldLink own idx "BlockBells$Pad" "letter" "I" ∈ TB) (d : decode cc pc = .ok (.getfield idx, 3)) (n : Nat) (hn : pc + 3 = n) (k : gm_V x G n lv (.int (G 2 b c 3) :: st)) : gm_V x G pc lv (.ref (gm_ad (cx_w x) 2 b c) :: st) := gv_getf (ci := 2) (i := 3) (T := TX2) (N := 6) C hid rfl rfl iwX2 (by decide) rfl hlk d n hn k
theorem pf_2_3 (C : gm_X x cc nL own ret rk) {b c : Nat} {v : Int32} (hid : (2, b, c) ∈ gm_ids) (hlk : Cond.fieldLink own idx "BlockBells$Pad" "letter" "I" ∈ TB) (d : decode cc pc = .ok (.putfield idx, 3)) (n : Nat) (hn : pc + 3 = n) (k : gm_V x (gm_up G 2 b c 3 v) n lv st) : gm_V x G pc lv (.int v :: .ref (gm_ad (cx_w x) 2 b c) :: st) := gv_putf (fs := []) (ci := 2) (i := 3) (T := TX2) (N := 6) C hid (fun g => ⟨_, rfl, Nat.le_of_ble_eq_true rfl, rfl⟩) rfl iwX2 tyX2 tyX2_ok nmX2 (by decide) rfl rfl rfl rfl hlk d n hn k
theorem gf_2_4 (C : gm_X x cc nL own ret rk) {b c : Nat} (hid : (2, b, c) ∈ gm_ids) (hlk : Cond.fieldLink own idx "BlockBells$Pad" "number" "I" ∈ TB) (d : decode cc pc = .ok (.getfield idx, 3)) (n : Nat) (hn : pc + 3 = n) (k : gm_V x G n lv (.int (G 2 b c 4) :: st)) : gm_V x G pc lv (.ref (gm_ad (cx_w x) 2 b c) :: st) := gv_getf (ci := 2) (i := 4) (T := TX2) (N := 6) C hid rfl rfl iwX2 (by decide) rfl hlk d n hn k
theorem pf_2_4 (C : gm_X x cc nL own ret rk) {b c : Nat} {v : Int32} (hid : (2, b, c) ∈ gm_ids) (hlk : Cond.fieldLink own idx "BlockBells$Pad" "number" "I" ∈ TB) (d : decode cc pc = .ok (.putfield idx, 3)) (n : Nat) (hn : pc + 3 = n) (k : gm_V x (gm_up G 2 b c 4 v) n lv st) : gm_V x G pc lv (.int v :: .ref (gm_ad (cx_w x) 2 b c) :: st) := gv_putf (fs := []) (ci := 2) (i := 4) (T := TX2) (N := 6) C hid (fun g => ⟨_, rfl, Nat.le_of_ble_eq_true rfl, rfl⟩) rfl iwX2 tyX2 tyX2_ok nmX2 (by decide) rfl rfl rfl rfl hlk d n hn k
theorem gf_2_5 (C : gm_X x cc nL own ret rk) {b c : Nat} (hid : (2, b, c) ∈ gm_ids) (hlk : Cond.fieldLink own idx "BlockBells$Pad" "direction" "I" ∈ TB) (d : decode cc pc = .ok (.getfield idx, 3)) (n : Nat) (hn : pc + 3 = n) (k : gm_V x G n lv (.int (G 2 b c 5) :: st)) : gm_V x G pc lv (.ref (gm_ad (cx_w x) 2 b c) :: st) := gv_getf (ci := 2) (i := 5) (T := TX2) (N := 6) C hid rfl rfl iwX2 (by decide) rfl hlk d n hn k
theorem pf_2_5 (C : gm_X x cc nL own ret rk) {b c : Nat} {v : Int32} (hid : (2, b, c) ∈ gm_ids) (hlk : Cond.fieldLink own idx "BlockBells$Pad" "direction" "I" ∈ TB) (d : decode cc pc = .ok (.putfield idx, 3)) (n : Nat) (hn : pc + 3 = n) (k : gm_V x (gm_up G 2 b c 5 v) n lv st) : gm_V x G pc lv (.int v :: .ref (gm_ad (cx_w x) 2 b c) :: st) := gv_putf (fs := []) (ci := 2) (i := 5) (T := TX2) (N := 6) C hid (fun g => ⟨_, rfl, Nat.le_of_ble_eq_true rfl, rfl⟩) rfl iwX2 tyX2 tyX2_ok nmX2 (by decide) rfl rfl rfl rfl hlk d n hn k
theorem gf_3_0 (C : gm_X x cc nL own ret rk) {b c : Nat} (hid : (3, b, c) ∈ gm_ids) (hlk : Cond.fieldLink own idx "BlockBells$Register" "rows" "[I" ∈ TB) (d : decode cc pc = .ok (.getfield idx, 3)) (n : Nat) (hn : pc + 3 = n) (k : gm_V x G n lv (.ref (gm_ad (cx_w x) 8 b 1) :: st)) : gm_V x G pc lv (.ref (gm_ad (cx_w x) 3 b c) :: st) := gv_getf (ci := 3) (i := 0) (T := TX3) (N := 2) C hid rfl rfl iwX3 (by decide) rfl hlk d n hn k
theorem gf_3_1 (C : gm_X x cc nL own ret rk) {b c : Nat} (hid : (3, b, c) ∈ gm_ids) (hlk : Cond.fieldLink own idx "BlockBells$Register" "total" "I" ∈ TB) (d : decode cc pc = .ok (.getfield idx, 3)) (n : Nat) (hn : pc + 3 = n) (k : gm_V x G n lv (.int (G 3 b c 1) :: st)) : gm_V x G pc lv (.ref (gm_ad (cx_w x) 3 b c) :: st) := gv_getf (ci := 3) (i := 1) (T := TX3) (N := 2) C hid rfl rfl iwX3 (by decide) rfl hlk d n hn k
theorem pf_3_1 (C : gm_X x cc nL own ret rk) {b c : Nat} {v : Int32} (hid : (3, b, c) ∈ gm_ids) (hlk : Cond.fieldLink own idx "BlockBells$Register" "total" "I" ∈ TB) (d : decode cc pc = .ok (.putfield idx, 3)) (n : Nat) (hn : pc + 3 = n) (k : gm_V x (gm_up G 3 b c 1 v) n lv st) : gm_V x G pc lv (.int v :: .ref (gm_ad (cx_w x) 3 b c) :: st) := gv_putf (fs := []) (ci := 3) (i := 1) (T := TX3) (N := 2) C hid (fun g => ⟨_, rfl, Nat.le_of_ble_eq_true rfl, rfl⟩) rfl iwX3 tyX3 tyX3_ok nmX3 (by decide) rfl rfl rfl rfl hlk d n hn k
theorem gf_4_0 (C : gm_X x cc nL own ret rk) {b c : Nat} (hid : (4, b, c) ∈ gm_ids) (hlk : Cond.fieldLink own idx "BlockBells$Section" "number" "I" ∈ TB) (d : decode cc pc = .ok (.getfield idx, 3)) (n : Nat) (hn : pc + 3 = n) (k : gm_V x G n lv (.int (nI c) :: st)) : gm_V x G pc lv (.ref (gm_ad (cx_w x) 4 b c) :: st) := gv_getf (ci := 4) (i := 0) (T := TX4) (N := 6) C hid rfl rfl iwX4 (by decide) rfl hlk d n hn k
theorem gf_4_1 (C : gm_X x cc nL own ret rk) {b c : Nat} (hid : (4, b, c) ∈ gm_ids) (hlk : Cond.fieldLink own idx "BlockBells$Section" "single" "Z" ∈ TB) (d : decode cc pc = .ok (.getfield idx, 3)) (n : Nat) (hn : pc + 3 = n) (k : gm_V x G n lv (.int (G 4 b c 1) :: st)) : gm_V x G pc lv (.ref (gm_ad (cx_w x) 4 b c) :: st) := gv_getf (ci := 4) (i := 1) (T := TX4) (N := 6) C hid rfl rfl iwX4 (by decide) rfl hlk d n hn k
theorem pf_4_1 (C : gm_X x cc nL own ret rk) {b c : Nat} {v : Int32} (hid : (4, b, c) ∈ gm_ids) (hz : v = 0 ∨ v = 1) (hlk : Cond.fieldLink own idx "BlockBells$Section" "single" "Z" ∈ TB) (d : decode cc pc = .ok (.putfield idx, 3)) (n : Nat) (hn : pc + 3 = n) (k : gm_V x (gm_up G 4 b c 1 v) n lv st) : gm_V x G pc lv (.int v :: .ref (gm_ad (cx_w x) 4 b c) :: st) := gv_putf (fs := []) (ci := 4) (i := 1) (T := TX4) (N := 6) C hid (fun g => ⟨_, rfl, Nat.le_of_ble_eq_true rfl, rfl⟩) rfl iwX4 tyX4 tyX4_ok nmX4 (by decide) rfl rfl (gm_zn hz) (gm_zf hz) hlk d n hn k
theorem gf_4_2 (C : gm_X x cc nL own ret rk) {b c : Nat} (hid : (4, b, c) ∈ gm_ids) (hlk : Cond.fieldLink own idx "BlockBells$Section" "runningTime" "I" ∈ TB) (d : decode cc pc = .ok (.getfield idx, 3)) (n : Nat) (hn : pc + 3 = n) (k : gm_V x G n lv (.int (G 4 b c 2) :: st)) : gm_V x G pc lv (.ref (gm_ad (cx_w x) 4 b c) :: st) := gv_getf (ci := 4) (i := 2) (T := TX4) (N := 6) C hid rfl rfl iwX4 (by decide) rfl hlk d n hn k
theorem pf_4_2 (C : gm_X x cc nL own ret rk) {b c : Nat} {v : Int32} (hid : (4, b, c) ∈ gm_ids) (hlk : Cond.fieldLink own idx "BlockBells$Section" "runningTime" "I" ∈ TB) (d : decode cc pc = .ok (.putfield idx, 3)) (n : Nat) (hn : pc + 3 = n) (k : gm_V x (gm_up G 4 b c 2 v) n lv st) : gm_V x G pc lv (.int v :: .ref (gm_ad (cx_w x) 4 b c) :: st) := gv_putf (fs := []) (ci := 4) (i := 2) (T := TX4) (N := 6) C hid (fun g => ⟨_, rfl, Nat.le_of_ble_eq_true rfl, rfl⟩) rfl iwX4 tyX4 tyX4_ok nmX4 (by decide) rfl rfl rfl rfl hlk d n hn k
theorem gf_4_3 (C : gm_X x cc nL own ret rk) {b c : Nat} (hid : (4, b, c) ∈ gm_ids) (hlk : Cond.fieldLink own idx "BlockBells$Section" "lowerTokens" "I" ∈ TB) (d : decode cc pc = .ok (.getfield idx, 3)) (n : Nat) (hn : pc + 3 = n) (k : gm_V x G n lv (.int (G 4 b c 3) :: st)) : gm_V x G pc lv (.ref (gm_ad (cx_w x) 4 b c) :: st) := gv_getf (ci := 4) (i := 3) (T := TX4) (N := 6) C hid rfl rfl iwX4 (by decide) rfl hlk d n hn k
theorem pf_4_3 (C : gm_X x cc nL own ret rk) {b c : Nat} {v : Int32} (hid : (4, b, c) ∈ gm_ids) (hlk : Cond.fieldLink own idx "BlockBells$Section" "lowerTokens" "I" ∈ TB) (d : decode cc pc = .ok (.putfield idx, 3)) (n : Nat) (hn : pc + 3 = n) (k : gm_V x (gm_up G 4 b c 3 v) n lv st) : gm_V x G pc lv (.int v :: .ref (gm_ad (cx_w x) 4 b c) :: st) := gv_putf (fs := []) (ci := 4) (i := 3) (T := TX4) (N := 6) C hid (fun g => ⟨_, rfl, Nat.le_of_ble_eq_true rfl, rfl⟩) rfl iwX4 tyX4 tyX4_ok nmX4 (by decide) rfl rfl rfl rfl hlk d n hn k
theorem gf_4_4 (C : gm_X x cc nL own ret rk) {b c : Nat} (hid : (4, b, c) ∈ gm_ids) (hlk : Cond.fieldLink own idx "BlockBells$Section" "higherTokens" "I" ∈ TB) (d : decode cc pc = .ok (.getfield idx, 3)) (n : Nat) (hn : pc + 3 = n) (k : gm_V x G n lv (.int (G 4 b c 4) :: st)) : gm_V x G pc lv (.ref (gm_ad (cx_w x) 4 b c) :: st) := gv_getf (ci := 4) (i := 4) (T := TX4) (N := 6) C hid rfl rfl iwX4 (by decide) rfl hlk d n hn k
theorem pf_4_4 (C : gm_X x cc nL own ret rk) {b c : Nat} {v : Int32} (hid : (4, b, c) ∈ gm_ids) (hlk : Cond.fieldLink own idx "BlockBells$Section" "higherTokens" "I" ∈ TB) (d : decode cc pc = .ok (.putfield idx, 3)) (n : Nat) (hn : pc + 3 = n) (k : gm_V x (gm_up G 4 b c 4 v) n lv st) : gm_V x G pc lv (.int v :: .ref (gm_ad (cx_w x) 4 b c) :: st) := gv_putf (fs := []) (ci := 4) (i := 4) (T := TX4) (N := 6) C hid (fun g => ⟨_, rfl, Nat.le_of_ble_eq_true rfl, rfl⟩) rfl iwX4 tyX4 tyX4_ok nmX4 (by decide) rfl rfl rfl rfl hlk d n hn k
theorem gf_4_5 (C : gm_X x cc nL own ret rk) {b c : Nat} (hid : (4, b, c) ∈ gm_ids) (hlk : Cond.fieldLink own idx "BlockBells$Section" "tokenOut" "Z" ∈ TB) (d : decode cc pc = .ok (.getfield idx, 3)) (n : Nat) (hn : pc + 3 = n) (k : gm_V x G n lv (.int (G 4 b c 5) :: st)) : gm_V x G pc lv (.ref (gm_ad (cx_w x) 4 b c) :: st) := gv_getf (ci := 4) (i := 5) (T := TX4) (N := 6) C hid rfl rfl iwX4 (by decide) rfl hlk d n hn k
theorem pf_4_5 (C : gm_X x cc nL own ret rk) {b c : Nat} {v : Int32} (hid : (4, b, c) ∈ gm_ids) (hz : v = 0 ∨ v = 1) (hlk : Cond.fieldLink own idx "BlockBells$Section" "tokenOut" "Z" ∈ TB) (d : decode cc pc = .ok (.putfield idx, 3)) (n : Nat) (hn : pc + 3 = n) (k : gm_V x (gm_up G 4 b c 5 v) n lv st) : gm_V x G pc lv (.int v :: .ref (gm_ad (cx_w x) 4 b c) :: st) := gv_putf (fs := []) (ci := 4) (i := 5) (T := TX4) (N := 6) C hid (fun g => ⟨_, rfl, Nat.le_of_ble_eq_true rfl, rfl⟩) rfl iwX4 tyX4 tyX4_ok nmX4 (by decide) rfl rfl (gm_zn hz) (gm_zf hz) hlk d n hn k
theorem gf_5_0 (C : gm_X x cc nL own ret rk) {b c : Nat} (hid : (5, b, c) ∈ gm_ids) (hlk : Cond.fieldLink own idx "BlockBells$Train" "number" "I" ∈ TB) (d : decode cc pc = .ok (.getfield idx, 3)) (n : Nat) (hn : pc + 3 = n) (k : gm_V x G n lv (.int (nI c) :: st)) : gm_V x G pc lv (.ref (gm_ad (cx_w x) 5 b c) :: st) := gv_getf (ci := 5) (i := 0) (T := TX5) (N := 9) C hid rfl rfl iwX5 (by decide) rfl hlk d n hn k
theorem gf_5_1 (C : gm_X x cc nL own ret rk) {b c : Nat} (hid : (5, b, c) ∈ gm_ids) (hlk : Cond.fieldLink own idx "BlockBells$Train" "kind" "I" ∈ TB) (d : decode cc pc = .ok (.getfield idx, 3)) (n : Nat) (hn : pc + 3 = n) (k : gm_V x G n lv (.int (G 5 b c 1) :: st)) : gm_V x G pc lv (.ref (gm_ad (cx_w x) 5 b c) :: st) := gv_getf (ci := 5) (i := 1) (T := TX5) (N := 9) C hid rfl rfl iwX5 (by decide) rfl hlk d n hn k
theorem pf_5_1 (C : gm_X x cc nL own ret rk) {b c : Nat} {v : Int32} (hid : (5, b, c) ∈ gm_ids) (hlk : Cond.fieldLink own idx "BlockBells$Train" "kind" "I" ∈ TB) (d : decode cc pc = .ok (.putfield idx, 3)) (n : Nat) (hn : pc + 3 = n) (k : gm_V x (gm_up G 5 b c 1 v) n lv st) : gm_V x G pc lv (.int v :: .ref (gm_ad (cx_w x) 5 b c) :: st) := gv_putf (fs := []) (ci := 5) (i := 1) (T := TX5) (N := 9) C hid (fun g => ⟨_, rfl, Nat.le_of_ble_eq_true rfl, rfl⟩) rfl iwX5 tyX5 tyX5_ok nmX5 (by decide) rfl rfl rfl rfl hlk d n hn k
theorem gf_5_2 (C : gm_X x cc nL own ret rk) {b c : Nat} (hid : (5, b, c) ∈ gm_ids) (hlk : Cond.fieldLink own idx "BlockBells$Train" "direction" "I" ∈ TB) (d : decode cc pc = .ok (.getfield idx, 3)) (n : Nat) (hn : pc + 3 = n) (k : gm_V x G n lv (.int (G 5 b c 2) :: st)) : gm_V x G pc lv (.ref (gm_ad (cx_w x) 5 b c) :: st) := gv_getf (ci := 5) (i := 2) (T := TX5) (N := 9) C hid rfl rfl iwX5 (by decide) rfl hlk d n hn k
theorem pf_5_2 (C : gm_X x cc nL own ret rk) {b c : Nat} {v : Int32} (hid : (5, b, c) ∈ gm_ids) (hlk : Cond.fieldLink own idx "BlockBells$Train" "direction" "I" ∈ TB) (d : decode cc pc = .ok (.putfield idx, 3)) (n : Nat) (hn : pc + 3 = n) (k : gm_V x (gm_up G 5 b c 2 v) n lv st) : gm_V x G pc lv (.int v :: .ref (gm_ad (cx_w x) 5 b c) :: st) := gv_putf (fs := []) (ci := 5) (i := 2) (T := TX5) (N := 9) C hid (fun g => ⟨_, rfl, Nat.le_of_ble_eq_true rfl, rfl⟩) rfl iwX5 tyX5 tyX5_ok nmX5 (by decide) rfl rfl rfl rfl hlk d n hn k
theorem gf_5_3 (C : gm_X x cc nL own ret rk) {b c : Nat} (hid : (5, b, c) ∈ gm_ids) (hlk : Cond.fieldLink own idx "BlockBells$Train" "where" "I" ∈ TB) (d : decode cc pc = .ok (.getfield idx, 3)) (n : Nat) (hn : pc + 3 = n) (k : gm_V x G n lv (.int (G 5 b c 3) :: st)) : gm_V x G pc lv (.ref (gm_ad (cx_w x) 5 b c) :: st) := gv_getf (ci := 5) (i := 3) (T := TX5) (N := 9) C hid rfl rfl iwX5 (by decide) rfl hlk d n hn k
theorem pf_5_3 (C : gm_X x cc nL own ret rk) {b c : Nat} {v : Int32} (hid : (5, b, c) ∈ gm_ids) (hlk : Cond.fieldLink own idx "BlockBells$Train" "where" "I" ∈ TB) (d : decode cc pc = .ok (.putfield idx, 3)) (n : Nat) (hn : pc + 3 = n) (k : gm_V x (gm_up G 5 b c 3 v) n lv st) : gm_V x G pc lv (.int v :: .ref (gm_ad (cx_w x) 5 b c) :: st) := gv_putf (fs := []) (ci := 5) (i := 3) (T := TX5) (N := 9) C hid (fun g => ⟨_, rfl, Nat.le_of_ble_eq_true rfl, rfl⟩) rfl iwX5 tyX5 tyX5_ok nmX5 (by decide) rfl rfl rfl rfl hlk d n hn k
theorem gf_5_4 (C : gm_X x cc nL own ret rk) {b c : Nat} (hid : (5, b, c) ∈ gm_ids) (hlk : Cond.fieldLink own idx "BlockBells$Train" "place" "I" ∈ TB) (d : decode cc pc = .ok (.getfield idx, 3)) (n : Nat) (hn : pc + 3 = n) (k : gm_V x G n lv (.int (G 5 b c 4) :: st)) : gm_V x G pc lv (.ref (gm_ad (cx_w x) 5 b c) :: st) := gv_getf (ci := 5) (i := 4) (T := TX5) (N := 9) C hid rfl rfl iwX5 (by decide) rfl hlk d n hn k
theorem pf_5_4 (C : gm_X x cc nL own ret rk) {b c : Nat} {v : Int32} (hid : (5, b, c) ∈ gm_ids) (hlk : Cond.fieldLink own idx "BlockBells$Train" "place" "I" ∈ TB) (d : decode cc pc = .ok (.putfield idx, 3)) (n : Nat) (hn : pc + 3 = n) (k : gm_V x (gm_up G 5 b c 4 v) n lv st) : gm_V x G pc lv (.int v :: .ref (gm_ad (cx_w x) 5 b c) :: st) := gv_putf (fs := []) (ci := 5) (i := 4) (T := TX5) (N := 9) C hid (fun g => ⟨_, rfl, Nat.le_of_ble_eq_true rfl, rfl⟩) rfl iwX5 tyX5 tyX5_ok nmX5 (by decide) rfl rfl rfl rfl hlk d n hn k
theorem gf_5_5 (C : gm_X x cc nL own ret rk) {b c : Nat} (hid : (5, b, c) ∈ gm_ids) (hlk : Cond.fieldLink own idx "BlockBells$Train" "ticksLeft" "I" ∈ TB) (d : decode cc pc = .ok (.getfield idx, 3)) (n : Nat) (hn : pc + 3 = n) (k : gm_V x G n lv (.int (G 5 b c 5) :: st)) : gm_V x G pc lv (.ref (gm_ad (cx_w x) 5 b c) :: st) := gv_getf (ci := 5) (i := 5) (T := TX5) (N := 9) C hid rfl rfl iwX5 (by decide) rfl hlk d n hn k
theorem pf_5_5 (C : gm_X x cc nL own ret rk) {b c : Nat} {v : Int32} (hid : (5, b, c) ∈ gm_ids) (hlk : Cond.fieldLink own idx "BlockBells$Train" "ticksLeft" "I" ∈ TB) (d : decode cc pc = .ok (.putfield idx, 3)) (n : Nat) (hn : pc + 3 = n) (k : gm_V x (gm_up G 5 b c 5 v) n lv st) : gm_V x G pc lv (.int v :: .ref (gm_ad (cx_w x) 5 b c) :: st) := gv_putf (fs := []) (ci := 5) (i := 5) (T := TX5) (N := 9) C hid (fun g => ⟨_, rfl, Nat.le_of_ble_eq_true rfl, rfl⟩) rfl iwX5 tyX5 tyX5_ok nmX5 (by decide) rfl rfl rfl rfl hlk d n hn k
theorem gf_5_6 (C : gm_X x cc nL own ret rk) {b c : Nat} (hid : (5, b, c) ∈ gm_ids) (hlk : Cond.fieldLink own idx "BlockBells$Train" "whole" "Z" ∈ TB) (d : decode cc pc = .ok (.getfield idx, 3)) (n : Nat) (hn : pc + 3 = n) (k : gm_V x G n lv (.int (G 5 b c 6) :: st)) : gm_V x G pc lv (.ref (gm_ad (cx_w x) 5 b c) :: st) := gv_getf (ci := 5) (i := 6) (T := TX5) (N := 9) C hid rfl rfl iwX5 (by decide) rfl hlk d n hn k
theorem pf_5_6 (C : gm_X x cc nL own ret rk) {b c : Nat} {v : Int32} (hid : (5, b, c) ∈ gm_ids) (hz : v = 0 ∨ v = 1) (hlk : Cond.fieldLink own idx "BlockBells$Train" "whole" "Z" ∈ TB) (d : decode cc pc = .ok (.putfield idx, 3)) (n : Nat) (hn : pc + 3 = n) (k : gm_V x (gm_up G 5 b c 6 v) n lv st) : gm_V x G pc lv (.int v :: .ref (gm_ad (cx_w x) 5 b c) :: st) := gv_putf (fs := []) (ci := 5) (i := 6) (T := TX5) (N := 9) C hid (fun g => ⟨_, rfl, Nat.le_of_ble_eq_true rfl, rfl⟩) rfl iwX5 tyX5 tyX5_ok nmX5 (by decide) rfl rfl (gm_zn hz) (gm_zf hz) hlk d n hn k
theorem gf_5_7 (C : gm_X x cc nL own ret rk) {b c : Nat} (hid : (5, b, c) ∈ gm_ids) (hlk : Cond.fieldLink own idx "BlockBells$Train" "appearedAt" "I" ∈ TB) (d : decode cc pc = .ok (.getfield idx, 3)) (n : Nat) (hn : pc + 3 = n) (k : gm_V x G n lv (.int (G 5 b c 7) :: st)) : gm_V x G pc lv (.ref (gm_ad (cx_w x) 5 b c) :: st) := gv_getf (ci := 5) (i := 7) (T := TX5) (N := 9) C hid rfl rfl iwX5 (by decide) rfl hlk d n hn k
theorem pf_5_7 (C : gm_X x cc nL own ret rk) {b c : Nat} {v : Int32} (hid : (5, b, c) ∈ gm_ids) (hlk : Cond.fieldLink own idx "BlockBells$Train" "appearedAt" "I" ∈ TB) (d : decode cc pc = .ok (.putfield idx, 3)) (n : Nat) (hn : pc + 3 = n) (k : gm_V x (gm_up G 5 b c 7 v) n lv st) : gm_V x G pc lv (.int v :: .ref (gm_ad (cx_w x) 5 b c) :: st) := gv_putf (fs := []) (ci := 5) (i := 7) (T := TX5) (N := 9) C hid (fun g => ⟨_, rfl, Nat.le_of_ble_eq_true rfl, rfl⟩) rfl iwX5 tyX5 tyX5_ok nmX5 (by decide) rfl rfl rfl rfl hlk d n hn k
theorem gf_5_8 (C : gm_X x cc nL own ret rk) {b c : Nat} (hid : (5, b, c) ∈ gm_ids) (hlk : Cond.fieldLink own idx "BlockBells$Train" "leftAt" "I" ∈ TB) (d : decode cc pc = .ok (.getfield idx, 3)) (n : Nat) (hn : pc + 3 = n) (k : gm_V x G n lv (.int (G 5 b c 8) :: st)) : gm_V x G pc lv (.ref (gm_ad (cx_w x) 5 b c) :: st) := gv_getf (ci := 5) (i := 8) (T := TX5) (N := 9) C hid rfl rfl iwX5 (by decide) rfl hlk d n hn k
theorem pf_5_8 (C : gm_X x cc nL own ret rk) {b c : Nat} {v : Int32} (hid : (5, b, c) ∈ gm_ids) (hlk : Cond.fieldLink own idx "BlockBells$Train" "leftAt" "I" ∈ TB) (d : decode cc pc = .ok (.putfield idx, 3)) (n : Nat) (hn : pc + 3 = n) (k : gm_V x (gm_up G 5 b c 8 v) n lv st) : gm_V x G pc lv (.int v :: .ref (gm_ad (cx_w x) 5 b c) :: st) := gv_putf (fs := []) (ci := 5) (i := 8) (T := TX5) (N := 9) C hid (fun g => ⟨_, rfl, Nat.le_of_ble_eq_true rfl, rfl⟩) rfl iwX5 tyX5 tyX5_ok nmX5 (by decide) rfl rfl rfl rfl hlk d n hn k
theorem gf_6_0 (C : gm_X x cc nL own ret rk) {b c : Nat} (hid : (6, b, c) ∈ gm_ids) (hlk : Cond.fieldLink own idx "BlockBells" "line" "LBlockBells$Line;" ∈ TB) (d : decode cc pc = .ok (.getfield idx, 3)) (n : Nat) (hn : pc + 3 = n) (k : gm_V x G n lv (.ref (gm_ad (cx_w x) 1 0 0) :: st)) : gm_V x G pc lv (.ref (gm_ad (cx_w x) 6 b c) :: st) := gv_getf (ci := 6) (i := 0) (T := TX6) (N := 5) C hid rfl rfl iwX6 (by decide) rfl hlk d n hn k
theorem gf_6_1 (C : gm_X x cc nL own ret rk) {b c : Nat} (hid : (6, b, c) ∈ gm_ids) (hlk : Cond.fieldLink own idx "BlockBells" "trial" "LBlockBells$Line;" ∈ TB) (d : decode cc pc = .ok (.getfield idx, 3)) (n : Nat) (hn : pc + 3 = n) (k : gm_V x G n lv (.ref (gm_ad (cx_w x) 1 1 0) :: st)) : gm_V x G pc lv (.ref (gm_ad (cx_w x) 6 b c) :: st) := gv_getf (ci := 6) (i := 1) (T := TX6) (N := 5) C hid rfl rfl iwX6 (by decide) rfl hlk d n hn k
theorem gf_6_2 (C : gm_X x cc nL own ret rk) {b c : Nat} (hid : (6, b, c) ∈ gm_ids) (hlk : Cond.fieldLink own idx "BlockBells" "slots" "[LBlockBells$Line;" ∈ TB) (d : decode cc pc = .ok (.getfield idx, 3)) (n : Nat) (hn : pc + 3 = n) (k : gm_V x G n lv (.ref (gm_ad (cx_w x) 11 4 0) :: st)) : gm_V x G pc lv (.ref (gm_ad (cx_w x) 6 b c) :: st) := gv_getf (ci := 6) (i := 2) (T := TX6) (N := 5) C hid rfl rfl iwX6 (by decide) rfl hlk d n hn k
theorem gf_6_3 (C : gm_X x cc nL own ret rk) {b c : Nat} (hid : (6, b, c) ∈ gm_ids) (hlk : Cond.fieldLink own idx "BlockBells" "saved" "[Z" ∈ TB) (d : decode cc pc = .ok (.getfield idx, 3)) (n : Nat) (hn : pc + 3 = n) (k : gm_V x G n lv (.ref (gm_ad (cx_w x) 9 4 0) :: st)) : gm_V x G pc lv (.ref (gm_ad (cx_w x) 6 b c) :: st) := gv_getf (ci := 6) (i := 3) (T := TX6) (N := 5) C hid rfl rfl iwX6 (by decide) rfl hlk d n hn k
theorem gf_6_4 (C : gm_X x cc nL own ret rk) {b c : Nat} (hid : (6, b, c) ∈ gm_ids) (hlk : Cond.fieldLink own idx "BlockBells" "pad" "LBlockBells$Pad;" ∈ TB) (d : decode cc pc = .ok (.getfield idx, 3)) (n : Nat) (hn : pc + 3 = n) (k : gm_V x G n lv (.ref (gm_ad (cx_w x) 2 4 0) :: st)) : gm_V x G pc lv (.ref (gm_ad (cx_w x) 6 b c) :: st) := gv_getf (ci := 6) (i := 4) (T := TX6) (N := 5) C hid rfl rfl iwX6 (by decide) rfl hlk d n hn k
theorem gf_7_0 (C : gm_X x cc nL own ret rk) {b c : Nat} (hid : (7, b, c) ∈ gm_ids) (hlk : Cond.fieldLink own idx "BlockBellsModel" "at" "[I" ∈ TB) (d : decode cc pc = .ok (.getfield idx, 3)) (n : Nat) (hn : pc + 3 = n) (k : gm_V x G n lv (.ref (gm_ad (cx_w x) 8 5 0) :: st)) : gm_V x G pc lv (.ref (gm_ad (cx_w x) 7 b c) :: st) := gv_getf (ci := 7) (i := 0) (T := TX7) (N := 10) C hid rfl rfl iwX7 (by decide) rfl hlk d n hn k
theorem gf_7_1 (C : gm_X x cc nL own ret rk) {b c : Nat} (hid : (7, b, c) ∈ gm_ids) (hlk : Cond.fieldLink own idx "BlockBellsModel" "aside" "[I" ∈ TB) (d : decode cc pc = .ok (.getfield idx, 3)) (n : Nat) (hn : pc + 3 = n) (k : gm_V x G n lv (.ref (gm_ad (cx_w x) 8 5 1) :: st)) : gm_V x G pc lv (.ref (gm_ad (cx_w x) 7 b c) :: st) := gv_getf (ci := 7) (i := 1) (T := TX7) (N := 10) C hid rfl rfl iwX7 (by decide) rfl hlk d n hn k
theorem gf_7_2 (C : gm_X x cc nL own ret rk) {b c : Nat} (hid : (7, b, c) ∈ gm_ids) (hlk : Cond.fieldLink own idx "BlockBellsModel" "slots" "[I" ∈ TB) (d : decode cc pc = .ok (.getfield idx, 3)) (n : Nat) (hn : pc + 3 = n) (k : gm_V x G n lv (.ref (gm_ad (cx_w x) 8 5 2) :: st)) : gm_V x G pc lv (.ref (gm_ad (cx_w x) 7 b c) :: st) := gv_getf (ci := 7) (i := 2) (T := TX7) (N := 10) C hid rfl rfl iwX7 (by decide) rfl hlk d n hn k
theorem gf_7_3 (C : gm_X x cc nL own ret rk) {b c : Nat} (hid : (7, b, c) ∈ gm_ids) (hlk : Cond.fieldLink own idx "BlockBellsModel" "isSaved" "[Z" ∈ TB) (d : decode cc pc = .ok (.getfield idx, 3)) (n : Nat) (hn : pc + 3 = n) (k : gm_V x G n lv (.ref (gm_ad (cx_w x) 9 5 0) :: st)) : gm_V x G pc lv (.ref (gm_ad (cx_w x) 7 b c) :: st) := gv_getf (ci := 7) (i := 3) (T := TX7) (N := 10) C hid rfl rfl iwX7 (by decide) rfl hlk d n hn k
theorem gf_7_4 (C : gm_X x cc nL own ret rk) {b c : Nat} (hid : (7, b, c) ∈ gm_ids) (hlk : Cond.fieldLink own idx "BlockBellsModel" "pad" "[I" ∈ TB) (d : decode cc pc = .ok (.getfield idx, 3)) (n : Nat) (hn : pc + 3 = n) (k : gm_V x G n lv (.ref (gm_ad (cx_w x) 8 5 3) :: st)) : gm_V x G pc lv (.ref (gm_ad (cx_w x) 7 b c) :: st) := gv_getf (ci := 7) (i := 4) (T := TX7) (N := 10) C hid rfl rfl iwX7 (by decide) rfl hlk d n hn k
theorem gf_7_5 (C : gm_X x cc nL own ret rk) {b c : Nat} (hid : (7, b, c) ∈ gm_ids) (hlk : Cond.fieldLink own idx "BlockBellsModel" "padMany" "I" ∈ TB) (d : decode cc pc = .ok (.getfield idx, 3)) (n : Nat) (hn : pc + 3 = n) (k : gm_V x G n lv (.int (G 7 b c 5) :: st)) : gm_V x G pc lv (.ref (gm_ad (cx_w x) 7 b c) :: st) := gv_getf (ci := 7) (i := 5) (T := TX7) (N := 10) C hid rfl rfl iwX7 (by decide) rfl hlk d n hn k
theorem pf_7_5 (C : gm_X x cc nL own ret rk) {b c : Nat} {v : Int32} (hid : (7, b, c) ∈ gm_ids) (hlk : Cond.fieldLink own idx "BlockBellsModel" "padMany" "I" ∈ TB) (d : decode cc pc = .ok (.putfield idx, 3)) (n : Nat) (hn : pc + 3 = n) (k : gm_V x (gm_up G 7 b c 5 v) n lv st) : gm_V x G pc lv (.int v :: .ref (gm_ad (cx_w x) 7 b c) :: st) := gv_putf (fs := []) (ci := 7) (i := 5) (T := TX7) (N := 10) C hid (fun g => ⟨_, rfl, Nat.le_of_ble_eq_true rfl, rfl⟩) rfl iwX7 tyX7 tyX7_ok nmX7 (by decide) rfl rfl rfl rfl hlk d n hn k
theorem gf_7_6 (C : gm_X x cc nL own ret rk) {b c : Nat} (hid : (7, b, c) ∈ gm_ids) (hlk : Cond.fieldLink own idx "BlockBellsModel" "reading" "I" ∈ TB) (d : decode cc pc = .ok (.getfield idx, 3)) (n : Nat) (hn : pc + 3 = n) (k : gm_V x G n lv (.int (G 7 b c 6) :: st)) : gm_V x G pc lv (.ref (gm_ad (cx_w x) 7 b c) :: st) := gv_getf (ci := 7) (i := 6) (T := TX7) (N := 10) C hid rfl rfl iwX7 (by decide) rfl hlk d n hn k
theorem pf_7_6 (C : gm_X x cc nL own ret rk) {b c : Nat} {v : Int32} (hid : (7, b, c) ∈ gm_ids) (hlk : Cond.fieldLink own idx "BlockBellsModel" "reading" "I" ∈ TB) (d : decode cc pc = .ok (.putfield idx, 3)) (n : Nat) (hn : pc + 3 = n) (k : gm_V x (gm_up G 7 b c 6 v) n lv st) : gm_V x G pc lv (.int v :: .ref (gm_ad (cx_w x) 7 b c) :: st) := gv_putf (fs := []) (ci := 7) (i := 6) (T := TX7) (N := 10) C hid (fun g => ⟨_, rfl, Nat.le_of_ble_eq_true rfl, rfl⟩) rfl iwX7 tyX7 tyX7_ok nmX7 (by decide) rfl rfl rfl rfl hlk d n hn k
theorem gf_7_7 (C : gm_X x cc nL own ret rk) {b c : Nat} (hid : (7, b, c) ∈ gm_ids) (hlk : Cond.fieldLink own idx "BlockBellsModel" "isWrong" "Z" ∈ TB) (d : decode cc pc = .ok (.getfield idx, 3)) (n : Nat) (hn : pc + 3 = n) (k : gm_V x G n lv (.int (G 7 b c 7) :: st)) : gm_V x G pc lv (.ref (gm_ad (cx_w x) 7 b c) :: st) := gv_getf (ci := 7) (i := 7) (T := TX7) (N := 10) C hid rfl rfl iwX7 (by decide) rfl hlk d n hn k
theorem pf_7_7 (C : gm_X x cc nL own ret rk) {b c : Nat} {v : Int32} (hid : (7, b, c) ∈ gm_ids) (hz : v = 0 ∨ v = 1) (hlk : Cond.fieldLink own idx "BlockBellsModel" "isWrong" "Z" ∈ TB) (d : decode cc pc = .ok (.putfield idx, 3)) (n : Nat) (hn : pc + 3 = n) (k : gm_V x (gm_up G 7 b c 7 v) n lv st) : gm_V x G pc lv (.int v :: .ref (gm_ad (cx_w x) 7 b c) :: st) := gv_putf (fs := []) (ci := 7) (i := 7) (T := TX7) (N := 10) C hid (fun g => ⟨_, rfl, Nat.le_of_ble_eq_true rfl, rfl⟩) rfl iwX7 tyX7 tyX7_ok nmX7 (by decide) rfl rfl (gm_zn hz) (gm_zf hz) hlk d n hn k
theorem gf_7_8 (C : gm_X x cc nL own ret rk) {b c : Nat} (hid : (7, b, c) ∈ gm_ids) (hlk : Cond.fieldLink own idx "BlockBellsModel" "orders" "[I" ∈ TB) (d : decode cc pc = .ok (.getfield idx, 3)) (n : Nat) (hn : pc + 3 = n) (k : gm_V x G n lv (.ref (gm_ad (cx_w x) 8 5 4) :: st)) : gm_V x G pc lv (.ref (gm_ad (cx_w x) 7 b c) :: st) := gv_getf (ci := 7) (i := 8) (T := TX7) (N := 10) C hid rfl rfl iwX7 (by decide) rfl hlk d n hn k
theorem gf_7_9 (C : gm_X x cc nL own ret rk) {b c : Nat} (hid : (7, b, c) ∈ gm_ids) (hlk : Cond.fieldLink own idx "BlockBellsModel" "orderMany" "I" ∈ TB) (d : decode cc pc = .ok (.getfield idx, 3)) (n : Nat) (hn : pc + 3 = n) (k : gm_V x G n lv (.int (G 7 b c 9) :: st)) : gm_V x G pc lv (.ref (gm_ad (cx_w x) 7 b c) :: st) := gv_getf (ci := 7) (i := 9) (T := TX7) (N := 10) C hid rfl rfl iwX7 (by decide) rfl hlk d n hn k
theorem pf_7_9 (C : gm_X x cc nL own ret rk) {b c : Nat} {v : Int32} (hid : (7, b, c) ∈ gm_ids) (hlk : Cond.fieldLink own idx "BlockBellsModel" "orderMany" "I" ∈ TB) (d : decode cc pc = .ok (.putfield idx, 3)) (n : Nat) (hn : pc + 3 = n) (k : gm_V x (gm_up G 7 b c 9 v) n lv st) : gm_V x G pc lv (.int v :: .ref (gm_ad (cx_w x) 7 b c) :: st) := gv_putf (fs := []) (ci := 7) (i := 9) (T := TX7) (N := 10) C hid (fun g => ⟨_, rfl, Nat.le_of_ble_eq_true rfl, rfl⟩) rfl iwX7 tyX7 tyX7_ok nmX7 (by decide) rfl rfl rfl rfl hlk d n hn k
theorem gv_callVi (C : gm_X x cc nL own ret rk) (M : gm_M y bytes mL rt kn) (M2 : Cond.instanceMethod y ∈ TB ∧ Cond.selects y.cls y y ∈ TB) (hk : k' + 1 ≤ rk) (hlk : Cond.methodLink own idx y ∈ TB) {a b c ci : Nat} {q : vw_C} (hid : (a, b, c) ∈ gm_ids) (hc : ∃ fs, gm_cel (gm_cy (cx_w x)) (gm_ad (cx_w x)) (G a b c) a b c = .inr (ci, fs)) (hq : vwCl[ci]? = some q) (hqy : q.1 = y.cls) {v : Int32} (hM : gm_C (cx_w x) y bytes mL rt k' (.ref (gm_ad (cx_w x) a b c) :: As) G (some (.int v)) G1) (hn : As.length = kn) (hst : st0 = As.reverse ++ .ref (gm_ad (cx_w x) a b c) :: st) (hs : (st.map fun v => v.category).sum ≤ 8) (d : decode cc pc = .ok (.invokevirtual idx, 3)) (n : Nat) (hpc : pc + 3 = n) (k : gm_V x G1 n lv (.int v :: st)) : gm_V x G pc lv st0 := gv_callV C M M2 hk hlk hid hc hq hqy hM hn hst hs d n hpc k
theorem gv_callSi (C : gm_X x cc nL own ret rk) (M : gm_M y bytes mL rt kn) (M2 : Cond.static y ∈ TB) (hk : k' + 1 ≤ rk) (hlk : Cond.methodLink own idx y ∈ TB) {v : Int32} (hM : gm_C (cx_w x) y bytes mL rt k' As G (some (.int v)) G1) (hn : As.length = kn) (hst : st0 = As.reverse ++ st) (hs : (st.map fun v => v.category).sum ≤ 8) (d : decode cc pc = .ok (.invokestatic idx, 3)) (n : Nat) (hpc : pc + 3 = n) (k : gm_V x G1 n lv (.int v :: st)) : gm_V x G pc lv st0 := gv_callS C M M2 hk hlk hM hn hst hs d n hpc k
theorem gv_callNi (C : gm_X x cc nL own ret rk) (M : gm_M y bytes mL rt kn) (M2 : Cond.static y ∈ TB) (hk : k' + 1 ≤ rk) {host : String} (hlk : va_Nw (.methodLinkNest own idx y host) (cx_s x)) {v : Int32} (hM : gm_C (cx_w x) y bytes mL rt k' As G (some (.int v)) G1) (hn : As.length = kn) (hst : st0 = As.reverse ++ st) (hs : (st.map fun v => v.category).sum ≤ 8) (d : decode cc pc = .ok (.invokestatic idx, 3)) (n : Nat) (hpc : pc + 3 = n) (k : gm_V x G1 n lv (.int v :: st)) : gm_V x G pc lv st0 := gv_callSN C M M2 hk hlk hM hn hst hs d n hpc k
theorem gv_callVv (C : gm_X x cc nL own ret rk) (M : gm_M y bytes mL rt kn) (M2 : Cond.instanceMethod y ∈ TB ∧ Cond.selects y.cls y y ∈ TB) (hk : k' + 1 ≤ rk) (hlk : Cond.methodLink own idx y ∈ TB) {a b c ci : Nat} {q : vw_C} (hid : (a, b, c) ∈ gm_ids) (hc : ∃ fs, gm_cel (gm_cy (cx_w x)) (gm_ad (cx_w x)) (G a b c) a b c = .inr (ci, fs)) (hq : vwCl[ci]? = some q) (hqy : q.1 = y.cls) (hM : gm_C (cx_w x) y bytes mL rt k' (.ref (gm_ad (cx_w x) a b c) :: As) G none G1) (hn : As.length = kn) (hst : st0 = As.reverse ++ .ref (gm_ad (cx_w x) a b c) :: st) (hs : (st.map fun v => v.category).sum ≤ 8) (d : decode cc pc = .ok (.invokevirtual idx, 3)) (n : Nat) (hpc : pc + 3 = n) (k : gm_V x G1 n lv (st)) : gm_V x G pc lv st0 := gv_callV C M M2 hk hlk hid hc hq hqy hM hn hst hs d n hpc k
theorem gv_callSv (C : gm_X x cc nL own ret rk) (M : gm_M y bytes mL rt kn) (M2 : Cond.static y ∈ TB) (hk : k' + 1 ≤ rk) (hlk : Cond.methodLink own idx y ∈ TB) (hM : gm_C (cx_w x) y bytes mL rt k' As G none G1) (hn : As.length = kn) (hst : st0 = As.reverse ++ st) (hs : (st.map fun v => v.category).sum ≤ 8) (d : decode cc pc = .ok (.invokestatic idx, 3)) (n : Nat) (hpc : pc + 3 = n) (k : gm_V x G1 n lv (st)) : gm_V x G pc lv st0 := gv_callS C M M2 hk hlk hM hn hst hs d n hpc k
theorem gv_callNv (C : gm_X x cc nL own ret rk) (M : gm_M y bytes mL rt kn) (M2 : Cond.static y ∈ TB) (hk : k' + 1 ≤ rk) {host : String} (hlk : va_Nw (.methodLinkNest own idx y host) (cx_s x)) (hM : gm_C (cx_w x) y bytes mL rt k' As G none G1) (hn : As.length = kn) (hst : st0 = As.reverse ++ st) (hs : (st.map fun v => v.category).sum ≤ 8) (d : decode cc pc = .ok (.invokestatic idx, 3)) (n : Nat) (hpc : pc + 3 = n) (k : gm_V x G1 n lv (st)) : gm_V x G pc lv st0 := gv_callSN C M M2 hk hlk hM hn hst hs d n hpc k
theorem gv_callVa (C : gm_X x cc nL own ret rk) (M : gm_M y bytes mL rt kn) (M2 : Cond.instanceMethod y ∈ TB ∧ Cond.selects y.cls y y ∈ TB) (hk : k' + 1 ≤ rk) (hlk : Cond.methodLink own idx y ∈ TB) {a b c ci : Nat} {q : vw_C} (hid : (a, b, c) ∈ gm_ids) (hc : ∃ fs, gm_cel (gm_cy (cx_w x)) (gm_ad (cx_w x)) (G a b c) a b c = .inr (ci, fs)) (hq : vwCl[ci]? = some q) (hqy : q.1 = y.cls) {v : Nat} (hM : gm_C (cx_w x) y bytes mL rt k' (.ref (gm_ad (cx_w x) a b c) :: As) G (some (.ref v)) G1) (hn : As.length = kn) (hst : st0 = As.reverse ++ .ref (gm_ad (cx_w x) a b c) :: st) (hs : (st.map fun v => v.category).sum ≤ 8) (d : decode cc pc = .ok (.invokevirtual idx, 3)) (n : Nat) (hpc : pc + 3 = n) (k : gm_V x G1 n lv (.ref v :: st)) : gm_V x G pc lv st0 := gv_callV C M M2 hk hlk hid hc hq hqy hM hn hst hs d n hpc k
theorem gv_callVn (C : gm_X x cc nL own ret rk) (M : gm_M y bytes mL rt kn) (M2 : Cond.instanceMethod y ∈ TB ∧ Cond.selects y.cls y y ∈ TB) (hk : k' + 1 ≤ rk) (hlk : Cond.methodLink own idx y ∈ TB) {a b c ci : Nat} {q : vw_C} (hid : (a, b, c) ∈ gm_ids) (hc : ∃ fs, gm_cel (gm_cy (cx_w x)) (gm_ad (cx_w x)) (G a b c) a b c = .inr (ci, fs)) (hq : vwCl[ci]? = some q) (hqy : q.1 = y.cls) (hM : gm_C (cx_w x) y bytes mL rt k' (.ref (gm_ad (cx_w x) a b c) :: As) G (some .null) G1) (hn : As.length = kn) (hst : st0 = As.reverse ++ .ref (gm_ad (cx_w x) a b c) :: st) (hs : (st.map fun v => v.category).sum ≤ 8) (d : decode cc pc = .ok (.invokevirtual idx, 3)) (n : Nat) (hpc : pc + 3 = n) (k : gm_V x G1 n lv (.null :: st)) : gm_V x G pc lv st0 := gv_callV C M M2 hk hlk hid hc hq hqy hM hn hst hs d n hpc k
/-- a switch by table where no listed case is met -/
theorem gv_tableD (C : gm_X x cc nL own ret rk) {df lo hi : Int} {os : Array Int} {ln : Nat} {a : Int32} (d : decode cc pc = .ok (.tableswitch df lo hi os, ln)) (ks : List Int) (hks : ∀ j, j < os.size → os[j]? ≠ some df → lo + (j : Int) ∈ ks) (hz : os.size = (hi - lo + 1).toNat) (h : ∀ p ∈ ks, ¬ a.toInt = p) (t : Nat) (ht : (pc : Int) + df = (t : Int)) (k : gm_V x G t lv st) : gm_V x G pc lv (.int a :: st) := by
  by_cases h1 : a.toInt < lo ∨ hi < a.toInt
  · exact gv_tableOut C d h1 t ht k
  · have hj : (a.toInt - lo).toNat < os.size := by omega
    have hin : os[(a.toInt - lo).toNat]? = some df := by
      by_cases hd : os[(a.toInt - lo).toNat]? = some df
      · exact hd
      · exact absurd (by omega) (h _ (hks _ hj hd))
    exact gv_tableIn C a rfl d (fun q => h1 (Or.inl q)) (fun q => h1 (Or.inr q)) hin t ht k
end
end
