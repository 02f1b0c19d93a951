-- ===== PART A: goes FIRST, ahead of the names: the tables' words, and 'selects' of the private methods out of them =====
/-- a private method of a class that the tables say can be made, by its rows of tables_1 -/
def lw_okq (q : MethodName × Nat) : Prop := (q.1.cls ≠ "java/lang/invoke/MethodHandle" ∧ q.1.cls ≠ "java/lang/invoke/VarHandle") ∧ Cond.instantiable q.1.cls q.2 ∈ tables_1 ∧ Cond.privateMethod q.1 ∈ tables_1 ∧ Cond.instanceMethod q.1 ∈ tables_1
theorem lw_p0 : lw_okq (⟨"BlockBells$Line", "shuntToLoop", "(LBlockBells$Train;)I"⟩, 8) := ⟨⟨by decide +kernel, by decide +kernel⟩, List.mem_of_getElem? (i := 20) (by decide +kernel), List.mem_of_getElem? (i := 361) (by decide +kernel), List.mem_of_getElem? (i := 362) (by decide +kernel)⟩
theorem lw_p1 : lw_okq (⟨"BlockBells$Line", "shuntBack", "(LBlockBells$Train;)I"⟩, 8) := ⟨⟨by decide +kernel, by decide +kernel⟩, List.mem_of_getElem? (i := 20) (by decide +kernel), List.mem_of_getElem? (i := 373) (by decide +kernel), List.mem_of_getElem? (i := 374) (by decide +kernel)⟩
theorem lw_p2 : lw_okq (⟨"BlockBells$Line", "ringRear", "(LBlockBells$Block;I)I"⟩, 8) := ⟨⟨by decide +kernel, by decide +kernel⟩, List.mem_of_getElem? (i := 20) (by decide +kernel), List.mem_of_getElem? (i := 416) (by decide +kernel), List.mem_of_getElem? (i := 417) (by decide +kernel)⟩
theorem lw_p3 : lw_okq (⟨"BlockBells$Line", "isTokenReady", "(LBlockBells$Block;)Z"⟩, 8) := ⟨⟨by decide +kernel, by decide +kernel⟩, List.mem_of_getElem? (i := 20) (by decide +kernel), List.mem_of_getElem? (i := 445) (by decide +kernel), List.mem_of_getElem? (i := 446) (by decide +kernel)⟩
theorem lw_p4 : lw_okq (⟨"BlockBells$Section", "addTokens", "(II)V"⟩, 6) := ⟨⟨by decide +kernel, by decide +kernel⟩, List.mem_of_getElem? (i := 29) (by decide +kernel), List.mem_of_getElem? (i := 466) (by decide +kernel), List.mem_of_getElem? (i := 467) (by decide +kernel)⟩
theorem lw_p5 : lw_okq (⟨"BlockBells$Line", "ringAhead", "(LBlockBells$Block;I)I"⟩, 8) := ⟨⟨by decide +kernel, by decide +kernel⟩, List.mem_of_getElem? (i := 20) (by decide +kernel), List.mem_of_getElem? (i := 470) (by decide +kernel), List.mem_of_getElem? (i := 471) (by decide +kernel)⟩
theorem lw_p6 : lw_okq (⟨"BlockBells$Register", "oldest", "()I"⟩, 2) := ⟨⟨by decide +kernel, by decide +kernel⟩, List.mem_of_getElem? (i := 142) (by decide +kernel), List.mem_of_getElem? (i := 591) (by decide +kernel), List.mem_of_getElem? (i := 592) (by decide +kernel)⟩
theorem lw_p7 : lw_okq (⟨"BlockBells$Line", "clearSections", "()V"⟩, 8) := ⟨⟨by decide +kernel, by decide +kernel⟩, List.mem_of_getElem? (i := 20) (by decide +kernel), List.mem_of_getElem? (i := 612) (by decide +kernel), List.mem_of_getElem? (i := 613) (by decide +kernel)⟩
theorem lw_p8 : lw_okq (⟨"BlockBells$Line", "leaveAll", "()I"⟩, 8) := ⟨⟨by decide +kernel, by decide +kernel⟩, List.mem_of_getElem? (i := 20) (by decide +kernel), List.mem_of_getElem? (i := 619) (by decide +kernel), List.mem_of_getElem? (i := 620) (by decide +kernel)⟩
theorem lw_p9 : lw_okq (⟨"BlockBells$Line", "offerAll", "()V"⟩, 8) := ⟨⟨by decide +kernel, by decide +kernel⟩, List.mem_of_getElem? (i := 20) (by decide +kernel), List.mem_of_getElem? (i := 624) (by decide +kernel), List.mem_of_getElem? (i := 625) (by decide +kernel)⟩
theorem lw_p10 : lw_okq (⟨"BlockBells$Line", "answerAll", "()V"⟩, 8) := ⟨⟨by decide +kernel, by decide +kernel⟩, List.mem_of_getElem? (i := 20) (by decide +kernel), List.mem_of_getElem? (i := 629) (by decide +kernel), List.mem_of_getElem? (i := 630) (by decide +kernel)⟩
theorem lw_p11 : lw_okq (⟨"BlockBells$Line", "departAll", "()V"⟩, 8) := ⟨⟨by decide +kernel, by decide +kernel⟩, List.mem_of_getElem? (i := 20) (by decide +kernel), List.mem_of_getElem? (i := 635) (by decide +kernel), List.mem_of_getElem? (i := 636) (by decide +kernel)⟩
theorem lw_p12 : lw_okq (⟨"BlockBells$Pad", "readSign", "(I)V"⟩, 6) := ⟨⟨by decide +kernel, by decide +kernel⟩, List.mem_of_getElem? (i := 204) (by decide +kernel), List.mem_of_getElem? (i := 731) (by decide +kernel), List.mem_of_getElem? (i := 732) (by decide +kernel)⟩
theorem lw_p13 : lw_okq (⟨"BlockBells", "obey", "(III)I"⟩, 5) := ⟨⟨by decide +kernel, by decide +kernel⟩, List.mem_of_getElem? (i := 12) (by decide +kernel), List.mem_of_getElem? (i := 735) (by decide +kernel), List.mem_of_getElem? (i := 736) (by decide +kernel)⟩
theorem lw_p14 : lw_okq (⟨"BlockBellsModel", "lay", "(II)V"⟩, 10) := ⟨⟨by decide +kernel, by decide +kernel⟩, List.mem_of_getElem? (i := 770) (by decide +kernel), List.mem_of_getElem? (i := 776) (by decide +kernel), List.mem_of_getElem? (i := 777) (by decide +kernel)⟩
theorem lw_p15 : lw_okq (⟨"BlockBellsModel", "layBlocks", "()V"⟩, 10) := ⟨⟨by decide +kernel, by decide +kernel⟩, List.mem_of_getElem? (i := 770) (by decide +kernel), List.mem_of_getElem? (i := 780) (by decide +kernel), List.mem_of_getElem? (i := 781) (by decide +kernel)⟩
def lw_privs_1 : List (MethodName × Nat) := [(⟨"BlockBells$Line", "shuntToLoop", "(LBlockBells$Train;)I"⟩, 8), (⟨"BlockBells$Line", "shuntBack", "(LBlockBells$Train;)I"⟩, 8), (⟨"BlockBells$Line", "ringRear", "(LBlockBells$Block;I)I"⟩, 8), (⟨"BlockBells$Line", "isTokenReady", "(LBlockBells$Block;)Z"⟩, 8), (⟨"BlockBells$Section", "addTokens", "(II)V"⟩, 6), (⟨"BlockBells$Line", "ringAhead", "(LBlockBells$Block;I)I"⟩, 8), (⟨"BlockBells$Register", "oldest", "()I"⟩, 2), (⟨"BlockBells$Line", "clearSections", "()V"⟩, 8), (⟨"BlockBells$Line", "leaveAll", "()I"⟩, 8), (⟨"BlockBells$Line", "offerAll", "()V"⟩, 8), (⟨"BlockBells$Line", "answerAll", "()V"⟩, 8), (⟨"BlockBells$Line", "departAll", "()V"⟩, 8), (⟨"BlockBells$Pad", "readSign", "(I)V"⟩, 6), (⟨"BlockBells", "obey", "(III)I"⟩, 5), (⟨"BlockBellsModel", "lay", "(II)V"⟩, 10), (⟨"BlockBellsModel", "layBlocks", "()V"⟩, 10)]
theorem lw_r1 : ∀ q ∈ lw_privs_1, lw_okq q := List.forall_mem_cons.mpr ⟨lw_p0, List.forall_mem_cons.mpr ⟨lw_p1, List.forall_mem_cons.mpr ⟨lw_p2, List.forall_mem_cons.mpr ⟨lw_p3, List.forall_mem_cons.mpr ⟨lw_p4, List.forall_mem_cons.mpr ⟨lw_p5, List.forall_mem_cons.mpr ⟨lw_p6, List.forall_mem_cons.mpr ⟨lw_p7, List.forall_mem_cons.mpr ⟨lw_p8, List.forall_mem_cons.mpr ⟨lw_p9, List.forall_mem_cons.mpr ⟨lw_p10, List.forall_mem_cons.mpr ⟨lw_p11, List.forall_mem_cons.mpr ⟨lw_p12, List.forall_mem_cons.mpr ⟨lw_p13, List.forall_mem_cons.mpr ⟨lw_p14, List.forall_mem_cons.mpr ⟨lw_p15, fun _ h => absurd h List.not_mem_nil⟩⟩⟩⟩⟩⟩⟩⟩⟩⟩⟩⟩⟩⟩⟩⟩
theorem lw_p16 : lw_okq (⟨"BlockBellsModel", "isSection", "(I)Z"⟩, 10) := ⟨⟨by decide +kernel, by decide +kernel⟩, List.mem_of_getElem? (i := 770) (by decide +kernel), List.mem_of_getElem? (i := 826) (by decide +kernel), List.mem_of_getElem? (i := 827) (by decide +kernel)⟩
theorem lw_p17 : lw_okq (⟨"BlockBellsModel", "sections", "()I"⟩, 10) := ⟨⟨by decide +kernel, by decide +kernel⟩, List.mem_of_getElem? (i := 770) (by decide +kernel), List.mem_of_getElem? (i := 830) (by decide +kernel), List.mem_of_getElem? (i := 831) (by decide +kernel)⟩
theorem lw_p18 : lw_okq (⟨"BlockBellsModel", "many", "(III)I"⟩, 10) := ⟨⟨by decide +kernel, by decide +kernel⟩, List.mem_of_getElem? (i := 770) (by decide +kernel), List.mem_of_getElem? (i := 841) (by decide +kernel), List.mem_of_getElem? (i := 842) (by decide +kernel)⟩
theorem lw_p19 : lw_okq (⟨"BlockBellsModel", "ofTrain", "(II)I"⟩, 10) := ⟨⟨by decide +kernel, by decide +kernel⟩, List.mem_of_getElem? (i := 770) (by decide +kernel), List.mem_of_getElem? (i := 845) (by decide +kernel), List.mem_of_getElem? (i := 846) (by decide +kernel)⟩
theorem lw_p20 : lw_okq (⟨"BlockBellsModel", "isSingle", "(I)Z"⟩, 10) := ⟨⟨by decide +kernel, by decide +kernel⟩, List.mem_of_getElem? (i := 770) (by decide +kernel), List.mem_of_getElem? (i := 853) (by decide +kernel), List.mem_of_getElem? (i := 854) (by decide +kernel)⟩
theorem lw_p21 : lw_okq (⟨"BlockBellsModel", "isTokenOut", "(I)Z"⟩, 10) := ⟨⟨by decide +kernel, by decide +kernel⟩, List.mem_of_getElem? (i := 770) (by decide +kernel), List.mem_of_getElem? (i := 861) (by decide +kernel), List.mem_of_getElem? (i := 862) (by decide +kernel)⟩
theorem lw_p22 : lw_okq (⟨"BlockBellsModel", "ofBlock", "(III)I"⟩, 10) := ⟨⟨by decide +kernel, by decide +kernel⟩, List.mem_of_getElem? (i := 770) (by decide +kernel), List.mem_of_getElem? (i := 865) (by decide +kernel), List.mem_of_getElem? (i := 866) (by decide +kernel)⟩
theorem lw_p23 : lw_okq (⟨"BlockBellsModel", "isBlock", "(II)Z"⟩, 10) := ⟨⟨by decide +kernel, by decide +kernel⟩, List.mem_of_getElem? (i := 770) (by decide +kernel), List.mem_of_getElem? (i := 876) (by decide +kernel), List.mem_of_getElem? (i := 877) (by decide +kernel)⟩
theorem lw_p24 : lw_okq (⟨"BlockBellsModel", "firstBox", "(I)I"⟩, 10) := ⟨⟨by decide +kernel, by decide +kernel⟩, List.mem_of_getElem? (i := 770) (by decide +kernel), List.mem_of_getElem? (i := 884) (by decide +kernel), List.mem_of_getElem? (i := 885) (by decide +kernel)⟩
theorem lw_p25 : lw_okq (⟨"BlockBellsModel", "isFree", "(II)Z"⟩, 10) := ⟨⟨by decide +kernel, by decide +kernel⟩, List.mem_of_getElem? (i := 770) (by decide +kernel), List.mem_of_getElem? (i := 888) (by decide +kernel), List.mem_of_getElem? (i := 889) (by decide +kernel)⟩
theorem lw_p26 : lw_okq (⟨"BlockBellsModel", "add", "(II)I"⟩, 10) := ⟨⟨by decide +kernel, by decide +kernel⟩, List.mem_of_getElem? (i := 770) (by decide +kernel), List.mem_of_getElem? (i := 892) (by decide +kernel), List.mem_of_getElem? (i := 893) (by decide +kernel)⟩
theorem lw_p27 : lw_okq (⟨"BlockBellsModel", "layTrain", "(III)V"⟩, 10) := ⟨⟨by decide +kernel, by decide +kernel⟩, List.mem_of_getElem? (i := 770) (by decide +kernel), List.mem_of_getElem? (i := 896) (by decide +kernel), List.mem_of_getElem? (i := 897) (by decide +kernel)⟩
theorem lw_p28 : lw_okq (⟨"BlockBellsModel", "isTrain", "(I)Z"⟩, 10) := ⟨⟨by decide +kernel, by decide +kernel⟩, List.mem_of_getElem? (i := 770) (by decide +kernel), List.mem_of_getElem? (i := 904) (by decide +kernel), List.mem_of_getElem? (i := 905) (by decide +kernel)⟩
theorem lw_p29 : lw_okq (⟨"BlockBellsModel", "canGoIn", "(I)Z"⟩, 10) := ⟨⟨by decide +kernel, by decide +kernel⟩, List.mem_of_getElem? (i := 770) (by decide +kernel), List.mem_of_getElem? (i := 912) (by decide +kernel), List.mem_of_getElem? (i := 913) (by decide +kernel)⟩
theorem lw_p30 : lw_okq (⟨"BlockBellsModel", "isOffered", "(I)Z"⟩, 10) := ⟨⟨by decide +kernel, by decide +kernel⟩, List.mem_of_getElem? (i := 770) (by decide +kernel), List.mem_of_getElem? (i := 916) (by decide +kernel), List.mem_of_getElem? (i := 917) (by decide +kernel)⟩
theorem lw_p31 : lw_okq (⟨"BlockBellsModel", "nextSection", "(I)I"⟩, 10) := ⟨⟨by decide +kernel, by decide +kernel⟩, List.mem_of_getElem? (i := 770) (by decide +kernel), List.mem_of_getElem? (i := 920) (by decide +kernel), List.mem_of_getElem? (i := 921) (by decide +kernel)⟩
def lw_privs_2 : List (MethodName × Nat) := [(⟨"BlockBellsModel", "isSection", "(I)Z"⟩, 10), (⟨"BlockBellsModel", "sections", "()I"⟩, 10), (⟨"BlockBellsModel", "many", "(III)I"⟩, 10), (⟨"BlockBellsModel", "ofTrain", "(II)I"⟩, 10), (⟨"BlockBellsModel", "isSingle", "(I)Z"⟩, 10), (⟨"BlockBellsModel", "isTokenOut", "(I)Z"⟩, 10), (⟨"BlockBellsModel", "ofBlock", "(III)I"⟩, 10), (⟨"BlockBellsModel", "isBlock", "(II)Z"⟩, 10), (⟨"BlockBellsModel", "firstBox", "(I)I"⟩, 10), (⟨"BlockBellsModel", "isFree", "(II)Z"⟩, 10), (⟨"BlockBellsModel", "add", "(II)I"⟩, 10), (⟨"BlockBellsModel", "layTrain", "(III)V"⟩, 10), (⟨"BlockBellsModel", "isTrain", "(I)Z"⟩, 10), (⟨"BlockBellsModel", "canGoIn", "(I)Z"⟩, 10), (⟨"BlockBellsModel", "isOffered", "(I)Z"⟩, 10), (⟨"BlockBellsModel", "nextSection", "(I)I"⟩, 10)]
theorem lw_r2 : ∀ q ∈ lw_privs_2, lw_okq q := List.forall_mem_cons.mpr ⟨lw_p16, List.forall_mem_cons.mpr ⟨lw_p17, List.forall_mem_cons.mpr ⟨lw_p18, List.forall_mem_cons.mpr ⟨lw_p19, List.forall_mem_cons.mpr ⟨lw_p20, List.forall_mem_cons.mpr ⟨lw_p21, List.forall_mem_cons.mpr ⟨lw_p22, List.forall_mem_cons.mpr ⟨lw_p23, List.forall_mem_cons.mpr ⟨lw_p24, List.forall_mem_cons.mpr ⟨lw_p25, List.forall_mem_cons.mpr ⟨lw_p26, List.forall_mem_cons.mpr ⟨lw_p27, List.forall_mem_cons.mpr ⟨lw_p28, List.forall_mem_cons.mpr ⟨lw_p29, List.forall_mem_cons.mpr ⟨lw_p30, List.forall_mem_cons.mpr ⟨lw_p31, fun _ h => absurd h List.not_mem_nil⟩⟩⟩⟩⟩⟩⟩⟩⟩⟩⟩⟩⟩⟩⟩⟩
theorem lw_p32 : lw_okq (⟨"BlockBellsModel", "isClearFor", "(I)Z"⟩, 10) := ⟨⟨by decide +kernel, by decide +kernel⟩, List.mem_of_getElem? (i := 770) (by decide +kernel), List.mem_of_getElem? (i := 924) (by decide +kernel), List.mem_of_getElem? (i := 925) (by decide +kernel)⟩
theorem lw_p33 : lw_okq (⟨"BlockBellsModel", "isCalmBehind", "(I)Z"⟩, 10) := ⟨⟨by decide +kernel, by decide +kernel⟩, List.mem_of_getElem? (i := 770) (by decide +kernel), List.mem_of_getElem? (i := 928) (by decide +kernel), List.mem_of_getElem? (i := 929) (by decide +kernel)⟩
theorem lw_p34 : lw_okq (⟨"BlockBellsModel", "ring", "(IIII)I"⟩, 10) := ⟨⟨by decide +kernel, by decide +kernel⟩, List.mem_of_getElem? (i := 770) (by decide +kernel), List.mem_of_getElem? (i := 950) (by decide +kernel), List.mem_of_getElem? (i := 951) (by decide +kernel)⟩
theorem lw_p35 : lw_okq (⟨"BlockBellsModel", "canAccept", "(II)Z"⟩, 10) := ⟨⟨by decide +kernel, by decide +kernel⟩, List.mem_of_getElem? (i := 770) (by decide +kernel), List.mem_of_getElem? (i := 958) (by decide +kernel), List.mem_of_getElem? (i := 959) (by decide +kernel)⟩
theorem lw_p36 : lw_okq (⟨"BlockBellsModel", "unclear", "(II)V"⟩, 10) := ⟨⟨by decide +kernel, by decide +kernel⟩, List.mem_of_getElem? (i := 770) (by decide +kernel), List.mem_of_getElem? (i := 972) (by decide +kernel), List.mem_of_getElem? (i := 973) (by decide +kernel)⟩
theorem lw_p37 : lw_okq (⟨"BlockBellsModel", "isInside", "(II)Z"⟩, 10) := ⟨⟨by decide +kernel, by decide +kernel⟩, List.mem_of_getElem? (i := 770) (by decide +kernel), List.mem_of_getElem? (i := 984) (by decide +kernel), List.mem_of_getElem? (i := 985) (by decide +kernel)⟩
theorem lw_p38 : lw_okq (⟨"BlockBellsModel", "tick", "()V"⟩, 10) := ⟨⟨by decide +kernel, by decide +kernel⟩, List.mem_of_getElem? (i := 770) (by decide +kernel), List.mem_of_getElem? (i := 1009) (by decide +kernel), List.mem_of_getElem? (i := 1010) (by decide +kernel)⟩
theorem lw_p39 : lw_okq (⟨"BlockBellsModel", "trainsAt", "(I)I"⟩, 10) := ⟨⟨by decide +kernel, by decide +kernel⟩, List.mem_of_getElem? (i := 770) (by decide +kernel), List.mem_of_getElem? (i := 1025) (by decide +kernel), List.mem_of_getElem? (i := 1026) (by decide +kernel)⟩
theorem lw_p40 : lw_okq (⟨"BlockBellsModel", "workTick", "()V"⟩, 10) := ⟨⟨by decide +kernel, by decide +kernel⟩, List.mem_of_getElem? (i := 770) (by decide +kernel), List.mem_of_getElem? (i := 1029) (by decide +kernel), List.mem_of_getElem? (i := 1030) (by decide +kernel)⟩
theorem lw_p41 : lw_okq (⟨"BlockBellsModel", "workBlocks", "(I)V"⟩, 10) := ⟨⟨by decide +kernel, by decide +kernel⟩, List.mem_of_getElem? (i := 770) (by decide +kernel), List.mem_of_getElem? (i := 1033) (by decide +kernel), List.mem_of_getElem? (i := 1034) (by decide +kernel)⟩
theorem lw_p42 : lw_okq (⟨"BlockBellsModel", "workTrains", "(I)V"⟩, 10) := ⟨⟨by decide +kernel, by decide +kernel⟩, List.mem_of_getElem? (i := 770) (by decide +kernel), List.mem_of_getElem? (i := 1041) (by decide +kernel), List.mem_of_getElem? (i := 1042) (by decide +kernel)⟩
theorem lw_p43 : lw_okq (⟨"BlockBellsModel", "putAside", "()V"⟩, 10) := ⟨⟨by decide +kernel, by decide +kernel⟩, List.mem_of_getElem? (i := 770) (by decide +kernel), List.mem_of_getElem? (i := 1052) (by decide +kernel), List.mem_of_getElem? (i := 1053) (by decide +kernel)⟩
theorem lw_p44 : lw_okq (⟨"BlockBellsModel", "putBack", "()V"⟩, 10) := ⟨⟨by decide +kernel, by decide +kernel⟩, List.mem_of_getElem? (i := 770) (by decide +kernel), List.mem_of_getElem? (i := 1056) (by decide +kernel), List.mem_of_getElem? (i := 1057) (by decide +kernel)⟩
theorem lw_p45 : lw_okq (⟨"BlockBellsModel", "readOrder", "()V"⟩, 10) := ⟨⟨by decide +kernel, by decide +kernel⟩, List.mem_of_getElem? (i := 770) (by decide +kernel), List.mem_of_getElem? (i := 1076) (by decide +kernel), List.mem_of_getElem? (i := 1077) (by decide +kernel)⟩
theorem lw_p46 : lw_okq (⟨"BlockBellsModel", "nextSign", "()I"⟩, 10) := ⟨⟨by decide +kernel, by decide +kernel⟩, List.mem_of_getElem? (i := 770) (by decide +kernel), List.mem_of_getElem? (i := 1080) (by decide +kernel), List.mem_of_getElem? (i := 1081) (by decide +kernel)⟩
theorem lw_p47 : lw_okq (⟨"BlockBellsModel", "takeNumber", "(II)I"⟩, 10) := ⟨⟨by decide +kernel, by decide +kernel⟩, List.mem_of_getElem? (i := 770) (by decide +kernel), List.mem_of_getElem? (i := 1090) (by decide +kernel), List.mem_of_getElem? (i := 1091) (by decide +kernel)⟩
def lw_privs_3 : List (MethodName × Nat) := [(⟨"BlockBellsModel", "isClearFor", "(I)Z"⟩, 10), (⟨"BlockBellsModel", "isCalmBehind", "(I)Z"⟩, 10), (⟨"BlockBellsModel", "ring", "(IIII)I"⟩, 10), (⟨"BlockBellsModel", "canAccept", "(II)Z"⟩, 10), (⟨"BlockBellsModel", "unclear", "(II)V"⟩, 10), (⟨"BlockBellsModel", "isInside", "(II)Z"⟩, 10), (⟨"BlockBellsModel", "tick", "()V"⟩, 10), (⟨"BlockBellsModel", "trainsAt", "(I)I"⟩, 10), (⟨"BlockBellsModel", "workTick", "()V"⟩, 10), (⟨"BlockBellsModel", "workBlocks", "(I)V"⟩, 10), (⟨"BlockBellsModel", "workTrains", "(I)V"⟩, 10), (⟨"BlockBellsModel", "putAside", "()V"⟩, 10), (⟨"BlockBellsModel", "putBack", "()V"⟩, 10), (⟨"BlockBellsModel", "readOrder", "()V"⟩, 10), (⟨"BlockBellsModel", "nextSign", "()I"⟩, 10), (⟨"BlockBellsModel", "takeNumber", "(II)I"⟩, 10)]
theorem lw_r3 : ∀ q ∈ lw_privs_3, lw_okq q := List.forall_mem_cons.mpr ⟨lw_p32, List.forall_mem_cons.mpr ⟨lw_p33, List.forall_mem_cons.mpr ⟨lw_p34, List.forall_mem_cons.mpr ⟨lw_p35, List.forall_mem_cons.mpr ⟨lw_p36, List.forall_mem_cons.mpr ⟨lw_p37, List.forall_mem_cons.mpr ⟨lw_p38, List.forall_mem_cons.mpr ⟨lw_p39, List.forall_mem_cons.mpr ⟨lw_p40, List.forall_mem_cons.mpr ⟨lw_p41, List.forall_mem_cons.mpr ⟨lw_p42, List.forall_mem_cons.mpr ⟨lw_p43, List.forall_mem_cons.mpr ⟨lw_p44, List.forall_mem_cons.mpr ⟨lw_p45, List.forall_mem_cons.mpr ⟨lw_p46, List.forall_mem_cons.mpr ⟨lw_p47, fun _ h => absurd h List.not_mem_nil⟩⟩⟩⟩⟩⟩⟩⟩⟩⟩⟩⟩⟩⟩⟩⟩
theorem lw_p48 : lw_okq (⟨"BlockBellsModel", "takeSide", "()I"⟩, 10) := ⟨⟨by decide +kernel, by decide +kernel⟩, List.mem_of_getElem? (i := 770) (by decide +kernel), List.mem_of_getElem? (i := 1094) (by decide +kernel), List.mem_of_getElem? (i := 1095) (by decide +kernel)⟩
theorem lw_p49 : lw_okq (⟨"BlockBellsModel", "carryOutOne", "(III)I"⟩, 10) := ⟨⟨by decide +kernel, by decide +kernel⟩, List.mem_of_getElem? (i := 770) (by decide +kernel), List.mem_of_getElem? (i := 1103) (by decide +kernel), List.mem_of_getElem? (i := 1104) (by decide +kernel)⟩
theorem lw_p50 : lw_okq (⟨"BlockBellsModel", "blocksWith", "(I)I"⟩, 10) := ⟨⟨by decide +kernel, by decide +kernel⟩, List.mem_of_getElem? (i := 770) (by decide +kernel), List.mem_of_getElem? (i := 1114) (by decide +kernel), List.mem_of_getElem? (i := 1115) (by decide +kernel)⟩
def lw_privs_4 : List (MethodName × Nat) := [(⟨"BlockBellsModel", "takeSide", "()I"⟩, 10), (⟨"BlockBellsModel", "carryOutOne", "(III)I"⟩, 10), (⟨"BlockBellsModel", "blocksWith", "(I)I"⟩, 10)]
theorem lw_r4 : ∀ q ∈ lw_privs_4, lw_okq q := List.forall_mem_cons.mpr ⟨lw_p48, List.forall_mem_cons.mpr ⟨lw_p49, List.forall_mem_cons.mpr ⟨lw_p50, fun _ h => absurd h List.not_mem_nil⟩⟩⟩
def lw_privs : List (MethodName × Nat) := lw_privs_1 ++ (lw_privs_2 ++ (lw_privs_3 ++ (lw_privs_4)))
def lw_tbl : List Cond := k2_sels lw_privs ++ tables_1
theorem lw_privs_ok : ∀ q ∈ lw_privs, lw_okq q := by
  show ∀ q ∈ lw_privs_1 ++ (lw_privs_2 ++ (lw_privs_3 ++ (lw_privs_4))), lw_okq q
  exact List.forall_mem_append.mpr ⟨lw_r1, List.forall_mem_append.mpr ⟨lw_r2, List.forall_mem_append.mpr ⟨lw_r3, lw_r4⟩⟩⟩
/-! ===== BEGIN words of one list among another's, by their places ===== -/
theorem goodIn_r {big : List Cond} (ws : List Cond) (ps : List Nat) (hp : ws = ps.filterMap (fun i => big[i]?)) (h : ws.all goodWord = true) : GoodIn big ws := by
  intro w hw
  have h1 := List.all_eq_true.mp h w hw
  rw [hp] at hw
  obtain ⟨i, -, hi⟩ := List.mem_filterMap.mp hw
  have hm : w ∈ big := by first | exact List.mem_of_getElem? hi | exact List.getElem?_mem hi
  exact ⟨hm, good_of_word h1⟩
theorem goodIn_app {big a b : List Cond} (ha : GoodIn big a) (hb : GoodIn big b) : GoodIn big (a ++ b) := fun w h => (List.mem_append.mp h).elim (ha w) (hb w)
theorem goodIn_ca {big a b : List Cond} {c : Cond} (ha : GoodIn big (c :: a)) (hb : GoodIn big b) : GoodIn big (c :: (a ++ b)) := fun w h => (List.mem_cons.mp h).elim (fun e => ha w (List.mem_cons.mpr (Or.inl e))) (fun h => (List.mem_append.mp h).elim (fun h => ha w (List.mem_cons.mpr (Or.inr h))) (hb w))
theorem goodIn_sub {big ws : List Cond} (hm : ∀ w ∈ ws, w ∈ big) (h : ws.all goodWord = true) : GoodIn big ws := fun w hw => ⟨hm w hw, good_of_word (List.all_eq_true.mp h w hw)⟩
/-! ===== END ===== -/

/-! ===== BEGIN printed: names, fields, word lists, decode rows ===== -/
def RX0 : String := "BlockBells$Block"
def TX0 : u_T := fun k => match k with
  | 0 => ("BlockBells$Block", "section", "LBlockBells$Section;", true)
  | 1 => ("BlockBells$Block", "direction", "I", true)
  | 2 => ("BlockBells$Block", "state", "I", false)
  | 3 => ("BlockBells$Block", "offered", "I", false)
  | 4 => ("BlockBells$Block", "holder", "I", false)
  | 5 => ("BlockBells$Block", "part", "Z", false)
  | _ => ("BlockBells$Block", "engineTicks", "I", false)
def tyX0 : Nat → FieldType := fun k => match k with
  | 0 => .object "BlockBells$Section"
  | 1 => .int
  | 2 => .int
  | 3 => .int
  | 4 => .int
  | 5 => .boolean
  | _ => .int
abbrev wsX00 : List Cond := u_ws RX0 TX0 7
theorem nmX0 : ∀ a, a < 7 → ∀ b, b < 7 → a ≠ b → (TX0 a).2.1 ≠ (TX0 b).2.1 := by decide +kernel
theorem tyX0_ok : ∀ k, k < 7 → parseFieldDescriptor (TX0 k).2.2.1 = some (tyX0 k) := by decide +kernel
abbrev cX0_init : ByteArray := prog_2_method_1_code
def yX0_init : MethodName := ⟨RX0, "<init>", "(LBlockBells$Section;I)V"⟩
abbrev cX0_reset : ByteArray := prog_2_method_2_code
def yX0_reset : MethodName := ⟨RX0, "reset", "()V"⟩
abbrev cX0_copyFrom : ByteArray := prog_2_method_3_code
def yX0_copyFrom : MethodName := ⟨RX0, "copyFrom", "(LBlockBells$Block;)V"⟩
abbrev cX0_property : ByteArray := prog_2_method_4_code
def yX0_property : MethodName := ⟨RX0, "property", "(I)I"⟩
abbrev cX0_rearBox : ByteArray := prog_2_method_5_code
def yX0_rearBox : MethodName := ⟨RX0, "rearBox", "()I"⟩
abbrev cX0_boxAhead : ByteArray := prog_2_method_6_code
def yX0_boxAhead : MethodName := ⟨RX0, "boxAhead", "()I"⟩
abbrev cX0_rearEnd : ByteArray := prog_2_method_7_code
def yX0_rearEnd : MethodName := ⟨RX0, "rearEnd", "()I"⟩
abbrev cX0_endAhead : ByteArray := prog_2_method_8_code
def yX0_endAhead : MethodName := ⟨RX0, "endAhead", "()I"⟩
abbrev cX0_makeClear : ByteArray := prog_2_method_9_code
def yX0_makeClear : MethodName := ⟨RX0, "makeClear", "()V"⟩
abbrev cX0_takeBack : ByteArray := prog_2_method_10_code
def yX0_takeBack : MethodName := ⟨RX0, "takeBack", "(I)V"⟩
abbrev cX0_makeFree : ByteArray := prog_2_method_11_code
def yX0_makeFree : MethodName := ⟨RX0, "makeFree", "()V"⟩
abbrev cX0_letPass : ByteArray := prog_2_method_12_code
def yX0_letPass : MethodName := ⟨RX0, "letPass", "(I)V"⟩
def RX1 : String := "BlockBells$Line"
def TX1 : u_T := fun k => match k with
  | 0 => ("BlockBells$Line", "sections", "[LBlockBells$Section;", true)
  | 1 => ("BlockBells$Line", "blocks", "[LBlockBells$Block;", true)
  | 2 => ("BlockBells$Line", "trains", "[LBlockBells$Train;", true)
  | 3 => ("BlockBells$Line", "loops", "[I", true)
  | 4 => ("BlockBells$Line", "register", "LBlockBells$Register;", true)
  | 5 => ("BlockBells$Line", "boxes", "I", false)
  | 6 => ("BlockBells$Line", "appeared", "I", false)
  | _ => ("BlockBells$Line", "time", "I", false)
def tyX1 : Nat → FieldType := fun k => match k with
  | 0 => .array (.object "BlockBells$Section")
  | 1 => .array (.object "BlockBells$Block")
  | 2 => .array (.object "BlockBells$Train")
  | 3 => .array .int
  | 4 => .object "BlockBells$Register"
  | 5 => .int
  | 6 => .int
  | _ => .int
abbrev wsX10 : List Cond := u_ws RX1 TX1 8
theorem nmX1 : ∀ a, a < 8 → ∀ b, b < 8 → a ≠ b → (TX1 a).2.1 ≠ (TX1 b).2.1 := by decide +kernel
theorem tyX1_ok : ∀ k, k < 8 → parseFieldDescriptor (TX1 k).2.2.1 = some (tyX1 k) := by decide +kernel
abbrev cX1_init : ByteArray := prog_3_method_1_code
def yX1_init : MethodName := ⟨RX1, "<init>", "()V"⟩
abbrev cX1_layOut : ByteArray := prog_3_method_2_code
def yX1_layOut : MethodName := ⟨RX1, "layOut", "(II)V"⟩
abbrev cX1_clearTraffic : ByteArray := prog_3_method_3_code
def yX1_clearTraffic : MethodName := ⟨RX1, "clearTraffic", "()V"⟩
abbrev cX1_copyFrom : ByteArray := prog_3_method_4_code
def yX1_copyFrom : MethodName := ⟨RX1, "copyFrom", "(LBlockBells$Line;)V"⟩
abbrev cX1_hasBox : ByteArray := prog_3_method_5_code
def yX1_hasBox : MethodName := ⟨RX1, "hasBox", "(I)Z"⟩
abbrev cX1_sectionAt : ByteArray := prog_3_method_6_code
def yX1_sectionAt : MethodName := ⟨RX1, "sectionAt", "(I)LBlockBells$Section;"⟩
abbrev cX1_blockAt : ByteArray := prog_3_method_7_code
def yX1_blockAt : MethodName := ⟨RX1, "blockAt", "(II)LBlockBells$Block;"⟩
abbrev cX1_trainAt : ByteArray := prog_3_method_8_code
def yX1_trainAt : MethodName := ⟨RX1, "trainAt", "(I)LBlockBells$Train;"⟩
abbrev cX1_isGone : ByteArray := prog_3_method_9_code
def yX1_isGone : MethodName := ⟨RX1, "isGone", "(I)Z"⟩
abbrev cX1_blockCount : ByteArray := prog_3_method_10_code
def yX1_blockCount : MethodName := ⟨RX1, "blockCount", "()I"⟩
abbrev cX1_firstBox : ByteArray := prog_3_method_11_code
def yX1_firstBox : MethodName := ⟨RX1, "firstBox", "(I)I"⟩
abbrev cX1_lastBox : ByteArray := prog_3_method_12_code
def yX1_lastBox : MethodName := ⟨RX1, "lastBox", "(I)I"⟩
abbrev cX1_isLineFree : ByteArray := prog_3_method_13_code
def yX1_isLineFree : MethodName := ⟨RX1, "isLineFree", "(II)Z"⟩
abbrev cX1_trainsStanding : ByteArray := prog_3_method_14_code
def yX1_trainsStanding : MethodName := ⟨RX1, "trainsStanding", "(III)I"⟩
abbrev cX1_nextBlock : ByteArray := prog_3_method_15_code
def yX1_nextBlock : MethodName := ⟨RX1, "nextBlock", "(LBlockBells$Train;)LBlockBells$Block;"⟩
abbrev cX1_blockTo : ByteArray := prog_3_method_16_code
def yX1_blockTo : MethodName := ⟨RX1, "blockTo", "(II)LBlockBells$Block;"⟩
abbrev cX1_trainInside : ByteArray := prog_3_method_17_code
def yX1_trainInside : MethodName := ⟨RX1, "trainInside", "(LBlockBells$Block;)LBlockBells$Train;"⟩
abbrev cX1_trainsThatAre : ByteArray := prog_3_method_18_code
def yX1_trainsThatAre : MethodName := ⟨RX1, "trainsThatAre", "(I)I"⟩
abbrev cX1_blocksOtherThan : ByteArray := prog_3_method_19_code
def yX1_blocksOtherThan : MethodName := ⟨RX1, "blocksOtherThan", "(II)I"⟩
abbrev cX1_changeLoops : ByteArray := prog_3_method_20_code
def yX1_changeLoops : MethodName := ⟨RX1, "changeLoops", "(III)I"⟩
abbrev cX1_bringNew : ByteArray := prog_3_method_21_code
def yX1_bringNew : MethodName := ⟨RX1, "bringNew", "(II)I"⟩
abbrev cX1_bringSpare : ByteArray := prog_3_method_22_code
def yX1_bringSpare : MethodName := ⟨RX1, "bringSpare", "(II)V"⟩
abbrev cX1_shuntTrain : ByteArray := prog_3_method_23_code
def yX1_shuntTrain : MethodName := ⟨RX1, "shuntTrain", "(LBlockBells$Train;)I"⟩
abbrev cX1_shuntToLoop : ByteArray := prog_3_method_24_code
def yX1_shuntToLoop : MethodName := ⟨RX1, "shuntToLoop", "(LBlockBells$Train;)I"⟩
abbrev cX1_shuntBack : ByteArray := prog_3_method_25_code
def yX1_shuntBack : MethodName := ⟨RX1, "shuntBack", "(LBlockBells$Train;)I"⟩
abbrev cX1_letLeave : ByteArray := prog_3_method_26_code
def yX1_letLeave : MethodName := ⟨RX1, "letLeave", "(LBlockBells$Train;)I"⟩
abbrev cX1_divideTrain : ByteArray := prog_3_method_27_code
def yX1_divideTrain : MethodName := ⟨RX1, "divideTrain", "(LBlockBells$Train;)I"⟩
abbrev cX1_ringRear : ByteArray := prog_3_method_28_code
def yX1_ringRear : MethodName := ⟨RX1, "ringRear", "(LBlockBells$Block;I)I"⟩
abbrev cX1_ringAhead : ByteArray := prog_3_method_29_code
def yX1_ringAhead : MethodName := ⟨RX1, "ringAhead", "(LBlockBells$Block;I)I"⟩
abbrev cX1_offerTrain : ByteArray := prog_3_method_30_code
def yX1_offerTrain : MethodName := ⟨RX1, "offerTrain", "(LBlockBells$Train;)I"⟩
abbrev cX1_accept : ByteArray := prog_3_method_31_code
def yX1_accept : MethodName := ⟨RX1, "accept", "(LBlockBells$Block;)I"⟩
abbrev cX1_isTokenReady : ByteArray := prog_3_method_32_code
def yX1_isTokenReady : MethodName := ⟨RX1, "isTokenReady", "(LBlockBells$Block;)Z"⟩
abbrev cX1_refuse : ByteArray := prog_3_method_33_code
def yX1_refuse : MethodName := ⟨RX1, "refuse", "(LBlockBells$Block;)I"⟩
abbrev cX1_cancelBlock : ByteArray := prog_3_method_34_code
def yX1_cancelBlock : MethodName := ⟨RX1, "cancelBlock", "(LBlockBells$Block;)I"⟩
abbrev cX1_letDepart : ByteArray := prog_3_method_35_code
def yX1_letDepart : MethodName := ⟨RX1, "letDepart", "(LBlockBells$Train;)I"⟩
abbrev cX1_admitTrain : ByteArray := prog_3_method_36_code
def yX1_admitTrain : MethodName := ⟨RX1, "admitTrain", "(LBlockBells$Block;)I"⟩
abbrev cX1_reportOut : ByteArray := prog_3_method_37_code
def yX1_reportOut : MethodName := ⟨RX1, "reportOut", "(LBlockBells$Block;)I"⟩
abbrev cX1_sendEngine : ByteArray := prog_3_method_38_code
def yX1_sendEngine : MethodName := ⟨RX1, "sendEngine", "(LBlockBells$Block;)I"⟩
abbrev cX1_obstructBlock : ByteArray := prog_3_method_39_code
def yX1_obstructBlock : MethodName := ⟨RX1, "obstructBlock", "(LBlockBells$Block;)I"⟩
abbrev cX1_liftBlock : ByteArray := prog_3_method_40_code
def yX1_liftBlock : MethodName := ⟨RX1, "liftBlock", "(LBlockBells$Block;)I"⟩
abbrev cX1_letPass : ByteArray := prog_3_method_41_code
def yX1_letPass : MethodName := ⟨RX1, "letPass", "(I)V"⟩
abbrev cX1_workTick : ByteArray := prog_3_method_42_code
def yX1_workTick : MethodName := ⟨RX1, "workTick", "()I"⟩
abbrev cX1_clearSections : ByteArray := prog_3_method_43_code
def yX1_clearSections : MethodName := ⟨RX1, "clearSections", "()V"⟩
abbrev cX1_leaveAll : ByteArray := prog_3_method_44_code
def yX1_leaveAll : MethodName := ⟨RX1, "leaveAll", "()I"⟩
abbrev cX1_offerAll : ByteArray := prog_3_method_45_code
def yX1_offerAll : MethodName := ⟨RX1, "offerAll", "()V"⟩
abbrev cX1_answerAll : ByteArray := prog_3_method_46_code
def yX1_answerAll : MethodName := ⟨RX1, "answerAll", "()V"⟩
abbrev cX1_departAll : ByteArray := prog_3_method_47_code
def yX1_departAll : MethodName := ⟨RX1, "departAll", "()V"⟩
def RX2 : String := "BlockBells$Pad"
def TX2 : u_T := fun k => match k with
  | 0 => ("BlockBells$Pad", "signs", "[I", true)
  | 1 => ("BlockBells$Pad", "length", "I", false)
  | 2 => ("BlockBells$Pad", "at", "I", false)
  | 3 => ("BlockBells$Pad", "letter", "I", false)
  | 4 => ("BlockBells$Pad", "number", "I", false)
  | _ => ("BlockBells$Pad", "direction", "I", false)
def tyX2 : Nat → FieldType := fun k => match k with
  | 0 => .array .int
  | 1 => .int
  | 2 => .int
  | 3 => .int
  | 4 => .int
  | _ => .int
abbrev wsX20 : List Cond := u_ws RX2 TX2 6
theorem nmX2 : ∀ a, a < 6 → ∀ b, b < 6 → a ≠ b → (TX2 a).2.1 ≠ (TX2 b).2.1 := by decide +kernel
theorem tyX2_ok : ∀ k, k < 6 → parseFieldDescriptor (TX2 k).2.2.1 = some (tyX2 k) := by decide +kernel
abbrev cX2_init : ByteArray := prog_4_method_1_code
def yX2_init : MethodName := ⟨RX2, "<init>", "()V"⟩
abbrev cX2_append : ByteArray := prog_4_method_2_code
def yX2_append : MethodName := ⟨RX2, "append", "(I)I"⟩
abbrev cX2_empty : ByteArray := prog_4_method_3_code
def yX2_empty : MethodName := ⟨RX2, "empty", "()I"⟩
abbrev cX2_firstFault : ByteArray := prog_4_method_4_code
def yX2_firstFault : MethodName := ⟨RX2, "firstFault", "()I"⟩
abbrev cX2_after : ByteArray := prog_4_method_5_code
def yX2_after : MethodName := ⟨RX2, "after", "(II)I"⟩
abbrev cX2_afterLetter : ByteArray := prog_4_method_6_code
def yX2_afterLetter : MethodName := ⟨RX2, "afterLetter", "(I)I"⟩
abbrev cX2_afterOrder : ByteArray := prog_4_method_7_code
def yX2_afterOrder : MethodName := ⟨RX2, "afterOrder", "(I)I"⟩
abbrev cX2_isBetween : ByteArray := prog_4_method_8_code
def yX2_isBetween : MethodName := ⟨RX2, "isBetween", "(III)Z"⟩
abbrev cX2_rewind : ByteArray := prog_4_method_9_code
def yX2_rewind : MethodName := ⟨RX2, "rewind", "()V"⟩
abbrev cX2_readOrder : ByteArray := prog_4_method_10_code
def yX2_readOrder : MethodName := ⟨RX2, "readOrder", "()Z"⟩
abbrev cX2_readSign : ByteArray := prog_4_method_11_code
def yX2_readSign : MethodName := ⟨RX2, "readSign", "(I)V"⟩
def RX3 : String := "BlockBells$Register"
def TX3 : u_T := fun k => match k with
  | 0 => ("BlockBells$Register", "rows", "[I", true)
  | _ => ("BlockBells$Register", "total", "I", false)
def tyX3 : Nat → FieldType := fun k => match k with
  | 0 => .array .int
  | _ => .int
abbrev wsX30 : List Cond := u_ws RX3 TX3 2
theorem nmX3 : ∀ a, a < 2 → ∀ b, b < 2 → a ≠ b → (TX3 a).2.1 ≠ (TX3 b).2.1 := by decide +kernel
theorem tyX3_ok : ∀ k, k < 2 → parseFieldDescriptor (TX3 k).2.2.1 = some (tyX3 k) := by decide +kernel
abbrev cX3_init : ByteArray := prog_5_method_1_code
def yX3_init : MethodName := ⟨RX3, "<init>", "()V"⟩
abbrev cX3_copyFrom : ByteArray := prog_5_method_2_code
def yX3_copyFrom : MethodName := ⟨RX3, "copyFrom", "(LBlockBells$Register;)V"⟩
abbrev cX3_record : ByteArray := prog_5_method_3_code
def yX3_record : MethodName := ⟨RX3, "record", "(ILBlockBells$Block;II)V"⟩
abbrev cX3_property : ByteArray := prog_5_method_4_code
def yX3_property : MethodName := ⟨RX3, "property", "(II)I"⟩
abbrev cX3_countOf : ByteArray := prog_5_method_5_code
def yX3_countOf : MethodName := ⟨RX3, "countOf", "(II)I"⟩
abbrev cX3_oldest : ByteArray := prog_5_method_6_code
def yX3_oldest : MethodName := ⟨RX3, "oldest", "()I"⟩
abbrev cX3_rowOf : ByteArray := prog_5_method_7_code
def yX3_rowOf : MethodName := ⟨RX3, "rowOf", "(I)I"⟩
def RX4 : String := "BlockBells$Section"
def TX4 : u_T := fun k => match k with
  | 0 => ("BlockBells$Section", "number", "I", true)
  | 1 => ("BlockBells$Section", "single", "Z", false)
  | 2 => ("BlockBells$Section", "runningTime", "I", false)
  | 3 => ("BlockBells$Section", "lowerTokens", "I", false)
  | 4 => ("BlockBells$Section", "higherTokens", "I", false)
  | _ => ("BlockBells$Section", "tokenOut", "Z", false)
def tyX4 : Nat → FieldType := fun k => match k with
  | 0 => .int
  | 1 => .boolean
  | 2 => .int
  | 3 => .int
  | 4 => .int
  | _ => .boolean
abbrev wsX40 : List Cond := u_ws RX4 TX4 6
theorem nmX4 : ∀ a, a < 6 → ∀ b, b < 6 → a ≠ b → (TX4 a).2.1 ≠ (TX4 b).2.1 := by decide +kernel
theorem tyX4_ok : ∀ k, k < 6 → parseFieldDescriptor (TX4 k).2.2.1 = some (tyX4 k) := by decide +kernel
abbrev cX4_init : ByteArray := prog_6_method_1_code
def yX4_init : MethodName := ⟨RX4, "<init>", "(I)V"⟩
abbrev cX4_layOut : ByteArray := prog_6_method_2_code
def yX4_layOut : MethodName := ⟨RX4, "layOut", "(Z)V"⟩
abbrev cX4_copyFrom : ByteArray := prog_6_method_3_code
def yX4_copyFrom : MethodName := ⟨RX4, "copyFrom", "(LBlockBells$Section;)V"⟩
abbrev cX4_property : ByteArray := prog_6_method_4_code
def yX4_property : MethodName := ⟨RX4, "property", "(I)I"⟩
abbrev cX4_moveUp : ByteArray := prog_6_method_5_code
def yX4_moveUp : MethodName := ⟨RX4, "moveUp", "(I)I"⟩
abbrev cX4_hasToken : ByteArray := prog_6_method_6_code
def yX4_hasToken : MethodName := ⟨RX4, "hasToken", "(I)Z"⟩
abbrev cX4_takeToken : ByteArray := prog_6_method_7_code
def yX4_takeToken : MethodName := ⟨RX4, "takeToken", "(I)V"⟩
abbrev cX4_putToken : ByteArray := prog_6_method_8_code
def yX4_putToken : MethodName := ⟨RX4, "putToken", "(I)V"⟩
abbrev cX4_addTokens : ByteArray := prog_6_method_9_code
def yX4_addTokens : MethodName := ⟨RX4, "addTokens", "(II)V"⟩
def RX5 : String := "BlockBells$Train"
def TX5 : u_T := fun k => match k with
  | 0 => ("BlockBells$Train", "number", "I", true)
  | 1 => ("BlockBells$Train", "kind", "I", false)
  | 2 => ("BlockBells$Train", "direction", "I", false)
  | 3 => ("BlockBells$Train", "where", "I", false)
  | 4 => ("BlockBells$Train", "place", "I", false)
  | 5 => ("BlockBells$Train", "ticksLeft", "I", false)
  | 6 => ("BlockBells$Train", "whole", "Z", false)
  | 7 => ("BlockBells$Train", "appearedAt", "I", false)
  | _ => ("BlockBells$Train", "leftAt", "I", false)
def tyX5 : Nat → FieldType := fun k => match k with
  | 0 => .int
  | 1 => .int
  | 2 => .int
  | 3 => .int
  | 4 => .int
  | 5 => .int
  | 6 => .boolean
  | 7 => .int
  | _ => .int
abbrev wsX50 : List Cond := u_ws RX5 TX5 9
theorem nmX5 : ∀ a, a < 9 → ∀ b, b < 9 → a ≠ b → (TX5 a).2.1 ≠ (TX5 b).2.1 := by decide +kernel
theorem tyX5_ok : ∀ k, k < 9 → parseFieldDescriptor (TX5 k).2.2.1 = some (tyX5 k) := by decide +kernel
abbrev cX5_init : ByteArray := prog_7_method_1_code
def yX5_init : MethodName := ⟨RX5, "<init>", "(I)V"⟩
abbrev cX5_start : ByteArray := prog_7_method_2_code
def yX5_start : MethodName := ⟨RX5, "start", "(IIII)V"⟩
abbrev cX5_copyFrom : ByteArray := prog_7_method_3_code
def yX5_copyFrom : MethodName := ⟨RX5, "copyFrom", "(LBlockBells$Train;)V"⟩
abbrev cX5_property : ByteArray := prog_7_method_4_code
def yX5_property : MethodName := ⟨RX5, "property", "(I)I"⟩
abbrev cX5_stands : ByteArray := prog_7_method_5_code
def yX5_stands : MethodName := ⟨RX5, "stands", "(III)Z"⟩
abbrev cX5_standAt : ByteArray := prog_7_method_6_code
def yX5_standAt : MethodName := ⟨RX5, "standAt", "(II)V"⟩
abbrev cX5_enter : ByteArray := prog_7_method_7_code
def yX5_enter : MethodName := ⟨RX5, "enter", "(LBlockBells$Section;)V"⟩
abbrev cX5_go : ByteArray := prog_7_method_8_code
def yX5_go : MethodName := ⟨RX5, "go", "(I)V"⟩
abbrev cX5_letPass : ByteArray := prog_7_method_9_code
def yX5_letPass : MethodName := ⟨RX5, "letPass", "(I)V"⟩
def RX6 : String := "BlockBells"
def TX6 : u_T := fun k => match k with
  | 0 => ("BlockBells", "line", "LBlockBells$Line;", true)
  | 1 => ("BlockBells", "trial", "LBlockBells$Line;", true)
  | 2 => ("BlockBells", "slots", "[LBlockBells$Line;", true)
  | 3 => ("BlockBells", "saved", "[Z", true)
  | _ => ("BlockBells", "pad", "LBlockBells$Pad;", true)
def tyX6 : Nat → FieldType := fun k => match k with
  | 0 => .object "BlockBells$Line"
  | 1 => .object "BlockBells$Line"
  | 2 => .array (.object "BlockBells$Line")
  | 3 => .array .boolean
  | _ => .object "BlockBells$Pad"
abbrev wsX60 : List Cond := u_ws RX6 TX6 5
theorem nmX6 : ∀ a, a < 5 → ∀ b, b < 5 → a ≠ b → (TX6 a).2.1 ≠ (TX6 b).2.1 := by decide +kernel
theorem tyX6_ok : ∀ k, k < 5 → parseFieldDescriptor (TX6 k).2.2.1 = some (tyX6 k) := by decide +kernel
abbrev cX6_init : ByteArray := prog_1_method_1_code
def yX6_init : MethodName := ⟨RX6, "<init>", "()V"⟩
abbrev cX6_setUp : ByteArray := prog_1_method_2_code
def yX6_setUp : MethodName := ⟨RX6, "setUp", "(II)I"⟩
abbrev cX6_setTime : ByteArray := prog_1_method_3_code
def yX6_setTime : MethodName := ⟨RX6, "setTime", "(II)I"⟩
abbrev cX6_setLoops : ByteArray := prog_1_method_4_code
def yX6_setLoops : MethodName := ⟨RX6, "setLoops", "(III)I"⟩
abbrev cX6_moveTokens : ByteArray := prog_1_method_5_code
def yX6_moveTokens : MethodName := ⟨RX6, "moveTokens", "(II)I"⟩
abbrev cX6_section : ByteArray := prog_1_method_6_code
def yX6_section : MethodName := ⟨RX6, "section", "(II)I"⟩
abbrev cX6_block : ByteArray := prog_1_method_7_code
def yX6_block : MethodName := ⟨RX6, "block", "(III)I"⟩
abbrev cX6_appear : ByteArray := prog_1_method_8_code
def yX6_appear : MethodName := ⟨RX6, "appear", "(II)I"⟩
abbrev cX6_train : ByteArray := prog_1_method_9_code
def yX6_train : MethodName := ⟨RX6, "train", "(II)I"⟩
abbrev cX6_shunt : ByteArray := prog_1_method_10_code
def yX6_shunt : MethodName := ⟨RX6, "shunt", "(I)I"⟩
abbrev cX6_leave : ByteArray := prog_1_method_11_code
def yX6_leave : MethodName := ⟨RX6, "leave", "(I)I"⟩
abbrev cX6_divide : ByteArray := prog_1_method_12_code
def yX6_divide : MethodName := ⟨RX6, "divide", "(I)I"⟩
abbrev cX6_offer : ByteArray := prog_1_method_13_code
def yX6_offer : MethodName := ⟨RX6, "offer", "(I)I"⟩
abbrev cX6_answer : ByteArray := prog_1_method_14_code
def yX6_answer : MethodName := ⟨RX6, "answer", "(IIZ)I"⟩
abbrev cX6_cancel : ByteArray := prog_1_method_15_code
def yX6_cancel : MethodName := ⟨RX6, "cancel", "(II)I"⟩
abbrev cX6_depart : ByteArray := prog_1_method_16_code
def yX6_depart : MethodName := ⟨RX6, "depart", "(I)I"⟩
abbrev cX6_admit : ByteArray := prog_1_method_17_code
def yX6_admit : MethodName := ⟨RX6, site_682.name, "(II)I"⟩
abbrev cX6_out : ByteArray := prog_1_method_18_code
def yX6_out : MethodName := ⟨RX6, "out", "(II)I"⟩
abbrev cX6_assist : ByteArray := prog_1_method_19_code
def yX6_assist : MethodName := ⟨RX6, "assist", "(II)I"⟩
abbrev cX6_obstruct : ByteArray := prog_1_method_20_code
def yX6_obstruct : MethodName := ⟨RX6, "obstruct", "(II)I"⟩
abbrev cX6_lift : ByteArray := prog_1_method_21_code
def yX6_lift : MethodName := ⟨RX6, "lift", "(II)I"⟩
abbrev cX6_pass : ByteArray := prog_1_method_22_code
def yX6_pass : MethodName := ⟨RX6, "pass", "(I)I"⟩
abbrev cX6_signal : ByteArray := prog_1_method_23_code
def yX6_signal : MethodName := ⟨RX6, "signal", "(II)I"⟩
abbrev cX6_rung : ByteArray := prog_1_method_24_code
def yX6_rung : MethodName := ⟨RX6, "rung", "(II)I"⟩
abbrev cX6_work : ByteArray := prog_1_method_25_code
def yX6_work : MethodName := ⟨RX6, "work", "(I)I"⟩
abbrev cX6_forecast : ByteArray := prog_1_method_26_code
def yX6_forecast : MethodName := ⟨RX6, "forecast", "(II)I"⟩
abbrev cX6_capacity : ByteArray := prog_1_method_27_code
def yX6_capacity : MethodName := ⟨RX6, "capacity", "(III)I"⟩
abbrev cX6_say : ByteArray := prog_1_method_28_code
def yX6_say : MethodName := ⟨RX6, "say", "(I)I"⟩
abbrev cX6_wipe : ByteArray := prog_1_method_29_code
def yX6_wipe : MethodName := ⟨RX6, "wipe", "()I"⟩
abbrev cX6_fault : ByteArray := prog_1_method_30_code
def yX6_fault : MethodName := ⟨RX6, "fault", "()I"⟩
abbrev cX6_carryOut : ByteArray := prog_1_method_31_code
def yX6_carryOut : MethodName := ⟨RX6, "carryOut", "()I"⟩
abbrev cX6_obey : ByteArray := prog_1_method_32_code
def yX6_obey : MethodName := ⟨RX6, "obey", "(III)I"⟩
abbrev cX6_count : ByteArray := prog_1_method_33_code
def yX6_count : MethodName := ⟨RX6, "count", "(I)I"⟩
abbrev cX6_save : ByteArray := prog_1_method_34_code
def yX6_save : MethodName := ⟨RX6, "save", "(I)I"⟩
abbrev cX6_restore : ByteArray := prog_1_method_35_code
def yX6_restore : MethodName := ⟨RX6, "restore", "(I)I"⟩
abbrev cX6_isDirection : ByteArray := prog_1_method_36_code
def yX6_isDirection : MethodName := ⟨RX6, "isDirection", "(I)Z"⟩
abbrev cX6_isKind : ByteArray := prog_1_method_37_code
def yX6_isKind : MethodName := ⟨RX6, "isKind", "(I)Z"⟩
abbrev cX6_offerCode : ByteArray := prog_1_method_38_code
def yX6_offerCode : MethodName := ⟨RX6, "offerCode", "(I)I"⟩
def RX7 : String := "BlockBellsModel"
def TX7 : u_T := fun k => match k with
  | 0 => ("BlockBellsModel", "at", "[I", true)
  | 1 => ("BlockBellsModel", "aside", "[I", true)
  | 2 => ("BlockBellsModel", "slots", "[I", true)
  | 3 => ("BlockBellsModel", "isSaved", "[Z", true)
  | 4 => ("BlockBellsModel", "pad", "[I", true)
  | 5 => ("BlockBellsModel", "padMany", "I", false)
  | 6 => ("BlockBellsModel", "reading", "I", false)
  | 7 => ("BlockBellsModel", "isWrong", "Z", false)
  | 8 => ("BlockBellsModel", "orders", "[I", true)
  | _ => ("BlockBellsModel", "orderMany", "I", false)
def tyX7 : Nat → FieldType := fun k => match k with
  | 0 => .array .int
  | 1 => .array .int
  | 2 => .array .int
  | 3 => .array .boolean
  | 4 => .array .int
  | 5 => .int
  | 6 => .int
  | 7 => .boolean
  | 8 => .array .int
  | _ => .int
abbrev wsX70 : List Cond := u_ws RX7 TX7 10
theorem nmX7 : ∀ a, a < 10 → ∀ b, b < 10 → a ≠ b → (TX7 a).2.1 ≠ (TX7 b).2.1 := by decide +kernel
theorem tyX7_ok : ∀ k, k < 10 → parseFieldDescriptor (TX7 k).2.2.1 = some (tyX7 k) := by decide +kernel
abbrev cX7_init : ByteArray := prog_9_method_1_code
def yX7_init : MethodName := ⟨RX7, "<init>", "()V"⟩
abbrev cX7_in : ByteArray := prog_9_method_2_code
def yX7_in : MethodName := ⟨RX7, "in", "(III)Z"⟩
abbrev cX7_putAside : ByteArray := prog_9_method_3_code
def yX7_putAside : MethodName := ⟨RX7, "putAside", "()V"⟩
abbrev cX7_putBack : ByteArray := prog_9_method_4_code
def yX7_putBack : MethodName := ⟨RX7, "putBack", "()V"⟩
abbrev cX7_lay : ByteArray := prog_9_method_5_code
def yX7_lay : MethodName := ⟨RX7, "lay", "(II)V"⟩
abbrev cX7_layBlocks : ByteArray := prog_9_method_6_code
def yX7_layBlocks : MethodName := ⟨RX7, "layBlocks", "()V"⟩
abbrev cX7_sections : ByteArray := prog_9_method_7_code
def yX7_sections : MethodName := ⟨RX7, "sections", "()I"⟩
abbrev cX7_isSection : ByteArray := prog_9_method_8_code
def yX7_isSection : MethodName := ⟨RX7, "isSection", "(I)Z"⟩
abbrev cX7_isWay : ByteArray := prog_9_method_9_code
def yX7_isWay : MethodName := ⟨RX7, "isWay", "(I)Z"⟩
abbrev cX7_isBlock : ByteArray := prog_9_method_10_code
def yX7_isBlock : MethodName := ⟨RX7, "isBlock", "(II)Z"⟩
abbrev cX7_isTrain : ByteArray := prog_9_method_11_code
def yX7_isTrain : MethodName := ⟨RX7, "isTrain", "(I)Z"⟩
abbrev cX7_rear : ByteArray := prog_9_method_12_code
def yX7_rear : MethodName := ⟨RX7, "rear", "(II)I"⟩
abbrev cX7_ahead : ByteArray := prog_9_method_13_code
def yX7_ahead : MethodName := ⟨RX7, "ahead", "(II)I"⟩
abbrev cX7_place : ByteArray := prog_9_method_14_code
def yX7_place : MethodName := ⟨RX7, "place", "(III)I"⟩
abbrev cX7_ofBlock : ByteArray := prog_9_method_15_code
def yX7_ofBlock : MethodName := ⟨RX7, "ofBlock", "(III)I"⟩
abbrev cX7_ofTrain : ByteArray := prog_9_method_16_code
def yX7_ofTrain : MethodName := ⟨RX7, "ofTrain", "(II)I"⟩
abbrev cX7_layTrain : ByteArray := prog_9_method_17_code
def yX7_layTrain : MethodName := ⟨RX7, "layTrain", "(III)V"⟩
abbrev cX7_isSingle : ByteArray := prog_9_method_18_code
def yX7_isSingle : MethodName := ⟨RX7, "isSingle", "(I)Z"⟩
abbrev cX7_isTokenOut : ByteArray := prog_9_method_19_code
def yX7_isTokenOut : MethodName := ⟨RX7, "isTokenOut", "(I)Z"⟩
abbrev cX7_tokensAt : ByteArray := prog_9_method_20_code
def yX7_tokensAt : MethodName := ⟨RX7, "tokensAt", "(II)I"⟩
abbrev cX7_setUp : ByteArray := prog_9_method_21_code
def yX7_setUp : MethodName := ⟨RX7, "setUp", "(II)I"⟩
abbrev cX7_setTime : ByteArray := prog_9_method_22_code
def yX7_setTime : MethodName := ⟨RX7, "setTime", "(II)I"⟩
abbrev cX7_many : ByteArray := prog_9_method_23_code
def yX7_many : MethodName := ⟨RX7, "many", "(III)I"⟩
abbrev cX7_setLoops : ByteArray := prog_9_method_24_code
def yX7_setLoops : MethodName := ⟨RX7, "setLoops", "(III)I"⟩
abbrev cX7_moveTokens : ByteArray := prog_9_method_25_code
def yX7_moveTokens : MethodName := ⟨RX7, "moveTokens", "(II)I"⟩
abbrev cX7_section : ByteArray := prog_9_method_26_code
def yX7_section : MethodName := ⟨RX7, "section", "(II)I"⟩
abbrev cX7_block : ByteArray := prog_9_method_27_code
def yX7_block : MethodName := ⟨RX7, "block", "(III)I"⟩
abbrev cX7_firstBox : ByteArray := prog_9_method_28_code
def yX7_firstBox : MethodName := ⟨RX7, "firstBox", "(I)I"⟩
abbrev cX7_isFree : ByteArray := prog_9_method_29_code
def yX7_isFree : MethodName := ⟨RX7, "isFree", "(II)Z"⟩
abbrev cX7_add : ByteArray := prog_9_method_30_code
def yX7_add : MethodName := ⟨RX7, "add", "(II)I"⟩
abbrev cX7_appear : ByteArray := prog_9_method_31_code
def yX7_appear : MethodName := ⟨RX7, "appear", "(II)I"⟩
abbrev cX7_train : ByteArray := prog_9_method_32_code
def yX7_train : MethodName := ⟨RX7, "train", "(II)I"⟩
abbrev cX7_nextSection : ByteArray := prog_9_method_33_code
def yX7_nextSection : MethodName := ⟨RX7, "nextSection", "(I)I"⟩
abbrev cX7_isCalmBehind : ByteArray := prog_9_method_34_code
def yX7_isCalmBehind : MethodName := ⟨RX7, "isCalmBehind", "(I)Z"⟩
abbrev cX7_isOffered : ByteArray := prog_9_method_35_code
def yX7_isOffered : MethodName := ⟨RX7, "isOffered", "(I)Z"⟩
abbrev cX7_isClearFor : ByteArray := prog_9_method_36_code
def yX7_isClearFor : MethodName := ⟨RX7, "isClearFor", "(I)Z"⟩
abbrev cX7_canGoIn : ByteArray := prog_9_method_37_code
def yX7_canGoIn : MethodName := ⟨RX7, "canGoIn", "(I)Z"⟩
abbrev cX7_shunt : ByteArray := prog_9_method_38_code
def yX7_shunt : MethodName := ⟨RX7, "shunt", "(I)I"⟩
abbrev cX7_leave : ByteArray := prog_9_method_39_code
def yX7_leave : MethodName := ⟨RX7, "leave", "(I)I"⟩
abbrev cX7_divide : ByteArray := prog_9_method_40_code
def yX7_divide : MethodName := ⟨RX7, "divide", "(I)I"⟩
abbrev cX7_codeOf : ByteArray := prog_9_method_41_code
def yX7_codeOf : MethodName := ⟨RX7, "codeOf", "(I)I"⟩
abbrev cX7_ring : ByteArray := prog_9_method_42_code
def yX7_ring : MethodName := ⟨RX7, "ring", "(IIII)I"⟩
abbrev cX7_offer : ByteArray := prog_9_method_43_code
def yX7_offer : MethodName := ⟨RX7, "offer", "(I)I"⟩
abbrev cX7_canAccept : ByteArray := prog_9_method_44_code
def yX7_canAccept : MethodName := ⟨RX7, "canAccept", "(II)Z"⟩
abbrev cX7_answer : ByteArray := prog_9_method_45_code
def yX7_answer : MethodName := ⟨RX7, "answer", "(IIZ)I"⟩
abbrev cX7_unclear : ByteArray := prog_9_method_46_code
def yX7_unclear : MethodName := ⟨RX7, "unclear", "(II)V"⟩
abbrev cX7_cancel : ByteArray := prog_9_method_47_code
def yX7_cancel : MethodName := ⟨RX7, "cancel", "(II)I"⟩
abbrev cX7_depart : ByteArray := prog_9_method_48_code
def yX7_depart : MethodName := ⟨RX7, "depart", "(I)I"⟩
abbrev cX7_isInside : ByteArray := prog_9_method_49_code
def yX7_isInside : MethodName := ⟨RX7, "isInside", "(II)Z"⟩
abbrev cX7_admit : ByteArray := prog_9_method_50_code
def yX7_admit : MethodName := ⟨RX7, site_696.name, "(II)I"⟩
abbrev cX7_out : ByteArray := prog_9_method_51_code
def yX7_out : MethodName := ⟨RX7, "out", "(II)I"⟩
abbrev cX7_assist : ByteArray := prog_9_method_52_code
def yX7_assist : MethodName := ⟨RX7, "assist", "(II)I"⟩
abbrev cX7_obstruct : ByteArray := prog_9_method_53_code
def yX7_obstruct : MethodName := ⟨RX7, "obstruct", "(II)I"⟩
abbrev cX7_lift : ByteArray := prog_9_method_54_code
def yX7_lift : MethodName := ⟨RX7, "lift", "(II)I"⟩
abbrev cX7_tick : ByteArray := prog_9_method_55_code
def yX7_tick : MethodName := ⟨RX7, "tick", "()V"⟩
abbrev cX7_pass : ByteArray := prog_9_method_56_code
def yX7_pass : MethodName := ⟨RX7, "pass", "(I)I"⟩
abbrev cX7_signal : ByteArray := prog_9_method_57_code
def yX7_signal : MethodName := ⟨RX7, "signal", "(II)I"⟩
abbrev cX7_rung : ByteArray := prog_9_method_58_code
def yX7_rung : MethodName := ⟨RX7, "rung", "(II)I"⟩
abbrev cX7_workBlocks : ByteArray := prog_9_method_59_code
def yX7_workBlocks : MethodName := ⟨RX7, "workBlocks", "(I)V"⟩
abbrev cX7_workTrains : ByteArray := prog_9_method_60_code
def yX7_workTrains : MethodName := ⟨RX7, "workTrains", "(I)V"⟩
abbrev cX7_workTick : ByteArray := prog_9_method_61_code
def yX7_workTick : MethodName := ⟨RX7, "workTick", "()V"⟩
abbrev cX7_trainsAt : ByteArray := prog_9_method_62_code
def yX7_trainsAt : MethodName := ⟨RX7, "trainsAt", "(I)I"⟩
abbrev cX7_work : ByteArray := prog_9_method_63_code
def yX7_work : MethodName := ⟨RX7, "work", "(I)I"⟩
abbrev cX7_forecast : ByteArray := prog_9_method_64_code
def yX7_forecast : MethodName := ⟨RX7, "forecast", "(II)I"⟩
abbrev cX7_capacity : ByteArray := prog_9_method_65_code
def yX7_capacity : MethodName := ⟨RX7, "capacity", "(III)I"⟩
abbrev cX7_say : ByteArray := prog_9_method_66_code
def yX7_say : MethodName := ⟨RX7, "say", "(I)I"⟩
abbrev cX7_wipe : ByteArray := prog_9_method_67_code
def yX7_wipe : MethodName := ⟨RX7, "wipe", "()I"⟩
abbrev cX7_nextSign : ByteArray := prog_9_method_68_code
def yX7_nextSign : MethodName := ⟨RX7, "nextSign", "()I"⟩
abbrev cX7_takeNumber : ByteArray := prog_9_method_69_code
def yX7_takeNumber : MethodName := ⟨RX7, "takeNumber", "(II)I"⟩
abbrev cX7_takeSide : ByteArray := prog_9_method_70_code
def yX7_takeSide : MethodName := ⟨RX7, "takeSide", "()I"⟩
abbrev cX7_isForTrain : ByteArray := prog_9_method_71_code
def yX7_isForTrain : MethodName := ⟨RX7, "isForTrain", "(I)Z"⟩
abbrev cX7_isForBlock : ByteArray := prog_9_method_72_code
def yX7_isForBlock : MethodName := ⟨RX7, "isForBlock", "(I)Z"⟩
abbrev cX7_readOrder : ByteArray := prog_9_method_73_code
def yX7_readOrder : MethodName := ⟨RX7, "readOrder", "()V"⟩
abbrev cX7_fault : ByteArray := prog_9_method_74_code
def yX7_fault : MethodName := ⟨RX7, "fault", "()I"⟩
abbrev cX7_carryOutOne : ByteArray := prog_9_method_75_code
def yX7_carryOutOne : MethodName := ⟨RX7, "carryOutOne", "(III)I"⟩
abbrev cX7_carryOut : ByteArray := prog_9_method_76_code
def yX7_carryOut : MethodName := ⟨RX7, "carryOut", "()I"⟩
abbrev cX7_blocksWith : ByteArray := prog_9_method_77_code
def yX7_blocksWith : MethodName := ⟨RX7, "blocksWith", "(I)I"⟩
abbrev cX7_count : ByteArray := prog_9_method_78_code
def yX7_count : MethodName := ⟨RX7, "count", "(I)I"⟩
abbrev cX7_save : ByteArray := prog_9_method_79_code
def yX7_save : MethodName := ⟨RX7, "save", "(I)I"⟩
abbrev cX7_restore : ByteArray := prog_9_method_80_code
def yX7_restore : MethodName := ⟨RX7, "restore", "(I)I"⟩
def RJ9 : String := "java/lang/Math"
def TJ9 : u_T := fun k => match k with
  | _ => ("", "", "", false)
def tyJ9 : Nat → FieldType := fun k => match k with
  | _ => .int
abbrev wsJ90 : List Cond := u_ws RJ9 TJ9 0
theorem nmJ9 : ∀ a, a < 0 → ∀ b, b < 0 → a ≠ b → (TJ9 a).2.1 ≠ (TJ9 b).2.1 := by decide +kernel
theorem tyJ9_ok : ∀ k, k < 0 → parseFieldDescriptor (TJ9 k).2.2.1 = some (tyJ9 k) := by decide +kernel
abbrev cJ9_max_7cf53 : ByteArray := prog_10_method_65_code
def yJ9_max_7cf53 : MethodName := ⟨RJ9, "max", "(II)I"⟩
def RJ10 : String := "java/lang/System"
def TJ10 : u_T := fun k => match k with
  | _ => ("", "", "", false)
def tyJ10 : Nat → FieldType := fun k => match k with
  | _ => .int
abbrev wsJ100 : List Cond := u_ws RJ10 TJ10 0
theorem nmJ10 : ∀ a, a < 0 → ∀ b, b < 0 → a ≠ b → (TJ10 a).2.1 ≠ (TJ10 b).2.1 := by decide +kernel
theorem tyJ10_ok : ∀ k, k < 0 → parseFieldDescriptor (TJ10 k).2.2.1 = some (tyJ10 k) := by decide +kernel
def RL : String := "BlockBellsLaw"
abbrev cL_law : ByteArray := code
def yL_law : MethodName := ⟨RL, "law", "([I)Z"⟩
abbrev vwCl : List vw_C := [(RX0, TX0, 7), (RX1, TX1, 8), (RX2, TX2, 6), (RX3, TX3, 2), (RX4, TX4, 6), (RX5, TX5, 9), (RX6, TX6, 5), (RX7, TX7, 10)]
