-- ===== PART A: goes FIRST, ahead of the names: the tables' words, and 'selects' of the private methods out of them =====
/-- a private method of a class that the tables say can be made, by its rows of tables_1 -/
def lw_okq (q : MethodName × Nat) : Prop := (q.1.cls ≠ "java/lang/invoke/MethodHandle" ∧ q.1.cls ≠ "java/lang/invoke/VarHandle") ∧ Cond.instantiable q.1.cls q.2 ∈ tables_1 ∧ Cond.privateMethod q.1 ∈ tables_1 ∧ Cond.instanceMethod q.1 ∈ tables_1
theorem lw_p0 : lw_okq (⟨"RailBumpers$Fraction", "settle", "(JJ)V"⟩, 3) := ⟨⟨by decide +kernel, by decide +kernel⟩, List.mem_of_getElem? (i := 36) (by decide +kernel), List.mem_of_getElem? (i := 339) (by decide +kernel), List.mem_of_getElem? (i := 340) (by decide +kernel)⟩
theorem lw_p1 : lw_okq (⟨"RailBumpers", "isBumper", "(I)Z"⟩, 10) := ⟨⟨by decide +kernel, by decide +kernel⟩, List.mem_of_getElem? (i := 15) (by decide +kernel), List.mem_of_getElem? (i := 347) (by decide +kernel), List.mem_of_getElem? (i := 348) (by decide +kernel)⟩
theorem lw_p2 : lw_okq (⟨"RailBumpers", "isAnyBeyond", "(LRailBumpers$Rail;I)Z"⟩, 10) := ⟨⟨by decide +kernel, by decide +kernel⟩, List.mem_of_getElem? (i := 15) (by decide +kernel), List.mem_of_getElem? (i := 362) (by decide +kernel), List.mem_of_getElem? (i := 363) (by decide +kernel)⟩
theorem lw_p3 : lw_okq (⟨"RailBumpers", "isBeyond", "(LRailBumpers$Fraction;I)Z"⟩, 10) := ⟨⟨by decide +kernel, by decide +kernel⟩, List.mem_of_getElem? (i := 15) (by decide +kernel), List.mem_of_getElem? (i := 366) (by decide +kernel), List.mem_of_getElem? (i := 367) (by decide +kernel)⟩
theorem lw_p4 : lw_okq (⟨"RailBumpers", "toldWall", "(I)I"⟩, 10) := ⟨⟨by decide +kernel, by decide +kernel⟩, List.mem_of_getElem? (i := 15) (by decide +kernel), List.mem_of_getElem? (i := 371) (by decide +kernel), List.mem_of_getElem? (i := 372) (by decide +kernel)⟩
theorem lw_p5 : lw_okq (⟨"RailBumpers$Striker", "reckon", "(LRailBumpers$Rail;I)Z"⟩, 12) := ⟨⟨by decide +kernel, by decide +kernel⟩, List.mem_of_getElem? (i := 141) (by decide +kernel), List.mem_of_getElem? (i := 402) (by decide +kernel), List.mem_of_getElem? (i := 403) (by decide +kernel)⟩
theorem lw_p6 : lw_okq (⟨"RailBumpers$Striker", "rebound", "(LRailBumpers$Fraction;I)Z"⟩, 12) := ⟨⟨by decide +kernel, by decide +kernel⟩, List.mem_of_getElem? (i := 141) (by decide +kernel), List.mem_of_getElem? (i := 426) (by decide +kernel), List.mem_of_getElem? (i := 427) (by decide +kernel)⟩
theorem lw_p7 : lw_okq (⟨"RailBumpers$Striker", "collide", "(LRailBumpers$Rail;II)Z"⟩, 12) := ⟨⟨by decide +kernel, by decide +kernel⟩, List.mem_of_getElem? (i := 141) (by decide +kernel), List.mem_of_getElem? (i := 435) (by decide +kernel), List.mem_of_getElem? (i := 436) (by decide +kernel)⟩
theorem lw_p8 : lw_okq (⟨"RailBumpers$Text", "scanClause", "(I)Z"⟩, 9) := ⟨⟨by decide +kernel, by decide +kernel⟩, List.mem_of_getElem? (i := 215) (by decide +kernel), List.mem_of_getElem? (i := 455) (by decide +kernel), List.mem_of_getElem? (i := 456) (by decide +kernel)⟩
theorem lw_p9 : lw_okq (⟨"RailBumpers$Text", "sign", "()I"⟩, 9) := ⟨⟨by decide +kernel, by decide +kernel⟩, List.mem_of_getElem? (i := 215) (by decide +kernel), List.mem_of_getElem? (i := 459) (by decide +kernel), List.mem_of_getElem? (i := 460) (by decide +kernel)⟩
theorem lw_p10 : lw_okq (⟨"RailBumpers$Text", "skip", "(C)Z"⟩, 9) := ⟨⟨by decide +kernel, by decide +kernel⟩, List.mem_of_getElem? (i := 215) (by decide +kernel), List.mem_of_getElem? (i := 463) (by decide +kernel), List.mem_of_getElem? (i := 464) (by decide +kernel)⟩
theorem lw_p11 : lw_okq (⟨"RailBumpers$Text", "scanBumper", "(I)Z"⟩, 9) := ⟨⟨by decide +kernel, by decide +kernel⟩, List.mem_of_getElem? (i := 215) (by decide +kernel), List.mem_of_getElem? (i := 467) (by decide +kernel), List.mem_of_getElem? (i := 468) (by decide +kernel)⟩
theorem lw_p12 : lw_okq (⟨"RailBumpers$Text", "scanNumber", "(I)Z"⟩, 9) := ⟨⟨by decide +kernel, by decide +kernel⟩, List.mem_of_getElem? (i := 215) (by decide +kernel), List.mem_of_getElem? (i := 471) (by decide +kernel), List.mem_of_getElem? (i := 472) (by decide +kernel)⟩
theorem lw_p13 : lw_okq (⟨"RailBumpers$Text", "scanWall", "()Z"⟩, 9) := ⟨⟨by decide +kernel, by decide +kernel⟩, List.mem_of_getElem? (i := 215) (by decide +kernel), List.mem_of_getElem? (i := 475) (by decide +kernel), List.mem_of_getElem? (i := 476) (by decide +kernel)⟩
theorem lw_p14 : lw_okq (⟨"RailBumpers", "perform", "(IIII)I"⟩, 10) := ⟨⟨by decide +kernel, by decide +kernel⟩, List.mem_of_getElem? (i := 15) (by decide +kernel), List.mem_of_getElem? (i := 479) (by decide +kernel), List.mem_of_getElem? (i := 480) (by decide +kernel)⟩
theorem lw_p15 : lw_okq (⟨"RailBumpers", "addUp", "(LRailBumpers$Rail;I)V"⟩, 10) := ⟨⟨by decide +kernel, by decide +kernel⟩, List.mem_of_getElem? (i := 15) (by decide +kernel), List.mem_of_getElem? (i := 514) (by decide +kernel), List.mem_of_getElem? (i := 515) (by decide +kernel)⟩
def lw_privs_1 : List (MethodName × Nat) := [(⟨"RailBumpers$Fraction", "settle", "(JJ)V"⟩, 3), (⟨"RailBumpers", "isBumper", "(I)Z"⟩, 10), (⟨"RailBumpers", "isAnyBeyond", "(LRailBumpers$Rail;I)Z"⟩, 10), (⟨"RailBumpers", "isBeyond", "(LRailBumpers$Fraction;I)Z"⟩, 10), (⟨"RailBumpers", "toldWall", "(I)I"⟩, 10), (⟨"RailBumpers$Striker", "reckon", "(LRailBumpers$Rail;I)Z"⟩, 12), (⟨"RailBumpers$Striker", "rebound", "(LRailBumpers$Fraction;I)Z"⟩, 12), (⟨"RailBumpers$Striker", "collide", "(LRailBumpers$Rail;II)Z"⟩, 12), (⟨"RailBumpers$Text", "scanClause", "(I)Z"⟩, 9), (⟨"RailBumpers$Text", "sign", "()I"⟩, 9), (⟨"RailBumpers$Text", "skip", "(C)Z"⟩, 9), (⟨"RailBumpers$Text", "scanBumper", "(I)Z"⟩, 9), (⟨"RailBumpers$Text", "scanNumber", "(I)Z"⟩, 9), (⟨"RailBumpers$Text", "scanWall", "()Z"⟩, 9), (⟨"RailBumpers", "perform", "(IIII)I"⟩, 10), (⟨"RailBumpers", "addUp", "(LRailBumpers$Rail;I)V"⟩, 10)]
theorem lw_r1 : ∀ q ∈ lw_privs_1, lw_okq q := List.forall_mem_cons.mpr ⟨lw_p0, List.forall_mem_cons.mpr ⟨lw_p1, List.forall_mem_cons.mpr ⟨lw_p2, List.forall_mem_cons.mpr ⟨lw_p3, List.forall_mem_cons.mpr ⟨lw_p4, List.forall_mem_cons.mpr ⟨lw_p5, List.forall_mem_cons.mpr ⟨lw_p6, List.forall_mem_cons.mpr ⟨lw_p7, List.forall_mem_cons.mpr ⟨lw_p8, List.forall_mem_cons.mpr ⟨lw_p9, List.forall_mem_cons.mpr ⟨lw_p10, List.forall_mem_cons.mpr ⟨lw_p11, List.forall_mem_cons.mpr ⟨lw_p12, List.forall_mem_cons.mpr ⟨lw_p13, List.forall_mem_cons.mpr ⟨lw_p14, List.forall_mem_cons.mpr ⟨lw_p15, fun _ h => absurd h List.not_mem_nil⟩⟩⟩⟩⟩⟩⟩⟩⟩⟩⟩⟩⟩⟩⟩⟩
theorem lw_p16 : lw_okq (⟨"RailBumpers", "takesPart", "(II)Z"⟩, 10) := ⟨⟨by decide +kernel, by decide +kernel⟩, List.mem_of_getElem? (i := 15) (by decide +kernel), List.mem_of_getElem? (i := 540) (by decide +kernel), List.mem_of_getElem? (i := 541) (by decide +kernel)⟩
theorem lw_p17 : lw_okq (⟨"RailBumpers", "lastStopBy", "(I)I"⟩, 10) := ⟨⟨by decide +kernel, by decide +kernel⟩, List.mem_of_getElem? (i := 15) (by decide +kernel), List.mem_of_getElem? (i := 548) (by decide +kernel), List.mem_of_getElem? (i := 549) (by decide +kernel)⟩
theorem lw_p18 : lw_okq (⟨"RailBumpers", "happen", "(LRailBumpers$Rail;II)V"⟩, 10) := ⟨⟨by decide +kernel, by decide +kernel⟩, List.mem_of_getElem? (i := 15) (by decide +kernel), List.mem_of_getElem? (i := 593) (by decide +kernel), List.mem_of_getElem? (i := 594) (by decide +kernel)⟩
theorem lw_p19 : lw_okq (⟨"RailBumpers", "turnAll", "(LRailBumpers$Rail;)V"⟩, 10) := ⟨⟨by decide +kernel, by decide +kernel⟩, List.mem_of_getElem? (i := 15) (by decide +kernel), List.mem_of_getElem? (i := 597) (by decide +kernel), List.mem_of_getElem? (i := 598) (by decide +kernel)⟩
theorem lw_p20 : lw_okq (⟨"RailBumpersModel", "isLess", "(JJJJ)Z"⟩, 62) := ⟨⟨by decide +kernel, by decide +kernel⟩, List.mem_of_getElem? (i := 669) (by decide +kernel), List.mem_of_getElem? (i := 872) (by decide +kernel), List.mem_of_getElem? (i := 873) (by decide +kernel)⟩
theorem lw_p21 : lw_okq (⟨"RailBumpersModel", "less", "(JJJJ)V"⟩, 62) := ⟨⟨by decide +kernel, by decide +kernel⟩, List.mem_of_getElem? (i := 669) (by decide +kernel), List.mem_of_getElem? (i := 876) (by decide +kernel), List.mem_of_getElem? (i := 877) (by decide +kernel)⟩
theorem lw_p22 : lw_okq (⟨"RailBumpersModel", "product", "(JJ)J"⟩, 62) := ⟨⟨by decide +kernel, by decide +kernel⟩, List.mem_of_getElem? (i := 669) (by decide +kernel), List.mem_of_getElem? (i := 880) (by decide +kernel), List.mem_of_getElem? (i := 881) (by decide +kernel)⟩
theorem lw_p23 : lw_okq (⟨"RailBumpersModel", "difference", "(JJ)J"⟩, 62) := ⟨⟨by decide +kernel, by decide +kernel⟩, List.mem_of_getElem? (i := 669) (by decide +kernel), List.mem_of_getElem? (i := 886) (by decide +kernel), List.mem_of_getElem? (i := 887) (by decide +kernel)⟩
theorem lw_p24 : lw_okq (⟨"RailBumpersModel", "lowest", "(JJ)V"⟩, 62) := ⟨⟨by decide +kernel, by decide +kernel⟩, List.mem_of_getElem? (i := 669) (by decide +kernel), List.mem_of_getElem? (i := 890) (by decide +kernel), List.mem_of_getElem? (i := 891) (by decide +kernel)⟩
theorem lw_p25 : lw_okq (⟨"RailBumpersModel", "isBumper", "(I)Z"⟩, 62) := ⟨⟨by decide +kernel, by decide +kernel⟩, List.mem_of_getElem? (i := 669) (by decide +kernel), List.mem_of_getElem? (i := 898) (by decide +kernel), List.mem_of_getElem? (i := 899) (by decide +kernel)⟩
theorem lw_p26 : lw_okq (⟨"RailBumpersModel", "isBeyond", "(I)Z"⟩, 62) := ⟨⟨by decide +kernel, by decide +kernel⟩, List.mem_of_getElem? (i := 669) (by decide +kernel), List.mem_of_getElem? (i := 911) (by decide +kernel), List.mem_of_getElem? (i := 912) (by decide +kernel)⟩
theorem lw_p27 : lw_okq (⟨"RailBumpersModel", "findAll", "()V"⟩, 62) := ⟨⟨by decide +kernel, by decide +kernel⟩, List.mem_of_getElem? (i := 669) (by decide +kernel), List.mem_of_getElem? (i := 924) (by decide +kernel), List.mem_of_getElem? (i := 925) (by decide +kernel)⟩
theorem lw_p28 : lw_okq (⟨"RailBumpersModel", "minds", "()V"⟩, 62) := ⟨⟨by decide +kernel, by decide +kernel⟩, List.mem_of_getElem? (i := 669) (by decide +kernel), List.mem_of_getElem? (i := 928) (by decide +kernel), List.mem_of_getElem? (i := 929) (by decide +kernel)⟩
theorem lw_p29 : lw_okq (⟨"RailBumpersModel", "goesOn", "(I)V"⟩, 62) := ⟨⟨by decide +kernel, by decide +kernel⟩, List.mem_of_getElem? (i := 669) (by decide +kernel), List.mem_of_getElem? (i := 932) (by decide +kernel), List.mem_of_getElem? (i := 933) (by decide +kernel)⟩
theorem lw_p30 : lw_okq (⟨"RailBumpersModel", "next", "()I"⟩, 62) := ⟨⟨by decide +kernel, by decide +kernel⟩, List.mem_of_getElem? (i := 669) (by decide +kernel), List.mem_of_getElem? (i := 936) (by decide +kernel), List.mem_of_getElem? (i := 937) (by decide +kernel)⟩
theorem lw_p31 : lw_okq (⟨"RailBumpersModel", "by", "(JJJJ)V"⟩, 62) := ⟨⟨by decide +kernel, by decide +kernel⟩, List.mem_of_getElem? (i := 669) (by decide +kernel), List.mem_of_getElem? (i := 940) (by decide +kernel), List.mem_of_getElem? (i := 941) (by decide +kernel)⟩
def lw_privs_2 : List (MethodName × Nat) := [(⟨"RailBumpers", "takesPart", "(II)Z"⟩, 10), (⟨"RailBumpers", "lastStopBy", "(I)I"⟩, 10), (⟨"RailBumpers", "happen", "(LRailBumpers$Rail;II)V"⟩, 10), (⟨"RailBumpers", "turnAll", "(LRailBumpers$Rail;)V"⟩, 10), (⟨"RailBumpersModel", "isLess", "(JJJJ)Z"⟩, 62), (⟨"RailBumpersModel", "less", "(JJJJ)V"⟩, 62), (⟨"RailBumpersModel", "product", "(JJ)J"⟩, 62), (⟨"RailBumpersModel", "difference", "(JJ)J"⟩, 62), (⟨"RailBumpersModel", "lowest", "(JJ)V"⟩, 62), (⟨"RailBumpersModel", "isBumper", "(I)Z"⟩, 62), (⟨"RailBumpersModel", "isBeyond", "(I)Z"⟩, 62), (⟨"RailBumpersModel", "findAll", "()V"⟩, 62), (⟨"RailBumpersModel", "minds", "()V"⟩, 62), (⟨"RailBumpersModel", "goesOn", "(I)V"⟩, 62), (⟨"RailBumpersModel", "next", "()I"⟩, 62), (⟨"RailBumpersModel", "by", "(JJJJ)V"⟩, 62)]
theorem lw_r2 : ∀ q ∈ lw_privs_2, lw_okq q := List.forall_mem_cons.mpr ⟨lw_p16, List.forall_mem_cons.mpr ⟨lw_p17, List.forall_mem_cons.mpr ⟨lw_p18, List.forall_mem_cons.mpr ⟨lw_p19, List.forall_mem_cons.mpr ⟨lw_p20, List.forall_mem_cons.mpr ⟨lw_p21, List.forall_mem_cons.mpr ⟨lw_p22, List.forall_mem_cons.mpr ⟨lw_p23, List.forall_mem_cons.mpr ⟨lw_p24, List.forall_mem_cons.mpr ⟨lw_p25, List.forall_mem_cons.mpr ⟨lw_p26, List.forall_mem_cons.mpr ⟨lw_p27, List.forall_mem_cons.mpr ⟨lw_p28, List.forall_mem_cons.mpr ⟨lw_p29, List.forall_mem_cons.mpr ⟨lw_p30, List.forall_mem_cons.mpr ⟨lw_p31, fun _ h => absurd h List.not_mem_nil⟩⟩⟩⟩⟩⟩⟩⟩⟩⟩⟩⟩⟩⟩⟩⟩
theorem lw_p32 : lw_okq (⟨"RailBumpersModel", "offers", "(I)V"⟩, 62) := ⟨⟨by decide +kernel, by decide +kernel⟩, List.mem_of_getElem? (i := 669) (by decide +kernel), List.mem_of_getElem? (i := 944) (by decide +kernel), List.mem_of_getElem? (i := 945) (by decide +kernel)⟩
theorem lw_p33 : lw_okq (⟨"RailBumpersModel", "does", "(I)V"⟩, 62) := ⟨⟨by decide +kernel, by decide +kernel⟩, List.mem_of_getElem? (i := 669) (by decide +kernel), List.mem_of_getElem? (i := 948) (by decide +kernel), List.mem_of_getElem? (i := 949) (by decide +kernel)⟩
theorem lw_p34 : lw_okq (⟨"RailBumpersModel", "moves", "()V"⟩, 62) := ⟨⟨by decide +kernel, by decide +kernel⟩, List.mem_of_getElem? (i := 669) (by decide +kernel), List.mem_of_getElem? (i := 952) (by decide +kernel), List.mem_of_getElem? (i := 953) (by decide +kernel)⟩
theorem lw_p35 : lw_okq (⟨"RailBumpersModel", "plus", "(JJJJ)V"⟩, 62) := ⟨⟨by decide +kernel, by decide +kernel⟩, List.mem_of_getElem? (i := 669) (by decide +kernel), List.mem_of_getElem? (i := 956) (by decide +kernel), List.mem_of_getElem? (i := 957) (by decide +kernel)⟩
theorem lw_p36 : lw_okq (⟨"RailBumpersModel", "sum", "(JJ)J"⟩, 62) := ⟨⟨by decide +kernel, by decide +kernel⟩, List.mem_of_getElem? (i := 669) (by decide +kernel), List.mem_of_getElem? (i := 960) (by decide +kernel), List.mem_of_getElem? (i := 961) (by decide +kernel)⟩
theorem lw_p37 : lw_okq (⟨"RailBumpersModel", "times", "(JJJJ)V"⟩, 62) := ⟨⟨by decide +kernel, by decide +kernel⟩, List.mem_of_getElem? (i := 669) (by decide +kernel), List.mem_of_getElem? (i := 964) (by decide +kernel), List.mem_of_getElem? (i := 965) (by decide +kernel)⟩
theorem lw_p38 : lw_okq (⟨"RailBumpersModel", "turnsBack", "(II)V"⟩, 62) := ⟨⟨by decide +kernel, by decide +kernel⟩, List.mem_of_getElem? (i := 669) (by decide +kernel), List.mem_of_getElem? (i := 968) (by decide +kernel), List.mem_of_getElem? (i := 969) (by decide +kernel)⟩
theorem lw_p39 : lw_okq (⟨"RailBumpersModel", "pushes", "(I)V"⟩, 62) := ⟨⟨by decide +kernel, by decide +kernel⟩, List.mem_of_getElem? (i := 669) (by decide +kernel), List.mem_of_getElem? (i := 979) (by decide +kernel), List.mem_of_getElem? (i := 980) (by decide +kernel)⟩
theorem lw_p40 : lw_okq (⟨"RailBumpersModel", "becomes", "(IJJ)V"⟩, 62) := ⟨⟨by decide +kernel, by decide +kernel⟩, List.mem_of_getElem? (i := 669) (by decide +kernel), List.mem_of_getElem? (i := 983) (by decide +kernel), List.mem_of_getElem? (i := 984) (by decide +kernel)⟩
theorem lw_p41 : lw_okq (⟨"RailBumpersModel", "keeps", "(I)V"⟩, 62) := ⟨⟨by decide +kernel, by decide +kernel⟩, List.mem_of_getElem? (i := 669) (by decide +kernel), List.mem_of_getElem? (i := 987) (by decide +kernel), List.mem_of_getElem? (i := 988) (by decide +kernel)⟩
theorem lw_p42 : lw_okq (⟨"RailBumpersModel", "clause", "(I)Z"⟩, 62) := ⟨⟨by decide +kernel, by decide +kernel⟩, List.mem_of_getElem? (i := 669) (by decide +kernel), List.mem_of_getElem? (i := 1000) (by decide +kernel), List.mem_of_getElem? (i := 1001) (by decide +kernel)⟩
theorem lw_p43 : lw_okq (⟨"RailBumpersModel", "isSign", "(I)Z"⟩, 62) := ⟨⟨by decide +kernel, by decide +kernel⟩, List.mem_of_getElem? (i := 669) (by decide +kernel), List.mem_of_getElem? (i := 1004) (by decide +kernel), List.mem_of_getElem? (i := 1005) (by decide +kernel)⟩
theorem lw_p44 : lw_okq (⟨"RailBumpersModel", "number", "(I)I"⟩, 62) := ⟨⟨by decide +kernel, by decide +kernel⟩, List.mem_of_getElem? (i := 669) (by decide +kernel), List.mem_of_getElem? (i := 1008) (by decide +kernel), List.mem_of_getElem? (i := 1009) (by decide +kernel)⟩
theorem lw_p45 : lw_okq (⟨"RailBumpersModel", "isDone", "(I)Z"⟩, 62) := ⟨⟨by decide +kernel, by decide +kernel⟩, List.mem_of_getElem? (i := 669) (by decide +kernel), List.mem_of_getElem? (i := 1014) (by decide +kernel), List.mem_of_getElem? (i := 1015) (by decide +kernel)⟩
theorem lw_p46 : lw_okq (⟨"RailBumpersModel", "sums", "(I)Z"⟩, 62) := ⟨⟨by decide +kernel, by decide +kernel⟩, List.mem_of_getElem? (i := 669) (by decide +kernel), List.mem_of_getElem? (i := 1038) (by decide +kernel), List.mem_of_getElem? (i := 1039) (by decide +kernel)⟩
theorem lw_p47 : lw_okq (⟨"RailBumpersModel", "upTo", "(I)I"⟩, 62) := ⟨⟨by decide +kernel, by decide +kernel⟩, List.mem_of_getElem? (i := 669) (by decide +kernel), List.mem_of_getElem? (i := 1070) (by decide +kernel), List.mem_of_getElem? (i := 1071) (by decide +kernel)⟩
def lw_privs_3 : List (MethodName × Nat) := [(⟨"RailBumpersModel", "offers", "(I)V"⟩, 62), (⟨"RailBumpersModel", "does", "(I)V"⟩, 62), (⟨"RailBumpersModel", "moves", "()V"⟩, 62), (⟨"RailBumpersModel", "plus", "(JJJJ)V"⟩, 62), (⟨"RailBumpersModel", "sum", "(JJ)J"⟩, 62), (⟨"RailBumpersModel", "times", "(JJJJ)V"⟩, 62), (⟨"RailBumpersModel", "turnsBack", "(II)V"⟩, 62), (⟨"RailBumpersModel", "pushes", "(I)V"⟩, 62), (⟨"RailBumpersModel", "becomes", "(IJJ)V"⟩, 62), (⟨"RailBumpersModel", "keeps", "(I)V"⟩, 62), (⟨"RailBumpersModel", "clause", "(I)Z"⟩, 62), (⟨"RailBumpersModel", "isSign", "(I)Z"⟩, 62), (⟨"RailBumpersModel", "number", "(I)I"⟩, 62), (⟨"RailBumpersModel", "isDone", "(I)Z"⟩, 62), (⟨"RailBumpersModel", "sums", "(I)Z"⟩, 62), (⟨"RailBumpersModel", "upTo", "(I)I"⟩, 62)]
theorem lw_r3 : ∀ q ∈ lw_privs_3, lw_okq q := List.forall_mem_cons.mpr ⟨lw_p32, List.forall_mem_cons.mpr ⟨lw_p33, List.forall_mem_cons.mpr ⟨lw_p34, List.forall_mem_cons.mpr ⟨lw_p35, List.forall_mem_cons.mpr ⟨lw_p36, List.forall_mem_cons.mpr ⟨lw_p37, List.forall_mem_cons.mpr ⟨lw_p38, List.forall_mem_cons.mpr ⟨lw_p39, List.forall_mem_cons.mpr ⟨lw_p40, List.forall_mem_cons.mpr ⟨lw_p41, List.forall_mem_cons.mpr ⟨lw_p42, List.forall_mem_cons.mpr ⟨lw_p43, List.forall_mem_cons.mpr ⟨lw_p44, List.forall_mem_cons.mpr ⟨lw_p45, List.forall_mem_cons.mpr ⟨lw_p46, List.forall_mem_cons.mpr ⟨lw_p47, fun _ h => absurd h List.not_mem_nil⟩⟩⟩⟩⟩⟩⟩⟩⟩⟩⟩⟩⟩⟩⟩⟩
theorem lw_p48 : lw_okq (⟨"RailBumpersModel", "isStruck", "(II)Z"⟩, 62) := ⟨⟨by decide +kernel, by decide +kernel⟩, List.mem_of_getElem? (i := 669) (by decide +kernel), List.mem_of_getElem? (i := 1086) (by decide +kernel), List.mem_of_getElem? (i := 1087) (by decide +kernel)⟩
theorem lw_p49 : lw_okq (⟨"RailBumpersModel", "happens", "(II)V"⟩, 62) := ⟨⟨by decide +kernel, by decide +kernel⟩, List.mem_of_getElem? (i := 669) (by decide +kernel), List.mem_of_getElem? (i := 1110) (by decide +kernel), List.mem_of_getElem? (i := 1111) (by decide +kernel)⟩
theorem lw_p50 : lw_okq (⟨"RailBumpersModel", "carriesAll", "(Z)V"⟩, 62) := ⟨⟨by decide +kernel, by decide +kernel⟩, List.mem_of_getElem? (i := 669) (by decide +kernel), List.mem_of_getElem? (i := 1149) (by decide +kernel), List.mem_of_getElem? (i := 1150) (by decide +kernel)⟩
theorem lw_p51 : lw_okq (⟨"RailBumpersModel", "carries", "([IIIZ)I"⟩, 62) := ⟨⟨by decide +kernel, by decide +kernel⟩, List.mem_of_getElem? (i := 669) (by decide +kernel), List.mem_of_getElem? (i := 1153) (by decide +kernel), List.mem_of_getElem? (i := 1154) (by decide +kernel)⟩
theorem lw_p52 : lw_okq (⟨"RailBumpersModel", "carriesLongs", "([JIZ)I"⟩, 62) := ⟨⟨by decide +kernel, by decide +kernel⟩, List.mem_of_getElem? (i := 669) (by decide +kernel), List.mem_of_getElem? (i := 1157) (by decide +kernel), List.mem_of_getElem? (i := 1158) (by decide +kernel)⟩
def lw_privs_4 : List (MethodName × Nat) := [(⟨"RailBumpersModel", "isStruck", "(II)Z"⟩, 62), (⟨"RailBumpersModel", "happens", "(II)V"⟩, 62), (⟨"RailBumpersModel", "carriesAll", "(Z)V"⟩, 62), (⟨"RailBumpersModel", "carries", "([IIIZ)I"⟩, 62), (⟨"RailBumpersModel", "carriesLongs", "([JIZ)I"⟩, 62)]
theorem lw_r4 : ∀ q ∈ lw_privs_4, lw_okq q := List.forall_mem_cons.mpr ⟨lw_p48, List.forall_mem_cons.mpr ⟨lw_p49, List.forall_mem_cons.mpr ⟨lw_p50, List.forall_mem_cons.mpr ⟨lw_p51, List.forall_mem_cons.mpr ⟨lw_p52, fun _ h => absurd h List.not_mem_nil⟩⟩⟩⟩⟩
def lw_privs : List (MethodName × Nat) := lw_privs_1 ++ (lw_privs_2 ++ (lw_privs_3 ++ (lw_privs_4)))
def lw_tbl : List Cond := k2_sels lw_privs ++ tables_1
theorem lw_privs_ok : ∀ q ∈ lw_privs, lw_okq q := by
  show ∀ q ∈ lw_privs_1 ++ (lw_privs_2 ++ (lw_privs_3 ++ (lw_privs_4))), lw_okq q
  exact List.forall_mem_append.mpr ⟨lw_r1, List.forall_mem_append.mpr ⟨lw_r2, List.forall_mem_append.mpr ⟨lw_r3, lw_r4⟩⟩⟩
def RX0 : String := "RailBumpers$Course"
def TX0 : u_T := fun k => match k with
  | 0 => ("RailBumpers$Course", "stops", "[LRailBumpers$Rail;", true)
  | 1 => ("RailBumpers$Course", "times", "[LRailBumpers$Fraction;", true)
  | 2 => ("RailBumpers$Course", "wheres", "[I", true)
  | 3 => ("RailBumpers$Course", "strikes", "I", false)
  | 4 => ("RailBumpers$Course", "end", "I", false)
  | 5 => ("RailBumpers$Course", "bound", "I", false)
  | _ => ("RailBumpers$Course", "striker", "LRailBumpers$Striker;", true)
def tyX0 : Nat → FieldType := fun k => match k with
  | 0 => .array (.object "RailBumpers$Rail")
  | 1 => .array (.object "RailBumpers$Fraction")
  | 2 => .array .int
  | 3 => .int
  | 4 => .int
  | 5 => .int
  | _ => .object "RailBumpers$Striker"
abbrev wsX00 : List Cond := u_ws RX0 TX0 7
theorem nmX0 : ∀ a, a < 7 → ∀ b, b < 7 → a ≠ b → (TX0 a).2.1 ≠ (TX0 b).2.1 := by decide +kernel
theorem tyX0_ok : ∀ k, k < 7 → parseFieldDescriptor (TX0 k).2.2.1 = some (tyX0 k) := by decide +kernel
abbrev cX0_init : ByteArray := prog_2_method_1_code
def yX0_init : MethodName := ⟨RX0, "<init>", "()V"⟩
abbrev cX0_work : ByteArray := prog_2_method_2_code
def yX0_work : MethodName := ⟨RX0, "work", "(LRailBumpers$Rail;I)V"⟩
abbrev cX0_firstUnlike : ByteArray := prog_2_method_3_code
def yX0_firstUnlike : MethodName := ⟨RX0, "firstUnlike", "(LRailBumpers$Pairs;)I"⟩
def RX1 : String := "RailBumpers$Fraction"
def TX1 : u_T := fun k => match k with
  | 0 => ("RailBumpers$Fraction", "above", "J", false)
  | 1 => ("RailBumpers$Fraction", "below", "J", false)
  | _ => ("RailBumpers$Fraction", "over", "Z", false)
def tyX1 : Nat → FieldType := fun k => match k with
  | 0 => .long
  | 1 => .long
  | _ => .boolean
abbrev wsX10 : List Cond := u_ws RX1 TX1 3
theorem nmX1 : ∀ a, a < 3 → ∀ b, b < 3 → a ≠ b → (TX1 a).2.1 ≠ (TX1 b).2.1 := by decide +kernel
theorem tyX1_ok : ∀ k, k < 3 → parseFieldDescriptor (TX1 k).2.2.1 = some (tyX1 k) := by decide +kernel
abbrev cX1_init : ByteArray := prog_3_method_1_code
def yX1_init : MethodName := ⟨RX1, "<init>", "()V"⟩
abbrev cX1_become : ByteArray := prog_3_method_2_code
def yX1_become : MethodName := ⟨RX1, "become", "(LRailBumpers$Fraction;)V"⟩
abbrev cX1_becomeWhole : ByteArray := prog_3_method_3_code
def yX1_becomeWhole : MethodName := ⟨RX1, "becomeWhole", "(J)V"⟩
abbrev cX1_becomeRatio : ByteArray := prog_3_method_4_code
def yX1_becomeRatio : MethodName := ⟨RX1, "becomeRatio", "(JJ)V"⟩
abbrev cX1_times : ByteArray := prog_3_method_5_code
def yX1_times : MethodName := ⟨RX1, "times", "(LRailBumpers$Fraction;)V"⟩
abbrev cX1_by : ByteArray := prog_3_method_6_code
def yX1_by : MethodName := ⟨RX1, "by", "(LRailBumpers$Fraction;)V"⟩
abbrev cX1_plus : ByteArray := prog_3_method_7_code
def yX1_plus : MethodName := ⟨RX1, "plus", "(LRailBumpers$Fraction;)V"⟩
abbrev cX1_less : ByteArray := prog_3_method_8_code
def yX1_less : MethodName := ⟨RX1, "less", "(LRailBumpers$Fraction;)V"⟩
abbrev cX1_half : ByteArray := prog_3_method_9_code
def yX1_half : MethodName := ⟨RX1, "half", "(I)J"⟩
abbrev cX1_isLike : ByteArray := prog_3_method_10_code
def yX1_isLike : MethodName := ⟨RX1, "isLike", "(LRailBumpers$Fraction;)Z"⟩
abbrev cX1_passes : ByteArray := prog_3_method_11_code
def yX1_passes : MethodName := ⟨RX1, "passes", "(JJ)Z"⟩
abbrev cX1_settle : ByteArray := prog_3_method_12_code
def yX1_settle : MethodName := ⟨RX1, "settle", "(JJ)V"⟩
def RX2 : String := "RailBumpers$Pairs"
def TX2 : u_T := fun k => match k with
  | 0 => ("RailBumpers$Pairs", "firsts", "[I", true)
  | 1 => ("RailBumpers$Pairs", "seconds", "[I", true)
  | _ => ("RailBumpers$Pairs", "size", "I", false)
def tyX2 : Nat → FieldType := fun k => match k with
  | 0 => .array .int
  | 1 => .array .int
  | _ => .int
abbrev wsX20 : List Cond := u_ws RX2 TX2 3
theorem nmX2 : ∀ a, a < 3 → ∀ b, b < 3 → a ≠ b → (TX2 a).2.1 ≠ (TX2 b).2.1 := by decide +kernel
theorem tyX2_ok : ∀ k, k < 3 → parseFieldDescriptor (TX2 k).2.2.1 = some (tyX2 k) := by decide +kernel
abbrev cX2_init : ByteArray := prog_4_method_1_code
def yX2_init : MethodName := ⟨RX2, "<init>", "(I)V"⟩
abbrev cX2_add : ByteArray := prog_4_method_2_code
def yX2_add : MethodName := ⟨RX2, "add", "(II)I"⟩
abbrev cX2_become : ByteArray := prog_4_method_3_code
def yX2_become : MethodName := ⟨RX2, "become", "(LRailBumpers$Pairs;)V"⟩
def RX3 : String := "RailBumpers$Rail"
def TX3 : u_T := fun k => match k with
  | 0 => ("RailBumpers$Rail", "bumpers", "I", false)
  | 1 => ("RailBumpers$Rail", "masses", "[I", true)
  | 2 => ("RailBumpers$Rail", "places", "[LRailBumpers$Fraction;", true)
  | 3 => ("RailBumpers$Rail", "speeds", "[LRailBumpers$Fraction;", true)
  | 4 => ("RailBumpers$Rail", "springiness", "I", false)
  | _ => ("RailBumpers$Rail", "walls", "[I", true)
def tyX3 : Nat → FieldType := fun k => match k with
  | 0 => .int
  | 1 => .array .int
  | 2 => .array (.object "RailBumpers$Fraction")
  | 3 => .array (.object "RailBumpers$Fraction")
  | 4 => .int
  | _ => .array .int
abbrev wsX30 : List Cond := u_ws RX3 TX3 6
theorem nmX3 : ∀ a, a < 6 → ∀ b, b < 6 → a ≠ b → (TX3 a).2.1 ≠ (TX3 b).2.1 := by decide +kernel
theorem tyX3_ok : ∀ k, k < 6 → parseFieldDescriptor (TX3 k).2.2.1 = some (tyX3 k) := by decide +kernel
abbrev cX3_init : ByteArray := prog_5_method_1_code
def yX3_init : MethodName := ⟨RX3, "<init>", "()V"⟩
abbrev cX3_become : ByteArray := prog_5_method_2_code
def yX3_become : MethodName := ⟨RX3, "become", "(LRailBumpers$Rail;)V"⟩
abbrev cX3_isLike : ByteArray := prog_5_method_3_code
def yX3_isLike : MethodName := ⟨RX3, "isLike", "(LRailBumpers$Rail;)Z"⟩
abbrev cX3_fraction : ByteArray := prog_5_method_4_code
def yX3_fraction : MethodName := ⟨RX3, "fraction", "(II)LRailBumpers$Fraction;"⟩
def RX4 : String := "RailBumpers$Setting"
def TX4 : u_T := fun k => match k with
  | 0 => ("RailBumpers$Setting", "rail", "LRailBumpers$Rail;", true)
  | 1 => ("RailBumpers$Setting", "seen", "LRailBumpers$Pairs;", true)
  | 2 => ("RailBumpers$Setting", "events", "LRailBumpers$Pairs;", true)
  | _ => ("RailBumpers$Setting", "strikeBook", "LRailBumpers$Pairs;", true)
def tyX4 : Nat → FieldType := fun k => match k with
  | 0 => .object "RailBumpers$Rail"
  | 1 => .object "RailBumpers$Pairs"
  | 2 => .object "RailBumpers$Pairs"
  | _ => .object "RailBumpers$Pairs"
abbrev wsX40 : List Cond := u_ws RX4 TX4 4
theorem nmX4 : ∀ a, a < 4 → ∀ b, b < 4 → a ≠ b → (TX4 a).2.1 ≠ (TX4 b).2.1 := by decide +kernel
theorem tyX4_ok : ∀ k, k < 4 → parseFieldDescriptor (TX4 k).2.2.1 = some (tyX4 k) := by decide +kernel
abbrev cX4_init : ByteArray := prog_6_method_1_code
def yX4_init : MethodName := ⟨RX4, "<init>", "()V"⟩
abbrev cX4_become : ByteArray := prog_6_method_2_code
def yX4_become : MethodName := ⟨RX4, "become", "(LRailBumpers$Setting;)V"⟩
def RX5 : String := "RailBumpers$Striker"
def TX5 : u_T := fun k => match k with
  | 0 => ("RailBumpers$Striker", "least", "LRailBumpers$Fraction;", true)
  | 1 => ("RailBumpers$Striker", "delay", "LRailBumpers$Fraction;", true)
  | 2 => ("RailBumpers$Striker", "closing", "LRailBumpers$Fraction;", true)
  | 3 => ("RailBumpers$Striker", "ahead", "LRailBumpers$Fraction;", true)
  | 4 => ("RailBumpers$Striker", "way", "LRailBumpers$Fraction;", true)
  | 5 => ("RailBumpers$Striker", "springy", "LRailBumpers$Fraction;", true)
  | 6 => ("RailBumpers$Striker", "common", "LRailBumpers$Fraction;", true)
  | 7 => ("RailBumpers$Striker", "kick", "LRailBumpers$Fraction;", true)
  | 8 => ("RailBumpers$Striker", "share", "LRailBumpers$Fraction;", true)
  | 9 => ("RailBumpers$Striker", "leftMass", "LRailBumpers$Fraction;", true)
  | 10 => ("RailBumpers$Striker", "rightMass", "LRailBumpers$Fraction;", true)
  | _ => ("RailBumpers$Striker", "bothMass", "LRailBumpers$Fraction;", true)
def tyX5 : Nat → FieldType := fun k => match k with
  | 0 => .object "RailBumpers$Fraction"
  | 1 => .object "RailBumpers$Fraction"
  | 2 => .object "RailBumpers$Fraction"
  | 3 => .object "RailBumpers$Fraction"
  | 4 => .object "RailBumpers$Fraction"
  | 5 => .object "RailBumpers$Fraction"
  | 6 => .object "RailBumpers$Fraction"
  | 7 => .object "RailBumpers$Fraction"
  | 8 => .object "RailBumpers$Fraction"
  | 9 => .object "RailBumpers$Fraction"
  | 10 => .object "RailBumpers$Fraction"
  | _ => .object "RailBumpers$Fraction"
abbrev wsX50 : List Cond := u_ws RX5 TX5 12
theorem nmX5 : ∀ a, a < 12 → ∀ b, b < 12 → a ≠ b → (TX5 a).2.1 ≠ (TX5 b).2.1 := by decide +kernel
theorem tyX5_ok : ∀ k, k < 12 → parseFieldDescriptor (TX5 k).2.2.1 = some (tyX5 k) := by decide +kernel
abbrev cX5_init : ByteArray := prog_7_method_1_code
def yX5_init : MethodName := ⟨RX5, "<init>", "()V"⟩
abbrev cX5_find : ByteArray := prog_7_method_2_code
def yX5_find : MethodName := ⟨RX5, "find", "(LRailBumpers$Rail;)I"⟩
abbrev cX5_reckon : ByteArray := prog_7_method_3_code
def yX5_reckon : MethodName := ⟨RX5, "reckon", "(LRailBumpers$Rail;I)Z"⟩
abbrev cX5_strike : ByteArray := prog_7_method_4_code
def yX5_strike : MethodName := ⟨RX5, "strike", "(LRailBumpers$Rail;LRailBumpers$Fraction;I)Z"⟩
abbrev cX5_rebound : ByteArray := prog_7_method_5_code
def yX5_rebound : MethodName := ⟨RX5, "rebound", "(LRailBumpers$Fraction;I)Z"⟩
abbrev cX5_collide : ByteArray := prog_7_method_6_code
def yX5_collide : MethodName := ⟨RX5, "collide", "(LRailBumpers$Rail;II)Z"⟩
def RX6 : String := "RailBumpers$Tape"
def TX6 : u_T := fun k => match k with
  | 0 => ("RailBumpers$Tape", "sort", "I", false)
  | 1 => ("RailBumpers$Tape", "size", "I", false)
  | _ => ("RailBumpers$Tape", "items", "[J", true)
def tyX6 : Nat → FieldType := fun k => match k with
  | 0 => .int
  | 1 => .int
  | _ => .array .long
abbrev wsX60 : List Cond := u_ws RX6 TX6 3
theorem nmX6 : ∀ a, a < 3 → ∀ b, b < 3 → a ≠ b → (TX6 a).2.1 ≠ (TX6 b).2.1 := by decide +kernel
theorem tyX6_ok : ∀ k, k < 3 → parseFieldDescriptor (TX6 k).2.2.1 = some (tyX6 k) := by decide +kernel
abbrev cX6_init : ByteArray := prog_8_method_1_code
def yX6_init : MethodName := ⟨RX6, "<init>", "()V"⟩
abbrev cX6_renewAs : ByteArray := prog_8_method_2_code
def yX6_renewAs : MethodName := ⟨RX6, "renewAs", "(II)V"⟩
abbrev cX6_cut : ByteArray := prog_8_method_3_code
def yX6_cut : MethodName := ⟨RX6, "cut", "(J)J"⟩
def RX7 : String := "RailBumpers$Text"
def TX7 : u_T := fun k => match k with
  | 0 => ("RailBumpers$Text", "signs", "[B", true)
  | 1 => ("RailBumpers$Text", "length", "I", false)
  | 2 => ("RailBumpers$Text", "kinds", "[I", true)
  | 3 => ("RailBumpers$Text", "firsts", "[I", true)
  | 4 => ("RailBumpers$Text", "seconds", "[I", true)
  | 5 => ("RailBumpers$Text", "thirds", "[I", true)
  | 6 => ("RailBumpers$Text", "clauses", "I", false)
  | 7 => ("RailBumpers$Text", "at", "I", false)
  | _ => ("RailBumpers$Text", "number", "I", false)
def tyX7 : Nat → FieldType := fun k => match k with
  | 0 => .array .byte
  | 1 => .int
  | 2 => .array .int
  | 3 => .array .int
  | 4 => .array .int
  | 5 => .array .int
  | 6 => .int
  | 7 => .int
  | _ => .int
abbrev wsX70 : List Cond := u_ws RX7 TX7 9
theorem nmX7 : ∀ a, a < 9 → ∀ b, b < 9 → a ≠ b → (TX7 a).2.1 ≠ (TX7 b).2.1 := by decide +kernel
theorem tyX7_ok : ∀ k, k < 9 → parseFieldDescriptor (TX7 k).2.2.1 = some (tyX7 k) := by decide +kernel
abbrev cX7_init : ByteArray := prog_9_method_1_code
def yX7_init : MethodName := ⟨RX7, "<init>", "()V"⟩
abbrev cX7_scan : ByteArray := prog_9_method_2_code
def yX7_scan : MethodName := ⟨RX7, "scan", "()Z"⟩
abbrev cX7_scanClause : ByteArray := prog_9_method_3_code
def yX7_scanClause : MethodName := ⟨RX7, "scanClause", "(I)Z"⟩
abbrev cX7_scanBumper : ByteArray := prog_9_method_4_code
def yX7_scanBumper : MethodName := ⟨RX7, "scanBumper", "(I)Z"⟩
abbrev cX7_scanWall : ByteArray := prog_9_method_5_code
def yX7_scanWall : MethodName := ⟨RX7, "scanWall", "()Z"⟩
abbrev cX7_scanNumber : ByteArray := prog_9_method_6_code
def yX7_scanNumber : MethodName := ⟨RX7, "scanNumber", "(I)Z"⟩
abbrev cX7_skip : ByteArray := prog_9_method_7_code
def yX7_skip : MethodName := ⟨RX7, "skip", "(C)Z"⟩
abbrev cX7_sign : ByteArray := prog_9_method_8_code
def yX7_sign : MethodName := ⟨RX7, "sign", "()I"⟩
def RX8 : String := "RailBumpers"
def TX8 : u_T := fun k => match k with
  | 0 => ("RailBumpers", "now", "LRailBumpers$Setting;", true)
  | 1 => ("RailBumpers", "kept", "LRailBumpers$Setting;", true)
  | 2 => ("RailBumpers", "hasImage", "Z", false)
  | 3 => ("RailBumpers", "course", "LRailBumpers$Course;", true)
  | 4 => ("RailBumpers", "supposed", "LRailBumpers$Rail;", true)
  | 5 => ("RailBumpers", "text", "LRailBumpers$Text;", true)
  | 6 => ("RailBumpers", "tapes", "[LRailBumpers$Tape;", true)
  | 7 => ("RailBumpers", "sum", "LRailBumpers$Fraction;", true)
  | 8 => ("RailBumpers", "term", "LRailBumpers$Fraction;", true)
  | _ => ("RailBumpers", "whole", "LRailBumpers$Fraction;", true)
def tyX8 : Nat → FieldType := fun k => match k with
  | 0 => .object "RailBumpers$Setting"
  | 1 => .object "RailBumpers$Setting"
  | 2 => .boolean
  | 3 => .object "RailBumpers$Course"
  | 4 => .object "RailBumpers$Rail"
  | 5 => .object "RailBumpers$Text"
  | 6 => .array (.object "RailBumpers$Tape")
  | 7 => .object "RailBumpers$Fraction"
  | 8 => .object "RailBumpers$Fraction"
  | _ => .object "RailBumpers$Fraction"
abbrev wsX80 : List Cond := u_ws RX8 TX8 10
theorem nmX8 : ∀ a, a < 10 → ∀ b, b < 10 → a ≠ b → (TX8 a).2.1 ≠ (TX8 b).2.1 := by decide +kernel
theorem tyX8_ok : ∀ k, k < 10 → parseFieldDescriptor (TX8 k).2.2.1 = some (tyX8 k) := by decide +kernel
abbrev cX8_init : ByteArray := prog_1_method_1_code
def yX8_init : MethodName := ⟨RX8, "<init>", "()V"⟩
abbrev cX8_bumper : ByteArray := prog_1_method_2_code
def yX8_bumper : MethodName := ⟨RX8, "bumper", "(III)I"⟩
abbrev cX8_renew : ByteArray := prog_1_method_3_code
def yX8_renew : MethodName := ⟨RX8, "renew", "(III)I"⟩
abbrev cX8_spring : ByteArray := prog_1_method_4_code
def yX8_spring : MethodName := ⟨RX8, "spring", "(I)I"⟩
abbrev cX8_wall : ByteArray := prog_1_method_5_code
def yX8_wall : MethodName := ⟨RX8, "wall", "(II)I"⟩
abbrev cX8_go : ByteArray := prog_1_method_6_code
def yX8_go : MethodName := ⟨RX8, "go", "(I)I"⟩
abbrev cX8_feed : ByteArray := prog_1_method_7_code
def yX8_feed : MethodName := ⟨RX8, "feed", "(I)I"⟩
abbrev cX8_read : ByteArray := prog_1_method_8_code
def yX8_read : MethodName := ⟨RX8, "read", "()I"⟩
abbrev cX8_of : ByteArray := prog_1_method_9_code
def yX8_of : MethodName := ⟨RX8, "of", "(III)J"⟩
abbrev cX8_told : ByteArray := prog_1_method_10_code
def yX8_told : MethodName := ⟨RX8, "told", "(I)I"⟩
abbrev cX8_push : ByteArray := prog_1_method_11_code
def yX8_push : MethodName := ⟨RX8, "push", "(II)J"⟩
abbrev cX8_where : ByteArray := prog_1_method_12_code
def yX8_where : MethodName := ⟨RX8, "where", "(I)I"⟩
abbrev cX8_time : ByteArray := prog_1_method_13_code
def yX8_time : MethodName := ⟨RX8, "time", "(II)J"⟩
abbrev cX8_behind : ByteArray := prog_1_method_14_code
def yX8_behind : MethodName := ⟨RX8, "behind", "(IIII)J"⟩
abbrev cX8_then : ByteArray := prog_1_method_15_code
def yX8_then : MethodName := ⟨RX8, "then", "(II)J"⟩
abbrev cX8_often : ByteArray := prog_1_method_16_code
def yX8_often : MethodName := ⟨RX8, "often", "(I)I"⟩
abbrev cX8_at : ByteArray := prog_1_method_17_code
def yX8_at : MethodName := ⟨RX8, "at", "(III)J"⟩
abbrev cX8_see : ByteArray := prog_1_method_18_code
def yX8_see : MethodName := ⟨RX8, "see", "(II)I"⟩
abbrev cX8_fits : ByteArray := prog_1_method_19_code
def yX8_fits : MethodName := ⟨RX8, "fits", "(II)I"⟩
abbrev cX8_odds : ByteArray := prog_1_method_20_code
def yX8_odds : MethodName := ⟨RX8, "odds", "(II)J"⟩
abbrev cX8_mean : ByteArray := prog_1_method_21_code
def yX8_mean : MethodName := ⟨RX8, "mean", "(I)J"⟩
abbrev cX8_event : ByteArray := prog_1_method_22_code
def yX8_event : MethodName := ⟨RX8, "event", "(II)I"⟩
abbrev cX8_after : ByteArray := prog_1_method_23_code
def yX8_after : MethodName := ⟨RX8, "after", "(I)I"⟩
abbrev cX8_book : ByteArray := prog_1_method_24_code
def yX8_book : MethodName := ⟨RX8, "book", "(II)I"⟩
abbrev cX8_looked : ByteArray := prog_1_method_25_code
def yX8_looked : MethodName := ⟨RX8, "looked", "()I"⟩
abbrev cX8_judge : ByteArray := prog_1_method_26_code
def yX8_judge : MethodName := ⟨RX8, "judge", "(II)I"⟩
abbrev cX8_image : ByteArray := prog_1_method_27_code
def yX8_image : MethodName := ⟨RX8, "image", "()I"⟩
abbrev cX8_undo : ByteArray := prog_1_method_28_code
def yX8_undo : MethodName := ⟨RX8, "undo", "()I"⟩
abbrev cX8_count : ByteArray := prog_1_method_29_code
def yX8_count : MethodName := ⟨RX8, "count", "(I)I"⟩
abbrev cX8_tape : ByteArray := prog_1_method_30_code
def yX8_tape : MethodName := ⟨RX8, "tape", "(III)I"⟩
abbrev cX8_item : ByteArray := prog_1_method_31_code
def yX8_item : MethodName := ⟨RX8, "item", "(IIJ)I"⟩
abbrev cX8_peek : ByteArray := prog_1_method_32_code
def yX8_peek : MethodName := ⟨RX8, "peek", "(II)J"⟩
abbrev cX8_shift : ByteArray := prog_1_method_33_code
def yX8_shift : MethodName := ⟨RX8, "shift", "(IIIII)I"⟩
abbrev cX8_isBumper : ByteArray := prog_1_method_34_code
def yX8_isBumper : MethodName := ⟨RX8, "isBumper", "(I)Z"⟩
abbrev cX8_isMass : ByteArray := prog_1_method_35_code
def yX8_isMass : MethodName := ⟨RX8, "isMass", "(I)Z"⟩
abbrev cX8_isSpeed : ByteArray := prog_1_method_36_code
def yX8_isSpeed : MethodName := ⟨RX8, "isSpeed", "(I)Z"⟩
abbrev cX8_isQuarters : ByteArray := prog_1_method_37_code
def yX8_isQuarters : MethodName := ⟨RX8, "isQuarters", "(I)Z"⟩
abbrev cX8_isPart : ByteArray := prog_1_method_38_code
def yX8_isPart : MethodName := ⟨RX8, "isPart", "(I)Z"⟩
abbrev cX8_isTape : ByteArray := prog_1_method_39_code
def yX8_isTape : MethodName := ⟨RX8, "isTape", "(I)Z"⟩
abbrev cX8_isWhere : ByteArray := prog_1_method_40_code
def yX8_isWhere : MethodName := ⟨RX8, "isWhere", "(I)Z"⟩
abbrev cX8_isRefusal : ByteArray := prog_1_method_41_code
def yX8_isRefusal : MethodName := ⟨RX8, "isRefusal", "(I)Z"⟩
abbrev cX8_toldWall : ByteArray := prog_1_method_42_code
def yX8_toldWall : MethodName := ⟨RX8, "toldWall", "(I)I"⟩
abbrev cX8_isAnyBeyond : ByteArray := prog_1_method_43_code
def yX8_isAnyBeyond : MethodName := ⟨RX8, "isAnyBeyond", "(LRailBumpers$Rail;I)Z"⟩
abbrev cX8_isBeyond : ByteArray := prog_1_method_44_code
def yX8_isBeyond : MethodName := ⟨RX8, "isBeyond", "(LRailBumpers$Fraction;I)Z"⟩
abbrev cX8_perform : ByteArray := prog_1_method_45_code
def yX8_perform : MethodName := ⟨RX8, "perform", "(IIII)I"⟩
abbrev cX8_addUp : ByteArray := prog_1_method_46_code
def yX8_addUp : MethodName := ⟨RX8, "addUp", "(LRailBumpers$Rail;I)V"⟩
abbrev cX8_takesPart : ByteArray := prog_1_method_47_code
def yX8_takesPart : MethodName := ⟨RX8, "takesPart", "(II)Z"⟩
abbrev cX8_lastStopBy : ByteArray := prog_1_method_48_code
def yX8_lastStopBy : MethodName := ⟨RX8, "lastStopBy", "(I)I"⟩
abbrev cX8_addStrike : ByteArray := prog_1_method_49_code
def yX8_addStrike : MethodName := ⟨RX8, "addStrike", "(LRailBumpers$Pairs;II)I"⟩
abbrev cX8_happen : ByteArray := prog_1_method_50_code
def yX8_happen : MethodName := ⟨RX8, "happen", "(LRailBumpers$Rail;II)V"⟩
abbrev cX8_turnAll : ByteArray := prog_1_method_51_code
def yX8_turnAll : MethodName := ⟨RX8, "turnAll", "(LRailBumpers$Rail;)V"⟩
def RX9 : String := "RailBumpersModel"
def TX9 : u_T := fun k => match k with
  | 0 => ("RailBumpersModel", "many", "I", false)
  | 1 => ("RailBumpersModel", "spring", "I", false)
  | 2 => ("RailBumpersModel", "left", "I", false)
  | 3 => ("RailBumpersModel", "right", "I", false)
  | 4 => ("RailBumpersModel", "mass", "[I", true)
  | 5 => ("RailBumpersModel", "placeUp", "[J", true)
  | 6 => ("RailBumpersModel", "placeDown", "[J", true)
  | 7 => ("RailBumpersModel", "speedUp", "[J", true)
  | 8 => ("RailBumpersModel", "speedDown", "[J", true)
  | 9 => ("RailBumpersModel", "seen", "I", false)
  | 10 => ("RailBumpersModel", "events", "I", false)
  | 11 => ("RailBumpersModel", "booked", "I", false)
  | 12 => ("RailBumpersModel", "seenK", "[I", true)
  | 13 => ("RailBumpersModel", "seenWhere", "[I", true)
  | 14 => ("RailBumpersModel", "eventWhat", "[I", true)
  | 15 => ("RailBumpersModel", "eventBy", "[I", true)
  | 16 => ("RailBumpersModel", "bookK", "[I", true)
  | 17 => ("RailBumpersModel", "bookWhere", "[I", true)
  | 18 => ("RailBumpersModel", "up", "J", false)
  | 19 => ("RailBumpersModel", "down", "J", false)
  | 20 => ("RailBumpersModel", "over", "Z", false)
  | 21 => ("RailBumpersModel", "m", "[I", true)
  | 22 => ("RailBumpersModel", "pu", "[J", true)
  | 23 => ("RailBumpersModel", "pd", "[J", true)
  | 24 => ("RailBumpersModel", "su", "[J", true)
  | 25 => ("RailBumpersModel", "sd", "[J", true)
  | 26 => ("RailBumpersModel", "npu", "[J", true)
  | 27 => ("RailBumpersModel", "npd", "[J", true)
  | 28 => ("RailBumpersModel", "tu", "J", false)
  | 29 => ("RailBumpersModel", "td", "J", false)
  | 30 => ("RailBumpersModel", "mSpring", "I", false)
  | 31 => ("RailBumpersModel", "mLeft", "I", false)
  | 32 => ("RailBumpersModel", "mRight", "I", false)
  | 33 => ("RailBumpersModel", "bestWhere", "I", false)
  | 34 => ("RailBumpersModel", "bestUp", "J", false)
  | 35 => ("RailBumpersModel", "bestDown", "J", false)
  | 36 => ("RailBumpersModel", "nextTimeUp", "J", false)
  | 37 => ("RailBumpersModel", "nextTimeDown", "J", false)
  | 38 => ("RailBumpersModel", "oneUp", "J", false)
  | 39 => ("RailBumpersModel", "oneDown", "J", false)
  | 40 => ("RailBumpersModel", "otherUp", "J", false)
  | 41 => ("RailBumpersModel", "otherDown", "J", false)
  | 42 => ("RailBumpersModel", "strikes", "I", false)
  | 43 => ("RailBumpersModel", "end", "I", false)
  | 44 => ("RailBumpersModel", "whereAt", "[I", true)
  | 45 => ("RailBumpersModel", "timeUp", "[J", true)
  | 46 => ("RailBumpersModel", "timeDown", "[J", true)
  | 47 => ("RailBumpersModel", "behindUp", "[J", true)
  | 48 => ("RailBumpersModel", "behindDown", "[J", true)
  | 49 => ("RailBumpersModel", "text", "[I", true)
  | 50 => ("RailBumpersModel", "texted", "I", false)
  | 51 => ("RailBumpersModel", "at", "I", false)
  | 52 => ("RailBumpersModel", "letter", "[I", true)
  | 53 => ("RailBumpersModel", "one", "[I", true)
  | 54 => ("RailBumpersModel", "two", "[I", true)
  | 55 => ("RailBumpersModel", "three", "[I", true)
  | 56 => ("RailBumpersModel", "sorts", "[I", true)
  | 57 => ("RailBumpersModel", "sizes", "[I", true)
  | 58 => ("RailBumpersModel", "items", "[J", true)
  | 59 => ("RailBumpersModel", "moved", "[J", true)
  | 60 => ("RailBumpersModel", "kept", "[J", true)
  | _ => ("RailBumpersModel", "isKept", "Z", false)
def tyX9 : Nat → FieldType := fun k => match k with
  | 0 => .int
  | 1 => .int
  | 2 => .int
  | 3 => .int
  | 4 => .array .int
  | 5 => .array .long
  | 6 => .array .long
  | 7 => .array .long
  | 8 => .array .long
  | 9 => .int
  | 10 => .int
  | 11 => .int
  | 12 => .array .int
  | 13 => .array .int
  | 14 => .array .int
  | 15 => .array .int
  | 16 => .array .int
  | 17 => .array .int
  | 18 => .long
  | 19 => .long
  | 20 => .boolean
  | 21 => .array .int
  | 22 => .array .long
  | 23 => .array .long
  | 24 => .array .long
  | 25 => .array .long
  | 26 => .array .long
  | 27 => .array .long
  | 28 => .long
  | 29 => .long
  | 30 => .int
  | 31 => .int
  | 32 => .int
  | 33 => .int
  | 34 => .long
  | 35 => .long
  | 36 => .long
  | 37 => .long
  | 38 => .long
  | 39 => .long
  | 40 => .long
  | 41 => .long
  | 42 => .int
  | 43 => .int
  | 44 => .array .int
  | 45 => .array .long
  | 46 => .array .long
  | 47 => .array .long
  | 48 => .array .long
  | 49 => .array .int
  | 50 => .int
  | 51 => .int
  | 52 => .array .int
  | 53 => .array .int
  | 54 => .array .int
  | 55 => .array .int
  | 56 => .array .int
  | 57 => .array .int
  | 58 => .array .long
  | 59 => .array .long
  | 60 => .array .long
  | _ => .boolean
abbrev wsX90 : List Cond := u_ws RX9 TX9 62
theorem nmX9 : ∀ a, a < 62 → ∀ b, b < 62 → a ≠ b → (TX9 a).2.1 ≠ (TX9 b).2.1 := by decide +kernel
theorem tyX9_ok : ∀ k, k < 62 → parseFieldDescriptor (TX9 k).2.2.1 = some (tyX9 k) := by decide +kernel
abbrev cX9_init : ByteArray := prog_11_method_1_code
def yX9_init : MethodName := ⟨RX9, "<init>", "()V"⟩
abbrev cX9_isIn : ByteArray := prog_11_method_2_code
def yX9_isIn : MethodName := ⟨RX9, "isIn", "(JJJ)Z"⟩
abbrev cX9_product : ByteArray := prog_11_method_3_code
def yX9_product : MethodName := ⟨RX9, "product", "(JJ)J"⟩
abbrev cX9_sum : ByteArray := prog_11_method_4_code
def yX9_sum : MethodName := ⟨RX9, "sum", "(JJ)J"⟩
abbrev cX9_difference : ByteArray := prog_11_method_5_code
def yX9_difference : MethodName := ⟨RX9, "difference", "(JJ)J"⟩
abbrev cX9_lowest : ByteArray := prog_11_method_6_code
def yX9_lowest : MethodName := ⟨RX9, "lowest", "(JJ)V"⟩
abbrev cX9_times : ByteArray := prog_11_method_7_code
def yX9_times : MethodName := ⟨RX9, "times", "(JJJJ)V"⟩
abbrev cX9_by : ByteArray := prog_11_method_8_code
def yX9_by : MethodName := ⟨RX9, "by", "(JJJJ)V"⟩
abbrev cX9_plus : ByteArray := prog_11_method_9_code
def yX9_plus : MethodName := ⟨RX9, "plus", "(JJJJ)V"⟩
abbrev cX9_less : ByteArray := prog_11_method_10_code
def yX9_less : MethodName := ⟨RX9, "less", "(JJJJ)V"⟩
abbrev cX9_isLess : ByteArray := prog_11_method_11_code
def yX9_isLess : MethodName := ⟨RX9, "isLess", "(JJJJ)Z"⟩
abbrev cX9_quartersUp : ByteArray := prog_11_method_12_code
def yX9_quartersUp : MethodName := ⟨RX9, "quartersUp", "(I)J"⟩
abbrev cX9_quartersDown : ByteArray := prog_11_method_13_code
def yX9_quartersDown : MethodName := ⟨RX9, "quartersDown", "(I)J"⟩
abbrev cX9_minds : ByteArray := prog_11_method_14_code
def yX9_minds : MethodName := ⟨RX9, "minds", "()V"⟩
abbrev cX9_offers : ByteArray := prog_11_method_15_code
def yX9_offers : MethodName := ⟨RX9, "offers", "(I)V"⟩
abbrev cX9_next : ByteArray := prog_11_method_16_code
def yX9_next : MethodName := ⟨RX9, "next", "()I"⟩
abbrev cX9_moves : ByteArray := prog_11_method_17_code
def yX9_moves : MethodName := ⟨RX9, "moves", "()V"⟩
abbrev cX9_turnsBack : ByteArray := prog_11_method_18_code
def yX9_turnsBack : MethodName := ⟨RX9, "turnsBack", "(II)V"⟩
abbrev cX9_pushes : ByteArray := prog_11_method_19_code
def yX9_pushes : MethodName := ⟨RX9, "pushes", "(I)V"⟩
abbrev cX9_becomes : ByteArray := prog_11_method_20_code
def yX9_becomes : MethodName := ⟨RX9, "becomes", "(IJJ)V"⟩
abbrev cX9_does : ByteArray := prog_11_method_21_code
def yX9_does : MethodName := ⟨RX9, "does", "(I)V"⟩
abbrev cX9_keeps : ByteArray := prog_11_method_22_code
def yX9_keeps : MethodName := ⟨RX9, "keeps", "(I)V"⟩
abbrev cX9_goesOn : ByteArray := prog_11_method_23_code
def yX9_goesOn : MethodName := ⟨RX9, "goesOn", "(I)V"⟩
abbrev cX9_findAll : ByteArray := prog_11_method_24_code
def yX9_findAll : MethodName := ⟨RX9, "findAll", "()V"⟩
abbrev cX9_isBumper : ByteArray := prog_11_method_25_code
def yX9_isBumper : MethodName := ⟨RX9, "isBumper", "(I)Z"⟩
abbrev cX9_bumper : ByteArray := prog_11_method_26_code
def yX9_bumper : MethodName := ⟨RX9, "bumper", "(III)I"⟩
abbrev cX9_renew : ByteArray := prog_11_method_27_code
def yX9_renew : MethodName := ⟨RX9, "renew", "(III)I"⟩
abbrev cX9_spring : ByteArray := prog_11_method_28_code
def yX9_spring : MethodName := ⟨RX9, "spring", "(I)I"⟩
abbrev cX9_isBeyond : ByteArray := prog_11_method_29_code
def yX9_isBeyond : MethodName := ⟨RX9, "isBeyond", "(I)Z"⟩
abbrev cX9_wallTold : ByteArray := prog_11_method_30_code
def yX9_wallTold : MethodName := ⟨RX9, "wallTold", "(I)I"⟩
abbrev cX9_wall : ByteArray := prog_11_method_31_code
def yX9_wall : MethodName := ⟨RX9, "wall", "(II)I"⟩
abbrev cX9_go : ByteArray := prog_11_method_32_code
def yX9_go : MethodName := ⟨RX9, "go", "(I)I"⟩
abbrev cX9_feed : ByteArray := prog_11_method_33_code
def yX9_feed : MethodName := ⟨RX9, "feed", "(I)I"⟩
abbrev cX9_isSign : ByteArray := prog_11_method_34_code
def yX9_isSign : MethodName := ⟨RX9, "isSign", "(I)Z"⟩
abbrev cX9_number : ByteArray := prog_11_method_35_code
def yX9_number : MethodName := ⟨RX9, "number", "(I)I"⟩
abbrev cX9_clause : ByteArray := prog_11_method_36_code
def yX9_clause : MethodName := ⟨RX9, "clause", "(I)Z"⟩
abbrev cX9_isDone : ByteArray := prog_11_method_37_code
def yX9_isDone : MethodName := ⟨RX9, "isDone", "(I)Z"⟩
abbrev cX9_read : ByteArray := prog_11_method_38_code
def yX9_read : MethodName := ⟨RX9, "read", "()I"⟩
abbrev cX9_isPart : ByteArray := prog_11_method_39_code
def yX9_isPart : MethodName := ⟨RX9, "isPart", "(I)Z"⟩
abbrev cX9_of : ByteArray := prog_11_method_40_code
def yX9_of : MethodName := ⟨RX9, "of", "(III)J"⟩
abbrev cX9_told : ByteArray := prog_11_method_41_code
def yX9_told : MethodName := ⟨RX9, "told", "(I)I"⟩
abbrev cX9_sums : ByteArray := prog_11_method_42_code
def yX9_sums : MethodName := ⟨RX9, "sums", "(I)Z"⟩
abbrev cX9_push : ByteArray := prog_11_method_43_code
def yX9_push : MethodName := ⟨RX9, "push", "(II)J"⟩
abbrev cX9_where : ByteArray := prog_11_method_44_code
def yX9_where : MethodName := ⟨RX9, "where", "(I)I"⟩
abbrev cX9_time : ByteArray := prog_11_method_45_code
def yX9_time : MethodName := ⟨RX9, "time", "(II)J"⟩
abbrev cX9_behind : ByteArray := prog_11_method_46_code
def yX9_behind : MethodName := ⟨RX9, "behind", "(IIII)J"⟩
abbrev cX9_then : ByteArray := prog_11_method_47_code
def yX9_then : MethodName := ⟨RX9, "then", "(II)J"⟩
abbrev cX9_isOf : ByteArray := prog_11_method_48_code
def yX9_isOf : MethodName := ⟨RX9, "isOf", "(III)Z"⟩
abbrev cX9_often : ByteArray := prog_11_method_49_code
def yX9_often : MethodName := ⟨RX9, "often", "(I)I"⟩
abbrev cX9_upTo : ByteArray := prog_11_method_50_code
def yX9_upTo : MethodName := ⟨RX9, "upTo", "(I)I"⟩
abbrev cX9_at : ByteArray := prog_11_method_51_code
def yX9_at : MethodName := ⟨RX9, "at", "(III)J"⟩
abbrev cX9_isWhere : ByteArray := prog_11_method_52_code
def yX9_isWhere : MethodName := ⟨RX9, "isWhere", "(I)Z"⟩
abbrev cX9_see : ByteArray := prog_11_method_53_code
def yX9_see : MethodName := ⟨RX9, "see", "(II)I"⟩
abbrev cX9_isStruck : ByteArray := prog_11_method_54_code
def yX9_isStruck : MethodName := ⟨RX9, "isStruck", "(II)Z"⟩
abbrev cX9_fits : ByteArray := prog_11_method_55_code
def yX9_fits : MethodName := ⟨RX9, "fits", "(II)I"⟩
abbrev cX9_common : ByteArray := prog_11_method_56_code
def yX9_common : MethodName := ⟨RX9, "common", "(JJ)J"⟩
abbrev cX9_odds : ByteArray := prog_11_method_57_code
def yX9_odds : MethodName := ⟨RX9, "odds", "(II)J"⟩
abbrev cX9_mean : ByteArray := prog_11_method_58_code
def yX9_mean : MethodName := ⟨RX9, "mean", "(I)J"⟩
abbrev cX9_event : ByteArray := prog_11_method_59_code
def yX9_event : MethodName := ⟨RX9, "event", "(II)I"⟩
abbrev cX9_happens : ByteArray := prog_11_method_60_code
def yX9_happens : MethodName := ⟨RX9, "happens", "(II)V"⟩
abbrev cX9_after : ByteArray := prog_11_method_61_code
def yX9_after : MethodName := ⟨RX9, "after", "(I)I"⟩
abbrev cX9_book : ByteArray := prog_11_method_62_code
def yX9_book : MethodName := ⟨RX9, "book", "(II)I"⟩
abbrev cX9_looked : ByteArray := prog_11_method_63_code
def yX9_looked : MethodName := ⟨RX9, "looked", "()I"⟩
abbrev cX9_isTape : ByteArray := prog_11_method_64_code
def yX9_isTape : MethodName := ⟨RX9, "isTape", "(I)Z"⟩
abbrev cX9_judge : ByteArray := prog_11_method_65_code
def yX9_judge : MethodName := ⟨RX9, "judge", "(II)I"⟩
abbrev cX9_tape : ByteArray := prog_11_method_66_code
def yX9_tape : MethodName := ⟨RX9, "tape", "(III)I"⟩
abbrev cX9_item : ByteArray := prog_11_method_67_code
def yX9_item : MethodName := ⟨RX9, "item", "(IIJ)I"⟩
abbrev cX9_peek : ByteArray := prog_11_method_68_code
def yX9_peek : MethodName := ⟨RX9, "peek", "(II)J"⟩
abbrev cX9_shift : ByteArray := prog_11_method_69_code
def yX9_shift : MethodName := ⟨RX9, "shift", "(IIIII)I"⟩
abbrev cX9_carries : ByteArray := prog_11_method_70_code
def yX9_carries : MethodName := ⟨RX9, "carries", "([IIIZ)I"⟩
abbrev cX9_carriesLongs : ByteArray := prog_11_method_71_code
def yX9_carriesLongs : MethodName := ⟨RX9, "carriesLongs", "([JIZ)I"⟩
abbrev cX9_carriesAll : ByteArray := prog_11_method_72_code
def yX9_carriesAll : MethodName := ⟨RX9, "carriesAll", "(Z)V"⟩
abbrev cX9_image : ByteArray := prog_11_method_73_code
def yX9_image : MethodName := ⟨RX9, "image", "()I"⟩
abbrev cX9_undo : ByteArray := prog_11_method_74_code
def yX9_undo : MethodName := ⟨RX9, "undo", "()I"⟩
abbrev cX9_count : ByteArray := prog_11_method_75_code
def yX9_count : MethodName := ⟨RX9, "count", "(I)I"⟩
def RJ9 : String := "java/lang/Math"
def TJ9 : u_T := fun k => match k with
  | _ => ("", "", "", false)
def tyJ9 : Nat → FieldType := fun k => match k with
  | _ => .int
abbrev wsJ90 : List Cond := u_ws RJ9 TJ9 0
theorem nmJ9 : ∀ a, a < 0 → ∀ b, b < 0 → a ≠ b → (TJ9 a).2.1 ≠ (TJ9 b).2.1 := by decide +kernel
theorem tyJ9_ok : ∀ k, k < 0 → parseFieldDescriptor (TJ9 k).2.2.1 = some (tyJ9 k) := by decide +kernel
abbrev cJ9_max_7cf53 : ByteArray := prog_12_method_65_code
def yJ9_max_7cf53 : MethodName := ⟨RJ9, "max", "(II)I"⟩
abbrev cJ9_min_7cf53 : ByteArray := prog_12_method_69_code
def yJ9_min_7cf53 : MethodName := ⟨RJ9, "min", "(II)I"⟩
def RJ10 : String := "java/lang/System"
def TJ10 : u_T := fun k => match k with
  | _ => ("", "", "", false)
def tyJ10 : Nat → FieldType := fun k => match k with
  | _ => .int
abbrev wsJ100 : List Cond := u_ws RJ10 TJ10 0
theorem nmJ10 : ∀ a, a < 0 → ∀ b, b < 0 → a ≠ b → (TJ10 a).2.1 ≠ (TJ10 b).2.1 := by decide +kernel
theorem tyJ10_ok : ∀ k, k < 0 → parseFieldDescriptor (TJ10 k).2.2.1 = some (tyJ10 k) := by decide +kernel
def RJ7 : String := "java/util/Arrays"
def TJ7 : u_T := fun k => match k with
  | _ => ("", "", "", false)
def tyJ7 : Nat → FieldType := fun k => match k with
  | _ => .int
abbrev wsJ70 : List Cond := u_ws RJ7 TJ7 0
theorem nmJ7 : ∀ a, a < 0 → ∀ b, b < 0 → a ≠ b → (TJ7 a).2.1 ≠ (TJ7 b).2.1 := by decide +kernel
theorem tyJ7_ok : ∀ k, k < 0 → parseFieldDescriptor (TJ7 k).2.2.1 = some (tyJ7 k) := by decide +kernel
abbrev cJ7_fill_d0a16 : ByteArray := prog_14_method_101_code
def yJ7_fill_d0a16 : MethodName := ⟨RJ7, "fill", "([JJ)V"⟩
def RL : String := "RailBumpersLaw"
abbrev cL_law : ByteArray := code
def yL_law : MethodName := ⟨RL, "law", "([I)Z"⟩
abbrev vwCl : List vw_C := [(RX0, TX0, 7), (RX1, TX1, 3), (RX2, TX2, 3), (RX3, TX3, 6), (RX4, TX4, 4), (RX5, TX5, 12), (RX6, TX6, 3), (RX7, TX7, 9), (RX8, TX8, 10), (RX9, TX9, 62)]
/-- the layout of the cells: kind (0 .. 9 an object of that class of vwCl; 10 bytes, 11 ints, 12 longs, 13 fractions, 14 rails, 15 tapes) and how many -/
def LAY0 : List (Nat × Nat) := [(8, 10), (4, 4), (3, 6), (11, 6), (13, 6), (13, 6), (1, 3), (1, 3), (1, 3), (1, 3), (1, 3), (1, 3), (1, 3), (1, 3), (1, 3), (1, 3), (1, 3), (1, 3), (11, 2), (2, 3), (11, 5), (11, 5), (2, 3), (11, 8), (11, 8), (2, 3), (11, 8), (11, 8), (4, 4), (3, 6), (11, 6), (13, 6), (13, 6), (1, 3), (1, 3), (1, 3), (1, 3), (1, 3), (1, 3), (1, 3), (1, 3), (1, 3), (1, 3), (1, 3), (1, 3), (11, 2), (2, 3), (11, 5), (11, 5), (2, 3), (11, 8), (11, 8), (2, 3), (11, 8), (11, 8), (0, 7), (14, 21), (13, 21), (3, 6), (11, 6)]
def LAY1 : List (Nat × Nat) := [(13, 6), (13, 6), (1, 3), (1, 3), (1, 3), (1, 3), (1, 3), (1, 3), (1, 3), (1, 3), (1, 3), (1, 3), (1, 3), (1, 3), (11, 2), (1, 3), (3, 6), (11, 6), (13, 6), (13, 6), (1, 3), (1, 3), (1, 3), (1, 3), (1, 3), (1, 3), (1, 3), (1, 3), (1, 3), (1, 3), (1, 3), (1, 3), (11, 2), (1, 3), (3, 6), (11, 6), (13, 6), (13, 6), (1, 3), (1, 3), (1, 3), (1, 3), (1, 3), (1, 3), (1, 3), (1, 3), (1, 3), (1, 3), (1, 3), (1, 3), (11, 2), (1, 3), (3, 6), (11, 6), (13, 6), (13, 6), (1, 3), (1, 3), (1, 3), (1, 3)]
def LAY2 : List (Nat × Nat) := [(1, 3), (1, 3), (1, 3), (1, 3), (1, 3), (1, 3), (1, 3), (1, 3), (11, 2), (1, 3), (3, 6), (11, 6), (13, 6), (13, 6), (1, 3), (1, 3), (1, 3), (1, 3), (1, 3), (1, 3), (1, 3), (1, 3), (1, 3), (1, 3), (1, 3), (1, 3), (11, 2), (1, 3), (3, 6), (11, 6), (13, 6), (13, 6), (1, 3), (1, 3), (1, 3), (1, 3), (1, 3), (1, 3), (1, 3), (1, 3), (1, 3), (1, 3), (1, 3), (1, 3), (11, 2), (1, 3), (3, 6), (11, 6), (13, 6), (13, 6), (1, 3), (1, 3), (1, 3), (1, 3), (1, 3), (1, 3), (1, 3), (1, 3), (1, 3), (1, 3)]
def LAY3 : List (Nat × Nat) := [(1, 3), (1, 3), (11, 2), (1, 3), (3, 6), (11, 6), (13, 6), (13, 6), (1, 3), (1, 3), (1, 3), (1, 3), (1, 3), (1, 3), (1, 3), (1, 3), (1, 3), (1, 3), (1, 3), (1, 3), (11, 2), (1, 3), (3, 6), (11, 6), (13, 6), (13, 6), (1, 3), (1, 3), (1, 3), (1, 3), (1, 3), (1, 3), (1, 3), (1, 3), (1, 3), (1, 3), (1, 3), (1, 3), (11, 2), (1, 3), (3, 6), (11, 6), (13, 6), (13, 6), (1, 3), (1, 3), (1, 3), (1, 3), (1, 3), (1, 3), (1, 3), (1, 3), (1, 3), (1, 3), (1, 3), (1, 3), (11, 2), (1, 3), (3, 6), (11, 6)]
def LAY4 : List (Nat × Nat) := [(13, 6), (13, 6), (1, 3), (1, 3), (1, 3), (1, 3), (1, 3), (1, 3), (1, 3), (1, 3), (1, 3), (1, 3), (1, 3), (1, 3), (11, 2), (1, 3), (3, 6), (11, 6), (13, 6), (13, 6), (1, 3), (1, 3), (1, 3), (1, 3), (1, 3), (1, 3), (1, 3), (1, 3), (1, 3), (1, 3), (1, 3), (1, 3), (11, 2), (1, 3), (3, 6), (11, 6), (13, 6), (13, 6), (1, 3), (1, 3), (1, 3), (1, 3), (1, 3), (1, 3), (1, 3), (1, 3), (1, 3), (1, 3), (1, 3), (1, 3), (11, 2), (1, 3), (3, 6), (11, 6), (13, 6), (13, 6), (1, 3), (1, 3), (1, 3), (1, 3)]
def LAY5 : List (Nat × Nat) := [(1, 3), (1, 3), (1, 3), (1, 3), (1, 3), (1, 3), (1, 3), (1, 3), (11, 2), (1, 3), (3, 6), (11, 6), (13, 6), (13, 6), (1, 3), (1, 3), (1, 3), (1, 3), (1, 3), (1, 3), (1, 3), (1, 3), (1, 3), (1, 3), (1, 3), (1, 3), (11, 2), (1, 3), (3, 6), (11, 6), (13, 6), (13, 6), (1, 3), (1, 3), (1, 3), (1, 3), (1, 3), (1, 3), (1, 3), (1, 3), (1, 3), (1, 3), (1, 3), (1, 3), (11, 2), (1, 3), (3, 6), (11, 6), (13, 6), (13, 6), (1, 3), (1, 3), (1, 3), (1, 3), (1, 3), (1, 3), (1, 3), (1, 3), (1, 3), (1, 3)]
def LAY6 : List (Nat × Nat) := [(1, 3), (1, 3), (11, 2), (1, 3), (3, 6), (11, 6), (13, 6), (13, 6), (1, 3), (1, 3), (1, 3), (1, 3), (1, 3), (1, 3), (1, 3), (1, 3), (1, 3), (1, 3), (1, 3), (1, 3), (11, 2), (1, 3), (3, 6), (11, 6), (13, 6), (13, 6), (1, 3), (1, 3), (1, 3), (1, 3), (1, 3), (1, 3), (1, 3), (1, 3), (1, 3), (1, 3), (1, 3), (1, 3), (11, 2), (1, 3), (3, 6), (11, 6), (13, 6), (13, 6), (1, 3), (1, 3), (1, 3), (1, 3), (1, 3), (1, 3), (1, 3), (1, 3), (1, 3), (1, 3), (1, 3), (1, 3), (11, 2), (1, 3), (3, 6), (11, 6)]
def LAY7 : List (Nat × Nat) := [(13, 6), (13, 6), (1, 3), (1, 3), (1, 3), (1, 3), (1, 3), (1, 3), (1, 3), (1, 3), (1, 3), (1, 3), (1, 3), (1, 3), (11, 2), (1, 3), (11, 20), (5, 12), (1, 3), (1, 3), (1, 3), (1, 3), (1, 3), (1, 3), (1, 3), (1, 3), (1, 3), (1, 3), (1, 3), (1, 3), (3, 6), (11, 6), (13, 6), (13, 6), (1, 3), (1, 3), (1, 3), (1, 3), (1, 3), (1, 3), (1, 3), (1, 3), (1, 3), (1, 3), (1, 3), (1, 3), (11, 2), (7, 9), (10, 100), (11, 12), (11, 12), (11, 12), (11, 12), (15, 6), (6, 3), (12, 60), (6, 3), (12, 60), (6, 3), (12, 60)]
def LAY8 : List (Nat × Nat) := [(6, 3), (12, 60), (6, 3), (12, 60), (6, 3), (12, 60), (1, 3), (1, 3), (1, 3), (9, 62), (11, 6), (12, 6), (12, 6), (12, 6), (12, 6), (11, 5), (11, 5), (11, 8), (11, 8), (11, 8), (11, 8), (11, 6), (12, 6), (12, 6), (12, 6), (12, 6), (12, 6), (12, 6), (11, 20), (12, 20), (12, 20), (12, 240), (12, 240), (11, 100), (11, 12), (11, 12), (11, 12), (11, 12), (11, 6), (11, 6), (12, 360), (12, 60), (12, 80)]
def LAYL : List (Nat × Nat) := LAY0 ++ (LAY1 ++ (LAY2 ++ (LAY3 ++ (LAY4 ++ (LAY5 ++ (LAY6 ++ (LAY7 ++ (LAY8))))))))
def LAY (j : Nat) : Nat × Nat := LAYL.getD j (98, 0)
/-- the words that a call keeps -/
def OM : List Cond := lw_tbl.filter goodWord
theorem om_in {w : Cond} (i : Nat) (h : lw_tbl[i]? = some w) (hg : goodWord w = true) : w ∈ OM := List.mem_filter.mpr ⟨List.mem_of_getElem? h, hg⟩
theorem om_good {w : Cond} (h : w ∈ OM) : (w.onTables && w.keeps) = true ∨ ∃ ty, w = .arrayClass ty := good_of_word (List.mem_filter.mp h).2
theorem om_tbl {w : Cond} (h : w ∈ OM) : w ∈ lw_tbl := (List.mem_filter.mp h).1
theorem omX0 : ∀ w ∈ wsX00, w ∈ OM := by decide +kernel
theorem omX1 : ∀ w ∈ wsX10, w ∈ OM := by decide +kernel
theorem omX2 : ∀ w ∈ wsX20, w ∈ OM := by decide +kernel
theorem omX3 : ∀ w ∈ wsX30, w ∈ OM := by decide +kernel
theorem omX4 : ∀ w ∈ wsX40, w ∈ OM := by decide +kernel
theorem omX5 : ∀ w ∈ wsX50, w ∈ OM := by decide +kernel
theorem omX6 : ∀ w ∈ wsX60, w ∈ OM := by decide +kernel
theorem omX7 : ∀ w ∈ wsX70, w ∈ OM := by decide +kernel
theorem omX8 : ∀ w ∈ wsX80, w ∈ OM := by decide +kernel
theorem omX9 : ∀ w ∈ wsX90, w ∈ OM := by decide +kernel
