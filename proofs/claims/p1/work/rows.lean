section
-- ===== PART A: goes FIRST, ahead of the names: the tables' words, and 'selects' of the private methods out of them =====
/-- a private method of a class that the tables say can be made, by its rows of tables_1 -/
def lw_okq (q : MethodName × Nat) : Prop := (q.1.cls ≠ "java/lang/invoke/MethodHandle" ∧ q.1.cls ≠ "java/lang/invoke/VarHandle") ∧ Cond.instantiable q.1.cls q.2 ∈ tables_1 ∧ Cond.privateMethod q.1 ∈ tables_1 ∧ Cond.instanceMethod q.1 ∈ tables_1
theorem lw_p0 : lw_okq (⟨"RailBumpers$Fraction", "settle", "(JJ)V"⟩, 3) := ⟨⟨by decide +kernel, by decide +kernel⟩, List.mem_of_getElem? (i := 36) (by decide +kernel), List.mem_of_getElem? (i := 339) (by decide +kernel), List.mem_of_getElem? (i := 340) (by decide +kernel)⟩
theorem lw_p1 : lw_okq (⟨"RailBumpers", "isBumper", "(I)Z"⟩, 10) := ⟨⟨by decide +kernel, by decide +kernel⟩, List.mem_of_getElem? (i := 15) (by decide +kernel), List.mem_of_getElem? (i := 347) (by decide +kernel), List.mem_of_getElem? (i := 348) (by decide +kernel)⟩
theorem lw_p2 : lw_okq (⟨"RailBumpers", "isAnyBeyond", "(LRailBumpers$Rail;I)Z"⟩, 10) := ⟨⟨by decide +kernel, by decide +kernel⟩, List.mem_of_getElem? (i := 15) (by decide +kernel), List.mem_of_getElem? (i := 362) (by decide +kernel), List.mem_of_getElem? (i := 363) (by decide +kernel)⟩
theorem lw_p3 : lw_okq (⟨"RailBumpers", "isBeyond", "(LRailBumpers$Fraction;I)Z"⟩, 10) := ⟨⟨by decide +kernel, by decide +kernel⟩, List.mem_of_getElem? (i := 15) (by decide +kernel), List.mem_of_getElem? (i := 366) (by decide +kernel), List.mem_of_getElem? (i := 367) (by decide +kernel)⟩
theorem lw_p4 : lw_okq (⟨"RailBumpers", "toldWall", "(I)I"⟩, 10) := ⟨⟨by decide +kernel, by decide +kernel⟩, List.mem_of_getElem? (i := 15) (by decide +kernel), List.mem_of_getElem? (i := 371) (by decide +kernel), List.mem_of_getElem? (i := 372) (by decide +kernel)⟩
theorem lw_p5 : lw_okq (⟨"RailBumpers$Striker", "reckon", "(LRailBumpers$Rail;I)Z"⟩, 12) := ⟨⟨by decide +kernel, by decide +kernel⟩, List.mem_of_getElem? (i := 141) (by decide +kernel), List.mem_of_getElem? (i := 402) (by decide +kernel), List.mem_of_getElem? (i := 403) (by decide +kernel)⟩
theorem lw_p6 : lw_okq (⟨"RailBumpers$Striker", "rebound", "(LRailBumpers$Fraction;I)Z"⟩, 12) := ⟨⟨by decide +kernel, by decide +kernel⟩, List.mem_of_getElem? (i := 141) (by decide +kernel), List.mem_of_getElem? (i := 426) (by decide +kernel), List.mem_of_getElem? (i := 427) (by decide +kernel)⟩
theorem lw_p7 : lw_okq (⟨"RailBumpers$Striker", "collide", "(LRailBumpers$Rail;II)Z"⟩, 12) := ⟨⟨by decide +kernel, by decide +kernel⟩, List.mem_of_getElem? (i := 141) (by decide +kernel), List.mem_of_getElem? (i := 435) (by decide +kernel), List.mem_of_getElem? (i := 436) (by decide +kernel)⟩
theorem lw_p8 : lw_okq (⟨"RailBumpers$Text", "scanClause", "(I)Z"⟩, 9) := ⟨⟨by decide +kernel, by decide +kernel⟩, List.mem_of_getElem? (i := 215) (by decide +kernel), List.mem_of_getElem? (i := 455) (by decide +kernel), List.mem_of_getElem? (i := 456) (by decide +kernel)⟩
theorem lw_p9 : lw_okq (⟨"RailBumpers$Text", "sign", "()I"⟩, 9) := ⟨⟨by decide +kernel, by decide +kernel⟩, List.mem_of_getElem? (i := 215) (by decide +kernel), List.mem_of_getElem? (i := 459) (by decide +kernel), List.mem_of_getElem? (i := 460) (by decide +kernel)⟩
theorem lw_p10 : lw_okq (⟨"RailBumpers$Text", "skip", "(C)Z"⟩, 9) := ⟨⟨by decide +kernel, by decide +kernel⟩, List.mem_of_getElem? (i := 215) (by decide +kernel), List.mem_of_getElem? (i := 463) (by decide +kernel), List.mem_of_getElem? (i := 464) (by decide +kernel)⟩
theorem lw_p11 : lw_okq (⟨"RailBumpers$Text", "scanBumper", "(I)Z"⟩, 9) := ⟨⟨by decide +kernel, by decide +kernel⟩, List.mem_of_getElem? (i := 215) (by decide +kernel), List.mem_of_getElem? (i := 467) (by decide +kernel), List.mem_of_getElem? (i := 468) (by decide +kernel)⟩
theorem lw_p12 : lw_okq (⟨"RailBumpers$Text", "scanNumber", "(I)Z"⟩, 9) := ⟨⟨by decide +kernel, by decide +kernel⟩, List.mem_of_getElem? (i := 215) (by decide +kernel), List.mem_of_getElem? (i := 471) (by decide +kernel), List.mem_of_getElem? (i := 472) (by decide +kernel)⟩
theorem lw_p13 : lw_okq (⟨"RailBumpers$Text", "scanWall", "()Z"⟩, 9) := ⟨⟨by decide +kernel, by decide +kernel⟩, List.mem_of_getElem? (i := 215) (by decide +kernel), List.mem_of_getElem? (i := 475) (by decide +kernel), List.mem_of_getElem? (i := 476) (by decide +kernel)⟩
theorem lw_p14 : lw_okq (⟨"RailBumpers", "perform", "(IIII)I"⟩, 10) := ⟨⟨by decide +kernel, by decide +kernel⟩, List.mem_of_getElem? (i := 15) (by decide +kernel), List.mem_of_getElem? (i := 479) (by decide +kernel), List.mem_of_getElem? (i := 480) (by decide +kernel)⟩
theorem lw_p15 : lw_okq (⟨"RailBumpers", "addUp", "(LRailBumpers$Rail;I)V"⟩, 10) := ⟨⟨by decide +kernel, by decide +kernel⟩, List.mem_of_getElem? (i := 15) (by decide +kernel), List.mem_of_getElem? (i := 514) (by decide +kernel), List.mem_of_getElem? (i := 515) (by decide +kernel)⟩
def lw_privs_1 : List (MethodName × Nat) := [(⟨"RailBumpers$Fraction", "settle", "(JJ)V"⟩, 3), (⟨"RailBumpers", "isBumper", "(I)Z"⟩, 10), (⟨"RailBumpers", "isAnyBeyond", "(LRailBumpers$Rail;I)Z"⟩, 10), (⟨"RailBumpers", "isBeyond", "(LRailBumpers$Fraction;I)Z"⟩, 10), (⟨"RailBumpers", "toldWall", "(I)I"⟩, 10), (⟨"RailBumpers$Striker", "reckon", "(LRailBumpers$Rail;I)Z"⟩, 12), (⟨"RailBumpers$Striker", "rebound", "(LRailBumpers$Fraction;I)Z"⟩, 12), (⟨"RailBumpers$Striker", "collide", "(LRailBumpers$Rail;II)Z"⟩, 12), (⟨"RailBumpers$Text", "scanClause", "(I)Z"⟩, 9), (⟨"RailBumpers$Text", "sign", "()I"⟩, 9), (⟨"RailBumpers$Text", "skip", "(C)Z"⟩, 9), (⟨"RailBumpers$Text", "scanBumper", "(I)Z"⟩, 9), (⟨"RailBumpers$Text", "scanNumber", "(I)Z"⟩, 9), (⟨"RailBumpers$Text", "scanWall", "()Z"⟩, 9), (⟨"RailBumpers", "perform", "(IIII)I"⟩, 10), (⟨"RailBumpers", "addUp", "(LRailBumpers$Rail;I)V"⟩, 10)]
theorem lw_r1 : ∀ q ∈ lw_privs_1, lw_okq q := List.forall_mem_cons.mpr ⟨lw_p0, List.forall_mem_cons.mpr ⟨lw_p1, List.forall_mem_cons.mpr ⟨lw_p2, List.forall_mem_cons.mpr ⟨lw_p3, List.forall_mem_cons.mpr ⟨lw_p4, List.forall_mem_cons.mpr ⟨lw_p5, List.forall_mem_cons.mpr ⟨lw_p6, List.forall_mem_cons.mpr ⟨lw_p7, List.forall_mem_cons.mpr ⟨lw_p8, List.forall_mem_cons.mpr ⟨lw_p9, List.forall_mem_cons.mpr ⟨lw_p10, List.forall_mem_cons.mpr ⟨lw_p11, List.forall_mem_cons.mpr ⟨lw_p12, List.forall_mem_cons.mpr ⟨lw_p13, List.forall_mem_cons.mpr ⟨lw_p14, List.forall_mem_cons.mpr ⟨lw_p15, fun _ h => absurd h List.not_mem_nil⟩⟩⟩⟩⟩⟩⟩⟩⟩⟩⟩⟩⟩⟩⟩⟩
theorem lw_p16 : lw_okq (⟨"RailBumpers", "takesPart", "(II)Z"⟩, 10) := ⟨⟨by decide +kernel, by decide +kernel⟩, List.mem_of_getElem? (i := 15) (by decide +kernel), List.mem_of_getElem? (i := 540) (by decide +kernel), List.mem_of_getElem? (i := 541) (by decide +kernel)⟩
theorem lw_p17 : lw_okq (⟨"RailBumpers", "lastStopBy", "(I)I"⟩, 10) := ⟨⟨by decide +kernel, by decide +kernel⟩, List.mem_of_getElem? (i := 15) (by decide +kernel), List.mem_of_getElem? (i := 548) (by decide +kernel), List.mem_of_getElem? (i := 549) (by decide +kernel)⟩
theorem lw_p18 : lw_okq (⟨"RailBumpers", "happen", "(LRailBumpers$Rail;II)V"⟩, 10) := ⟨⟨by decide +kernel, by decide +kernel⟩, List.mem_of_getElem? (i := 15) (by decide +kernel), List.mem_of_getElem? (i := 593) (by decide +kernel), List.mem_of_getElem? (i := 594) (by decide +kernel)⟩
theorem lw_p19 : lw_okq (⟨"RailBumpers", "turnAll", "(LRailBumpers$Rail;)V"⟩, 10) := ⟨⟨by decide +kernel, by decide +kernel⟩, List.mem_of_getElem? (i := 15) (by decide +kernel), List.mem_of_getElem? (i := 597) (by decide +kernel), List.mem_of_getElem? (i := 598) (by decide +kernel)⟩
theorem lw_p20 : lw_okq (⟨"RailBumpersModel", "isLess", "(JJJJ)Z"⟩, 62) := ⟨⟨by decide +kernel, by decide +kernel⟩, List.mem_of_getElem? (i := 669) (by decide +kernel), List.mem_of_getElem? (i := 872) (by decide +kernel), List.mem_of_getElem? (i := 873) (by decide +kernel)⟩
theorem lw_p21 : lw_okq (⟨"RailBumpersModel", "less", "(JJJJ)V"⟩, 62) := ⟨⟨by decide +kernel, by decide +kernel⟩, List.mem_of_getElem? (i := 669) (by decide +kernel), List.mem_of_getElem? (i := 876) (by decide +kernel), List.mem_of_getElem? (i := 877) (by decide +kernel)⟩
theorem lw_p22 : lw_okq (⟨"RailBumpersModel", "product", "(JJ)J"⟩, 62) := ⟨⟨by decide +kernel, by decide +kernel⟩, List.mem_of_getElem? (i := 669) (by decide +kernel), List.mem_of_getElem? (i := 880) (by decide +kernel), List.mem_of_getElem? (i := 881) (by decide +kernel)⟩
theorem lw_p23 : lw_okq (⟨"RailBumpersModel", "difference", "(JJ)J"⟩, 62) := ⟨⟨by decide +kernel, by decide +kernel⟩, List.mem_of_getElem? (i := 669) (by decide +kernel), List.mem_of_getElem? (i := 886) (by decide +kernel), List.mem_of_getElem? (i := 887) (by decide +kernel)⟩
theorem lw_p24 : lw_okq (⟨"RailBumpersModel", "lowest", "(JJ)V"⟩, 62) := ⟨⟨by decide +kernel, by decide +kernel⟩, List.mem_of_getElem? (i := 669) (by decide +kernel), List.mem_of_getElem? (i := 890) (by decide +kernel), List.mem_of_getElem? (i := 891) (by decide +kernel)⟩
theorem lw_p25 : lw_okq (⟨"RailBumpersModel", "isBumper", "(I)Z"⟩, 62) := ⟨⟨by decide +kernel, by decide +kernel⟩, List.mem_of_getElem? (i := 669) (by decide +kernel), List.mem_of_getElem? (i := 898) (by decide +kernel), List.mem_of_getElem? (i := 899) (by decide +kernel)⟩
theorem lw_p26 : lw_okq (⟨"RailBumpersModel", "isBeyond", "(I)Z"⟩, 62) := ⟨⟨by decide +kernel, by decide +kernel⟩, List.mem_of_getElem? (i := 669) (by decide +kernel), List.mem_of_getElem? (i := 911) (by decide +kernel), List.mem_of_getElem? (i := 912) (by decide +kernel)⟩
theorem lw_p27 : lw_okq (⟨"RailBumpersModel", "findAll", "()V"⟩, 62) := ⟨⟨by decide +kernel, by decide +kernel⟩, List.mem_of_getElem? (i := 669) (by decide +kernel), List.mem_of_getElem? (i := 924) (by decide +kernel), List.mem_of_getElem? (i := 925) (by decide +kernel)⟩
theorem lw_p28 : lw_okq (⟨"RailBumpersModel", "minds", "()V"⟩, 62) := ⟨⟨by decide +kernel, by decide +kernel⟩, List.mem_of_getElem? (i := 669) (by decide +kernel), List.mem_of_getElem? (i := 928) (by decide +kernel), List.mem_of_getElem? (i := 929) (by decide +kernel)⟩
theorem lw_p29 : lw_okq (⟨"RailBumpersModel", "goesOn", "(I)V"⟩, 62) := ⟨⟨by decide +kernel, by decide +kernel⟩, List.mem_of_getElem? (i := 669) (by decide +kernel), List.mem_of_getElem? (i := 932) (by decide +kernel), List.mem_of_getElem? (i := 933) (by decide +kernel)⟩
theorem lw_p30 : lw_okq (⟨"RailBumpersModel", "next", "()I"⟩, 62) := ⟨⟨by decide +kernel, by decide +kernel⟩, List.mem_of_getElem? (i := 669) (by decide +kernel), List.mem_of_getElem? (i := 936) (by decide +kernel), List.mem_of_getElem? (i := 937) (by decide +kernel)⟩
theorem lw_p31 : lw_okq (⟨"RailBumpersModel", "by", "(JJJJ)V"⟩, 62) := ⟨⟨by decide +kernel, by decide +kernel⟩, List.mem_of_getElem? (i := 669) (by decide +kernel), List.mem_of_getElem? (i := 940) (by decide +kernel), List.mem_of_getElem? (i := 941) (by decide +kernel)⟩
def lw_privs_2 : List (MethodName × Nat) := [(⟨"RailBumpers", "takesPart", "(II)Z"⟩, 10), (⟨"RailBumpers", "lastStopBy", "(I)I"⟩, 10), (⟨"RailBumpers", "happen", "(LRailBumpers$Rail;II)V"⟩, 10), (⟨"RailBumpers", "turnAll", "(LRailBumpers$Rail;)V"⟩, 10), (⟨"RailBumpersModel", "isLess", "(JJJJ)Z"⟩, 62), (⟨"RailBumpersModel", "less", "(JJJJ)V"⟩, 62), (⟨"RailBumpersModel", "product", "(JJ)J"⟩, 62), (⟨"RailBumpersModel", "difference", "(JJ)J"⟩, 62), (⟨"RailBumpersModel", "lowest", "(JJ)V"⟩, 62), (⟨"RailBumpersModel", "isBumper", "(I)Z"⟩, 62), (⟨"RailBumpersModel", "isBeyond", "(I)Z"⟩, 62), (⟨"RailBumpersModel", "findAll", "()V"⟩, 62), (⟨"RailBumpersModel", "minds", "()V"⟩, 62), (⟨"RailBumpersModel", "goesOn", "(I)V"⟩, 62), (⟨"RailBumpersModel", "next", "()I"⟩, 62), (⟨"RailBumpersModel", "by", "(JJJJ)V"⟩, 62)]
theorem lw_r2 : ∀ q ∈ lw_privs_2, lw_okq q := List.forall_mem_cons.mpr ⟨lw_p16, List.forall_mem_cons.mpr ⟨lw_p17, List.forall_mem_cons.mpr ⟨lw_p18, List.forall_mem_cons.mpr ⟨lw_p19, List.forall_mem_cons.mpr ⟨lw_p20, List.forall_mem_cons.mpr ⟨lw_p21, List.forall_mem_cons.mpr ⟨lw_p22, List.forall_mem_cons.mpr ⟨lw_p23, List.forall_mem_cons.mpr ⟨lw_p24, List.forall_mem_cons.mpr ⟨lw_p25, List.forall_mem_cons.mpr ⟨lw_p26, List.forall_mem_cons.mpr ⟨lw_p27, List.forall_mem_cons.mpr ⟨lw_p28, List.forall_mem_cons.mpr ⟨lw_p29, List.forall_mem_cons.mpr ⟨lw_p30, List.forall_mem_cons.mpr ⟨lw_p31, fun _ h => absurd h List.not_mem_nil⟩⟩⟩⟩⟩⟩⟩⟩⟩⟩⟩⟩⟩⟩⟩⟩
theorem lw_p32 : lw_okq (⟨"RailBumpersModel", "offers", "(I)V"⟩, 62) := ⟨⟨by decide +kernel, by decide +kernel⟩, List.mem_of_getElem? (i := 669) (by decide +kernel), List.mem_of_getElem? (i := 944) (by decide +kernel), List.mem_of_getElem? (i := 945) (by decide +kernel)⟩
theorem lw_p33 : lw_okq (⟨"RailBumpersModel", "does", "(I)V"⟩, 62) := ⟨⟨by decide +kernel, by decide +kernel⟩, List.mem_of_getElem? (i := 669) (by decide +kernel), List.mem_of_getElem? (i := 948) (by decide +kernel), List.mem_of_getElem? (i := 949) (by decide +kernel)⟩
theorem lw_p34 : lw_okq (⟨"RailBumpersModel", "moves", "()V"⟩, 62) := ⟨⟨by decide +kernel, by decide +kernel⟩, List.mem_of_getElem? (i := 669) (by decide +kernel), List.mem_of_getElem? (i := 952) (by decide +kernel), List.mem_of_getElem? (i := 953) (by decide +kernel)⟩
theorem lw_p35 : lw_okq (⟨"RailBumpersModel", "plus", "(JJJJ)V"⟩, 62) := ⟨⟨by decide +kernel, by decide +kernel⟩, List.mem_of_getElem? (i := 669) (by decide +kernel), List.mem_of_getElem? (i := 956) (by decide +kernel), List.mem_of_getElem? (i := 957) (by decide +kernel)⟩
theorem lw_p36 : lw_okq (⟨"RailBumpersModel", "sum", "(JJ)J"⟩, 62) := ⟨⟨by decide +kernel, by decide +kernel⟩, List.mem_of_getElem? (i := 669) (by decide +kernel), List.mem_of_getElem? (i := 960) (by decide +kernel), List.mem_of_getElem? (i := 961) (by decide +kernel)⟩
theorem lw_p37 : lw_okq (⟨"RailBumpersModel", "times", "(JJJJ)V"⟩, 62) := ⟨⟨by decide +kernel, by decide +kernel⟩, List.mem_of_getElem? (i := 669) (by decide +kernel), List.mem_of_getElem? (i := 964) (by decide +kernel), List.mem_of_getElem? (i := 965) (by decide +kernel)⟩
theorem lw_p38 : lw_okq (⟨"RailBumpersModel", "turnsBack", "(II)V"⟩, 62) := ⟨⟨by decide +kernel, by decide +kernel⟩, List.mem_of_getElem? (i := 669) (by decide +kernel), List.mem_of_getElem? (i := 968) (by decide +kernel), List.mem_of_getElem? (i := 969) (by decide +kernel)⟩
theorem lw_p39 : lw_okq (⟨"RailBumpersModel", "pushes", "(I)V"⟩, 62) := ⟨⟨by decide +kernel, by decide +kernel⟩, List.mem_of_getElem? (i := 669) (by decide +kernel), List.mem_of_getElem? (i := 979) (by decide +kernel), List.mem_of_getElem? (i := 980) (by decide +kernel)⟩
theorem lw_p40 : lw_okq (⟨"RailBumpersModel", "becomes", "(IJJ)V"⟩, 62) := ⟨⟨by decide +kernel, by decide +kernel⟩, List.mem_of_getElem? (i := 669) (by decide +kernel), List.mem_of_getElem? (i := 983) (by decide +kernel), List.mem_of_getElem? (i := 984) (by decide +kernel)⟩
theorem lw_p41 : lw_okq (⟨"RailBumpersModel", "keeps", "(I)V"⟩, 62) := ⟨⟨by decide +kernel, by decide +kernel⟩, List.mem_of_getElem? (i := 669) (by decide +kernel), List.mem_of_getElem? (i := 987) (by decide +kernel), List.mem_of_getElem? (i := 988) (by decide +kernel)⟩
theorem lw_p42 : lw_okq (⟨"RailBumpersModel", "clause", "(I)Z"⟩, 62) := ⟨⟨by decide +kernel, by decide +kernel⟩, List.mem_of_getElem? (i := 669) (by decide +kernel), List.mem_of_getElem? (i := 1000) (by decide +kernel), List.mem_of_getElem? (i := 1001) (by decide +kernel)⟩
theorem lw_p43 : lw_okq (⟨"RailBumpersModel", "isSign", "(I)Z"⟩, 62) := ⟨⟨by decide +kernel, by decide +kernel⟩, List.mem_of_getElem? (i := 669) (by decide +kernel), List.mem_of_getElem? (i := 1004) (by decide +kernel), List.mem_of_getElem? (i := 1005) (by decide +kernel)⟩
theorem lw_p44 : lw_okq (⟨"RailBumpersModel", "number", "(I)I"⟩, 62) := ⟨⟨by decide +kernel, by decide +kernel⟩, List.mem_of_getElem? (i := 669) (by decide +kernel), List.mem_of_getElem? (i := 1008) (by decide +kernel), List.mem_of_getElem? (i := 1009) (by decide +kernel)⟩
theorem lw_p45 : lw_okq (⟨"RailBumpersModel", "isDone", "(I)Z"⟩, 62) := ⟨⟨by decide +kernel, by decide +kernel⟩, List.mem_of_getElem? (i := 669) (by decide +kernel), List.mem_of_getElem? (i := 1014) (by decide +kernel), List.mem_of_getElem? (i := 1015) (by decide +kernel)⟩
theorem lw_p46 : lw_okq (⟨"RailBumpersModel", "sums", "(I)Z"⟩, 62) := ⟨⟨by decide +kernel, by decide +kernel⟩, List.mem_of_getElem? (i := 669) (by decide +kernel), List.mem_of_getElem? (i := 1038) (by decide +kernel), List.mem_of_getElem? (i := 1039) (by decide +kernel)⟩
theorem lw_p47 : lw_okq (⟨"RailBumpersModel", "upTo", "(I)I"⟩, 62) := ⟨⟨by decide +kernel, by decide +kernel⟩, List.mem_of_getElem? (i := 669) (by decide +kernel), List.mem_of_getElem? (i := 1070) (by decide +kernel), List.mem_of_getElem? (i := 1071) (by decide +kernel)⟩
def lw_privs_3 : List (MethodName × Nat) := [(⟨"RailBumpersModel", "offers", "(I)V"⟩, 62), (⟨"RailBumpersModel", "does", "(I)V"⟩, 62), (⟨"RailBumpersModel", "moves", "()V"⟩, 62), (⟨"RailBumpersModel", "plus", "(JJJJ)V"⟩, 62), (⟨"RailBumpersModel", "sum", "(JJ)J"⟩, 62), (⟨"RailBumpersModel", "times", "(JJJJ)V"⟩, 62), (⟨"RailBumpersModel", "turnsBack", "(II)V"⟩, 62), (⟨"RailBumpersModel", "pushes", "(I)V"⟩, 62), (⟨"RailBumpersModel", "becomes", "(IJJ)V"⟩, 62), (⟨"RailBumpersModel", "keeps", "(I)V"⟩, 62), (⟨"RailBumpersModel", "clause", "(I)Z"⟩, 62), (⟨"RailBumpersModel", "isSign", "(I)Z"⟩, 62), (⟨"RailBumpersModel", "number", "(I)I"⟩, 62), (⟨"RailBumpersModel", "isDone", "(I)Z"⟩, 62), (⟨"RailBumpersModel", "sums", "(I)Z"⟩, 62), (⟨"RailBumpersModel", "upTo", "(I)I"⟩, 62)]
theorem lw_r3 : ∀ q ∈ lw_privs_3, lw_okq q := List.forall_mem_cons.mpr ⟨lw_p32, List.forall_mem_cons.mpr ⟨lw_p33, List.forall_mem_cons.mpr ⟨lw_p34, List.forall_mem_cons.mpr ⟨lw_p35, List.forall_mem_cons.mpr ⟨lw_p36, List.forall_mem_cons.mpr ⟨lw_p37, List.forall_mem_cons.mpr ⟨lw_p38, List.forall_mem_cons.mpr ⟨lw_p39, List.forall_mem_cons.mpr ⟨lw_p40, List.forall_mem_cons.mpr ⟨lw_p41, List.forall_mem_cons.mpr ⟨lw_p42, List.forall_mem_cons.mpr ⟨lw_p43, List.forall_mem_cons.mpr ⟨lw_p44, List.forall_mem_cons.mpr ⟨lw_p45, List.forall_mem_cons.mpr ⟨lw_p46, List.forall_mem_cons.mpr ⟨lw_p47, fun _ h => absurd h List.not_mem_nil⟩⟩⟩⟩⟩⟩⟩⟩⟩⟩⟩⟩⟩⟩⟩⟩
theorem lw_p48 : lw_okq (⟨"RailBumpersModel", "isStruck", "(II)Z"⟩, 62) := ⟨⟨by decide +kernel, by decide +kernel⟩, List.mem_of_getElem? (i := 669) (by decide +kernel), List.mem_of_getElem? (i := 1086) (by decide +kernel), List.mem_of_getElem? (i := 1087) (by decide +kernel)⟩
theorem lw_p49 : lw_okq (⟨"RailBumpersModel", "happens", "(II)V"⟩, 62) := ⟨⟨by decide +kernel, by decide +kernel⟩, List.mem_of_getElem? (i := 669) (by decide +kernel), List.mem_of_getElem? (i := 1110) (by decide +kernel), List.mem_of_getElem? (i := 1111) (by decide +kernel)⟩
theorem lw_p50 : lw_okq (⟨"RailBumpersModel", "carriesAll", "(Z)V"⟩, 62) := ⟨⟨by decide +kernel, by decide +kernel⟩, List.mem_of_getElem? (i := 669) (by decide +kernel), List.mem_of_getElem? (i := 1149) (by decide +kernel), List.mem_of_getElem? (i := 1150) (by decide +kernel)⟩
theorem lw_p51 : lw_okq (⟨"RailBumpersModel", "carries", "([IIIZ)I"⟩, 62) := ⟨⟨by decide +kernel, by decide +kernel⟩, List.mem_of_getElem? (i := 669) (by decide +kernel), List.mem_of_getElem? (i := 1153) (by decide +kernel), List.mem_of_getElem? (i := 1154) (by decide +kernel)⟩
theorem lw_p52 : lw_okq (⟨"RailBumpersModel", "carriesLongs", "([JIZ)I"⟩, 62) := ⟨⟨by decide +kernel, by decide +kernel⟩, List.mem_of_getElem? (i := 669) (by decide +kernel), List.mem_of_getElem? (i := 1157) (by decide +kernel), List.mem_of_getElem? (i := 1158) (by decide +kernel)⟩
def lw_privs_4 : List (MethodName × Nat) := [(⟨"RailBumpersModel", "isStruck", "(II)Z"⟩, 62), (⟨"RailBumpersModel", "happens", "(II)V"⟩, 62), (⟨"RailBumpersModel", "carriesAll", "(Z)V"⟩, 62), (⟨"RailBumpersModel", "carries", "([IIIZ)I"⟩, 62), (⟨"RailBumpersModel", "carriesLongs", "([JIZ)I"⟩, 62)]
theorem lw_r4 : ∀ q ∈ lw_privs_4, lw_okq q := List.forall_mem_cons.mpr ⟨lw_p48, List.forall_mem_cons.mpr ⟨lw_p49, List.forall_mem_cons.mpr ⟨lw_p50, List.forall_mem_cons.mpr ⟨lw_p51, List.forall_mem_cons.mpr ⟨lw_p52, fun _ h => absurd h List.not_mem_nil⟩⟩⟩⟩⟩
def lw_privs : List (MethodName × Nat) := lw_privs_1 ++ (lw_privs_2 ++ (lw_privs_3 ++ (lw_privs_4)))
def lw_tbl : List Cond := k2_sels lw_privs ++ tables_1
theorem lw_privs_ok : ∀ q ∈ lw_privs, lw_okq q := by
  show ∀ q ∈ lw_privs_1 ++ (lw_privs_2 ++ (lw_privs_3 ++ (lw_privs_4))), lw_okq q
  exact List.forall_mem_append.mpr ⟨lw_r1, List.forall_mem_append.mpr ⟨lw_r2, List.forall_mem_append.mpr ⟨lw_r3, lw_r4⟩⟩⟩
def RX0 : String := "RailBumpers$Course"
def TX0 : u_T := fun k => match k with
  | 0 => ("RailBumpers$Course", "stops", "[LRailBumpers$Rail;", true)
  | 1 => ("RailBumpers$Course", "times", "[LRailBumpers$Fraction;", true)
  | 2 => ("RailBumpers$Course", "wheres", "[I", true)
  | 3 => ("RailBumpers$Course", "strikes", "I", false)
  | 4 => ("RailBumpers$Course", "end", "I", false)
  | 5 => ("RailBumpers$Course", "bound", "I", false)
  | _ => ("RailBumpers$Course", "striker", "LRailBumpers$Striker;", true)
def tyX0 : Nat → FieldType := fun k => match k with
  | 0 => .array (.object "RailBumpers$Rail")
  | 1 => .array (.object "RailBumpers$Fraction")
  | 2 => .array .int
  | 3 => .int
  | 4 => .int
  | 5 => .int
  | _ => .object "RailBumpers$Striker"
abbrev wsX00 : List Cond := u_ws RX0 TX0 7
theorem nmX0 : ∀ a, a < 7 → ∀ b, b < 7 → a ≠ b → (TX0 a).2.1 ≠ (TX0 b).2.1 := by decide +kernel
theorem tyX0_ok : ∀ k, k < 7 → parseFieldDescriptor (TX0 k).2.2.1 = some (tyX0 k) := by decide +kernel
abbrev cX0_init : ByteArray := prog_2_method_1_code
def yX0_init : MethodName := ⟨RX0, "<init>", "()V"⟩
abbrev cX0_work : ByteArray := prog_2_method_2_code
def yX0_work : MethodName := ⟨RX0, "work", "(LRailBumpers$Rail;I)V"⟩
abbrev cX0_firstUnlike : ByteArray := prog_2_method_3_code
def yX0_firstUnlike : MethodName := ⟨RX0, "firstUnlike", "(LRailBumpers$Pairs;)I"⟩
def RX1 : String := "RailBumpers$Fraction"
def TX1 : u_T := fun k => match k with
  | 0 => ("RailBumpers$Fraction", "above", "J", false)
  | 1 => ("RailBumpers$Fraction", "below", "J", false)
  | _ => ("RailBumpers$Fraction", "over", "Z", false)
def tyX1 : Nat → FieldType := fun k => match k with
  | 0 => .long
  | 1 => .long
  | _ => .boolean
abbrev wsX10 : List Cond := u_ws RX1 TX1 3
theorem nmX1 : ∀ a, a < 3 → ∀ b, b < 3 → a ≠ b → (TX1 a).2.1 ≠ (TX1 b).2.1 := by decide +kernel
theorem tyX1_ok : ∀ k, k < 3 → parseFieldDescriptor (TX1 k).2.2.1 = some (tyX1 k) := by decide +kernel
abbrev cX1_init : ByteArray := prog_3_method_1_code
def yX1_init : MethodName := ⟨RX1, "<init>", "()V"⟩
abbrev cX1_become : ByteArray := prog_3_method_2_code
def yX1_become : MethodName := ⟨RX1, "become", "(LRailBumpers$Fraction;)V"⟩
abbrev cX1_becomeWhole : ByteArray := prog_3_method_3_code
def yX1_becomeWhole : MethodName := ⟨RX1, "becomeWhole", "(J)V"⟩
abbrev cX1_becomeRatio : ByteArray := prog_3_method_4_code
def yX1_becomeRatio : MethodName := ⟨RX1, "becomeRatio", "(JJ)V"⟩
abbrev cX1_times : ByteArray := prog_3_method_5_code
def yX1_times : MethodName := ⟨RX1, "times", "(LRailBumpers$Fraction;)V"⟩
abbrev cX1_by : ByteArray := prog_3_method_6_code
def yX1_by : MethodName := ⟨RX1, "by", "(LRailBumpers$Fraction;)V"⟩
abbrev cX1_plus : ByteArray := prog_3_method_7_code
def yX1_plus : MethodName := ⟨RX1, "plus", "(LRailBumpers$Fraction;)V"⟩
abbrev cX1_less : ByteArray := prog_3_method_8_code
def yX1_less : MethodName := ⟨RX1, "less", "(LRailBumpers$Fraction;)V"⟩
abbrev cX1_half : ByteArray := prog_3_method_9_code
def yX1_half : MethodName := ⟨RX1, "half", "(I)J"⟩
abbrev cX1_isLike : ByteArray := prog_3_method_10_code
def yX1_isLike : MethodName := ⟨RX1, "isLike", "(LRailBumpers$Fraction;)Z"⟩
abbrev cX1_passes : ByteArray := prog_3_method_11_code
def yX1_passes : MethodName := ⟨RX1, "passes", "(JJ)Z"⟩
abbrev cX1_settle : ByteArray := prog_3_method_12_code
def yX1_settle : MethodName := ⟨RX1, "settle", "(JJ)V"⟩
def RX2 : String := "RailBumpers$Pairs"
def TX2 : u_T := fun k => match k with
  | 0 => ("RailBumpers$Pairs", "firsts", "[I", true)
  | 1 => ("RailBumpers$Pairs", "seconds", "[I", true)
  | _ => ("RailBumpers$Pairs", "size", "I", false)
def tyX2 : Nat → FieldType := fun k => match k with
  | 0 => .array .int
  | 1 => .array .int
  | _ => .int
abbrev wsX20 : List Cond := u_ws RX2 TX2 3
theorem nmX2 : ∀ a, a < 3 → ∀ b, b < 3 → a ≠ b → (TX2 a).2.1 ≠ (TX2 b).2.1 := by decide +kernel
theorem tyX2_ok : ∀ k, k < 3 → parseFieldDescriptor (TX2 k).2.2.1 = some (tyX2 k) := by decide +kernel
abbrev cX2_init : ByteArray := prog_4_method_1_code
def yX2_init : MethodName := ⟨RX2, "<init>", "(I)V"⟩
abbrev cX2_add : ByteArray := prog_4_method_2_code
def yX2_add : MethodName := ⟨RX2, "add", "(II)I"⟩
abbrev cX2_become : ByteArray := prog_4_method_3_code
def yX2_become : MethodName := ⟨RX2, "become", "(LRailBumpers$Pairs;)V"⟩
def RX3 : String := "RailBumpers$Rail"
def TX3 : u_T := fun k => match k with
  | 0 => ("RailBumpers$Rail", "bumpers", "I", false)
  | 1 => ("RailBumpers$Rail", "masses", "[I", true)
  | 2 => ("RailBumpers$Rail", "places", "[LRailBumpers$Fraction;", true)
  | 3 => ("RailBumpers$Rail", "speeds", "[LRailBumpers$Fraction;", true)
  | 4 => ("RailBumpers$Rail", "springiness", "I", false)
  | _ => ("RailBumpers$Rail", "walls", "[I", true)
def tyX3 : Nat → FieldType := fun k => match k with
  | 0 => .int
  | 1 => .array .int
  | 2 => .array (.object "RailBumpers$Fraction")
  | 3 => .array (.object "RailBumpers$Fraction")
  | 4 => .int
  | _ => .array .int
abbrev wsX30 : List Cond := u_ws RX3 TX3 6
theorem nmX3 : ∀ a, a < 6 → ∀ b, b < 6 → a ≠ b → (TX3 a).2.1 ≠ (TX3 b).2.1 := by decide +kernel
theorem tyX3_ok : ∀ k, k < 6 → parseFieldDescriptor (TX3 k).2.2.1 = some (tyX3 k) := by decide +kernel
abbrev cX3_init : ByteArray := prog_5_method_1_code
def yX3_init : MethodName := ⟨RX3, "<init>", "()V"⟩
abbrev cX3_become : ByteArray := prog_5_method_2_code
def yX3_become : MethodName := ⟨RX3, "become", "(LRailBumpers$Rail;)V"⟩
abbrev cX3_isLike : ByteArray := prog_5_method_3_code
def yX3_isLike : MethodName := ⟨RX3, "isLike", "(LRailBumpers$Rail;)Z"⟩
abbrev cX3_fraction : ByteArray := prog_5_method_4_code
def yX3_fraction : MethodName := ⟨RX3, "fraction", "(II)LRailBumpers$Fraction;"⟩
def RX4 : String := "RailBumpers$Setting"
def TX4 : u_T := fun k => match k with
  | 0 => ("RailBumpers$Setting", "rail", "LRailBumpers$Rail;", true)
  | 1 => ("RailBumpers$Setting", "seen", "LRailBumpers$Pairs;", true)
  | 2 => ("RailBumpers$Setting", "events", "LRailBumpers$Pairs;", true)
  | _ => ("RailBumpers$Setting", "strikeBook", "LRailBumpers$Pairs;", true)
def tyX4 : Nat → FieldType := fun k => match k with
  | 0 => .object "RailBumpers$Rail"
  | 1 => .object "RailBumpers$Pairs"
  | 2 => .object "RailBumpers$Pairs"
  | _ => .object "RailBumpers$Pairs"
abbrev wsX40 : List Cond := u_ws RX4 TX4 4
theorem nmX4 : ∀ a, a < 4 → ∀ b, b < 4 → a ≠ b → (TX4 a).2.1 ≠ (TX4 b).2.1 := by decide +kernel
theorem tyX4_ok : ∀ k, k < 4 → parseFieldDescriptor (TX4 k).2.2.1 = some (tyX4 k) := by decide +kernel
abbrev cX4_init : ByteArray := prog_6_method_1_code
def yX4_init : MethodName := ⟨RX4, "<init>", "()V"⟩
abbrev cX4_become : ByteArray := prog_6_method_2_code
def yX4_become : MethodName := ⟨RX4, "become", "(LRailBumpers$Setting;)V"⟩
def RX5 : String := "RailBumpers$Striker"
def TX5 : u_T := fun k => match k with
  | 0 => ("RailBumpers$Striker", "least", "LRailBumpers$Fraction;", true)
  | 1 => ("RailBumpers$Striker", "delay", "LRailBumpers$Fraction;", true)
  | 2 => ("RailBumpers$Striker", "closing", "LRailBumpers$Fraction;", true)
  | 3 => ("RailBumpers$Striker", "ahead", "LRailBumpers$Fraction;", true)
  | 4 => ("RailBumpers$Striker", "way", "LRailBumpers$Fraction;", true)
  | 5 => ("RailBumpers$Striker", "springy", "LRailBumpers$Fraction;", true)
  | 6 => ("RailBumpers$Striker", "common", "LRailBumpers$Fraction;", true)
  | 7 => ("RailBumpers$Striker", "kick", "LRailBumpers$Fraction;", true)
  | 8 => ("RailBumpers$Striker", "share", "LRailBumpers$Fraction;", true)
  | 9 => ("RailBumpers$Striker", "leftMass", "LRailBumpers$Fraction;", true)
  | 10 => ("RailBumpers$Striker", "rightMass", "LRailBumpers$Fraction;", true)
  | _ => ("RailBumpers$Striker", "bothMass", "LRailBumpers$Fraction;", true)
def tyX5 : Nat → FieldType := fun k => match k with
  | 0 => .object "RailBumpers$Fraction"
  | 1 => .object "RailBumpers$Fraction"
  | 2 => .object "RailBumpers$Fraction"
  | 3 => .object "RailBumpers$Fraction"
  | 4 => .object "RailBumpers$Fraction"
  | 5 => .object "RailBumpers$Fraction"
  | 6 => .object "RailBumpers$Fraction"
  | 7 => .object "RailBumpers$Fraction"
  | 8 => .object "RailBumpers$Fraction"
  | 9 => .object "RailBumpers$Fraction"
  | 10 => .object "RailBumpers$Fraction"
  | _ => .object "RailBumpers$Fraction"
abbrev wsX50 : List Cond := u_ws RX5 TX5 12
theorem nmX5 : ∀ a, a < 12 → ∀ b, b < 12 → a ≠ b → (TX5 a).2.1 ≠ (TX5 b).2.1 := by decide +kernel
theorem tyX5_ok : ∀ k, k < 12 → parseFieldDescriptor (TX5 k).2.2.1 = some (tyX5 k) := by decide +kernel
abbrev cX5_init : ByteArray := prog_7_method_1_code
def yX5_init : MethodName := ⟨RX5, "<init>", "()V"⟩
abbrev cX5_find : ByteArray := prog_7_method_2_code
def yX5_find : MethodName := ⟨RX5, "find", "(LRailBumpers$Rail;)I"⟩
abbrev cX5_reckon : ByteArray := prog_7_method_3_code
def yX5_reckon : MethodName := ⟨RX5, "reckon", "(LRailBumpers$Rail;I)Z"⟩
abbrev cX5_strike : ByteArray := prog_7_method_4_code
def yX5_strike : MethodName := ⟨RX5, "strike", "(LRailBumpers$Rail;LRailBumpers$Fraction;I)Z"⟩
abbrev cX5_rebound : ByteArray := prog_7_method_5_code
def yX5_rebound : MethodName := ⟨RX5, "rebound", "(LRailBumpers$Fraction;I)Z"⟩
abbrev cX5_collide : ByteArray := prog_7_method_6_code
def yX5_collide : MethodName := ⟨RX5, "collide", "(LRailBumpers$Rail;II)Z"⟩
def RX6 : String := "RailBumpers$Tape"
def TX6 : u_T := fun k => match k with
  | 0 => ("RailBumpers$Tape", "sort", "I", false)
  | 1 => ("RailBumpers$Tape", "size", "I", false)
  | _ => ("RailBumpers$Tape", "items", "[J", true)
def tyX6 : Nat → FieldType := fun k => match k with
  | 0 => .int
  | 1 => .int
  | _ => .array .long
abbrev wsX60 : List Cond := u_ws RX6 TX6 3
theorem nmX6 : ∀ a, a < 3 → ∀ b, b < 3 → a ≠ b → (TX6 a).2.1 ≠ (TX6 b).2.1 := by decide +kernel
theorem tyX6_ok : ∀ k, k < 3 → parseFieldDescriptor (TX6 k).2.2.1 = some (tyX6 k) := by decide +kernel
abbrev cX6_init : ByteArray := prog_8_method_1_code
def yX6_init : MethodName := ⟨RX6, "<init>", "()V"⟩
abbrev cX6_renewAs : ByteArray := prog_8_method_2_code
def yX6_renewAs : MethodName := ⟨RX6, "renewAs", "(II)V"⟩
abbrev cX6_cut : ByteArray := prog_8_method_3_code
def yX6_cut : MethodName := ⟨RX6, "cut", "(J)J"⟩
def RX7 : String := "RailBumpers$Text"
def TX7 : u_T := fun k => match k with
  | 0 => ("RailBumpers$Text", "signs", "[B", true)
  | 1 => ("RailBumpers$Text", "length", "I", false)
  | 2 => ("RailBumpers$Text", "kinds", "[I", true)
  | 3 => ("RailBumpers$Text", "firsts", "[I", true)
  | 4 => ("RailBumpers$Text", "seconds", "[I", true)
  | 5 => ("RailBumpers$Text", "thirds", "[I", true)
  | 6 => ("RailBumpers$Text", "clauses", "I", false)
  | 7 => ("RailBumpers$Text", "at", "I", false)
  | _ => ("RailBumpers$Text", "number", "I", false)
def tyX7 : Nat → FieldType := fun k => match k with
  | 0 => .array .byte
  | 1 => .int
  | 2 => .array .int
  | 3 => .array .int
  | 4 => .array .int
  | 5 => .array .int
  | 6 => .int
  | 7 => .int
  | _ => .int
abbrev wsX70 : List Cond := u_ws RX7 TX7 9
theorem nmX7 : ∀ a, a < 9 → ∀ b, b < 9 → a ≠ b → (TX7 a).2.1 ≠ (TX7 b).2.1 := by decide +kernel
theorem tyX7_ok : ∀ k, k < 9 → parseFieldDescriptor (TX7 k).2.2.1 = some (tyX7 k) := by decide +kernel
abbrev cX7_init : ByteArray := prog_9_method_1_code
def yX7_init : MethodName := ⟨RX7, "<init>", "()V"⟩
abbrev cX7_scan : ByteArray := prog_9_method_2_code
def yX7_scan : MethodName := ⟨RX7, "scan", "()Z"⟩
abbrev cX7_scanClause : ByteArray := prog_9_method_3_code
def yX7_scanClause : MethodName := ⟨RX7, "scanClause", "(I)Z"⟩
abbrev cX7_scanBumper : ByteArray := prog_9_method_4_code
def yX7_scanBumper : MethodName := ⟨RX7, "scanBumper", "(I)Z"⟩
abbrev cX7_scanWall : ByteArray := prog_9_method_5_code
def yX7_scanWall : MethodName := ⟨RX7, "scanWall", "()Z"⟩
abbrev cX7_scanNumber : ByteArray := prog_9_method_6_code
def yX7_scanNumber : MethodName := ⟨RX7, "scanNumber", "(I)Z"⟩
abbrev cX7_skip : ByteArray := prog_9_method_7_code
def yX7_skip : MethodName := ⟨RX7, "skip", "(C)Z"⟩
abbrev cX7_sign : ByteArray := prog_9_method_8_code
def yX7_sign : MethodName := ⟨RX7, "sign", "()I"⟩
def RX8 : String := "RailBumpers"
def TX8 : u_T := fun k => match k with
  | 0 => ("RailBumpers", "now", "LRailBumpers$Setting;", true)
  | 1 => ("RailBumpers", "kept", "LRailBumpers$Setting;", true)
  | 2 => ("RailBumpers", "hasImage", "Z", false)
  | 3 => ("RailBumpers", "course", "LRailBumpers$Course;", true)
  | 4 => ("RailBumpers", "supposed", "LRailBumpers$Rail;", true)
  | 5 => ("RailBumpers", "text", "LRailBumpers$Text;", true)
  | 6 => ("RailBumpers", "tapes", "[LRailBumpers$Tape;", true)
  | 7 => ("RailBumpers", "sum", "LRailBumpers$Fraction;", true)
  | 8 => ("RailBumpers", "term", "LRailBumpers$Fraction;", true)
  | _ => ("RailBumpers", "whole", "LRailBumpers$Fraction;", true)
def tyX8 : Nat → FieldType := fun k => match k with
  | 0 => .object "RailBumpers$Setting"
  | 1 => .object "RailBumpers$Setting"
  | 2 => .boolean
  | 3 => .object "RailBumpers$Course"
  | 4 => .object "RailBumpers$Rail"
  | 5 => .object "RailBumpers$Text"
  | 6 => .array (.object "RailBumpers$Tape")
  | 7 => .object "RailBumpers$Fraction"
  | 8 => .object "RailBumpers$Fraction"
  | _ => .object "RailBumpers$Fraction"
abbrev wsX80 : List Cond := u_ws RX8 TX8 10
theorem nmX8 : ∀ a, a < 10 → ∀ b, b < 10 → a ≠ b → (TX8 a).2.1 ≠ (TX8 b).2.1 := by decide +kernel
theorem tyX8_ok : ∀ k, k < 10 → parseFieldDescriptor (TX8 k).2.2.1 = some (tyX8 k) := by decide +kernel
abbrev cX8_init : ByteArray := prog_1_method_1_code
def yX8_init : MethodName := ⟨RX8, "<init>", "()V"⟩
abbrev cX8_bumper : ByteArray := prog_1_method_2_code
def yX8_bumper : MethodName := ⟨RX8, "bumper", "(III)I"⟩
abbrev cX8_renew : ByteArray := prog_1_method_3_code
def yX8_renew : MethodName := ⟨RX8, "renew", "(III)I"⟩
abbrev cX8_spring : ByteArray := prog_1_method_4_code
def yX8_spring : MethodName := ⟨RX8, "spring", "(I)I"⟩
abbrev cX8_wall : ByteArray := prog_1_method_5_code
def yX8_wall : MethodName := ⟨RX8, "wall", "(II)I"⟩
abbrev cX8_go : ByteArray := prog_1_method_6_code
def yX8_go : MethodName := ⟨RX8, "go", "(I)I"⟩
abbrev cX8_feed : ByteArray := prog_1_method_7_code
def yX8_feed : MethodName := ⟨RX8, "feed", "(I)I"⟩
abbrev cX8_read : ByteArray := prog_1_method_8_code
def yX8_read : MethodName := ⟨RX8, "read", "()I"⟩
abbrev cX8_of : ByteArray := prog_1_method_9_code
def yX8_of : MethodName := ⟨RX8, "of", "(III)J"⟩
abbrev cX8_told : ByteArray := prog_1_method_10_code
def yX8_told : MethodName := ⟨RX8, "told", "(I)I"⟩
abbrev cX8_push : ByteArray := prog_1_method_11_code
def yX8_push : MethodName := ⟨RX8, "push", "(II)J"⟩
abbrev cX8_where : ByteArray := prog_1_method_12_code
def yX8_where : MethodName := ⟨RX8, "where", "(I)I"⟩
abbrev cX8_time : ByteArray := prog_1_method_13_code
def yX8_time : MethodName := ⟨RX8, "time", "(II)J"⟩
abbrev cX8_behind : ByteArray := prog_1_method_14_code
def yX8_behind : MethodName := ⟨RX8, "behind", "(IIII)J"⟩
abbrev cX8_then : ByteArray := prog_1_method_15_code
def yX8_then : MethodName := ⟨RX8, "then", "(II)J"⟩
abbrev cX8_often : ByteArray := prog_1_method_16_code
def yX8_often : MethodName := ⟨RX8, "often", "(I)I"⟩
abbrev cX8_at : ByteArray := prog_1_method_17_code
def yX8_at : MethodName := ⟨RX8, "at", "(III)J"⟩
abbrev cX8_see : ByteArray := prog_1_method_18_code
def yX8_see : MethodName := ⟨RX8, "see", "(II)I"⟩
abbrev cX8_fits : ByteArray := prog_1_method_19_code
def yX8_fits : MethodName := ⟨RX8, "fits", "(II)I"⟩
abbrev cX8_odds : ByteArray := prog_1_method_20_code
def yX8_odds : MethodName := ⟨RX8, "odds", "(II)J"⟩
abbrev cX8_mean : ByteArray := prog_1_method_21_code
def yX8_mean : MethodName := ⟨RX8, "mean", "(I)J"⟩
abbrev cX8_event : ByteArray := prog_1_method_22_code
def yX8_event : MethodName := ⟨RX8, "event", "(II)I"⟩
abbrev cX8_after : ByteArray := prog_1_method_23_code
def yX8_after : MethodName := ⟨RX8, "after", "(I)I"⟩
abbrev cX8_book : ByteArray := prog_1_method_24_code
def yX8_book : MethodName := ⟨RX8, "book", "(II)I"⟩
abbrev cX8_looked : ByteArray := prog_1_method_25_code
def yX8_looked : MethodName := ⟨RX8, "looked", "()I"⟩
abbrev cX8_judge : ByteArray := prog_1_method_26_code
def yX8_judge : MethodName := ⟨RX8, "judge", "(II)I"⟩
abbrev cX8_image : ByteArray := prog_1_method_27_code
def yX8_image : MethodName := ⟨RX8, "image", "()I"⟩
abbrev cX8_undo : ByteArray := prog_1_method_28_code
def yX8_undo : MethodName := ⟨RX8, "undo", "()I"⟩
abbrev cX8_count : ByteArray := prog_1_method_29_code
def yX8_count : MethodName := ⟨RX8, "count", "(I)I"⟩
abbrev cX8_tape : ByteArray := prog_1_method_30_code
def yX8_tape : MethodName := ⟨RX8, "tape", "(III)I"⟩
abbrev cX8_item : ByteArray := prog_1_method_31_code
def yX8_item : MethodName := ⟨RX8, "item", "(IIJ)I"⟩
abbrev cX8_peek : ByteArray := prog_1_method_32_code
def yX8_peek : MethodName := ⟨RX8, "peek", "(II)J"⟩
abbrev cX8_shift : ByteArray := prog_1_method_33_code
def yX8_shift : MethodName := ⟨RX8, "shift", "(IIIII)I"⟩
abbrev cX8_isBumper : ByteArray := prog_1_method_34_code
def yX8_isBumper : MethodName := ⟨RX8, "isBumper", "(I)Z"⟩
abbrev cX8_isMass : ByteArray := prog_1_method_35_code
def yX8_isMass : MethodName := ⟨RX8, "isMass", "(I)Z"⟩
abbrev cX8_isSpeed : ByteArray := prog_1_method_36_code
def yX8_isSpeed : MethodName := ⟨RX8, "isSpeed", "(I)Z"⟩
abbrev cX8_isQuarters : ByteArray := prog_1_method_37_code
def yX8_isQuarters : MethodName := ⟨RX8, "isQuarters", "(I)Z"⟩
abbrev cX8_isPart : ByteArray := prog_1_method_38_code
def yX8_isPart : MethodName := ⟨RX8, "isPart", "(I)Z"⟩
abbrev cX8_isTape : ByteArray := prog_1_method_39_code
def yX8_isTape : MethodName := ⟨RX8, "isTape", "(I)Z"⟩
abbrev cX8_isWhere : ByteArray := prog_1_method_40_code
def yX8_isWhere : MethodName := ⟨RX8, "isWhere", "(I)Z"⟩
abbrev cX8_isRefusal : ByteArray := prog_1_method_41_code
def yX8_isRefusal : MethodName := ⟨RX8, "isRefusal", "(I)Z"⟩
abbrev cX8_toldWall : ByteArray := prog_1_method_42_code
def yX8_toldWall : MethodName := ⟨RX8, "toldWall", "(I)I"⟩
abbrev cX8_isAnyBeyond : ByteArray := prog_1_method_43_code
def yX8_isAnyBeyond : MethodName := ⟨RX8, "isAnyBeyond", "(LRailBumpers$Rail;I)Z"⟩
abbrev cX8_isBeyond : ByteArray := prog_1_method_44_code
def yX8_isBeyond : MethodName := ⟨RX8, "isBeyond", "(LRailBumpers$Fraction;I)Z"⟩
abbrev cX8_perform : ByteArray := prog_1_method_45_code
def yX8_perform : MethodName := ⟨RX8, "perform", "(IIII)I"⟩
abbrev cX8_addUp : ByteArray := prog_1_method_46_code
def yX8_addUp : MethodName := ⟨RX8, "addUp", "(LRailBumpers$Rail;I)V"⟩
abbrev cX8_takesPart : ByteArray := prog_1_method_47_code
def yX8_takesPart : MethodName := ⟨RX8, "takesPart", "(II)Z"⟩
abbrev cX8_lastStopBy : ByteArray := prog_1_method_48_code
def yX8_lastStopBy : MethodName := ⟨RX8, "lastStopBy", "(I)I"⟩
abbrev cX8_addStrike : ByteArray := prog_1_method_49_code
def yX8_addStrike : MethodName := ⟨RX8, "addStrike", "(LRailBumpers$Pairs;II)I"⟩
abbrev cX8_happen : ByteArray := prog_1_method_50_code
def yX8_happen : MethodName := ⟨RX8, "happen", "(LRailBumpers$Rail;II)V"⟩
abbrev cX8_turnAll : ByteArray := prog_1_method_51_code
def yX8_turnAll : MethodName := ⟨RX8, "turnAll", "(LRailBumpers$Rail;)V"⟩
def RX9 : String := "RailBumpersModel"
def TX9 : u_T := fun k => match k with
  | 0 => ("RailBumpersModel", "many", "I", false)
  | 1 => ("RailBumpersModel", "spring", "I", false)
  | 2 => ("RailBumpersModel", "left", "I", false)
  | 3 => ("RailBumpersModel", "right", "I", false)
  | 4 => ("RailBumpersModel", "mass", "[I", true)
  | 5 => ("RailBumpersModel", "placeUp", "[J", true)
  | 6 => ("RailBumpersModel", "placeDown", "[J", true)
  | 7 => ("RailBumpersModel", "speedUp", "[J", true)
  | 8 => ("RailBumpersModel", "speedDown", "[J", true)
  | 9 => ("RailBumpersModel", "seen", "I", false)
  | 10 => ("RailBumpersModel", "events", "I", false)
  | 11 => ("RailBumpersModel", "booked", "I", false)
  | 12 => ("RailBumpersModel", "seenK", "[I", true)
  | 13 => ("RailBumpersModel", "seenWhere", "[I", true)
  | 14 => ("RailBumpersModel", "eventWhat", "[I", true)
  | 15 => ("RailBumpersModel", "eventBy", "[I", true)
  | 16 => ("RailBumpersModel", "bookK", "[I", true)
  | 17 => ("RailBumpersModel", "bookWhere", "[I", true)
  | 18 => ("RailBumpersModel", "up", "J", false)
  | 19 => ("RailBumpersModel", "down", "J", false)
  | 20 => ("RailBumpersModel", "over", "Z", false)
  | 21 => ("RailBumpersModel", "m", "[I", true)
  | 22 => ("RailBumpersModel", "pu", "[J", true)
  | 23 => ("RailBumpersModel", "pd", "[J", true)
  | 24 => ("RailBumpersModel", "su", "[J", true)
  | 25 => ("RailBumpersModel", "sd", "[J", true)
  | 26 => ("RailBumpersModel", "npu", "[J", true)
  | 27 => ("RailBumpersModel", "npd", "[J", true)
  | 28 => ("RailBumpersModel", "tu", "J", false)
  | 29 => ("RailBumpersModel", "td", "J", false)
  | 30 => ("RailBumpersModel", "mSpring", "I", false)
  | 31 => ("RailBumpersModel", "mLeft", "I", false)
  | 32 => ("RailBumpersModel", "mRight", "I", false)
  | 33 => ("RailBumpersModel", "bestWhere", "I", false)
  | 34 => ("RailBumpersModel", "bestUp", "J", false)
  | 35 => ("RailBumpersModel", "bestDown", "J", false)
  | 36 => ("RailBumpersModel", "nextTimeUp", "J", false)
  | 37 => ("RailBumpersModel", "nextTimeDown", "J", false)
  | 38 => ("RailBumpersModel", "oneUp", "J", false)
  | 39 => ("RailBumpersModel", "oneDown", "J", false)
  | 40 => ("RailBumpersModel", "otherUp", "J", false)
  | 41 => ("RailBumpersModel", "otherDown", "J", false)
  | 42 => ("RailBumpersModel", "strikes", "I", false)
  | 43 => ("RailBumpersModel", "end", "I", false)
  | 44 => ("RailBumpersModel", "whereAt", "[I", true)
  | 45 => ("RailBumpersModel", "timeUp", "[J", true)
  | 46 => ("RailBumpersModel", "timeDown", "[J", true)
  | 47 => ("RailBumpersModel", "behindUp", "[J", true)
  | 48 => ("RailBumpersModel", "behindDown", "[J", true)
  | 49 => ("RailBumpersModel", "text", "[I", true)
  | 50 => ("RailBumpersModel", "texted", "I", false)
  | 51 => ("RailBumpersModel", "at", "I", false)
  | 52 => ("RailBumpersModel", "letter", "[I", true)
  | 53 => ("RailBumpersModel", "one", "[I", true)
  | 54 => ("RailBumpersModel", "two", "[I", true)
  | 55 => ("RailBumpersModel", "three", "[I", true)
  | 56 => ("RailBumpersModel", "sorts", "[I", true)
  | 57 => ("RailBumpersModel", "sizes", "[I", true)
  | 58 => ("RailBumpersModel", "items", "[J", true)
  | 59 => ("RailBumpersModel", "moved", "[J", true)
  | 60 => ("RailBumpersModel", "kept", "[J", true)
  | _ => ("RailBumpersModel", "isKept", "Z", false)
def tyX9 : Nat → FieldType := fun k => match k with
  | 0 => .int
  | 1 => .int
  | 2 => .int
  | 3 => .int
  | 4 => .array .int
  | 5 => .array .long
  | 6 => .array .long
  | 7 => .array .long
  | 8 => .array .long
  | 9 => .int
  | 10 => .int
  | 11 => .int
  | 12 => .array .int
  | 13 => .array .int
  | 14 => .array .int
  | 15 => .array .int
  | 16 => .array .int
  | 17 => .array .int
  | 18 => .long
  | 19 => .long
  | 20 => .boolean
  | 21 => .array .int
  | 22 => .array .long
  | 23 => .array .long
  | 24 => .array .long
  | 25 => .array .long
  | 26 => .array .long
  | 27 => .array .long
  | 28 => .long
  | 29 => .long
  | 30 => .int
  | 31 => .int
  | 32 => .int
  | 33 => .int
  | 34 => .long
  | 35 => .long
  | 36 => .long
  | 37 => .long
  | 38 => .long
  | 39 => .long
  | 40 => .long
  | 41 => .long
  | 42 => .int
  | 43 => .int
  | 44 => .array .int
  | 45 => .array .long
  | 46 => .array .long
  | 47 => .array .long
  | 48 => .array .long
  | 49 => .array .int
  | 50 => .int
  | 51 => .int
  | 52 => .array .int
  | 53 => .array .int
  | 54 => .array .int
  | 55 => .array .int
  | 56 => .array .int
  | 57 => .array .int
  | 58 => .array .long
  | 59 => .array .long
  | 60 => .array .long
  | _ => .boolean
abbrev wsX90 : List Cond := u_ws RX9 TX9 62
theorem nmX9 : ∀ a, a < 62 → ∀ b, b < 62 → a ≠ b → (TX9 a).2.1 ≠ (TX9 b).2.1 := by decide +kernel
theorem tyX9_ok : ∀ k, k < 62 → parseFieldDescriptor (TX9 k).2.2.1 = some (tyX9 k) := by decide +kernel
abbrev cX9_init : ByteArray := prog_11_method_1_code
def yX9_init : MethodName := ⟨RX9, "<init>", "()V"⟩
abbrev cX9_isIn : ByteArray := prog_11_method_2_code
def yX9_isIn : MethodName := ⟨RX9, "isIn", "(JJJ)Z"⟩
abbrev cX9_product : ByteArray := prog_11_method_3_code
def yX9_product : MethodName := ⟨RX9, "product", "(JJ)J"⟩
abbrev cX9_sum : ByteArray := prog_11_method_4_code
def yX9_sum : MethodName := ⟨RX9, "sum", "(JJ)J"⟩
abbrev cX9_difference : ByteArray := prog_11_method_5_code
def yX9_difference : MethodName := ⟨RX9, "difference", "(JJ)J"⟩
abbrev cX9_lowest : ByteArray := prog_11_method_6_code
def yX9_lowest : MethodName := ⟨RX9, "lowest", "(JJ)V"⟩
abbrev cX9_times : ByteArray := prog_11_method_7_code
def yX9_times : MethodName := ⟨RX9, "times", "(JJJJ)V"⟩
abbrev cX9_by : ByteArray := prog_11_method_8_code
def yX9_by : MethodName := ⟨RX9, "by", "(JJJJ)V"⟩
abbrev cX9_plus : ByteArray := prog_11_method_9_code
def yX9_plus : MethodName := ⟨RX9, "plus", "(JJJJ)V"⟩
abbrev cX9_less : ByteArray := prog_11_method_10_code
def yX9_less : MethodName := ⟨RX9, "less", "(JJJJ)V"⟩
abbrev cX9_isLess : ByteArray := prog_11_method_11_code
def yX9_isLess : MethodName := ⟨RX9, "isLess", "(JJJJ)Z"⟩
abbrev cX9_quartersUp : ByteArray := prog_11_method_12_code
def yX9_quartersUp : MethodName := ⟨RX9, "quartersUp", "(I)J"⟩
abbrev cX9_quartersDown : ByteArray := prog_11_method_13_code
def yX9_quartersDown : MethodName := ⟨RX9, "quartersDown", "(I)J"⟩
abbrev cX9_minds : ByteArray := prog_11_method_14_code
def yX9_minds : MethodName := ⟨RX9, "minds", "()V"⟩
abbrev cX9_offers : ByteArray := prog_11_method_15_code
def yX9_offers : MethodName := ⟨RX9, "offers", "(I)V"⟩
abbrev cX9_next : ByteArray := prog_11_method_16_code
def yX9_next : MethodName := ⟨RX9, "next", "()I"⟩
abbrev cX9_moves : ByteArray := prog_11_method_17_code
def yX9_moves : MethodName := ⟨RX9, "moves", "()V"⟩
abbrev cX9_turnsBack : ByteArray := prog_11_method_18_code
def yX9_turnsBack : MethodName := ⟨RX9, "turnsBack", "(II)V"⟩
abbrev cX9_pushes : ByteArray := prog_11_method_19_code
def yX9_pushes : MethodName := ⟨RX9, "pushes", "(I)V"⟩
abbrev cX9_becomes : ByteArray := prog_11_method_20_code
def yX9_becomes : MethodName := ⟨RX9, "becomes", "(IJJ)V"⟩
abbrev cX9_does : ByteArray := prog_11_method_21_code
def yX9_does : MethodName := ⟨RX9, "does", "(I)V"⟩
abbrev cX9_keeps : ByteArray := prog_11_method_22_code
def yX9_keeps : MethodName := ⟨RX9, "keeps", "(I)V"⟩
abbrev cX9_goesOn : ByteArray := prog_11_method_23_code
def yX9_goesOn : MethodName := ⟨RX9, "goesOn", "(I)V"⟩
abbrev cX9_findAll : ByteArray := prog_11_method_24_code
def yX9_findAll : MethodName := ⟨RX9, "findAll", "()V"⟩
abbrev cX9_isBumper : ByteArray := prog_11_method_25_code
def yX9_isBumper : MethodName := ⟨RX9, "isBumper", "(I)Z"⟩
abbrev cX9_bumper : ByteArray := prog_11_method_26_code
def yX9_bumper : MethodName := ⟨RX9, "bumper", "(III)I"⟩
abbrev cX9_renew : ByteArray := prog_11_method_27_code
def yX9_renew : MethodName := ⟨RX9, "renew", "(III)I"⟩
abbrev cX9_spring : ByteArray := prog_11_method_28_code
def yX9_spring : MethodName := ⟨RX9, "spring", "(I)I"⟩
abbrev cX9_isBeyond : ByteArray := prog_11_method_29_code
def yX9_isBeyond : MethodName := ⟨RX9, "isBeyond", "(I)Z"⟩
abbrev cX9_wallTold : ByteArray := prog_11_method_30_code
def yX9_wallTold : MethodName := ⟨RX9, "wallTold", "(I)I"⟩
abbrev cX9_wall : ByteArray := prog_11_method_31_code
def yX9_wall : MethodName := ⟨RX9, "wall", "(II)I"⟩
abbrev cX9_go : ByteArray := prog_11_method_32_code
def yX9_go : MethodName := ⟨RX9, "go", "(I)I"⟩
abbrev cX9_feed : ByteArray := prog_11_method_33_code
def yX9_feed : MethodName := ⟨RX9, "feed", "(I)I"⟩
abbrev cX9_isSign : ByteArray := prog_11_method_34_code
def yX9_isSign : MethodName := ⟨RX9, "isSign", "(I)Z"⟩
abbrev cX9_number : ByteArray := prog_11_method_35_code
def yX9_number : MethodName := ⟨RX9, "number", "(I)I"⟩
abbrev cX9_clause : ByteArray := prog_11_method_36_code
def yX9_clause : MethodName := ⟨RX9, "clause", "(I)Z"⟩
abbrev cX9_isDone : ByteArray := prog_11_method_37_code
def yX9_isDone : MethodName := ⟨RX9, "isDone", "(I)Z"⟩
abbrev cX9_read : ByteArray := prog_11_method_38_code
def yX9_read : MethodName := ⟨RX9, "read", "()I"⟩
abbrev cX9_isPart : ByteArray := prog_11_method_39_code
def yX9_isPart : MethodName := ⟨RX9, "isPart", "(I)Z"⟩
abbrev cX9_of : ByteArray := prog_11_method_40_code
def yX9_of : MethodName := ⟨RX9, "of", "(III)J"⟩
abbrev cX9_told : ByteArray := prog_11_method_41_code
def yX9_told : MethodName := ⟨RX9, "told", "(I)I"⟩
abbrev cX9_sums : ByteArray := prog_11_method_42_code
def yX9_sums : MethodName := ⟨RX9, "sums", "(I)Z"⟩
abbrev cX9_push : ByteArray := prog_11_method_43_code
def yX9_push : MethodName := ⟨RX9, "push", "(II)J"⟩
abbrev cX9_where : ByteArray := prog_11_method_44_code
def yX9_where : MethodName := ⟨RX9, "where", "(I)I"⟩
abbrev cX9_time : ByteArray := prog_11_method_45_code
def yX9_time : MethodName := ⟨RX9, "time", "(II)J"⟩
abbrev cX9_behind : ByteArray := prog_11_method_46_code
def yX9_behind : MethodName := ⟨RX9, "behind", "(IIII)J"⟩
abbrev cX9_then : ByteArray := prog_11_method_47_code
def yX9_then : MethodName := ⟨RX9, "then", "(II)J"⟩
abbrev cX9_isOf : ByteArray := prog_11_method_48_code
def yX9_isOf : MethodName := ⟨RX9, "isOf", "(III)Z"⟩
abbrev cX9_often : ByteArray := prog_11_method_49_code
def yX9_often : MethodName := ⟨RX9, "often", "(I)I"⟩
abbrev cX9_upTo : ByteArray := prog_11_method_50_code
def yX9_upTo : MethodName := ⟨RX9, "upTo", "(I)I"⟩
abbrev cX9_at : ByteArray := prog_11_method_51_code
def yX9_at : MethodName := ⟨RX9, "at", "(III)J"⟩
abbrev cX9_isWhere : ByteArray := prog_11_method_52_code
def yX9_isWhere : MethodName := ⟨RX9, "isWhere", "(I)Z"⟩
abbrev cX9_see : ByteArray := prog_11_method_53_code
def yX9_see : MethodName := ⟨RX9, "see", "(II)I"⟩
abbrev cX9_isStruck : ByteArray := prog_11_method_54_code
def yX9_isStruck : MethodName := ⟨RX9, "isStruck", "(II)Z"⟩
abbrev cX9_fits : ByteArray := prog_11_method_55_code
def yX9_fits : MethodName := ⟨RX9, "fits", "(II)I"⟩
abbrev cX9_common : ByteArray := prog_11_method_56_code
def yX9_common : MethodName := ⟨RX9, "common", "(JJ)J"⟩
abbrev cX9_odds : ByteArray := prog_11_method_57_code
def yX9_odds : MethodName := ⟨RX9, "odds", "(II)J"⟩
abbrev cX9_mean : ByteArray := prog_11_method_58_code
def yX9_mean : MethodName := ⟨RX9, "mean", "(I)J"⟩
abbrev cX9_event : ByteArray := prog_11_method_59_code
def yX9_event : MethodName := ⟨RX9, "event", "(II)I"⟩
abbrev cX9_happens : ByteArray := prog_11_method_60_code
def yX9_happens : MethodName := ⟨RX9, "happens", "(II)V"⟩
abbrev cX9_after : ByteArray := prog_11_method_61_code
def yX9_after : MethodName := ⟨RX9, "after", "(I)I"⟩
abbrev cX9_book : ByteArray := prog_11_method_62_code
def yX9_book : MethodName := ⟨RX9, "book", "(II)I"⟩
abbrev cX9_looked : ByteArray := prog_11_method_63_code
def yX9_looked : MethodName := ⟨RX9, "looked", "()I"⟩
abbrev cX9_isTape : ByteArray := prog_11_method_64_code
def yX9_isTape : MethodName := ⟨RX9, "isTape", "(I)Z"⟩
abbrev cX9_judge : ByteArray := prog_11_method_65_code
def yX9_judge : MethodName := ⟨RX9, "judge", "(II)I"⟩
abbrev cX9_tape : ByteArray := prog_11_method_66_code
def yX9_tape : MethodName := ⟨RX9, "tape", "(III)I"⟩
abbrev cX9_item : ByteArray := prog_11_method_67_code
def yX9_item : MethodName := ⟨RX9, "item", "(IIJ)I"⟩
abbrev cX9_peek : ByteArray := prog_11_method_68_code
def yX9_peek : MethodName := ⟨RX9, "peek", "(II)J"⟩
abbrev cX9_shift : ByteArray := prog_11_method_69_code
def yX9_shift : MethodName := ⟨RX9, "shift", "(IIIII)I"⟩
abbrev cX9_carries : ByteArray := prog_11_method_70_code
def yX9_carries : MethodName := ⟨RX9, "carries", "([IIIZ)I"⟩
abbrev cX9_carriesLongs : ByteArray := prog_11_method_71_code
def yX9_carriesLongs : MethodName := ⟨RX9, "carriesLongs", "([JIZ)I"⟩
abbrev cX9_carriesAll : ByteArray := prog_11_method_72_code
def yX9_carriesAll : MethodName := ⟨RX9, "carriesAll", "(Z)V"⟩
abbrev cX9_image : ByteArray := prog_11_method_73_code
def yX9_image : MethodName := ⟨RX9, "image", "()I"⟩
abbrev cX9_undo : ByteArray := prog_11_method_74_code
def yX9_undo : MethodName := ⟨RX9, "undo", "()I"⟩
abbrev cX9_count : ByteArray := prog_11_method_75_code
def yX9_count : MethodName := ⟨RX9, "count", "(I)I"⟩
def RJ9 : String := "java/lang/Math"
def TJ9 : u_T := fun k => match k with
  | _ => ("", "", "", false)
def tyJ9 : Nat → FieldType := fun k => match k with
  | _ => .int
abbrev wsJ90 : List Cond := u_ws RJ9 TJ9 0
theorem nmJ9 : ∀ a, a < 0 → ∀ b, b < 0 → a ≠ b → (TJ9 a).2.1 ≠ (TJ9 b).2.1 := by decide +kernel
theorem tyJ9_ok : ∀ k, k < 0 → parseFieldDescriptor (TJ9 k).2.2.1 = some (tyJ9 k) := by decide +kernel
abbrev cJ9_max_7cf53 : ByteArray := prog_12_method_65_code
def yJ9_max_7cf53 : MethodName := ⟨RJ9, "max", "(II)I"⟩
abbrev cJ9_min_7cf53 : ByteArray := prog_12_method_69_code
def yJ9_min_7cf53 : MethodName := ⟨RJ9, "min", "(II)I"⟩
def RJ10 : String := "java/lang/System"
def TJ10 : u_T := fun k => match k with
  | _ => ("", "", "", false)
def tyJ10 : Nat → FieldType := fun k => match k with
  | _ => .int
abbrev wsJ100 : List Cond := u_ws RJ10 TJ10 0
theorem nmJ10 : ∀ a, a < 0 → ∀ b, b < 0 → a ≠ b → (TJ10 a).2.1 ≠ (TJ10 b).2.1 := by decide +kernel
theorem tyJ10_ok : ∀ k, k < 0 → parseFieldDescriptor (TJ10 k).2.2.1 = some (tyJ10 k) := by decide +kernel
def RJ7 : String := "java/util/Arrays"
def TJ7 : u_T := fun k => match k with
  | _ => ("", "", "", false)
def tyJ7 : Nat → FieldType := fun k => match k with
  | _ => .int
abbrev wsJ70 : List Cond := u_ws RJ7 TJ7 0
theorem nmJ7 : ∀ a, a < 0 → ∀ b, b < 0 → a ≠ b → (TJ7 a).2.1 ≠ (TJ7 b).2.1 := by decide +kernel
theorem tyJ7_ok : ∀ k, k < 0 → parseFieldDescriptor (TJ7 k).2.2.1 = some (tyJ7 k) := by decide +kernel
abbrev cJ7_fill_d0a16 : ByteArray := prog_14_method_101_code
def yJ7_fill_d0a16 : MethodName := ⟨RJ7, "fill", "([JJ)V"⟩
def RL : String := "RailBumpersLaw"
abbrev cL_law : ByteArray := code
def yL_law : MethodName := ⟨RL, "law", "([I)Z"⟩
abbrev vwCl : List vw_C := [(RX0, TX0, 7), (RX1, TX1, 3), (RX2, TX2, 3), (RX3, TX3, 6), (RX4, TX4, 4), (RX5, TX5, 12), (RX6, TX6, 3), (RX7, TX7, 9), (RX8, TX8, 10), (RX9, TX9, 62)]
/-- the layout of the cells: kind (0 .. 9 an object of that class of vwCl; 10 bytes, 11 ints, 12 longs, 13 fractions, 14 rails, 15 tapes) and how many -/
def LAY0 : List (Nat × Nat) := [(8, 10), (4, 4), (3, 6), (11, 6), (13, 6), (13, 6), (1, 3), (1, 3), (1, 3), (1, 3), (1, 3), (1, 3), (1, 3), (1, 3), (1, 3), (1, 3), (1, 3), (1, 3), (11, 2), (2, 3), (11, 5), (11, 5), (2, 3), (11, 8), (11, 8), (2, 3), (11, 8), (11, 8), (4, 4), (3, 6), (11, 6), (13, 6), (13, 6), (1, 3), (1, 3), (1, 3), (1, 3), (1, 3), (1, 3), (1, 3), (1, 3), (1, 3), (1, 3), (1, 3), (1, 3), (11, 2), (2, 3), (11, 5), (11, 5), (2, 3), (11, 8), (11, 8), (2, 3), (11, 8), (11, 8), (0, 7), (14, 21), (13, 21), (3, 6), (11, 6)]
def LAY1 : List (Nat × Nat) := [(13, 6), (13, 6), (1, 3), (1, 3), (1, 3), (1, 3), (1, 3), (1, 3), (1, 3), (1, 3), (1, 3), (1, 3), (1, 3), (1, 3), (11, 2), (1, 3), (3, 6), (11, 6), (13, 6), (13, 6), (1, 3), (1, 3), (1, 3), (1, 3), (1, 3), (1, 3), (1, 3), (1, 3), (1, 3), (1, 3), (1, 3), (1, 3), (11, 2), (1, 3), (3, 6), (11, 6), (13, 6), (13, 6), (1, 3), (1, 3), (1, 3), (1, 3), (1, 3), (1, 3), (1, 3), (1, 3), (1, 3), (1, 3), (1, 3), (1, 3), (11, 2), (1, 3), (3, 6), (11, 6), (13, 6), (13, 6), (1, 3), (1, 3), (1, 3), (1, 3)]
def LAY2 : List (Nat × Nat) := [(1, 3), (1, 3), (1, 3), (1, 3), (1, 3), (1, 3), (1, 3), (1, 3), (11, 2), (1, 3), (3, 6), (11, 6), (13, 6), (13, 6), (1, 3), (1, 3), (1, 3), (1, 3), (1, 3), (1, 3), (1, 3), (1, 3), (1, 3), (1, 3), (1, 3), (1, 3), (11, 2), (1, 3), (3, 6), (11, 6), (13, 6), (13, 6), (1, 3), (1, 3), (1, 3), (1, 3), (1, 3), (1, 3), (1, 3), (1, 3), (1, 3), (1, 3), (1, 3), (1, 3), (11, 2), (1, 3), (3, 6), (11, 6), (13, 6), (13, 6), (1, 3), (1, 3), (1, 3), (1, 3), (1, 3), (1, 3), (1, 3), (1, 3), (1, 3), (1, 3)]
def LAY3 : List (Nat × Nat) := [(1, 3), (1, 3), (11, 2), (1, 3), (3, 6), (11, 6), (13, 6), (13, 6), (1, 3), (1, 3), (1, 3), (1, 3), (1, 3), (1, 3), (1, 3), (1, 3), (1, 3), (1, 3), (1, 3), (1, 3), (11, 2), (1, 3), (3, 6), (11, 6), (13, 6), (13, 6), (1, 3), (1, 3), (1, 3), (1, 3), (1, 3), (1, 3), (1, 3), (1, 3), (1, 3), (1, 3), (1, 3), (1, 3), (11, 2), (1, 3), (3, 6), (11, 6), (13, 6), (13, 6), (1, 3), (1, 3), (1, 3), (1, 3), (1, 3), (1, 3), (1, 3), (1, 3), (1, 3), (1, 3), (1, 3), (1, 3), (11, 2), (1, 3), (3, 6), (11, 6)]
def LAY4 : List (Nat × Nat) := [(13, 6), (13, 6), (1, 3), (1, 3), (1, 3), (1, 3), (1, 3), (1, 3), (1, 3), (1, 3), (1, 3), (1, 3), (1, 3), (1, 3), (11, 2), (1, 3), (3, 6), (11, 6), (13, 6), (13, 6), (1, 3), (1, 3), (1, 3), (1, 3), (1, 3), (1, 3), (1, 3), (1, 3), (1, 3), (1, 3), (1, 3), (1, 3), (11, 2), (1, 3), (3, 6), (11, 6), (13, 6), (13, 6), (1, 3), (1, 3), (1, 3), (1, 3), (1, 3), (1, 3), (1, 3), (1, 3), (1, 3), (1, 3), (1, 3), (1, 3), (11, 2), (1, 3), (3, 6), (11, 6), (13, 6), (13, 6), (1, 3), (1, 3), (1, 3), (1, 3)]
def LAY5 : List (Nat × Nat) := [(1, 3), (1, 3), (1, 3), (1, 3), (1, 3), (1, 3), (1, 3), (1, 3), (11, 2), (1, 3), (3, 6), (11, 6), (13, 6), (13, 6), (1, 3), (1, 3), (1, 3), (1, 3), (1, 3), (1, 3), (1, 3), (1, 3), (1, 3), (1, 3), (1, 3), (1, 3), (11, 2), (1, 3), (3, 6), (11, 6), (13, 6), (13, 6), (1, 3), (1, 3), (1, 3), (1, 3), (1, 3), (1, 3), (1, 3), (1, 3), (1, 3), (1, 3), (1, 3), (1, 3), (11, 2), (1, 3), (3, 6), (11, 6), (13, 6), (13, 6), (1, 3), (1, 3), (1, 3), (1, 3), (1, 3), (1, 3), (1, 3), (1, 3), (1, 3), (1, 3)]
def LAY6 : List (Nat × Nat) := [(1, 3), (1, 3), (11, 2), (1, 3), (3, 6), (11, 6), (13, 6), (13, 6), (1, 3), (1, 3), (1, 3), (1, 3), (1, 3), (1, 3), (1, 3), (1, 3), (1, 3), (1, 3), (1, 3), (1, 3), (11, 2), (1, 3), (3, 6), (11, 6), (13, 6), (13, 6), (1, 3), (1, 3), (1, 3), (1, 3), (1, 3), (1, 3), (1, 3), (1, 3), (1, 3), (1, 3), (1, 3), (1, 3), (11, 2), (1, 3), (3, 6), (11, 6), (13, 6), (13, 6), (1, 3), (1, 3), (1, 3), (1, 3), (1, 3), (1, 3), (1, 3), (1, 3), (1, 3), (1, 3), (1, 3), (1, 3), (11, 2), (1, 3), (3, 6), (11, 6)]
def LAY7 : List (Nat × Nat) := [(13, 6), (13, 6), (1, 3), (1, 3), (1, 3), (1, 3), (1, 3), (1, 3), (1, 3), (1, 3), (1, 3), (1, 3), (1, 3), (1, 3), (11, 2), (1, 3), (11, 20), (5, 12), (1, 3), (1, 3), (1, 3), (1, 3), (1, 3), (1, 3), (1, 3), (1, 3), (1, 3), (1, 3), (1, 3), (1, 3), (3, 6), (11, 6), (13, 6), (13, 6), (1, 3), (1, 3), (1, 3), (1, 3), (1, 3), (1, 3), (1, 3), (1, 3), (1, 3), (1, 3), (1, 3), (1, 3), (11, 2), (7, 9), (10, 100), (11, 12), (11, 12), (11, 12), (11, 12), (15, 6), (6, 3), (12, 60), (6, 3), (12, 60), (6, 3), (12, 60)]
def LAY8 : List (Nat × Nat) := [(6, 3), (12, 60), (6, 3), (12, 60), (6, 3), (12, 60), (1, 3), (1, 3), (1, 3), (9, 62), (11, 6), (12, 6), (12, 6), (12, 6), (12, 6), (11, 5), (11, 5), (11, 8), (11, 8), (11, 8), (11, 8), (11, 6), (12, 6), (12, 6), (12, 6), (12, 6), (12, 6), (12, 6), (11, 20), (12, 20), (12, 20), (12, 240), (12, 240), (11, 100), (11, 12), (11, 12), (11, 12), (11, 12), (11, 6), (11, 6), (12, 360), (12, 60), (12, 80)]
def LAYL : List (Nat × Nat) := LAY0 ++ (LAY1 ++ (LAY2 ++ (LAY3 ++ (LAY4 ++ (LAY5 ++ (LAY6 ++ (LAY7 ++ (LAY8))))))))
def LAY (j : Nat) : Nat × Nat := LAYL.getD j (98, 0)
/-- the words that a call keeps -/
def OM : List Cond := lw_tbl.filter goodWord
theorem om_in {w : Cond} (i : Nat) (h : lw_tbl[i]? = some w) (hg : goodWord w = true) : w ∈ OM := List.mem_filter.mpr ⟨List.mem_of_getElem? h, hg⟩
theorem om_good {w : Cond} (h : w ∈ OM) : (w.onTables && w.keeps) = true ∨ ∃ ty, w = .arrayClass ty := good_of_word (List.mem_filter.mp h).2
theorem om_tbl {w : Cond} (h : w ∈ OM) : w ∈ lw_tbl := (List.mem_filter.mp h).1
theorem omX0 : ∀ w ∈ wsX00, w ∈ OM := by decide +kernel
theorem omX1 : ∀ w ∈ wsX10, w ∈ OM := by decide +kernel
theorem omX2 : ∀ w ∈ wsX20, w ∈ OM := by decide +kernel
theorem omX3 : ∀ w ∈ wsX30, w ∈ OM := by decide +kernel
theorem omX4 : ∀ w ∈ wsX40, w ∈ OM := by decide +kernel
theorem omX5 : ∀ w ∈ wsX50, w ∈ OM := by decide +kernel
theorem omX6 : ∀ w ∈ wsX60, w ∈ OM := by decide +kernel
theorem omX7 : ∀ w ∈ wsX70, w ∈ OM := by decide +kernel
theorem omX8 : ∀ w ∈ wsX80, w ∈ OM := by decide +kernel
theorem omX9 : ∀ w ∈ wsX90, w ∈ OM := by decide +kernel
end
section
def fk : Nat → List Nat := fun c => match c with
  | 0 => [2, 2, 2, 0, 0, 0, 2]
  | 1 => [1, 1, 3]
  | 2 => [2, 2, 0]
  | 3 => [0, 2, 2, 2, 0, 2]
  | 4 => [2, 2, 2, 2]
  | 5 => [2, 2, 2, 2, 2, 2, 2, 2, 2, 2, 2, 2]
  | 6 => [0, 0, 2]
  | 7 => [2, 0, 2, 2, 2, 2, 0, 0, 0]
  | 8 => [2, 2, 3, 2, 2, 2, 2, 2, 2, 2]
  | 9 => [0, 0, 0, 0, 2, 2, 2, 2, 2, 0, 0, 0, 2, 2, 2, 2, 2, 2, 1, 1, 3, 2, 2, 2, 2, 2, 2, 2, 1, 1, 0, 0, 0, 0, 1, 1, 1, 1, 1, 1, 1, 1, 0, 0, 2, 2, 2, 2, 2, 2, 0, 0, 2, 2, 2, 2, 2, 2, 2, 2, 2, 3]
  | _ => []
def ff : Nat → List Bool := fun c => match c with
  | 0 => [true, true, true, false, false, false, true]
  | 1 => [false, false, false]
  | 2 => [true, true, false]
  | 3 => [false, true, true, true, false, true]
  | 4 => [true, true, true, true]
  | 5 => [true, true, true, true, true, true, true, true, true, true, true, true]
  | 6 => [false, false, true]
  | 7 => [true, false, true, true, true, true, false, false, false]
  | 8 => [true, true, false, true, true, true, true, true, true, true]
  | 9 => [false, false, false, false, true, true, true, true, true, false, false, false, true, true, true, true, true, true, false, false, false, true, true, true, true, true, true, true, false, false, false, false, false, false, false, false, false, false, false, false, false, false, false, false, true, true, true, true, true, true, false, false, true, true, true, true, true, true, true, true, true, false]
  | _ => []
/-! THE ENGINE: an abstract walk of a method's body, over cells laid out as LAY says, with numbers from 0 for addresses -/
abbrev LGt : Type := Nat → Nat → Int64
abbrev ITt : Type := Nat → Nat → Int32
abbrev RFt : Type := Nat → Nat → Option Nat
abbrev Post : Type := Option Value → LGt → ITt → RFt → Prop
abbrev Spc : Type := List Value → Nat → LGt → ITt → RFt → Post → Prop
abbrev PT : Type := Nat → List Value → List Value → Nat → LGt → ITt → RFt → Prop
/-- fields, classes, long constants by their pool numbers; methods: pool number, kind (0 virtual, 1 static, 2 special), how many values, the receiver's class, how many cells it makes, what it does; the constructor's class; the answer's type -/
abbrev Ent : Type := Nat × Nat × Nat × Nat × Spc
abbrev Tab : Type := List (Nat × Nat × Nat) × List (Nat × Nat) × List (Nat × Int64) × List (Nat × Ent) × Nat × Option FieldType
def xlk {α : Type} (i : Nat) : List (Nat × α) → Option α
  | [] => none
  | q :: t => bif Nat.beq i q.1 then some q.2 else xlk i t
theorem xlk_mem {α : Type} {i : Nat} {v : α} : ∀ {L : List (Nat × α)}, xlk i L = some v → (i, v) ∈ L
  | [], h => by cases h
  | q :: t, h => by
    unfold xlk at h
    cases hb : Nat.beq i q.1 with
    | true =>
      rw [hb] at h
      have e := Nat.eq_of_beq_eq_true hb
      have h2 : q.2 = v := Option.some.inj h
      subst h2; subst e
      exact List.mem_cons_self
    | false =>
      rw [hb] at h
      exact List.mem_cons_of_mem _ (xlk_mem h)
def uu : Value := .retAddr 0
def isU : Value → Bool := fun v => match v with | .retAddr n => Nat.beq n 0 | _ => false
def u2 {α : Type} (f : Nat → Nat → α) (j k : Nat) (v : α) : Nat → Nat → α := fun a b => if a = j ∧ b = k then v else f a b
def zr {α : Type} (z : α) (f : Nat → Nat → α) (j : Nat) : Nat → Nat → α := fun a b => if a = j then z else f a b
def rfv (o : Option Nat) : Value := match o with | some j => .ref j | none => .null
def fva (lg : LGt) (it : ITt) (rf : RFt) (j k t : Nat) : Value := match t with | 1 => .long (lg j k) | 2 => rfv (rf j k) | _ => .int (it j k)
def Ob (N j c : Nat) : Prop := j < N ∧ (LAY j).1 = c
def p_i (st : List Value) (K : Int32 → List Value → Prop) : Prop := match st with | .int x :: r => K x r | _ => False
def p_l (st : List Value) (K : Int64 → List Value → Prop) : Prop := match st with | .long x :: r => K x r | _ => False
def p_r (st : List Value) (K : Nat → List Value → Prop) : Prop := match st with | .ref x :: r => K x r | _ => False
def p_d (st : List Value) (K : Value → List Value → Prop) : Prop := match st with | .ref x :: r => K (.ref x) r | .int x :: r => K (.int x) r | _ => False
def ret_i (o : Option FieldType) (x : Int32) (A : Prop) : Prop := match o with | some .int => A | some .boolean => x &&& 1 = x ∧ A | _ => False
def ret_l (o : Option FieldType) (A : Prop) : Prop := match o with | some .long => A | _ => False
def ret_a (o : Option FieldType) (A : Prop) : Prop := match o with | some (.object _) => A | _ => False
def ret_v (o : Option FieldType) (A : Prop) : Prop := match o with | none => A | _ => False
def g_i (ls : List Value) (k : Nat) (K : Int32 → Prop) : Prop := match ls[k]? with | some (.int x) => K x | _ => False
def g_l (ls : List Value) (k : Nat) (K : Int64 → Prop) : Prop := match ls[k]? with | some (.long x) => K x | _ => False
def g_r (ls : List Value) (k : Nat) (K : Value → Prop) : Prop := match ls[k]? with | some (.ref x) => K (.ref x) | some (.retAddr 1) => K (.retAddr 1) | _ => False
def stc (ls : List Value) (i : Nat) : List Value := match i with
  | 0 => ls
  | k + 1 => match ls[k]? with
    | some w => bif Nat.beq w.category 2 then ls.set k uu else ls
    | none => ls
def st1 (ls : List Value) (i : Nat) (v : Value) : List Value := (stc ls i).set i v
def st2 (ls : List Value) (i : Nat) (v : Value) : List Value := ((stc ls i).set i v).set (i + 1) uu
def p_s1 (ls : List Value) (k : Nat) (v : Value) (K : List Value → Prop) : Prop := match ls[k]? with | some _ => K (st1 ls k v) | none => False
def p_s2 (ls : List Value) (k : Nat) (v : Value) (K : List Value → Prop) : Prop := match ls[k + 1]? with | some _ => K (st2 ls k v) | none => False
def pa : Nat → List Value → List Value → (List Value → List Value → Prop) → Prop
  | 0, st, acc, K => K acc st
  | _ + 1, [], _, _ => False
  | n + 1, v :: st, acc, K => pa n st (v :: acc) K
def tg (pc : Nat) (off : Int) (K : Nat → Prop) : Prop := match (pc : Int) + off with | .ofNat t => K t | .negSucc _ => False
def br (c : Jvm.ClassFile.Cond) (x y : Int32) (A B : Prop) : Prop := match c with
  | .eq => (x = y → A) ∧ (¬ x = y → B)
  | .ne => (¬ x = y → A) ∧ (x = y → B)
  | .lt => (x < y → A) ∧ (¬ x < y → B)
  | .ge => (y ≤ x → A) ∧ (¬ y ≤ x → B)
  | .gt => (y < x → A) ∧ (¬ y < x → B)
  | .le => (x ≤ y → A) ∧ (¬ x ≤ y → B)
def swt (pc : Nat) (x : Int32) (K : Nat → Prop) : Int → List Int → Prop
  | _, [] => True
  | lo, o :: t => (x.toInt = lo → tg pc o K) ∧ swt pc x K (lo + 1) t
def swl (pc : Nat) (x : Int32) (K : Nat → Prop) : List (Int × Int) → Prop
  | [] => True
  | q :: t => (x.toInt = q.1 → tg pc q.2 K) ∧ (¬ x.toInt = q.1 → swl pc x K t)
def wr (t : Nat) (v : Value) (j k : Nat) (lg : LGt) (it : ITt) (rf : RFt) (K : LGt → ITt → RFt → Prop) : Prop := match t with
  | 0 => match v with | .int x => K lg (u2 it j k x) rf | _ => False
  | 1 => match v with | .long x => K (u2 lg j k x) it rf | _ => False
  | 2 => match v with | .ref q => K lg it (u2 rf j k (some q)) | _ => False
  | 3 => match v with | .int x => x &&& 1 = x ∧ K lg (u2 it j k x) rf | _ => False
  | _ => False
def akd (t : ArrayType) : Nat := match t with | .byte => 10 | .int => 11 | .long => 12 | _ => 99
def aty (t : ArrayType) : FieldType := match t with | .byte => .byte | .int => .int | _ => .long
def ako (c : Nat) : Nat := match c with | 1 => 13 | 3 => 14 | 6 => 15 | _ => 97
def isB (v : Bool) (A : Prop) : Prop := match v with | true => A | false => False
def ctgs (l : List Value) : Nat := (l.map fun v => v.category).sum
def o_o {α : Type} (o : Option α) (K : α → Prop) : Prop := match o with | some a => K a | none => False
def lec (mc : Nat) (A B : Prop) : Prop := match mc with | 0 => B | _ => A ∧ B
def inv (T : Tab) (Ne : Nat) (P : PT) (kd idx pc : Nat) (ls st : List Value) (N : Nat) (lg : LGt) (it : ITt) (rf : RFt) : Prop :=
  o_o (xlk idx T.2.2.2.1) fun q => isB (Nat.beq q.1 kd) (pa q.2.1 st [] fun as rest => isB (Nat.ble (ctgs rest) 8)
    ((match kd with | 0 => o_o as.head? (fun v => match v with | .ref j => Ob N j q.2.2.1 | _ => False) | _ => True) ∧
    lec q.2.2.2.1 (N + q.2.2.2.1 ≤ Ne) (q.2.2.2.2 as N lg it rf fun r lg' it' rf' => P (pc + 3) ls (r.toList ++ rest) (N + q.2.2.2.1) lg' it' rf')))
/-- one instruction: what must hold ahead of it for P to hold behind it -/
def stp (T : Tab) (Ne : Nat) (Q : Post) (P : PT) (i : Instr) (pc : Nat) (ls st : List Value) (N : Nat) (lg : LGt) (it : ITt) (rf : RFt) : Prop :=
  match i with
  | .iconst c => P (pc + 1) ls (.int (Int32.ofInt c) :: st) N lg it rf
  | .bipush c => P (pc + 2) ls (.int (Int8.ofInt c).toInt32 :: st) N lg it rf
  | .sipush c => P (pc + 3) ls (.int (Int16.ofInt c).toInt32 :: st) N lg it rf
  | .lconst c => P (pc + 1) ls (.long (Int64.ofNat c) :: st) N lg it rf
  | .ldc2_w idx => o_o (xlk idx T.2.2.1) fun v => P (pc + 3) ls (.long v :: st) N lg it rf
  | .iload_n k => g_i ls k fun x => P (pc + 1) ls (.int x :: st) N lg it rf
  | .iload k => g_i ls k fun x => P (pc + 2) ls (.int x :: st) N lg it rf
  | .lload_n k => g_l ls k fun x => P (pc + 1) ls (.long x :: st) N lg it rf
  | .lload k => g_l ls k fun x => P (pc + 2) ls (.long x :: st) N lg it rf
  | .aload_n k => g_r ls k fun x => P (pc + 1) ls (x :: st) N lg it rf
  | .aload k => g_r ls k fun x => P (pc + 2) ls (x :: st) N lg it rf
  | .istore_n k => p_i st fun x r => p_s1 ls k (.int x) fun ls' => P (pc + 1) ls' r N lg it rf
  | .istore k => p_i st fun x r => p_s1 ls k (.int x) fun ls' => P (pc + 2) ls' r N lg it rf
  | .lstore_n k => p_l st fun x r => p_s2 ls k (.long x) fun ls' => P (pc + 1) ls' r N lg it rf
  | .lstore k => p_l st fun x r => p_s2 ls k (.long x) fun ls' => P (pc + 2) ls' r N lg it rf
  | .astore_n k => p_r st fun x r => p_s1 ls k (.ref x) fun ls' => P (pc + 1) ls' r N lg it rf
  | .astore k => p_r st fun x r => p_s1 ls k (.ref x) fun ls' => P (pc + 2) ls' r N lg it rf
  | .iinc k c => g_i ls k fun x => p_s1 ls k (.int (x + Int32.ofInt c)) fun ls' => P (pc + 3) ls' st N lg it rf
  | .iadd => p_i st fun y r => p_i r fun x r => P (pc + 1) ls (.int (x + y) :: r) N lg it rf
  | .isub => p_i st fun y r => p_i r fun x r => P (pc + 1) ls (.int (x - y) :: r) N lg it rf
  | .imul => p_i st fun y r => p_i r fun x r => P (pc + 1) ls (.int (x * y) :: r) N lg it rf
  | .iand => p_i st fun y r => p_i r fun x r => P (pc + 1) ls (.int (x &&& y) :: r) N lg it rf
  | .ior => p_i st fun y r => p_i r fun x r => P (pc + 1) ls (.int (x ||| y) :: r) N lg it rf
  | .ineg => p_i st fun x r => P (pc + 1) ls (.int (-x) :: r) N lg it rf
  | .ladd => p_l st fun y r => p_l r fun x r => P (pc + 1) ls (.long (x + y) :: r) N lg it rf
  | .lsub => p_l st fun y r => p_l r fun x r => P (pc + 1) ls (.long (x - y) :: r) N lg it rf
  | .lmul => p_l st fun y r => p_l r fun x r => P (pc + 1) ls (.long (x * y) :: r) N lg it rf
  | .land => p_l st fun y r => p_l r fun x r => P (pc + 1) ls (.long (x &&& y) :: r) N lg it rf
  | .lor => p_l st fun y r => p_l r fun x r => P (pc + 1) ls (.long (x ||| y) :: r) N lg it rf
  | .lxor => p_l st fun y r => p_l r fun x r => P (pc + 1) ls (.long (x ^^^ y) :: r) N lg it rf
  | .ldiv => p_l st fun y r => p_l r fun x r => ¬ y = 0 ∧ P (pc + 1) ls (.long (x / y) :: r) N lg it rf
  | .lrem => p_l st fun y r => p_l r fun x r => ¬ y = 0 ∧ P (pc + 1) ls (.long (x - x / y * y) :: r) N lg it rf
  | .lneg => p_l st fun x r => P (pc + 1) ls (.long (-x) :: r) N lg it rf
  | .lshl => p_i st fun y r => p_l r fun x r => P (pc + 1) ls (.long (x <<< (y.toInt64 &&& 63)) :: r) N lg it rf
  | .i2l => p_i st fun x r => P (pc + 1) ls (.long x.toInt64 :: r) N lg it rf
  | .l2i => p_l st fun x r => P (pc + 1) ls (.int x.toInt32 :: r) N lg it rf
  | .i2b => p_i st fun x r => P (pc + 1) ls (.int x.toInt8.toInt32 :: r) N lg it rf
  | .i2s => p_i st fun x r => P (pc + 1) ls (.int x.toInt16.toInt32 :: r) N lg it rf
  | .lcmp => p_l st fun y r => p_l r fun x r => P (pc + 1) ls (.int (lg_cmp x y) :: r) N lg it rf
  | .dup => p_d st fun v r => P (pc + 1) ls (v :: v :: r) N lg it rf
  | .ifCond c off => p_i st fun x r => tg pc off fun t => br c x 0 (P t ls r N lg it rf) (P (pc + 3) ls r N lg it rf)
  | .if_icmp c off => p_i st fun y r => p_i r fun x r => tg pc off fun t => br c x y (P t ls r N lg it rf) (P (pc + 3) ls r N lg it rf)
  | .goto off => tg pc off fun t => P t ls st N lg it rf
  | .tableswitch d lo hi offs => p_i st fun x r => ((x.toInt < lo ∨ hi < x.toInt) → tg pc d fun t => P t ls r N lg it rf) ∧ isB (decide ((offs.size : Int) = hi - lo + 1)) (swt pc x (fun t => P t ls r N lg it rf) lo offs.toList)
  | .lookupswitch d ps => p_i st fun x r => isB ((ps.toList.zip (ps.toList.drop 1)).all (fun (a, next) => a.1 < next.1)) (swl pc x (fun t => P t ls r N lg it rf) (ps.toList ++ [(x.toInt, d)]))
  | .getfield idx => o_o (xlk idx T.1) fun q => p_r st fun j r => Ob N j q.1 ∧ o_o (fk q.1)[q.2]? fun t => P (pc + 3) ls (fva lg it rf j q.2 t :: r) N lg it rf
  | .putfield idx => o_o (xlk idx T.1) fun q => match st with
    | v :: r => p_r r fun j r => Ob N j q.1 ∧ o_o (ff q.1)[q.2]? fun fin => isB (bif fin then Nat.beq T.2.2.2.2.1 q.1 else true) (o_o (fk q.1)[q.2]? fun t => wr t v j q.2 lg it rf fun lg' it' rf' => P (pc + 3) ls r N lg' it' rf')
    | _ => False
  | .iaload => p_i st fun i r => p_r r fun j r => Ob N j 11 ∧ vp_in i (LAY j).2 ∧ P (pc + 1) ls (.int (it j i.toNatClampNeg) :: r) N lg it rf
  | .baload => p_i st fun i r => p_r r fun j r => Ob N j 10 ∧ vp_in i (LAY j).2 ∧ P (pc + 1) ls (.int (it j i.toNatClampNeg) :: r) N lg it rf
  | .laload => p_i st fun i r => p_r r fun j r => Ob N j 12 ∧ vp_in i (LAY j).2 ∧ P (pc + 1) ls (.long (lg j i.toNatClampNeg) :: r) N lg it rf
  | .aaload => p_i st fun i r => p_r r fun j r => (j < N ∧ 13 ≤ (LAY j).1 ∧ (LAY j).1 ≤ 15) ∧ vp_in i (LAY j).2 ∧ P (pc + 1) ls (rfv (rf j i.toNatClampNeg) :: r) N lg it rf
  | .iastore => p_i st fun x r => p_i r fun i r => p_r r fun j r => Ob N j 11 ∧ vp_in i (LAY j).2 ∧ P (pc + 1) ls r N lg (u2 it j i.toNatClampNeg x) rf
  | .bastore => p_i st fun x r => p_i r fun i r => p_r r fun j r => Ob N j 10 ∧ vp_in i (LAY j).2 ∧ P (pc + 1) ls r N lg (u2 it j i.toNatClampNeg x.toInt8.toInt32) rf
  | .lastore => p_l st fun x r => p_i r fun i r => p_r r fun j r => Ob N j 12 ∧ vp_in i (LAY j).2 ∧ P (pc + 1) ls r N (u2 lg j i.toNatClampNeg x) it rf
  | .aastore => p_r st fun x r => p_i r fun i r => p_r r fun j r => (j < N ∧ x < N ∧ ako (LAY x).1 = (LAY j).1 ∧ 13 ≤ (LAY j).1 ∧ (LAY j).1 ≤ 15) ∧ vp_in i (LAY j).2 ∧ P (pc + 1) ls r N lg it (u2 rf j i.toNatClampNeg (some x))
  | .arraylength => p_r st fun j r => (j < N ∧ 10 ≤ (LAY j).1 ∧ (LAY j).1 ≤ 15) ∧ P (pc + 1) ls (.int (Int32.ofNat (LAY j).2) :: r) N lg it rf
  | .new idx => o_o (xlk idx T.2.1) fun ci => (N < Ne ∧ LAY N = (ci, (fk ci).length)) ∧ P (pc + 3) ls (.ref N :: st) (N + 1) (zr 0 lg N) (zr 0 it N) (zr none rf N)
  | .newarray t => p_i st fun x r => (N < Ne ∧ ¬ x < 0 ∧ LAY N = (akd t, x.toNatClampNeg)) ∧ P (pc + 2) ls (.ref N :: r) (N + 1) (zr 0 lg N) (zr 0 it N) (zr none rf N)
  | .anewarray idx => o_o (xlk idx T.2.1) fun ci => p_i st fun x r => (N < Ne ∧ ¬ x < 0 ∧ LAY N = (ako ci, x.toNatClampNeg)) ∧ P (pc + 3) ls (.ref N :: r) (N + 1) (zr 0 lg N) (zr 0 it N) (zr none rf N)
  | .invokevirtual idx => inv T Ne P 0 idx pc ls st N lg it rf
  | .invokestatic idx => inv T Ne P 1 idx pc ls st N lg it rf
  | .invokespecial idx => inv T Ne P 2 idx pc ls st N lg it rf
  | .ireturn => p_i st fun x r => r = [] ∧ N = Ne ∧ ret_i T.2.2.2.2.2 x (Q (some (.int x)) lg it rf)
  | .lreturn => p_l st fun x r => r = [] ∧ N = Ne ∧ ret_l T.2.2.2.2.2 (Q (some (.long x)) lg it rf)
  | .areturn => p_r st fun x r => r = [] ∧ N = Ne ∧ ret_a T.2.2.2.2.2 (Q (some (.ref x)) lg it rf)
  | .return_ => st = [] ∧ N = Ne ∧ ret_v T.2.2.2.2.2 (Q none lg it rf)
  | _ => False
def iln (i : Instr) : Nat := match i with
  | .bipush _ | .iload _ | .lload _ | .aload _ | .istore _ | .lstore _ | .astore _ | .newarray _ => 2
  | .sipush _ | .ldc2_w _ | .iinc _ _ | .ifCond _ _ | .if_icmp _ _ | .goto _ | .getfield _ | .putfield _ | .new _ | .anewarray _ | .invokevirtual _ | .invokestatic _ | .invokespecial _ => 3
  | _ => 1
abbrev Rl (T : Tab) (cc : ByteArray) (Ne : Nat) (Q : Post) (P : PT) : Prop :=
  ∀ {pc : Nat} {i : Instr} {ls st : List Value} {N : Nat} {lg : LGt} {it : ITt} {rf : RFt}, decode cc pc = .ok (i, iln i) → stp T Ne Q P i pc ls st N lg it rf → P pc ls st N lg it rf
abbrev RlS (T : Tab) (cc : ByteArray) (Ne : Nat) (Q : Post) (P : PT) : Prop :=
  ∀ {pc n : Nat} {i : Instr} {ls st : List Value} {N : Nat} {lg : LGt} {it : ITt} {rf : RFt}, decode cc pc = .ok (i, n) → isB (match i with | .tableswitch .. => true | .lookupswitch .. => true | _ => false) (stp T Ne Q P i pc ls st N lg it rf) → P pc ls st N lg it rf
def lflat : List Value → List Value
  | [] => []
  | v :: t => bif Nat.beq v.category 2 then v :: uu :: lflat t else v :: lflat t
def lini (as : List Value) (nL : Nat) : List Value := lflat as ++ List.replicate (nL - (lflat as).length) uu
/-- what a method's body is shown to do -/
def Bd (T : Tab) (cc : ByteArray) (nL mc : Nat) (as : List Value) (N : Nat) (lg : LGt) (it : ITt) (rf : RFt) (Q : Post) : Prop :=
  (lflat as).length ≤ nL ∧ ∀ P : PT, Rl T cc (N + mc) Q P → RlS T cc (N + mc) Q P → P 0 (lini as nL) [] N lg it rf
end
section
/-! THE ENGINE IS SOUND: the abstract walk is a walk of the machine -/
/-- the classes' and the array classes' numbers; where the cells begin; the script's cell, length, ints -/
abbrev Ev : Type := (Nat → ClassId) × (Nat → Nat → Nat) × (Nat → ClassId) × Nat × Nat
abbrev e_D (E : Ev) : va_G := (E.1, E.2.1)
abbrev e_cy (E : Ev) : Nat → ClassId := E.2.2.1
abbrev e_b (E : Ev) : Nat := E.2.2.2.1
abbrev e_sc (E : Ev) : Nat := E.2.2.2.2
def e_A (E : Ev) : Nat → Prop := fun q => e_b E ≤ q
def tyl (E : Ev) : List (ClassId × FieldType) := [(e_cy E 0, .byte), (e_cy E 1, .int), (e_cy E 2, .long), (e_cy E 3, .object RX1), (e_cy E 4, .object RX3), (e_cy E 5, .object RX6)]
def cv (E : Ev) (v : Value) : Value := match v with | .ref j => .ref (e_b E + j) | .retAddr n => bif Nat.beq n 1 then .ref (e_sc E) else .retAddr n | v => v
theorem cv_rfv (E : Ev) (o : Option Nat) : cv E (rfv o) = va_rf (o.map fun q => e_b E + q) := by cases o <;> rfl
theorem cv_cat (E : Ev) (v : Value) : (cv E v).category = v.category := by
  cases v <;> try rfl
  rename_i n
  show (bif Nat.beq n 1 then Value.ref (e_sc E) else .retAddr n).category = _
  cases Nat.beq n 1 <;> rfl
def clr (ci : Nat) : vw_C := vwCl.getD ci (RX1, TX1, 3)
def clty : Nat → Nat → FieldType := fun c => match c with
  | 0 => tyX0 | 1 => tyX1 | 2 => tyX2 | 3 => tyX3 | 4 => tyX4 | 5 => tyX5 | 6 => tyX6 | 7 => tyX7 | 8 => tyX8 | _ => tyX9
theorem lt10 {P : Nat → Prop} (h0 : P 0) (h1 : P 1) (h2 : P 2) (h3 : P 3) (h4 : P 4) (h5 : P 5) (h6 : P 6) (h7 : P 7) (h8 : P 8) (h9 : P 9) {c : Nat} (h : c < 10) : P c := by
  match c, h with
  | 0, _ => exact h0
  | 1, _ => exact h1
  | 2, _ => exact h2
  | 3, _ => exact h3
  | 4, _ => exact h4
  | 5, _ => exact h5
  | 6, _ => exact h6
  | 7, _ => exact h7
  | 8, _ => exact h8
  | 9, _ => exact h9
theorem cl_get {c : Nat} (h : c < 10) : vwCl[c]? = some (clr c) := lt10 (P := fun c => vwCl[c]? = some (clr c)) rfl rfl rfl rfl rfl rfl rfl rfl rfl rfl h
theorem cl_om {c : Nat} (h : c < 10) : ∀ w ∈ u_ws (clr c).1 (clr c).2.1 (clr c).2.2, w ∈ OM := lt10 (P := fun c => ∀ w ∈ u_ws (clr c).1 (clr c).2.1 (clr c).2.2, w ∈ OM) omX0 omX1 omX2 omX3 omX4 omX5 omX6 omX7 omX8 omX9 h
theorem cl_ty {c : Nat} (h : c < 10) : ∀ k, k < (clr c).2.2 → parseFieldDescriptor ((clr c).2.1 k).2.2.1 = some (clty c k) := lt10 (P := fun c => ∀ k, k < (clr c).2.2 → parseFieldDescriptor ((clr c).2.1 k).2.2.1 = some (clty c k)) tyX0_ok tyX1_ok tyX2_ok tyX3_ok tyX4_ok tyX5_ok tyX6_ok tyX7_ok tyX8_ok tyX9_ok h
theorem cl_nm {c : Nat} (h : c < 10) : ∀ a, a < (clr c).2.2 → ∀ b, b < (clr c).2.2 → a ≠ b → ((clr c).2.1 a).2.1 ≠ ((clr c).2.1 b).2.1 := lt10 (P := fun c => ∀ a, a < (clr c).2.2 → ∀ b, b < (clr c).2.2 → a ≠ b → ((clr c).2.1 a).2.1 ≠ ((clr c).2.1 b).2.1) nmX0 nmX1 nmX2 nmX3 nmX4 nmX5 nmX6 nmX7 nmX8 nmX9 h
def kdo (t : FieldType) : Nat := match t with | .int => 0 | .long => 1 | .boolean => 3 | .object _ => 2 | .array _ => 2 | _ => 9
theorem cl_fk : ∀ c, c < 10 → (fk c).length = (clr c).2.2 ∧ (ff c).length = (clr c).2.2 ∧ (clr c).2.2 ≤ 62 ∧ ∀ k, k < (clr c).2.2 → (fk c)[k]? = some (kdo (clty c k)) ∧ (ff c)[k]? = some ((clr c).2.1 k).2.2.2 ∧ ((clr c).2.1 k).1 = (clr c).1 := by decide +kernel
theorem cl_k3 : ∀ c, c < 10 → ∀ k, k < (clr c).2.2 → kdo (clty c k) ≤ 3 := by decide +kernel
theorem lay_ne : ∀ j, (LAY j).1 ≠ 99 ∧ (LAY j).1 ≠ 97 := by
  have h : ∀ q ∈ LAYL, q.1 ≠ 99 ∧ q.1 ≠ 97 := by decide +kernel
  intro j
  unfold LAY
  rw [List.getD_eq_getElem?_getD]
  cases e : LAYL[j]? with
  | none => exact ⟨by decide, by decide⟩
  | some q => exact h q (List.mem_of_getElem? e)
theorem lay_le : ∀ j, (LAY j).2 ≤ 400 := by
  have h : ∀ q ∈ LAYL, q.2 ≤ 400 := by decide +kernel
  intro j
  unfold LAY
  rw [List.getD_eq_getElem?_getD]
  cases e : LAYL[j]? with
  | none => exact Nat.zero_le _
  | some q => exact h q (List.mem_of_getElem? e)
def fvs (lg : LGt) (it : ITt) (rf : RFt) (j : Nat) (ks : List Nat) : List Value := ks.mapIdx fun k t => fva lg it rf j k t
def cellK (E : Ev) (lg : LGt) (it : ITt) (rf : RFt) (c n j : Nat) : va_E := match c with
  | 10 => .inl (e_cy E 0, n, .inl (it j))
  | 11 => .inl (e_cy E 1, n, .inl (it j))
  | 12 => .inl (e_cy E 2, n, .inr (.inl (lg j)))
  | 13 => .inl (e_cy E 3, n, .inr (.inr (.inr (.inr fun i => (rf j i).map fun q => e_b E + q))))
  | 14 => .inl (e_cy E 4, n, .inr (.inr (.inr (.inr fun i => (rf j i).map fun q => e_b E + q))))
  | 15 => .inl (e_cy E 5, n, .inr (.inr (.inr (.inr fun i => (rf j i).map fun q => e_b E + q))))
  | c => .inr (c, (fvs lg it rf j (fk c)).map (cv E))
theorem cellK_o {E : Ev} {lg : LGt} {it : ITt} {rf : RFt} {c n j : Nat} (h : c < 10) : cellK E lg it rf c n j = .inr (c, (fvs lg it rf j (fk c)).map (cv E)) := lt10 (P := fun c => cellK E lg it rf c n j = .inr (c, (fvs lg it rf j (fk c)).map (cv E))) rfl rfl rfl rfl rfl rfl rfl rfl rfl rfl h
def cellv (E : Ev) (lg : LGt) (it : ITt) (rf : RFt) (j : Nat) : va_E := cellK E lg it rf (LAY j).1 (LAY j).2 j
theorem cellv_eq {E : Ev} {lg lg' : LGt} {it it' : ITt} {rf rf' : RFt} {j : Nat} (h1 : lg' j = lg j) (h2 : it' j = it j) (h3 : rf' j = rf j) : cellv E lg' it' rf' j = cellv E lg it rf j := by
  unfold cellv cellK fvs fva
  rw [h1, h2, h3]
def WL (E : Ev) (N : Nat) (lg : LGt) (it : ITt) (rf : RFt) : va_W := (List.range N).map fun j => (e_b E + j, cellv E lg it rf j)
theorem WL_get {E : Ev} {N : Nat} {lg : LGt} {it : ITt} {rf : RFt} {j : Nat} (h : j < N) : (WL E N lg it rf)[j]? = some (e_b E + j, cellv E lg it rf j) := by
  simp [WL, List.getElem?_range h]
theorem WL_len {E : Ev} {N : Nat} {lg : LGt} {it : ITt} {rf : RFt} : (WL E N lg it rf).length = N := by simp [WL]
theorem WL_inv {E : Ev} {N : Nat} {lg : LGt} {it : ITt} {rf : RFt} {k : Nat} {q : Nat × va_E} (h : (WL E N lg it rf)[k]? = some q) : k < N ∧ q = (e_b E + k, cellv E lg it rf k) := by
  have hk : k < N := by have := (List.getElem?_eq_some_iff.mp h).1; rwa [WL_len] at this
  rw [WL_get hk] at h
  exact ⟨hk, (Option.some.inj h).symm⟩
theorem WL_D {E : Ev} {N : Nat} {lg : LGt} {it : ITt} {rf : RFt} : va_D (e_A E) (WL E N lg it rf) := by
  refine ⟨fun i j p q h1 h2 h => ?_, fun k q h => ?_⟩
  · obtain ⟨-, rfl⟩ := WL_inv h1
    obtain ⟨-, rfl⟩ := WL_inv h2
    exact Nat.add_left_cancel h
  · obtain ⟨-, rfl⟩ := WL_inv h
    exact Nat.le_add_right _ _
theorem WL_set {E : Ev} {N : Nat} {lg lg' : LGt} {it it' : ITt} {rf rf' : RFt} {j : Nat} {e : va_E} (hj : j < N) (he : e = cellv E lg' it' rf' j) (ho : ∀ i, i ≠ j → lg' i = lg i ∧ it' i = it i ∧ rf' i = rf i) :
    (WL E N lg it rf).set j (e_b E + j, e) = WL E N lg' it' rf' := by
  apply List.ext_getElem?
  intro i
  by_cases hi : i < N
  · rw [WL_get hi, List.getElem?_set]
    by_cases h : j = i
    · subst h
      rw [if_pos rfl, if_pos (by rw [WL_len]; exact hi), he]
    · obtain ⟨h1, h2, h3⟩ := ho i (fun q => h q.symm)
      rw [if_neg h, WL_get hi, cellv_eq h1 h2 h3]
  · rw [List.getElem?_eq_none (by rw [List.length_set, WL_len]; omega), List.getElem?_eq_none (by rw [WL_len]; omega)]
theorem u2_row {α : Type} {f : Nat → Nat → α} {j k i : Nat} {v : α} (h : i ≠ j) : u2 f j k v i = f i := by
  funext b
  simp [u2, h]
theorem zr_row {α : Type} {z : α} {f : Nat → Nat → α} {j i : Nat} (h : i ≠ j) : zr z f j i = f i := by
  funext b
  simp [zr, h]
theorem zr_self {α : Type} {z : α} {f : Nat → Nat → α} {j : Nat} : zr z f j j = fun _ => z := by
  funext b
  simp [zr]
theorem WL_P1 {E : Ev} {N : Nat} {lg lg' : LGt} {it it' : ITt} {rf rf' : RFt} {H H1 : Heap} (hP : va_P (e_D E) vwCl (WL E N lg it rf) H) (hk : ∀ q, q < e_b E + N → H1[q]? = H[q]?) (ho : ∀ i, i ≠ N → lg' i = lg i ∧ it' i = it i ∧ rf' i = rf i)
    (hn : va_at (e_D E) vwCl (e_b E + N, cellv E lg' it' rf' N) H1) : va_P (e_D E) vwCl (WL E (N + 1) lg' it' rf') H1 := by
  intro k q hq
  obtain ⟨h1, rfl⟩ := WL_inv hq
  by_cases h : k = N
  · subst h
    exact hn
  · have hk2 : k < N := by omega
    obtain ⟨e1, e2, e3⟩ := ho k h
    rw [cellv_eq e1 e2 e3]
    exact (hP k _ (WL_get hk2)).kept (hk _ (by show e_b E + k < _; omega))
def lva (E : Ev) : Nat → List Value → List (Nat × Value)
  | _, [] => []
  | i, v :: t => bif isU v then lva E (i + 1) t else (i, cv E v) :: lva E (i + 1) t
theorem lva_mem {E : Ev} : ∀ {ls : List Value} {i k : Nat} {w : Value}, (k, w) ∈ lva E i ls ↔ ∃ d v, k = i + d ∧ ls[d]? = some v ∧ isU v = false ∧ w = cv E v
  | [], i, k, w => by simp [lva]
  | v :: t, i, k, w => by
    unfold lva
    have ih := lva_mem (E := E) (ls := t) (i := i + 1) (k := k) (w := w)
    cases hu : isU v with
    | true =>
      simp only [cond_true]
      rw [ih]
      constructor
      · rintro ⟨d, v', e, h1, h2, h3⟩
        exact ⟨d + 1, v', by omega, by simpa using h1, h2, h3⟩
      · rintro ⟨d, v', e, h1, h2, h3⟩
        cases d with
        | zero => simp only [List.getElem?_cons_zero, Option.some.injEq] at h1; subst h1; rw [hu] at h2; cases h2
        | succ d => exact ⟨d, v', by omega, by simpa using h1, h2, h3⟩
    | false =>
      simp only [cond_false, List.mem_cons, Prod.mk.injEq]
      rw [ih]
      constructor
      · rintro (⟨e1, e2⟩ | ⟨d, v', e, h1, h2, h3⟩)
        · exact ⟨0, v, by omega, rfl, hu, e2⟩
        · exact ⟨d + 1, v', by omega, by simpa using h1, h2, h3⟩
      · rintro ⟨d, v', e, h1, h2, h3⟩
        cases d with
        | zero => simp only [List.getElem?_cons_zero, Option.some.injEq] at h1; subst h1; exact Or.inl ⟨by omega, h3⟩
        | succ d => exact Or.inr ⟨d, v', by omega, by simpa using h1, h2, h3⟩
theorem lv_ld {E : Ev} {arr : Array Slot} {nL : Nat} {ls : List Value} (h : lv_has arr nL (lva E 0 ls)) {k : Nat} {v : Value} (hk : ls[k]? = some v) (hu : isU v = false) : arr[k]? = some (.val (cv E v)) :=
  h.2.2 (k, cv E v) (lva_mem.mpr ⟨k, v, by omega, hk, hu, rfl⟩)
theorem stc_s {ls : List Value} {k : Nat} : stc ls (k + 1) = match ls[k]? with | some w => bif Nat.beq w.category 2 then ls.set k uu else ls | none => ls := rfl
theorem stc_len {ls : List Value} {i : Nat} : (stc ls i).length = ls.length := by
  cases i with
  | zero => rfl
  | succ k =>
    rw [stc_s]
    cases ls[k]? with
    | none => rfl
    | some w =>
      show (bif Nat.beq w.category 2 then ls.set k uu else ls).length = _
      cases h : Nat.beq w.category 2 <;> simp
theorem stc_get {ls : List Value} {i d : Nat} {v : Value} (hu : isU v = false) (h : (stc ls i)[d]? = some v) : ls[d]? = some v ∧ (d + 1 = i → ¬ v.category = 2) := by
  cases i with
  | zero => exact ⟨h, fun q => by omega⟩
  | succ k =>
    rw [stc_s] at h
    cases hw : ls[k]? with
    | none =>
      rw [hw] at h
      refine ⟨h, fun q => ?_⟩
      have : d = k := by omega
      subst this
      have h' : ls[d]? = some v := h
      rw [hw] at h'
      cases h'
    | some w =>
      rw [hw] at h
      simp only at h
      cases hb : Nat.beq w.category 2 with
      | true =>
        rw [hb, cond_true, List.getElem?_set] at h
        by_cases e : k = d
        · subst e
          rw [if_pos rfl] at h
          split at h
          · have := Option.some.inj h
            subst this
            cases hu
          · cases h
        · rw [if_neg e] at h
          exact ⟨h, fun q => by omega⟩
      | false =>
        rw [hb, cond_false] at h
        refine ⟨h, fun q hc => ?_⟩
        have : d = k := by omega
        subst this
        rw [hw] at h
        cases h
        rw [show Nat.beq v.category 2 = true from by rw [hc]; rfl] at hb
        cases hb
theorem st1_has {E : Ev} {arr : Array Slot} {nL : Nat} {ls : List Value} {i : Nat} {v : Value} (h : lv_has arr nL ((i, cv E v) :: (lva E 0 ls).filter (fun q => !(q.1 == i) && !(q.1 + 1 == i && q.2.category == 2)))) : lv_has arr nL (lva E 0 (st1 ls i v)) := by
  refine ⟨h.1, h.2.1, fun q hq => h.2.2 q ?_⟩
  obtain ⟨k, w⟩ := q
  obtain ⟨d, v', e1, e2, e3, e4⟩ := lva_mem.mp hq
  have e1 : k = d := by omega
  subst e1
  unfold st1 at e2
  rw [List.getElem?_set] at e2
  by_cases hk : i = k
  · subst hk
    rw [if_pos rfl] at e2
    split at e2
    · cases e2
      exact e4 ▸ List.mem_cons_self
    · cases e2
  · rw [if_neg hk] at e2
    obtain ⟨f1, f2⟩ := stc_get e3 e2
    refine List.mem_cons_of_mem _ (List.mem_filter.mpr ⟨lva_mem.mpr ⟨k, v', by omega, f1, e3, e4⟩, ?_⟩)
    rw [e4]
    have c1 : (k == i) = false := by simp; exact fun q => hk q.symm
    simp only [c1, cv_cat, Bool.not_false, Bool.true_and, Bool.not_eq_true', Bool.and_eq_false_iff, beq_eq_false_iff_ne, ne_eq]
    by_cases hc : k + 1 = i
    · exact Or.inr (f2 hc)
    · exact Or.inl hc
theorem st2_has {E : Ev} {arr : Array Slot} {nL : Nat} {ls : List Value} {i : Nat} {v : Value} (h : lv_has arr nL ((i, cv E v) :: (lva E 0 ls).filter (fun q => !(q.1 == i) && (!(q.1 == i + 1) && !(q.1 + 1 == i && q.2.category == 2))))) : lv_has arr nL (lva E 0 (st2 ls i v)) := by
  refine ⟨h.1, h.2.1, fun q hq => h.2.2 q ?_⟩
  obtain ⟨k, w⟩ := q
  obtain ⟨d, v', e1, e2, e3, e4⟩ := lva_mem.mp hq
  have e1 : k = d := by omega
  subst e1
  unfold st2 at e2
  rw [List.getElem?_set] at e2
  by_cases hk1 : i + 1 = k
  · subst hk1
    rw [if_pos rfl] at e2
    split at e2
    · cases e2
      cases e3
    · cases e2
  · rw [if_neg hk1, List.getElem?_set] at e2
    by_cases hk : i = k
    · subst hk
      rw [if_pos rfl] at e2
      split at e2
      · cases e2
        exact e4 ▸ List.mem_cons_self
      · cases e2
    · rw [if_neg hk] at e2
      obtain ⟨f1, f2⟩ := stc_get e3 e2
      refine List.mem_cons_of_mem _ (List.mem_filter.mpr ⟨lva_mem.mpr ⟨k, v', by omega, f1, e3, e4⟩, ?_⟩)
      rw [e4]
      have c1 : (k == i) = false := by simp; exact fun q => hk q.symm
      have c2 : (k == i + 1) = false := by simp; exact fun q => hk1 q.symm
      simp only [c1, c2, cv_cat, Bool.not_false, Bool.true_and, Bool.not_eq_true', Bool.and_eq_false_iff, beq_eq_false_iff_ne, ne_eq]
      by_cases hc : k + 1 = i
      · exact Or.inr (f2 hc)
      · exact Or.inl hc
theorem st1_len {ls : List Value} {i : Nat} {v : Value} : (st1 ls i v).length = ls.length := by simp [st1, stc_len]
theorem st2_len {ls : List Value} {i : Nat} {v : Value} : (st2 ls i v).length = ls.length := by simp [st2, stc_len]
theorem p_i_s {st : List Value} {K : Int32 → List Value → Prop} (h : p_i st K) : ∃ x r, st = .int x :: r ∧ K x r := by
  unfold p_i at h
  split at h
  · exact ⟨_, _, rfl, h⟩
  · exact h.elim
theorem p_l_s {st : List Value} {K : Int64 → List Value → Prop} (h : p_l st K) : ∃ x r, st = .long x :: r ∧ K x r := by
  unfold p_l at h
  split at h
  · exact ⟨_, _, rfl, h⟩
  · exact h.elim
theorem p_r_s {st : List Value} {K : Nat → List Value → Prop} (h : p_r st K) : ∃ x r, st = .ref x :: r ∧ K x r := by
  unfold p_r at h
  split at h
  · exact ⟨_, _, rfl, h⟩
  · exact h.elim
theorem p_d_s {st : List Value} {K : Value → List Value → Prop} (h : p_d st K) : ∃ v r, st = v :: r ∧ v.category = 1 ∧ K v r := by
  unfold p_d at h
  split at h
  · exact ⟨_, _, rfl, rfl, h⟩
  · exact ⟨_, _, rfl, rfl, h⟩
  · exact h.elim
theorem ret_i_s {o : Option FieldType} {x : Int32} {A : Prop} (h : ret_i o x A) : (o = some .int ∧ A) ∨ (o = some .boolean ∧ x &&& 1 = x ∧ A) := by
  unfold ret_i at h
  split at h
  · exact Or.inl ⟨rfl, h⟩
  · exact Or.inr ⟨rfl, h⟩
  · exact h.elim
theorem ret_l_s {o : Option FieldType} {A : Prop} (h : ret_l o A) : o = some .long ∧ A := by
  unfold ret_l at h
  split at h
  · exact ⟨rfl, h⟩
  · exact h.elim
theorem ret_a_s {o : Option FieldType} {A : Prop} (h : ret_a o A) : ∃ n, o = some (.object n) ∧ A := by
  unfold ret_a at h
  split at h
  · exact ⟨_, rfl, h⟩
  · exact h.elim
theorem ret_v_s {o : Option FieldType} {A : Prop} (h : ret_v o A) : o = none ∧ A := by
  unfold ret_v at h
  split at h
  · exact ⟨rfl, h⟩
  · exact h.elim
theorem g_i_s {ls : List Value} {k : Nat} {K : Int32 → Prop} (h : g_i ls k K) : ∃ x, ls[k]? = some (.int x) ∧ K x := by
  unfold g_i at h
  split at h
  · rename_i e; exact ⟨_, e, h⟩
  · exact h.elim
theorem g_l_s {ls : List Value} {k : Nat} {K : Int64 → Prop} (h : g_l ls k K) : ∃ x, ls[k]? = some (.long x) ∧ K x := by
  unfold g_l at h
  split at h
  · rename_i e; exact ⟨_, e, h⟩
  · exact h.elim
theorem g_r_s {ls : List Value} {k : Nat} {K : Value → Prop} (h : g_r ls k K) : ∃ x, ls[k]? = some x ∧ ((∃ j, x = .ref j) ∨ x = .retAddr 1) ∧ K x := by
  unfold g_r at h
  split at h
  · rename_i e; exact ⟨_, e, Or.inl ⟨_, rfl⟩, h⟩
  · rename_i e; exact ⟨_, e, Or.inr rfl, h⟩
  · exact h.elim
theorem p_s1_s {ls : List Value} {k : Nat} {v : Value} {K : List Value → Prop} (h : p_s1 ls k v K) : k < ls.length ∧ K (st1 ls k v) := by
  unfold p_s1 at h
  split at h
  · rename_i e; exact ⟨(List.getElem?_eq_some_iff.mp e).1, h⟩
  · exact h.elim
theorem p_s2_s {ls : List Value} {k : Nat} {v : Value} {K : List Value → Prop} (h : p_s2 ls k v K) : k + 1 < ls.length ∧ K (st2 ls k v) := by
  unfold p_s2 at h
  split at h
  · rename_i e; exact ⟨(List.getElem?_eq_some_iff.mp e).1, h⟩
  · exact h.elim
theorem o_o_s {α : Type} {o : Option α} {K : α → Prop} (h : o_o o K) : ∃ a, o = some a ∧ K a := by
  unfold o_o at h
  split at h
  · exact ⟨_, rfl, h⟩
  · exact h.elim
theorem isB_s {v : Bool} {A : Prop} (h : isB v A) : v = true ∧ A := by cases v <;> first | exact h.elim | exact ⟨rfl, h⟩
theorem tg_s {pc : Nat} {off : Int} {K : Nat → Prop} (h : tg pc off K) : ∃ t : Nat, (pc : Int) + off = (t : Int) ∧ K t := by
  unfold tg at h
  split at h
  · rename_i e; exact ⟨_, e, h⟩
  · exact h.elim
theorem pa_s : ∀ {n : Nat} {st acc : List Value} {K : List Value → List Value → Prop}, pa n st acc K → ∃ as rest, st = as.reverse ++ rest ∧ as.length = n ∧ K (as ++ acc) rest
  | 0, st, acc, K, h => ⟨[], st, rfl, rfl, h⟩
  | n + 1, [], acc, K, h => h.elim
  | n + 1, v :: st, acc, K, h => by
    obtain ⟨as, rest, e1, e2, e3⟩ := pa_s (n := n) (st := st) (acc := v :: acc) h
    exact ⟨as ++ [v], rest, by simp [e1], by simp [e2], by simpa using e3⟩
end
section
def KW (E : Ev) (s : State) : Prop := va_K (e_D E) vwCl (tyl E) s ∧ va_AO RX1 s ∧ va_AO RX3 s ∧ va_AO RX6 s
theorem KW.moved {E : Ev} {u U : State} (hvm : u.vm.Alike U.vm) (h : KW E u) : KW E U := ⟨va_K.moved hvm h.1, h.2.1.moved hvm, h.2.2.1.moved hvm, h.2.2.2.moved hvm⟩
def PW (E : Ev) (p : Program) (l : Launch) (e : Env) (R : Room) (s : State) (m : MethodId) (args : Array Value) (below : List Frame) (meth : Method) (c : Code) (Qm : State → Prop) (nL Ne : Nat) : PT := fun pc ls st N lg it rf =>
  N ≤ Ne → ls.length = nL → ∀ (H : Heap) (locs : List Loc) (cells slots : Nat) (arr : Array Slot), H.size = e_b E + N → va_P (e_D E) vwCl (WL E N lg it rf) H → va_S (e_A E) s.heap H locs → lv_has arr nL (lva E 0 ls) →
    cells + (Ne - N) ≤ R.cells → slots + 400 * (Ne - N) ≤ R.slots → W p l e R s m args below meth c H locs cells slots Qm (F0 m pc arr (st.map (cv E)))
def xinv (kd idx : Nat) : Instr := match kd with | 0 => .invokevirtual idx | 1 => .invokestatic idx | _ => .invokespecial idx
/-- a call does what its entry says -/
def COK (E : Ev) (l : Launch) (R : Room) (own : String) (idx : Nat) (q : Ent) : Prop :=
  ∀ (p : Program) (e : Env) (s : State) (m : MethodId) (args : Array Value) (below : List Frame) (meth : Method) (c : Code) (cc : ByteArray) (nL : Nat) (Qm : State → Prop),
    p.tables.exec = Jvm.exec → c.code = cc → c.maxLocals = nL → s.vm.findClass own = some m.cls → (∀ w ∈ OM, w.before args s = true) → KW E s → e_b E ≤ s.heap.size →
    ∀ (pc : Nat) (arr : Array Slot) (H : Heap) (locs : List Loc) (cells slots : Nat) (as rest : List Value) (N : Nat) (lg : LGt) (it : ITt) (rf : RFt) (K : Post),
      decode cc pc = .ok (xinv q.1 idx, 3) → arr.size = nL → as.length = q.2.1 → (match q.1 with | 0 => ∃ j t, as = .ref j :: t ∧ Ob N j q.2.2.1 | _ => True) → H.size = e_b E + N → va_P (e_D E) vwCl (WL E N lg it rf) H → va_S (e_A E) s.heap H locs →
      ctgs rest ≤ 8 → cells + q.2.2.2.1 ≤ R.cells → slots + 400 * q.2.2.2.1 ≤ R.slots → q.2.2.2.2 as N lg it rf K →
      (∀ (r : Option Value) (lg' : LGt) (it' : ITt) (rf' : RFt) (H' : Heap) (locs' : List Loc), K r lg' it' rf' → H'.size = e_b E + (N + q.2.2.2.1) → va_P (e_D E) vwCl (WL E (N + q.2.2.2.1) lg' it' rf') H' → va_S (e_A E) s.heap H' locs' →
        W p l e R s m args below meth c H' locs' (cells + q.2.2.2.1) (slots + 400 * q.2.2.2.1) Qm (F0 m (pc + 3) arr ((r.toList ++ rest).map (cv E)))) →
      W p l e R s m args below meth c H locs cells slots Qm (F0 m pc arr ((as.reverse ++ rest).map (cv E)))
def FOK (own : String) (q : Nat × Nat × Nat) : Prop := q.2.1 < 10 ∧ q.2.2 < (clr q.2.1).2.2 ∧ Cond.fieldLink own q.1 (clr q.2.1).1 ((clr q.2.1).2.1 q.2.2).2.1 ((clr q.2.1).2.1 q.2.2).2.2.1 ∈ OM
def TOK (E : Ev) (l : Launch) (R : Room) (own : String) (T : Tab) : Prop :=
  (∀ q ∈ T.1, FOK own q) ∧ (∀ q ∈ T.2.1, q.2 < 10 ∧ Cond.classLink own q.1 (clr q.2).1 ∈ OM) ∧ (∀ q ∈ T.2.2.1, Cond.constantLong own q.1 q.2 ∈ OM) ∧ (∀ q ∈ T.2.2.2.1, COK E l R own q.1 q.2)
theorem cl_in : ∀ c, c < 10 → Cond.instantiable (clr c).1 (clr c).2.2 ∈ lw_tbl ∧ Cond.initialized (clr c).1 ∈ lw_tbl := by decide +kernel
theorem cl_ins {c : Nat} (h : c < 10) : Cond.instantiable (clr c).1 (clr c).2.2 ∈ OM ∧ Cond.initialized (clr c).1 ∈ OM := ⟨List.mem_filter.mpr ⟨(cl_in c h).1, rfl⟩, List.mem_filter.mpr ⟨(cl_in c h).2, rfl⟩⟩
theorem ar_in : ∀ t ∈ [FieldType.byte, .int, .long], Cond.arrayClass t ∈ OM := by decide +kernel
theorem tyl_get {E : Ev} {k : Nat} (h : k < 6) : (tyl E)[k]? = some (e_cy E k, match k with | 0 => .byte | 1 => .int | 2 => .long | 3 => .object RX1 | 4 => .object RX3 | _ => .object RX6) := by
  match k, h with
  | 0, _ => rfl
  | 1, _ => rfl
  | 2, _ => rfl
  | 3, _ => rfl
  | 4, _ => rfl
  | 5, _ => rfl
theorem fvs_get {lg : LGt} {it : ITt} {rf : RFt} {j k t : Nat} {ks : List Nat} (h : ks[k]? = some t) : (fvs lg it rf j ks)[k]? = some (fva lg it rf j k t) := by simp [fvs, h]
theorem fvs_len {lg : LGt} {it : ITt} {rf : RFt} {j : Nat} {ks : List Nat} : (fvs lg it rf j ks).length = ks.length := by simp [fvs]
theorem fva_eq {lg lg' : LGt} {it it' : ITt} {rf rf' : RFt} {j k t : Nat} (h1 : lg' j k = lg j k) (h2 : it' j k = it j k) (h3 : rf' j k = rf j k) : fva lg' it' rf' j k t = fva lg it rf j k t := by
  unfold fva
  rw [h1, h2, h3]
theorem fvs_set {lg lg' : LGt} {it it' : ITt} {rf rf' : RFt} {j k t : Nat} {ks : List Nat} (hk : ks[k]? = some t) (ho : ∀ i, i ≠ k → lg' j i = lg j i ∧ it' j i = it j i ∧ rf' j i = rf j i) :
    fvs lg' it' rf' j ks = (fvs lg it rf j ks).set k (fva lg' it' rf' j k t) := by
  apply List.ext_getElem?
  intro i
  rw [List.getElem?_set]
  have hl : k < ks.length := (List.getElem?_eq_some_iff.mp hk).1
  by_cases h : k = i
  · subst h
    rw [if_pos rfl, if_pos (by rw [fvs_len]; exact hl), fvs_get hk]
  · rw [if_neg h]
    cases e : ks[i]? with
    | none =>
      rw [List.getElem?_eq_none (by rw [fvs_len]; exact List.getElem?_eq_none_iff.mp e), List.getElem?_eq_none (by rw [fvs_len]; exact List.getElem?_eq_none_iff.mp e)]
    | some t' =>
      obtain ⟨h1, h2, h3⟩ := ho i (fun q => h q.symm)
      rw [fvs_get e, fvs_get e, fva_eq h1 h2 h3]
theorem cell_obj {E : Ev} {lg : LGt} {it : ITt} {rf : RFt} {j ci : Nat} (hc : (LAY j).1 = ci) (h : ci < 10) : cellv E lg it rf j = .inr (ci, (fvs lg it rf j (fk ci)).map (cv E)) := by
  unfold cellv
  rw [hc]
  exact cellK_o h
theorem u2_eq {α : Type} {f : Nat → Nat → α} {j k : Nat} {v : α} : u2 f j k v j k = v := by simp [u2]
theorem u2_ne {α : Type} {f : Nat → Nat → α} {j k i : Nat} {v : α} (h : i ≠ k) : u2 f j k v j i = f j i := by simp [u2, h]
theorem wr_s {t : Nat} {v : Value} {j k : Nat} {lg : LGt} {it : ITt} {rf : RFt} {K : LGt → ITt → RFt → Prop} (h : wr t v j k lg it rf K) :
    ∃ lg' it' rf', K lg' it' rf' ∧ fva lg' it' rf' j k t = v ∧ (∀ i, i ≠ j → lg' i = lg i ∧ it' i = it i ∧ rf' i = rf i) ∧ (∀ i, i ≠ k → lg' j i = lg j i ∧ it' j i = it j i ∧ rf' j i = rf j i) ∧
      (∀ (E : Ev) (ty : FieldType), kdo ty = t → narrow ty (cv E v) = cv E v ∧ fits ty (cv E v) = true) := by
  unfold wr at h
  split at h
  · split at h
    · rename_i x
      refine ⟨lg, _, rf, h, by simp [fva, u2], fun i hi => ⟨rfl, u2_row hi, rfl⟩, fun i hi => ⟨rfl, u2_ne hi, rfl⟩, fun E ty ht => ?_⟩
      cases ty <;> first | exact ⟨rfl, rfl⟩ | cases ht
    · exact h.elim
  · split at h
    · rename_i x
      refine ⟨_, it, rf, h, by simp [fva, u2], fun i hi => ⟨u2_row hi, rfl, rfl⟩, fun i hi => ⟨u2_ne hi, rfl, rfl⟩, fun E ty ht => ?_⟩
      cases ty <;> first | exact ⟨rfl, rfl⟩ | cases ht
    · exact h.elim
  · split at h
    · rename_i x
      refine ⟨lg, it, _, h, by simp [fva, u2, rfv], fun i hi => ⟨rfl, rfl, u2_row hi⟩, fun i hi => ⟨rfl, rfl, u2_ne hi⟩, fun E ty ht => ?_⟩
      cases ty <;> first | exact ⟨rfl, rfl⟩ | cases ht
    · exact h.elim
  · split at h
    · rename_i x
      obtain ⟨hx, h⟩ := h
      refine ⟨lg, _, rf, h, by simp [fva, u2], fun i hi => ⟨rfl, u2_row hi, rfl⟩, fun i hi => ⟨rfl, u2_ne hi, rfl⟩, fun E ty ht => ?_⟩
      cases ty <;> try cases ht
      refine ⟨?_, ?_⟩
      · show Value.int (x &&& 1) = .int x
        rw [hx]
      · show (x == 0 || x == 1) = true
        have h2 : ∀ y : Int32, y &&& 1 = 0 ∨ y &&& 1 = 1 := fun y => by
          have e := pk_and y (m := 1) 1 rfl
          have hlt : y.toBitVec.toNat % 2 ^ 1 < 2 := Nat.mod_lt _ (by decide)
          generalize y.toBitVec.toNat % 2 ^ 1 = z at e hlt
          match z, hlt with
          | 0, _ => exact Or.inl e
          | 1, _ => exact Or.inr e
        rcases h2 x with e | e <;> rw [hx] at e <;> subst e <;> rfl
    · exact h.elim
  · exact h.elim
end
section
section SO
variable {E : Ev} {p : Program} {l : Launch} {e : Env} {R : Room} {s : State} {m : MethodId} {args : Array Value} {below : List Frame} {meth : Method} {c : Code} {nL Ne : Nat} {cc : ByteArray} {own : String} {T : Tab} {Qp : Post} {Qc : Array Value → State → Outcome → State → Prop}
theorem so_getf (hx : p.tables.exec = Jvm.exec) (hb : c.code = cc) (hown : s.vm.findClass own = some m.cls) (hts : ∀ w ∈ OM, w.before args s = true) (hK : KW E s) {ci k t idx pc j N : Nat} {lg : LGt} {it : ITt} {rf : RFt} {H : Heap} {locs : List Loc} {cells slots : Nat} {arr : Array Slot} {rest : List Value} {Qm : State → Prop}
    (hd : decode cc pc = .ok (.getfield idx, 3)) (hF : FOK own (idx, ci, k)) (hO : Ob N j ci) (ht : (fk ci)[k]? = some t) (hP : va_P (e_D E) vwCl (WL E N lg it rf) H)
    (kk : W p l e R s m args below meth c H locs cells slots Qm (F0 m (pc + 3) arr (cv E (fva lg it rf j k t) :: rest))) : W p l e R s m args below meth c H locs cells slots Qm (F0 m pc arr (.ref (e_b E + j) :: rest)) := by
  obtain ⟨h1, h2, h3⟩ := hF
  obtain ⟨ho1, ho2⟩ := hO
  refine va_get (D := e_D E) (ci := ci) (v := cv E (fva lg it rf j k t)) (C := (clr ci).1) (T := (clr ci).2.1) (N := (clr ci).2.2) hx hb hts (cl_om h1) hown hK.1 hP j ((WL_get ho1).trans (by rw [cell_obj ho2 h1])) (cl_get h1) k h2 (hts _ h3) ?_ ?_ hd kk
  · rw [((cl_fk ci h1).2.2.2 k h2).2.2]
    exact fun _ h => h
  · rw [List.getElem?_map, fvs_get ht]
    rfl
theorem so_putf (hx : p.tables.exec = Jvm.exec) (hb : c.code = cc) (hown : s.vm.findClass own = some m.cls) (hts : ∀ w ∈ OM, w.before args s = true) (hK : KW E s) {ci k t idx pc j N : Nat} {v : Value} {fin : Bool} {lg lg' : LGt} {it it' : ITt} {rf rf' : RFt} {H : Heap} {locs : List Loc} {cells slots : Nat} {arr : Array Slot} {rest : List Value} {Qm : State → Prop}
    (hd : decode cc pc = .ok (.putfield idx, 3)) (hF : FOK own (idx, ci, k)) (hO : Ob N j ci) (ht : (fk ci)[k]? = some t) (hfin : (ff ci)[k]? = some fin) (hini : fin = true → meth.name = "<init>" ∧ (clr ci).1 = own) (hz : H.size = e_b E + N) (hP : va_P (e_D E) vwCl (WL E N lg it rf) H) (hS : va_S (e_A E) s.heap H locs)
    (hv : fva lg' it' rf' j k t = v) (ho : ∀ i, i ≠ j → lg' i = lg i ∧ it' i = it i ∧ rf' i = rf i) (hi : ∀ i, i ≠ k → lg' j i = lg j i ∧ it' j i = it j i ∧ rf' j i = rf j i) (hty : ∀ (E : Ev) (ty : FieldType), kdo ty = t → narrow ty (cv E v) = cv E v ∧ fits ty (cv E v) = true)
    (kk : ∀ (H1 : Heap) (locs1 : List Loc), H1.size = e_b E + N → va_P (e_D E) vwCl (WL E N lg' it' rf') H1 → va_S (e_A E) s.heap H1 locs1 → W p l e R s m args below meth c H1 locs1 cells slots Qm (F0 m (pc + 3) arr rest)) : W p l e R s m args below meth c H locs cells slots Qm (F0 m pc arr (cv E v :: .ref (e_b E + j) :: rest)) := by
  obtain ⟨h1, h2, h3⟩ := hF
  obtain ⟨ho1, ho2⟩ := hO
  have hts' := hts
  obtain ⟨q1, q2, q3, q4⟩ := cl_fk ci h1
  obtain ⟨q5, q6, q7⟩ := q4 k h2
  have hc := cl_get h1
  have he := (WL_get (E := E) (lg := lg) (it := it) (rf := rf) ho1).trans (by rw [cell_obj ho2 h1])
  have hap := va_apart (own := own) hts (cl_om h1) (clty ci) (cl_ty h1) (cl_nm h1) hK.1 hc
  obtain ⟨r, g1, cell, g2, g3, g4, g5⟩ := hP j _ he
  have hr : r = clr ci := Option.some.inj (g1.symm.trans hc)
  subst hr
  obtain ⟨hSl, hfc, kC, hkC, hkind⟩ := hK.1.1 ci _ hc
  obtain ⟨cf, kf, fi, f, hff, hsl⟩ := hSl k h2
  have hlay := hts _ (cl_om h1 _ (u_in_lay h2))
  have hst := (u_facts hfc hkC (u_lays hts (cl_om h1) h2) hff).1
  have ht' : kdo (clty ci k) = t := by rw [ht] at q5; exact (Option.some.inj q5).symm
  obtain ⟨hn, hft⟩ := hty E (clty ci k) ht'
  have hfin' : ((clr ci).2.1 k).2.2.2 = fin := by rw [hfin] at q6; exact (Option.some.inj q6).symm
  have hsame : s.fieldFound? (clr ci).1 ((clr ci).2.1 k).2.1 ((clr ci).2.1 k).2.2.1 = some (cf, kf, fi, f) := by rw [q7] at hff; exact hff
  have hlen : k < ((fvs lg it rf j (fk ci)).map (cv E)).length := by rw [List.length_map, fvs_len, q1]; exact h2
  have step : ∀ (H' : Heap), H'[e_b E + j]? = some (cell.setSlot f.slot (cv E v)) → H'.size = H.size → (∀ q, q ≠ e_b E + j → H'[q]? = H[q]?) → W p l e R s m args below meth c H' (locs ++ [⟨e_b E + j, f.slot⟩]) cells slots Qm (F0 m (pc + 3) arr rest) := by
    intro H' e1 e2 e3
    rw [hsl] at e1 ⊢
    refine kk H' _ (by rw [e2, hz]) ?_ (hS.put e2 e3 (Nat.le_add_right _ _))
    have hset := hP.set (p := j) (e := .inr (ci, ((fvs lg it rf j (fk ci)).map (cv E)).set k (cv E v))) WL_D he ⟨_, hc, t_OB.to (V := updV (vp_V ((fvs lg it rf j (fk ci)).map (cv E))) k (cv E v)) ⟨_, e1, g3, g4, t_set g5 hap h2 (cv E v)⟩ (fun i _ => vp_updV_set hlen (cv E v) i)⟩ e3
    rw [WL_set ho1 (by rw [cell_obj ho2 h1, fvs_set ht hi, hv, List.map_set]) ho] at hset
    exact hset
  cases hf : fin with
  | false =>
    rw [hf] at hfin'
    unfold u_lay at hlay
    rw [if_neg (by rw [hfin']; decide)] at hlay
    have h6 := u_store hfc hkC hkind hlay hff (cl_ty h1 k h2) hn hft
    exact W.putK hx hb (f := f) ⟨hown, hts _ h3, ⟨_, _, _, hsame⟩, hst⟩ (by rw [g3]; exact h6) g2 g4 (by rw [hsl]; exact k2_hasslot (g5 k h2)) rfl rfl hd step
  | true =>
    obtain ⟨hin2, hown2⟩ := hini hf
    rw [hf] at hfin'
    unfold u_lay at hlay
    rw [if_pos hfin'] at hlay
    have hcf : m.cls = cf := by
      obtain ⟨_, _, c', _, _, _, -, -, hf', -, -, -, hown3, -⟩ := Cond.laysFinal_spec hlay
      have e1 : c' = cf := by have := hff.symm.trans hf'; simp at this; exact this.1.symm
      rw [q7, hown2] at hown3
      rw [← e1]; exact Option.some.inj (hown.symm.trans hown3)
    have h6 := u_fits hfc hkC hkind (Or.inr hlay) hff (cl_ty h1 k h2) hn hft
    exact W.putFinK hx hb hown (hts _ h3) hsame hst hcf hin2 (by rw [g3]; exact h6) g2 g4 (by rw [hsl]; exact k2_hasslot (g5 k h2)) rfl rfl hd step
theorem so_new (hx : p.tables.exec = Jvm.exec) (hb : c.code = cc) (hown : s.vm.findClass own = some m.cls) (hts : ∀ w ∈ OM, w.before args s = true) (hK : KW E s) {ci idx pc N : Nat} {lg : LGt} {it : ITt} {rf : RFt} {H : Heap} {locs : List Loc} {cells slots : Nat} {arr : Array Slot} {rest : List Value} {Qm : State → Prop}
    (hbs : e_b E ≤ s.heap.size) (hd : decode cc pc = .ok (.new idx, 3)) (h1 : ci < 10) (hl : Cond.classLink own idx (clr ci).1 ∈ OM) (hL : LAY N = (ci, (fk ci).length)) (hz : H.size = e_b E + N) (hP : va_P (e_D E) vwCl (WL E N lg it rf) H) (hS : va_S (e_A E) s.heap H locs) (hc1 : cells + 1 ≤ R.cells) (hc2 : slots + 400 ≤ R.slots)
    (kk : ∀ (H1 : Heap), H1.size = e_b E + (N + 1) → va_P (e_D E) vwCl (WL E (N + 1) (zr 0 lg N) (zr 0 it N) (zr none rf N)) H1 → va_S (e_A E) s.heap H1 locs → W p l e R s m args below meth c H1 locs (cells + 1) (slots + 400) Qm (F0 m (pc + 3) arr (.ref (e_b E + N) :: rest))) : W p l e R s m args below meth c H locs cells slots Qm (F0 m pc arr rest) := by
  have hKn := hK.1.1 ci _ (cl_get h1)
  obtain ⟨q1, q2, q3, q4⟩ := cl_fk ci h1
  refine W.newcK hx hb hown (hts _ hl) (hts _ (cl_ins h1).1) (hts _ (cl_ins h1).2) rfl hd hc1 (by omega) hKn.2.1 hz fun H1 kC hkC e1 z1 o1 => ?_
  refine W.widen (k := cells + 1) (n := slots + 400) (Nat.le_refl _) (by omega) ?_
  refine kk H1 (by rw [z1]; omega) (WL_P1 hP o1 (fun i hi => ⟨zr_row hi, zr_row hi, zr_row hi⟩) ?_) ⟨Nat.le_trans hS.1 (by omega), fun q a b => (o1 q (by have := hS.1; omega)).trans (hS.2.1 q a b), hS.2.2⟩
  rw [cell_obj (ci := ci) (by rw [hL]) h1]
  refine ⟨_, cl_get h1, (u_born (clty ci) hts (cl_om h1) hKn hkC e1 (cl_ty h1)).to (fun k hk => ?_)⟩
  obtain ⟨q5, -, -⟩ := q4 k hk
  show defaultValue (clty ci k) = vp_V _ k
  unfold vp_V
  rw [List.getD_eq_getElem?_getD, List.getElem?_map, fvs_get q5]
  have h3 := cl_k3 ci h1 k hk
  revert h3
  cases clty ci k <;> simp [fva, kdo, zr, rfv, cv, defaultValue]
theorem so_arr (hx : p.tables.exec = Jvm.exec) (hb : c.code = cc) (hts : ∀ w ∈ OM, w.before args s = true) (hK : KW E s) {t : ArrayType} {pc N : Nat} {x : Int32} {lg : LGt} {it : ITt} {rf : RFt} {H : Heap} {locs : List Loc} {cells slots : Nat} {arr : Array Slot} {rest : List Value} {Qm : State → Prop}
    (hbs : e_b E ≤ s.heap.size) (hd : decode cc pc = .ok (.newarray t, 2)) (hx0 : ¬ x < 0) (hL : LAY N = (akd t, x.toNatClampNeg)) (hz : H.size = e_b E + N) (hP : va_P (e_D E) vwCl (WL E N lg it rf) H) (hS : va_S (e_A E) s.heap H locs) (hc1 : cells + 1 ≤ R.cells) (hc2 : slots + 400 ≤ R.slots)
    (kk : ∀ (H1 : Heap), H1.size = e_b E + (N + 1) → va_P (e_D E) vwCl (WL E (N + 1) (zr 0 lg N) (zr 0 it N) (zr none rf N)) H1 → va_S (e_A E) s.heap H1 locs → W p l e R s m args below meth c H1 locs (cells + 1) (slots + 400) Qm (F0 m (pc + 2) arr (.ref (e_b E + N) :: rest))) : W p l e R s m args below meth c H locs cells slots Qm (F0 m pc arr (.int x :: rest)) := by
  have hle : x.toNatClampNeg ≤ 400 := by have := lay_le N; rw [hL] at this; exact this
  have key : ∀ (k : Nat) (ty : FieldType) (a0 : vp_A), newarray.typeOf t = ty → (tyl E)[k]? = some (e_cy E k, ty) → ty.isReference = false → Cond.arrayClass ty ∈ OM → componentBytes ty ≤ 8 → cellv E (zr 0 lg N) (zr 0 it N) (zr none rf N) N = .inl (e_cy E k, a0) → (∀ cA, vp_cell cA a0 = arrV cA x.toNatClampNeg (fun _ => defaultValue ty)) → va_RA s (e_cy E k) ty = (s.vm.findClass ("[" ++ ty.toString) = some (e_cy E k)) → W p l e R s m args below meth c H locs cells slots Qm (F0 m pc arr (.int x :: rest)) := by
    intro k ty a0 ht htl hri hw hcb hcell ha hra
    subst ht
    refine va_newaK hx hb (hts _ hw) rfl hd rfl hx0 rfl (by have := Nat.mul_le_mul hle hcb; omega) hc1 (by omega) hz fun H1 cA e1 z1 o1 hAr hNm => ?_
    refine W.widen (k := cells + 1) (n := slots + 400) (Nat.le_refl _) (by omega) ?_
    refine kk H1 (by rw [z1]; omega) (WL_P1 hP o1 (fun i hi => ⟨zr_row hi, zr_row hi, zr_row hi⟩) ?_) ⟨Nat.le_trans hS.1 (by omega), fun q a b => (o1 q (by have := hS.1; omega)).trans (hS.2.1 q a b), hS.2.2⟩
    rw [hcell]
    show H1[_]? = some (vp_cell _ _)
    have h2 := (hK.1.2 k _ htl).2
    rw [hra] at h2
    have hc : cA = e_cy E k := Option.some.inj (hNm.symm.trans h2)
    rw [ha, ← hc]
    exact e1
  have hk : (LAY N).1 = akd t := congrArg Prod.fst hL
  have hn : (LAY N).2 = x.toNatClampNeg := congrArg Prod.snd hL
  have hcl : cellv E (zr 0 lg N) (zr 0 it N) (zr none rf N) N = cellK E (zr 0 lg N) (zr 0 it N) (zr none rf N) (akd t) x.toNatClampNeg N := by unfold cellv; rw [hk, hn]
  cases t <;> try exact absurd hk (lay_ne N).1
  · exact key 0 .byte (x.toNatClampNeg, .inl (fun _ => 0)) rfl rfl rfl (ar_in _ (by decide)) (by decide) (by rw [hcl]; show (Sum.inl (e_cy E 0, x.toNatClampNeg, Sum.inl (zr 0 it N N)) : va_E) = _; rw [zr_self]) (fun _ => rfl) rfl
  · exact key 1 .int (x.toNatClampNeg, .inl (fun _ => 0)) rfl rfl rfl (ar_in _ (by decide)) (by decide) (by rw [hcl]; show (Sum.inl (e_cy E 1, x.toNatClampNeg, Sum.inl (zr 0 it N N)) : va_E) = _; rw [zr_self]) (fun _ => rfl) rfl
  · exact key 2 .long (x.toNatClampNeg, .inr (.inl (fun _ => 0))) rfl rfl rfl (ar_in _ (by decide)) (by decide) (by rw [hcl]; show (Sum.inl (e_cy E 2, x.toNatClampNeg, Sum.inr (Sum.inl (zr 0 lg N N))) : va_E) = _; rw [zr_self]) (fun _ => rfl) rfl
theorem so_anew (hx : p.tables.exec = Jvm.exec) (hb : c.code = cc) (hown : s.vm.findClass own = some m.cls) (hts : ∀ w ∈ OM, w.before args s = true) (hK : KW E s) {ci idx pc N : Nat} {x : Int32} {lg : LGt} {it : ITt} {rf : RFt} {H : Heap} {locs : List Loc} {cells slots : Nat} {arr : Array Slot} {rest : List Value} {Qm : State → Prop}
    (hbs : e_b E ≤ s.heap.size) (hd : decode cc pc = .ok (.anewarray idx, 3)) (h1 : ci < 10) (hl : Cond.classLink own idx (clr ci).1 ∈ OM) (hx0 : ¬ x < 0) (hL : LAY N = (ako ci, x.toNatClampNeg)) (hz : H.size = e_b E + N) (hP : va_P (e_D E) vwCl (WL E N lg it rf) H) (hS : va_S (e_A E) s.heap H locs) (hc1 : cells + 1 ≤ R.cells) (hc2 : slots + 400 ≤ R.slots)
    (kk : ∀ (H1 : Heap), H1.size = e_b E + (N + 1) → va_P (e_D E) vwCl (WL E (N + 1) (zr 0 lg N) (zr 0 it N) (zr none rf N)) H1 → va_S (e_A E) s.heap H1 locs → W p l e R s m args below meth c H1 locs (cells + 1) (slots + 400) Qm (F0 m (pc + 3) arr (.ref (e_b E + N) :: rest))) : W p l e R s m args below meth c H locs cells slots Qm (F0 m pc arr (.int x :: rest)) := by
  have hle : x.toNatClampNeg ≤ 400 := by have := lay_le N; rw [hL] at this; exact this
  have hk : (LAY N).1 = ako ci := congrArg Prod.fst hL
  have hn : (LAY N).2 = x.toNatClampNeg := congrArg Prod.snd hL
  have hcl : cellv E (zr 0 lg N) (zr 0 it N) (zr none rf N) N = cellK E (zr 0 lg N) (zr 0 it N) (zr none rf N) (ako ci) x.toNatClampNeg N := by unfold cellv; rw [hk, hn]
  have key : ∀ (k : Nat) (C : String), (clr ci).1 = C → (tyl E)[k]? = some (e_cy E k, .object C) → va_AO C s → cellv E (zr 0 lg N) (zr 0 it N) (zr none rf N) N = .inl (e_cy E k, x.toNatClampNeg, .inr (.inr (.inr (.inr (fun _ => none))))) → W p l e R s m args below meth c H locs cells slots Qm (F0 m pc arr (.int x :: rest)) := by
    intro k C hC htl hao hcell
    subst hC
    refine W.anew hx hb hown (hts _ hl) (va_AO.use hao) rfl hd rfl hx0 (by omega) hc1 (by omega) fun cA kA comp f1 f2 f3 f4 => ?_
    generalize hH1 : H.push ({ cls := cA, slots := Array.replicate x.toNatClampNeg .null, vm := .none } : Cell) = H1
    have z1 : H1.size = H.size + 1 := by rw [← hH1, Array.size_push]
    have e1 : H1[H.size]? = some (arrV cA x.toNatClampNeg (fun _ => .null)) := by rw [← hH1, Array.getElem?_push_size, ← arrV_new]
    have o1 : ∀ q : Nat, q < H.size → H1[q]? = H[q]? := fun q hq => by rw [← hH1, Array.getElem?_push, if_neg (Nat.ne_of_lt hq)]
    rw [hz] at e1 o1
    obtain ⟨kA', comp', g1, g2, g3, g4⟩ := (hK.1.2 k _ htl).2
    have hc : cA = e_cy E k := Option.some.inj (f1.symm.trans g4)
    rw [hz]
    refine W.widen (k := cells + 1) (n := slots + 400) (Nat.le_refl _) (by omega) ?_
    refine kk H1 (by rw [z1, hz]; omega) (WL_P1 hP o1 (fun i hi => ⟨zr_row hi, zr_row hi, zr_row hi⟩) ?_) ⟨Nat.le_trans hS.1 (by omega), fun q a b => (o1 q (by have := hS.1; omega)).trans (hS.2.1 q a b), hS.2.2⟩
    rw [hcell]
    show H1[_]? = some (vp_cell _ _)
    rw [vp_cell_q, ← hc]
    exact e1
  have hs : ∀ k, k = 13 ∨ k = 14 ∨ k = 15 → cellK E (zr 0 lg N) (zr 0 it N) (zr none rf N) k x.toNatClampNeg N = .inl (e_cy E (k - 10), x.toNatClampNeg, .inr (.inr (.inr (.inr (fun _ => none))))) := by
    intro k hk
    rcases hk with rfl | rfl | rfl
    · show (Sum.inl (e_cy E 3, x.toNatClampNeg, Sum.inr (Sum.inr (Sum.inr (Sum.inr fun i => (zr none rf N N i).map fun q => e_b E + q)))) : va_E) = _
      rw [zr_self]
      rfl
    · show (Sum.inl (e_cy E 4, x.toNatClampNeg, Sum.inr (Sum.inr (Sum.inr (Sum.inr fun i => (zr none rf N N i).map fun q => e_b E + q)))) : va_E) = _
      rw [zr_self]
      rfl
    · show (Sum.inl (e_cy E 5, x.toNatClampNeg, Sum.inr (Sum.inr (Sum.inr (Sum.inr fun i => (zr none rf N N i).map fun q => e_b E + q)))) : va_E) = _
      rw [zr_self]
      rfl
  have hnn := (lay_ne N).2
  revert hk hcl hl key h1
  refine fun h1 => lt10 (P := fun ci => Cond.classLink own idx (clr ci).1 ∈ OM → (LAY N).1 = ako ci → cellv E (zr 0 lg N) (zr 0 it N) (zr none rf N) N = cellK E (zr 0 lg N) (zr 0 it N) (zr none rf N) (ako ci) x.toNatClampNeg N → (∀ (k : Nat) (C : String), (clr ci).1 = C → (tyl E)[k]? = some (e_cy E k, .object C) → va_AO C s → cellv E (zr 0 lg N) (zr 0 it N) (zr none rf N) N = .inl (e_cy E k, x.toNatClampNeg, .inr (.inr (.inr (.inr (fun _ => none))))) → W p l e R s m args below meth c H locs cells slots Qm (F0 m pc arr (.int x :: rest))) → W p l e R s m args below meth c H locs cells slots Qm (F0 m pc arr (.int x :: rest))) ?_ ?_ ?_ ?_ ?_ ?_ ?_ ?_ ?_ ?_ h1
  · exact fun _ a => absurd a hnn
  · exact fun _ _ a b => b 3 RX1 rfl rfl hK.2.1 (a.trans (hs 13 (Or.inl rfl)))
  · exact fun _ a => absurd a hnn
  · exact fun _ _ a b => b 4 RX3 rfl rfl hK.2.2.1 (a.trans (hs 14 (Or.inr (Or.inl rfl))))
  · exact fun _ a => absurd a hnn
  · exact fun _ a => absurd a hnn
  · exact fun _ _ a b => b 5 RX6 rfl rfl hK.2.2.2 (a.trans (hs 15 (Or.inr (Or.inr rfl))))
  · exact fun _ a => absurd a hnn
  · exact fun _ a => absurd a hnn
  · exact fun _ a => absurd a hnn
end SO
end
section
theorem swt_s {pc : Nat} {x : Int32} {K : Nat → Prop} : ∀ {L : List Int} {lo : Int} {i : Nat} {o : Int}, swt pc x K lo L → L[i]? = some o → x.toInt = lo + i → tg pc o K
  | [], _, _, _, _, h, _ => by simp at h
  | a :: t, lo, i, o, h, hi, hx => by
    cases i with
    | zero =>
      simp only [List.getElem?_cons_zero, Option.some.injEq] at hi
      subst hi
      exact h.1 (by simpa using hx)
    | succ i =>
      simp only [List.getElem?_cons_succ] at hi
      exact swt_s h.2 hi (by omega)
theorem swl_s {pc : Nat} {x : Int32} {K : Nat → Prop} {d : Int} : ∀ (L : List (Int × Int)), swl pc x K (L ++ [(x.toInt, d)]) → tg pc (Op.lookupswitch.offset L d x.toInt) K
  | [], h => h.1 rfl
  | a :: t, h => by
    by_cases e : x.toInt = a.1
    · have h1 := h.1 e
      unfold Op.lookupswitch.offset
      simpa [e] using h1
    · have h1 := swl_s t (h.2 e)
      show tg pc (if a.1 = x.toInt then a.2 else Op.lookupswitch.offset t d x.toInt) K
      rw [if_neg (fun q => e q.symm)]
      exact h1
set_option maxHeartbeats 4000000 in
/-- EVERY INSTRUCTION THAT THE ENGINE KNOWS -/
theorem sound {E : Ev} {p : Program} {l : Launch} {e : Env} {R : Room} {s : State} {m : MethodId} {args : Array Value} {below : List Frame} {meth : Method} {c : Code} {nL Ne : Nat} {cc : ByteArray} {own : String} {T : Tab} {Qp : Post} {Qc : Array Value → State → Outcome → State → Prop} (hx : p.tables.exec = Jvm.exec) (hb : c.code = cc) (hml : c.maxLocals = nL) (hown : s.vm.findClass own = some m.cls) (hts : ∀ w ∈ OM, w.before args s = true) (hK : KW E s) (hbs : e_b E ≤ s.heap.size) (hlocks : meth.locks = false) (hr : meth.sig.returnType = T.2.2.2.2.2)
    (hI : ∀ ci, Nat.beq T.2.2.2.2.1 ci = true → meth.name = "<init>" ∧ (clr ci).1 = own) (hT : TOK E l R own T)
    (hq : ∀ (r : Option Value) (lg : LGt) (it : ITt) (rf : RFt) (t : State), Qp r lg it rf → t.heap.size = e_b E + Ne → va_P (e_D E) vwCl (WL E Ne lg it rf) t.heap → s.WarmedH t.vm → va_F (e_A E) s t → Qc args s (.returned (r.map (cv E))) t) :
    Rl T cc Ne Qp (PW E p l e R s m args below meth c (MQ below Qc args s R.cells R.slots (e_A E)) nL Ne) ∧ RlS T cc Ne Qp (PW E p l e R s m args below meth c (MQ below Qc args s R.cells R.slots (e_A E)) nL Ne) := by
  obtain ⟨hF, hC, hJ, hM⟩ := hT
  have wid : ∀ {H : Heap} {locs : List Loc} {cells slots : Nat} {g : JFrame}, cells + (Ne - Ne) ≤ R.cells → slots + 400 * (Ne - Ne) ≤ R.slots → W p l e R s m args below meth c H locs R.cells R.slots (MQ below Qc args s R.cells R.slots (e_A E)) g → W p l e R s m args below meth c H locs cells slots (MQ below Qc args s R.cells R.slots (e_A E)) g := fun h1 h2 h3 => W.widen (by omega) (by omega) h3
  have call : ∀ (kd idx pc : Nat) (ls st : List Value) (N : Nat) (lg : LGt) (it : ITt) (rf : RFt), decode cc pc = .ok (xinv kd idx, 3) → inv T Ne (PW E p l e R s m args below meth c (MQ below Qc args s R.cells R.slots (e_A E)) nL Ne) kd idx pc ls st N lg it rf → PW E p l e R s m args below meth c (MQ below Qc args s R.cells R.slots (e_A E)) nL Ne pc ls st N lg it rf := by
    intro kd idx pc ls st N lg it rf hd h a1 a2 H locs cells slots arr a3 a4 a5 a6 a7 a8
    replace h := o_o_s h
    obtain ⟨q, hq1, h⟩ := h
    replace h := isB_s h
    obtain ⟨hkd, h⟩ := h
    replace h := pa_s h
    obtain ⟨as, rest, rfl, hl, h⟩ := h
    rw [List.append_nil] at h
    replace h := isB_s h
    obtain ⟨hct, hrec, h⟩ := h
    have hkd := Nat.eq_of_beq_eq_true hkd
    have hmem : COK E l R own idx q := hM _ (xlk_mem hq1)
    have hfit : N + q.2.2.2.1 ≤ Ne ∧ q.2.2.2.2 as N lg it rf (fun r lg' it' rf' => PW E p l e R s m args below meth c (MQ below Qc args s R.cells R.slots (e_A E)) nL Ne (pc + 3) ls (r.toList ++ rest) (N + q.2.2.2.1) lg' it' rf') := by
      unfold lec at h
      split at h
      · rename_i h0
        exact ⟨by rw [h0]; exact a1, h⟩
      · exact h
    clear h
    obtain ⟨hfit, h⟩ := hfit
    subst hkd
    · refine hmem p e s m args below meth c cc nL _ hx hb hml hown hts hK hbs pc arr H locs cells slots as rest N lg it rf _ hd a6.1 hl ?_ a3 a4 a5 (Nat.le_of_ble_eq_true hct) (by omega) (by omega) h (fun r lg' it' rf' H' locs' hk z1 z2 z3 => ?_)
      · obtain ⟨k0, k1, k2, k3, k4⟩ := q
        cases k0 with
        | zero =>
          obtain ⟨v, hv, hv2⟩ := o_o_s hrec
          cases as with
          | nil => cases hv
          | cons w t =>
            cases hv
            cases v <;> first | exact ⟨_, _, rfl, hv2⟩ | exact hv2.elim
        | succ k => trivial
      · exact hk hfit a2 H' locs' _ _ arr z1 z2 z3 a6 (by omega) (by omega)
  have tsw : ∀ (n pc : Nat) (d lo hi2 : Int) (offs : Array Int) (ls st : List Value) (N : Nat) (lg : LGt) (it : ITt) (rf : RFt), decode cc pc = .ok (.tableswitch d lo hi2 offs, n) → stp T Ne Qp (PW E p l e R s m args below meth c (MQ below Qc args s R.cells R.slots (e_A E)) nL Ne) (.tableswitch d lo hi2 offs) pc ls st N lg it rf → PW E p l e R s m args below meth c (MQ below Qc args s R.cells R.slots (e_A E)) nL Ne pc ls st N lg it rf := by
    intro n pc d lo hi2 offs ls st N lg it rf hd h a1 a2 H locs cells slots arr a3 a4 a5 a6 a7 a8
    replace h := p_i_s h
    obtain ⟨x, r, rfl, ho, h⟩ := h
    obtain ⟨hsz, h⟩ := isB_s h
    have hsz := of_decide_eq_true hsz
    by_cases hc : x.toInt < lo ∨ hi2 < x.toInt
    · obtain ⟨t, ht, h⟩ := tg_s (ho hc)
      exact lv_tableOut hx hb hd hc ht (h a1 a2 H locs cells slots arr a3 a4 a5 a6 a7 a8)
    · have h1 : ¬ x.toInt < lo := fun z => hc (Or.inl z)
      have h2 : ¬ hi2 < x.toInt := fun z => hc (Or.inr z)
      have hlt : (x.toInt - lo).toNat < offs.size := by omega
      have hget : offs.toList[(x.toInt - lo).toNat]? = some offs[(x.toInt - lo).toNat] := by rw [Array.getElem?_toList]; exact Array.getElem?_eq_getElem hlt
      obtain ⟨t, ht, h⟩ := tg_s (swt_s h hget (by omega))
      exact lv_tableIn hx hb hd h1 h2 (Array.getElem?_eq_getElem hlt) ht (h a1 a2 H locs cells slots arr a3 a4 a5 a6 a7 a8)
  have lsw : ∀ (n pc : Nat) (d : Int) (ps : Array (Int × Int)) (ls st : List Value) (N : Nat) (lg : LGt) (it : ITt) (rf : RFt), decode cc pc = .ok (.lookupswitch d ps, n) → stp T Ne Qp (PW E p l e R s m args below meth c (MQ below Qc args s R.cells R.slots (e_A E)) nL Ne) (.lookupswitch d ps) pc ls st N lg it rf → PW E p l e R s m args below meth c (MQ below Qc args s R.cells R.slots (e_A E)) nL Ne pc ls st N lg it rf := by
    intro n pc d ps ls st N lg it rf hd h a1 a2 H locs cells slots arr a3 a4 a5 a6 a7 a8
    replace h := p_i_s h
    obtain ⟨x, r, rfl, h⟩ := h
    obtain ⟨hps, h⟩ := isB_s h
    obtain ⟨t, ht, h⟩ := tg_s (swl_s ps.toList h)
    exact lv_lookup hx hb hd hps rfl ht (h a1 a2 H locs cells slots arr a3 a4 a5 a6 a7 a8)
  constructor
  · intro pc i ls st N lg it rf hd h a1 a2 H locs cells slots arr a3 a4 a5 a6 a7 a8
    cases i with
    | iconst k =>
      exact lv_iconst hx hb hd rfl (h a1 a2 H locs cells slots arr a3 a4 a5 a6 a7 a8)
    | bipush k =>
      exact lv_bipush hx hb hd rfl (h a1 a2 H locs cells slots arr a3 a4 a5 a6 a7 a8)
    | sipush k =>
      exact lv_sipush hx hb hd rfl (h a1 a2 H locs cells slots arr a3 a4 a5 a6 a7 a8)
    | lconst k =>
      exact lv_lconst hx hb hd rfl (h a1 a2 H locs cells slots arr a3 a4 a5 a6 a7 a8)
    | ldc2_w k =>
      obtain ⟨v, hv, h⟩ := o_o_s h
      exact lv_ldc2 hx hb hown (hts _ (hJ _ (xlk_mem hv))) hd (h a1 a2 H locs cells slots arr a3 a4 a5 a6 a7 a8)
    | iload_n k =>
      replace h := g_i_s h
      obtain ⟨x, hk, h⟩ := h
      exact lv_iload_n hx hb hd rfl (lv_ld a6 hk rfl) (h a1 a2 H locs cells slots arr a3 a4 a5 a6 a7 a8)
    | iload k =>
      replace h := g_i_s h
      obtain ⟨x, hk, h⟩ := h
      exact lv_iload hx hb hd (lv_ld a6 hk rfl) (h a1 a2 H locs cells slots arr a3 a4 a5 a6 a7 a8)
    | lload_n k =>
      replace h := g_l_s h
      obtain ⟨x, hk, h⟩ := h
      exact lv_lload_n hx hb hd rfl (lv_ld a6 hk rfl) (h a1 a2 H locs cells slots arr a3 a4 a5 a6 a7 a8)
    | lload k =>
      replace h := g_l_s h
      obtain ⟨x, hk, h⟩ := h
      exact lv_lload hx hb hd (lv_ld a6 hk rfl) (h a1 a2 H locs cells slots arr a3 a4 a5 a6 a7 a8)
    | aload_n k =>
      replace h : g_r ls k (fun x => PW E p l e R s m args below meth c (MQ below Qc args s R.cells R.slots (e_A E)) nL Ne (pc + 1) ls (x :: st) N lg it rf) := h
      replace h := g_r_s h
      obtain ⟨x, hk, hx2, h⟩ := h
      rcases hx2 with ⟨j, rfl⟩ | rfl
      · exact lv_aload_n hx hb hd rfl (lv_ld a6 hk rfl) (h a1 a2 H locs cells slots arr a3 a4 a5 a6 a7 a8)
      · exact lv_aload_n hx hb hd rfl (lv_ld a6 hk rfl) (h a1 a2 H locs cells slots arr a3 a4 a5 a6 a7 a8)
    | aload k =>
      replace h : g_r ls k (fun x => PW E p l e R s m args below meth c (MQ below Qc args s R.cells R.slots (e_A E)) nL Ne (pc + 2) ls (x :: st) N lg it rf) := h
      replace h := g_r_s h
      obtain ⟨x, hk, hx2, h⟩ := h
      rcases hx2 with ⟨j, rfl⟩ | rfl
      · exact lv_aload hx hb hd (lv_ld a6 hk rfl) (h a1 a2 H locs cells slots arr a3 a4 a5 a6 a7 a8)
      · exact lv_aload hx hb hd (lv_ld a6 hk rfl) (h a1 a2 H locs cells slots arr a3 a4 a5 a6 a7 a8)
    | istore_n k =>
      replace h := p_i_s h
      obtain ⟨x, r, rfl, h⟩ := h
      replace h := p_s1_s h
      obtain ⟨hk, h⟩ := h
      exact lv_istore_n hx hb hd rfl a6 (by rw [a2] at hk; exact hk) rfl (fun arr hl => h a1 (st1_len.trans a2) H locs cells slots arr a3 a4 a5 (st1_has hl) a7 a8)
    | istore k =>
      replace h := p_i_s h
      obtain ⟨x, r, rfl, h⟩ := h
      replace h := p_s1_s h
      obtain ⟨hk, h⟩ := h
      exact lv_istore hx hb hd a6 (by rw [a2] at hk; exact hk) rfl (fun arr hl => h a1 (st1_len.trans a2) H locs cells slots arr a3 a4 a5 (st1_has hl) a7 a8)
    | lstore_n k =>
      replace h := p_l_s h
      obtain ⟨x, r, rfl, h⟩ := h
      replace h := p_s2_s h
      obtain ⟨hk, h⟩ := h
      exact lv_lstore_n hx hb hd rfl a6 (by rw [a2] at hk; exact hk) rfl (fun arr hl => h a1 (st2_len.trans a2) H locs cells slots arr a3 a4 a5 (st2_has hl) a7 a8)
    | lstore k =>
      replace h := p_l_s h
      obtain ⟨x, r, rfl, h⟩ := h
      replace h := p_s2_s h
      obtain ⟨hk, h⟩ := h
      exact lv_lstore hx hb hd a6 (by rw [a2] at hk; exact hk) rfl (fun arr hl => h a1 (st2_len.trans a2) H locs cells slots arr a3 a4 a5 (st2_has hl) a7 a8)
    | astore_n k =>
      replace h := p_r_s h
      obtain ⟨x, r, rfl, h⟩ := h
      replace h := p_s1_s h
      obtain ⟨hk, h⟩ := h
      exact lv_astore_n hx hb hd rfl a6 (by rw [a2] at hk; exact hk) rfl (fun arr hl => h a1 (st1_len.trans a2) H locs cells slots arr a3 a4 a5 (st1_has hl) a7 a8)
    | astore k =>
      replace h := p_r_s h
      obtain ⟨x, r, rfl, h⟩ := h
      replace h := p_s1_s h
      obtain ⟨hk, h⟩ := h
      exact lv_astore hx hb hd a6 (by rw [a2] at hk; exact hk) rfl (fun arr hl => h a1 (st1_len.trans a2) H locs cells slots arr a3 a4 a5 (st1_has hl) a7 a8)
    | iinc k n =>
      replace h := g_i_s h
      obtain ⟨x, hk0, h⟩ := h
      replace h := p_s1_s h
      obtain ⟨hk, h⟩ := h
      have hm : (k, Value.int x) ∈ lva E 0 ls := lva_mem.mpr ⟨k, .int x, by omega, hk0, rfl, rfl⟩
      obtain ⟨d, hdd⟩ := List.getElem?_of_mem hm
      exact lv_iinc hx hb hd a6 hdd rfl (by rw [a2] at hk; exact hk) rfl (fun arr hl => h a1 (st1_len.trans a2) H locs cells slots arr a3 a4 a5 (st1_has hl) a7 a8)
    | iadd =>
      replace h := p_i_s h
      obtain ⟨y, r, rfl, h⟩ := h
      replace h := p_i_s h
      obtain ⟨x, r, rfl, h⟩ := h
      exact lv_iadd hx hb hd (h a1 a2 H locs cells slots arr a3 a4 a5 a6 a7 a8)
    | isub =>
      replace h := p_i_s h
      obtain ⟨y, r, rfl, h⟩ := h
      replace h := p_i_s h
      obtain ⟨x, r, rfl, h⟩ := h
      exact lv_isub hx hb hd (h a1 a2 H locs cells slots arr a3 a4 a5 a6 a7 a8)
    | imul =>
      replace h := p_i_s h
      obtain ⟨y, r, rfl, h⟩ := h
      replace h := p_i_s h
      obtain ⟨x, r, rfl, h⟩ := h
      exact lv_imul hx hb hd (h a1 a2 H locs cells slots arr a3 a4 a5 a6 a7 a8)
    | iand =>
      replace h := p_i_s h
      obtain ⟨y, r, rfl, h⟩ := h
      replace h := p_i_s h
      obtain ⟨x, r, rfl, h⟩ := h
      exact lv_iand hx hb hd (h a1 a2 H locs cells slots arr a3 a4 a5 a6 a7 a8)
    | ior =>
      replace h := p_i_s h
      obtain ⟨y, r, rfl, h⟩ := h
      replace h := p_i_s h
      obtain ⟨x, r, rfl, h⟩ := h
      exact lv_ior hx hb hd (h a1 a2 H locs cells slots arr a3 a4 a5 a6 a7 a8)
    | ladd =>
      replace h := p_l_s h
      obtain ⟨y, r, rfl, h⟩ := h
      replace h := p_l_s h
      obtain ⟨x, r, rfl, h⟩ := h
      exact lv_ladd hx hb hd (h a1 a2 H locs cells slots arr a3 a4 a5 a6 a7 a8)
    | lsub =>
      replace h := p_l_s h
      obtain ⟨y, r, rfl, h⟩ := h
      replace h := p_l_s h
      obtain ⟨x, r, rfl, h⟩ := h
      exact lv_lsub hx hb hd (h a1 a2 H locs cells slots arr a3 a4 a5 a6 a7 a8)
    | lmul =>
      replace h := p_l_s h
      obtain ⟨y, r, rfl, h⟩ := h
      replace h := p_l_s h
      obtain ⟨x, r, rfl, h⟩ := h
      exact lv_lmul hx hb hd (h a1 a2 H locs cells slots arr a3 a4 a5 a6 a7 a8)
    | land =>
      replace h := p_l_s h
      obtain ⟨y, r, rfl, h⟩ := h
      replace h := p_l_s h
      obtain ⟨x, r, rfl, h⟩ := h
      exact lv_land hx hb hd (h a1 a2 H locs cells slots arr a3 a4 a5 a6 a7 a8)
    | lor =>
      replace h := p_l_s h
      obtain ⟨y, r, rfl, h⟩ := h
      replace h := p_l_s h
      obtain ⟨x, r, rfl, h⟩ := h
      exact lv_lor hx hb hd (h a1 a2 H locs cells slots arr a3 a4 a5 a6 a7 a8)
    | lxor =>
      replace h := p_l_s h
      obtain ⟨y, r, rfl, h⟩ := h
      replace h := p_l_s h
      obtain ⟨x, r, rfl, h⟩ := h
      exact lv_lxor hx hb hd (h a1 a2 H locs cells slots arr a3 a4 a5 a6 a7 a8)
    | ldiv =>
      replace h := p_l_s h
      obtain ⟨y, r, rfl, h⟩ := h
      replace h := p_l_s h
      obtain ⟨x, r, rfl, hne, h⟩ := h
      exact lv_ldiv hx hb hd hne (h a1 a2 H locs cells slots arr a3 a4 a5 a6 a7 a8)
    | lrem =>
      replace h := p_l_s h
      obtain ⟨y, r, rfl, h⟩ := h
      replace h := p_l_s h
      obtain ⟨x, r, rfl, hne, h⟩ := h
      exact lv_lrem hx hb hd hne (h a1 a2 H locs cells slots arr a3 a4 a5 a6 a7 a8)
    | ineg =>
      replace h := p_i_s h
      obtain ⟨x, r, rfl, h⟩ := h
      exact lv_ineg hx hb hd (h a1 a2 H locs cells slots arr a3 a4 a5 a6 a7 a8)
    | lneg =>
      replace h := p_l_s h
      obtain ⟨x, r, rfl, h⟩ := h
      exact lv_lneg hx hb hd (h a1 a2 H locs cells slots arr a3 a4 a5 a6 a7 a8)
    | lshl =>
      replace h := p_i_s h
      obtain ⟨y, r, rfl, h⟩ := h
      replace h := p_l_s h
      obtain ⟨x, r, rfl, h⟩ := h
      exact lv_lshl hx hb hd rfl (h a1 a2 H locs cells slots arr a3 a4 a5 a6 a7 a8)
    | i2l =>
      replace h := p_i_s h
      obtain ⟨x, r, rfl, h⟩ := h
      exact lv_i2l hx hb hd rfl (h a1 a2 H locs cells slots arr a3 a4 a5 a6 a7 a8)
    | l2i =>
      replace h := p_l_s h
      obtain ⟨x, r, rfl, h⟩ := h
      exact lv_l2i hx hb hd rfl (h a1 a2 H locs cells slots arr a3 a4 a5 a6 a7 a8)
    | i2b =>
      replace h := p_i_s h
      obtain ⟨x, r, rfl, h⟩ := h
      exact lv_i2b hx hb hd rfl (h a1 a2 H locs cells slots arr a3 a4 a5 a6 a7 a8)
    | i2s =>
      replace h := p_i_s h
      obtain ⟨x, r, rfl, h⟩ := h
      exact lv_i2s hx hb hd rfl (h a1 a2 H locs cells slots arr a3 a4 a5 a6 a7 a8)
    | lcmp =>
      replace h := p_l_s h
      obtain ⟨y, r, rfl, h⟩ := h
      replace h := p_l_s h
      obtain ⟨x, r, rfl, h⟩ := h
      exact W.lcmp hx hb hd (h a1 a2 H locs cells slots arr a3 a4 a5 a6 a7 a8)
    | dup =>
      replace h : p_d st (fun v r => PW E p l e R s m args below meth c (MQ below Qc args s R.cells R.slots (e_A E)) nL Ne (pc + 1) ls (v :: v :: r) N lg it rf) := h
      replace h := p_d_s h
      obtain ⟨v, r, rfl, hv, h⟩ := h
      exact lv_dup hx hb hd ((cv_cat E v).trans hv) (h a1 a2 H locs cells slots arr a3 a4 a5 a6 a7 a8)
    | ifCond k o =>
      replace h := p_i_s h
      obtain ⟨x, r, rfl, h⟩ := h
      obtain ⟨t, ht, h⟩ := tg_s h
      cases k
      · exact lv_if_eq hx hb hd ht (fun z => h.1 z a1 a2 H locs cells slots arr a3 a4 a5 a6 a7 a8) (fun z => h.2 z a1 a2 H locs cells slots arr a3 a4 a5 a6 a7 a8)
      · exact lv_if_ne hx hb hd ht (fun z => h.1 z a1 a2 H locs cells slots arr a3 a4 a5 a6 a7 a8) (fun z => h.2 z a1 a2 H locs cells slots arr a3 a4 a5 a6 a7 a8)
      · exact lv_if_lt hx hb hd ht (fun z => h.1 z a1 a2 H locs cells slots arr a3 a4 a5 a6 a7 a8) (fun z => h.2 z a1 a2 H locs cells slots arr a3 a4 a5 a6 a7 a8)
      · exact lv_if_ge hx hb hd ht (fun z => h.1 z a1 a2 H locs cells slots arr a3 a4 a5 a6 a7 a8) (fun z => h.2 z a1 a2 H locs cells slots arr a3 a4 a5 a6 a7 a8)
      · exact lv_if_gt hx hb hd ht (fun z => h.1 z a1 a2 H locs cells slots arr a3 a4 a5 a6 a7 a8) (fun z => h.2 z a1 a2 H locs cells slots arr a3 a4 a5 a6 a7 a8)
      · exact lv_if_le hx hb hd ht (fun z => h.1 z a1 a2 H locs cells slots arr a3 a4 a5 a6 a7 a8) (fun z => h.2 z a1 a2 H locs cells slots arr a3 a4 a5 a6 a7 a8)
    | if_icmp k o =>
      replace h := p_i_s h
      obtain ⟨y, r, rfl, h⟩ := h
      replace h := p_i_s h
      obtain ⟨x, r, rfl, h⟩ := h
      obtain ⟨t, ht, h⟩ := tg_s h
      cases k
      · exact lv_icmp_eq hx hb hd ht (fun z => h.1 z a1 a2 H locs cells slots arr a3 a4 a5 a6 a7 a8) (fun z => h.2 z a1 a2 H locs cells slots arr a3 a4 a5 a6 a7 a8)
      · exact lv_icmp_ne hx hb hd ht (fun z => h.1 z a1 a2 H locs cells slots arr a3 a4 a5 a6 a7 a8) (fun z => h.2 z a1 a2 H locs cells slots arr a3 a4 a5 a6 a7 a8)
      · exact lv_icmp_lt hx hb hd ht (fun z => h.1 z a1 a2 H locs cells slots arr a3 a4 a5 a6 a7 a8) (fun z => h.2 z a1 a2 H locs cells slots arr a3 a4 a5 a6 a7 a8)
      · exact lv_icmp_ge hx hb hd ht (fun z => h.1 z a1 a2 H locs cells slots arr a3 a4 a5 a6 a7 a8) (fun z => h.2 z a1 a2 H locs cells slots arr a3 a4 a5 a6 a7 a8)
      · exact lv_icmp_gt hx hb hd ht (fun z => h.1 z a1 a2 H locs cells slots arr a3 a4 a5 a6 a7 a8) (fun z => h.2 z a1 a2 H locs cells slots arr a3 a4 a5 a6 a7 a8)
      · exact lv_icmp_le hx hb hd ht (fun z => h.1 z a1 a2 H locs cells slots arr a3 a4 a5 a6 a7 a8) (fun z => h.2 z a1 a2 H locs cells slots arr a3 a4 a5 a6 a7 a8)
    | goto o =>
      obtain ⟨t, ht, h⟩ := tg_s h
      exact lv_goto hx hb hd ht (h a1 a2 H locs cells slots arr a3 a4 a5 a6 a7 a8)
    | getfield idx =>
      obtain ⟨q, hq1, h⟩ := o_o_s h
      replace h := p_r_s h
      obtain ⟨j, r, rfl, hO, h⟩ := h
      obtain ⟨t, ht, h⟩ := o_o_s h
      exact so_getf hx hb hown hts hK hd (hF _ (xlk_mem hq1)) hO ht a4 (h a1 a2 H locs cells slots arr a3 a4 a5 a6 a7 a8)
    | putfield idx =>
      obtain ⟨q, hq1, h⟩ := o_o_s h
      cases st with
      | nil => exact h.elim
      | cons v r =>
        replace h := p_r_s h
        obtain ⟨j, r, rfl, hO, h⟩ := h
        obtain ⟨fin, hfin, h⟩ := o_o_s h
        obtain ⟨hb1, h⟩ := isB_s h
        obtain ⟨t, ht, h⟩ := o_o_s h
        obtain ⟨lg2, it2, rf2, h, w1, w2, w3, w4⟩ := wr_s h
        exact so_putf hx hb hown hts hK hd (hF _ (xlk_mem hq1)) hO ht hfin (fun z => hI _ (by rw [z] at hb1; exact hb1)) a3 a4 a5 w1 w2 w3 w4 (fun H1 locs1 z1 z2 z3 => h a1 a2 H1 locs1 cells slots arr z1 z2 z3 a6 a7 a8)
    | iaload =>
      replace h := p_i_s h
      obtain ⟨i, r, rfl, h⟩ := h
      replace h := p_r_s h
      obtain ⟨j, r, rfl, hO, hin, h⟩ := h
      exact va_iald hx hb hK.1 a4 j 1 ((WL_get hO.1).trans (by unfold cellv; rw [hO.2]; rfl)) (tyl_get (by decide)) hin hd (h a1 a2 H locs cells slots arr a3 a4 a5 a6 a7 a8)
    | baload =>
      replace h := p_i_s h
      obtain ⟨i, r, rfl, h⟩ := h
      replace h := p_r_s h
      obtain ⟨j, r, rfl, hO, hin, h⟩ := h
      exact va_bald hx hb hK.1 a4 j 0 ((WL_get hO.1).trans (by unfold cellv; rw [hO.2]; rfl)) (tyl_get (by decide)) hin hd (h a1 a2 H locs cells slots arr a3 a4 a5 a6 a7 a8)
    | laload =>
      replace h := p_i_s h
      obtain ⟨i, r, rfl, h⟩ := h
      replace h := p_r_s h
      obtain ⟨j, r, rfl, hO, hin, h⟩ := h
      exact va_lald hx hb hK.1 a4 j 2 ((WL_get hO.1).trans (by unfold cellv; rw [hO.2]; rfl)) (tyl_get (by decide)) hin hd (h a1 a2 H locs cells slots arr a3 a4 a5 a6 a7 a8)
    | aaload =>
      replace h := p_i_s h
      obtain ⟨i, r, rfl, h⟩ := h
      replace h := p_r_s h
      obtain ⟨j, r, rfl, hO, hin, h⟩ := h
      obtain ⟨o1, o2, o3⟩ := hO
      have h2 : W p l e R s m args below meth c H locs cells slots (MQ below Qc args s R.cells R.slots (e_A E)) (F0 m (pc + 1) arr (va_rf ((rf j i.toNatClampNeg).map fun q => e_b E + q) :: r.map (cv E))) := by
        rw [← cv_rfv]
        exact h a1 a2 H locs cells slots arr a3 a4 a5 a6 a7 a8
      rcases (show (LAY j).1 = 13 ∨ (LAY j).1 = 14 ∨ (LAY j).1 = 15 by omega) with e1 | e1 | e1
      · exact va_aldq (f := fun i => (rf j i).map fun q => e_b E + q) hx hb hK.1 a4 j 3 ((WL_get o1).trans (by unfold cellv; rw [e1]; rfl)) (tyl_get (by decide)) hin hd h2
      · exact va_aldq (f := fun i => (rf j i).map fun q => e_b E + q) hx hb hK.1 a4 j 4 ((WL_get o1).trans (by unfold cellv; rw [e1]; rfl)) (tyl_get (by decide)) hin hd h2
      · exact va_aldq (f := fun i => (rf j i).map fun q => e_b E + q) hx hb hK.1 a4 j 5 ((WL_get o1).trans (by unfold cellv; rw [e1]; rfl)) (tyl_get (by decide)) hin hd h2
    | iastore =>
      replace h := p_i_s h
      obtain ⟨x, r, rfl, h⟩ := h
      replace h := p_i_s h
      obtain ⟨i, r, rfl, h⟩ := h
      replace h := p_r_s h
      obtain ⟨j, r, rfl, hO, hin, h⟩ := h
      have hcell : H[e_b E + j]? = some (vp_cell (e_cy E 1) ((LAY j).2, .inl (it j))) := by
        have hh := a4 j _ (WL_get hO.1)
        unfold cellv at hh
        rw [hO.2] at hh
        exact hh
      refine W.iast hx hb hcell ((hK.1.2 1 _ (tyl_get (by decide))).1 (LAY j).2 (fun z => .int (it j z))) (fun q => by cases q) (by show ¬ (i < 0 ∨ (arrV _ _ _).slots.size ≤ _); rw [arrV_size]; exact hin) rfl rfl hd fun H1 e1 z oq => ?_
      refine h a1 a2 H1 _ cells slots arr (by rw [z, a3]) ?_ (a5.put z oq (Nat.le_add_right _ _)) a6 a7 a8
      have hset := a4.set (p := j) (e := cellv E lg (u2 it j i.toNatClampNeg x) rf j) WL_D (WL_get hO.1) ?_ oq
      · rw [WL_set (lg' := lg) (it' := (u2 it j i.toNatClampNeg x)) (rf' := rf) hO.1 rfl (fun q hq => ⟨rfl, u2_row hq, rfl⟩)] at hset
        exact hset
      · unfold cellv
        rw [hO.2]
        show H1[e_b E + j]? = some (vp_cell _ _)
        rw [e1]
        rw [vp_cell_i, vp_cell_i, arrV_store]
        congr 2
        funext b
        by_cases hbq : b = i.toNatClampNeg
        · subst hbq
          simp [updV, u2, narrow]
        · simp [updV, u2, hbq]
    | bastore =>
      replace h := p_i_s h
      obtain ⟨x, r, rfl, h⟩ := h
      replace h := p_i_s h
      obtain ⟨i, r, rfl, h⟩ := h
      replace h := p_r_s h
      obtain ⟨j, r, rfl, hO, hin, h⟩ := h
      have hcell : H[e_b E + j]? = some (vp_cell (e_cy E 0) ((LAY j).2, .inl (it j))) := by
        have hh := a4 j _ (WL_get hO.1)
        unfold cellv at hh
        rw [hO.2] at hh
        exact hh
      refine W.bast hx hb hcell ((hK.1.2 0 _ (tyl_get (by decide))).1 (LAY j).2 (fun z => .int (it j z))) (fun q => by cases q) (by show ¬ (i < 0 ∨ (arrV _ _ _).slots.size ≤ _); rw [arrV_size]; exact hin) rfl rfl hd fun H1 e1 z oq => ?_
      refine h a1 a2 H1 _ cells slots arr (by rw [z, a3]) ?_ (a5.put z oq (Nat.le_add_right _ _)) a6 a7 a8
      have hset := a4.set (p := j) (e := cellv E lg (u2 it j i.toNatClampNeg x.toInt8.toInt32) rf j) WL_D (WL_get hO.1) ?_ oq
      · rw [WL_set (lg' := lg) (it' := (u2 it j i.toNatClampNeg x.toInt8.toInt32)) (rf' := rf) hO.1 rfl (fun q hq => ⟨rfl, u2_row hq, rfl⟩)] at hset
        exact hset
      · unfold cellv
        rw [hO.2]
        show H1[e_b E + j]? = some (vp_cell _ _)
        rw [e1]
        rw [vp_cell_i, vp_cell_i, arrV_store]
        congr 2
        funext b
        by_cases hbq : b = i.toNatClampNeg
        · subst hbq
          simp [updV, u2, narrow]
        · simp [updV, u2, hbq]
    | lastore =>
      replace h := p_l_s h
      obtain ⟨x, r, rfl, h⟩ := h
      replace h := p_i_s h
      obtain ⟨i, r, rfl, h⟩ := h
      replace h := p_r_s h
      obtain ⟨j, r, rfl, hO, hin, h⟩ := h
      have hcell : H[e_b E + j]? = some (vp_cell (e_cy E 2) ((LAY j).2, .inr (.inl (lg j)))) := by
        have hh := a4 j _ (WL_get hO.1)
        unfold cellv at hh
        rw [hO.2] at hh
        exact hh
      refine W.last hx hb hcell ((hK.1.2 2 _ (tyl_get (by decide))).1 (LAY j).2 (fun z => .long (lg j z))) (fun q => by cases q) (by show ¬ (i < 0 ∨ (arrV _ _ _).slots.size ≤ _); rw [arrV_size]; exact hin) rfl rfl hd fun H1 e1 z oq => ?_
      refine h a1 a2 H1 _ cells slots arr (by rw [z, a3]) ?_ (a5.put z oq (Nat.le_add_right _ _)) a6 a7 a8
      have hset := a4.set (p := j) (e := cellv E (u2 lg j i.toNatClampNeg x) it rf j) WL_D (WL_get hO.1) ?_ oq
      · rw [WL_set (lg' := (u2 lg j i.toNatClampNeg x)) (it' := it) (rf' := rf) hO.1 rfl (fun q hq => ⟨u2_row hq, rfl, rfl⟩)] at hset
        exact hset
      · unfold cellv
        rw [hO.2]
        show H1[e_b E + j]? = some (vp_cell _ _)
        rw [e1]
        rw [vp_cell_l, vp_cell_l, arrV_store]
        congr 2
        funext b
        by_cases hbq : b = i.toNatClampNeg
        · subst hbq
          simp [updV, u2, narrow]
        · simp [updV, u2, hbq]
    | aastore =>
      replace h := p_r_s h
      obtain ⟨x, r, rfl, h⟩ := h
      replace h := p_i_s h
      obtain ⟨i, r, rfl, h⟩ := h
      replace h := p_r_s h
      obtain ⟨j, r, rfl, hO, hin, h⟩ := h
      obtain ⟨o1, o2, o3, o4, o5⟩ := hO
      have hci : ∃ ci k, ci < 10 ∧ (LAY x).1 = ci ∧ k < 6 ∧ cellv E lg it rf j = .inl (e_cy E k, (LAY j).2, .inr (.inr (.inr (.inr fun i => (rf j i).map fun q => e_b E + q)))) ∧ (∀ rf2 : RFt, cellv E lg it rf2 j = .inl (e_cy E k, (LAY j).2, .inr (.inr (.inr (.inr fun i => (rf2 j i).map fun q => e_b E + q))))) ∧ (tyl E)[k]? = some (e_cy E k, .object (clr ci).1) := by
        unfold ako at o3
        split at o3
        · rename_i hx1
          exact ⟨1, 3, by decide, hx1, by decide, by unfold cellv; rw [← o3]; rfl, fun rf2 => by unfold cellv; rw [← o3]; rfl, rfl⟩
        · rename_i hx1
          exact ⟨3, 4, by decide, hx1, by decide, by unfold cellv; rw [← o3]; rfl, fun rf2 => by unfold cellv; rw [← o3]; rfl, rfl⟩
        · rename_i hx1
          exact ⟨6, 5, by decide, hx1, by decide, by unfold cellv; rw [← o3]; rfl, fun rf2 => by unfold cellv; rw [← o3]; rfl, rfl⟩
        · omega
      obtain ⟨ci, k, hc10, hLx, hk6, hcj, hcj2, htl⟩ := hci
      have hlt : i.toNatClampNeg < (LAY j).2 := Nat.not_le.mp fun q => hin (Or.inr q)
      have h0 : ¬ i < 0 := fun q => hin (Or.inl q)
      have hvx := (WL_get (E := E) (lg := lg) (it := it) (rf := rf) o2).trans (by rw [cell_obj hLx hc10])
      obtain ⟨r2, hr2, cellV, g1, g2, g3, -⟩ := a4 x _ hvx
      have hcls := (hK.1.1 ci _ (cl_get hc10)).2
      obtain ⟨kA, comp, k1, k2, k3, -⟩ := (hK.1.2 k _ htl).2
      have hcomp : comp = (e_D E).1 ci := Option.some.inj (k3.symm.trans hcls.1)
      subst hcomp
      obtain ⟨kC, hkC, -⟩ := hcls.2
      have hcell := a4 j _ ((WL_get o1).trans (by rw [hcj]))
      refine W.aast hx hb hcell (fun q h => by cases h) (fun h => by cases h) k1 k2 rfl hkC ⟨h0, by show _ < (arrV _ _ _).slots.size; rw [arrV_size]; exact hlt⟩ g1 (fun q h => by rw [g3] at h; cases h) (by rw [g2]; exact hkC) (by rw [g2]; exact va_assign hcls) rfl rfl hd fun H1 e1 z oq => ?_
      refine h a1 a2 H1 _ cells slots arr (by rw [z, a3]) ?_ (a5.put z oq (Nat.le_add_right _ _)) a6 a7 a8
      have hset := a4.set (p := j) (e := cellv E lg it (u2 rf j i.toNatClampNeg (some x)) j) WL_D (WL_get o1) ?_ oq
      · rw [WL_set (lg' := lg) (it' := it) (rf' := u2 rf j i.toNatClampNeg (some x)) o1 rfl (fun q hq => ⟨rfl, rfl, u2_row hq⟩)] at hset
        exact hset
      · rw [hcj2]
        show H1[e_b E + j]? = some (vp_cell _ _)
        rw [e1]
        rw [vp_cell_q, vp_cell_q, arrV_store]
        congr 2
        funext b
        by_cases hbq : b = i.toNatClampNeg
        · subst hbq
          simp [updV, u2, va_rf]
        · simp [updV, u2, hbq]
    | arraylength =>
      replace h := p_r_s h
      obtain ⟨j, r, rfl, hO, h⟩ := h
      obtain ⟨o1, o2, o3⟩ := hO
      have hl6 : ∃ (k : Nat) (ty : FieldType) (f : _), (tyl E)[k]? = some (e_cy E k, ty) ∧ cellv E lg it rf j = .inl (e_cy E k, (LAY j).2, f) := by
        rcases (show (LAY j).1 = 10 ∨ (LAY j).1 = 11 ∨ (LAY j).1 = 12 ∨ (LAY j).1 = 13 ∨ (LAY j).1 = 14 ∨ (LAY j).1 = 15 by omega) with e1 | e1 | e1 | e1 | e1 | e1
        · exact ⟨0, _, _, rfl, by unfold cellv; rw [e1]; rfl⟩
        · exact ⟨1, _, _, rfl, by unfold cellv; rw [e1]; rfl⟩
        · exact ⟨2, _, _, rfl, by unfold cellv; rw [e1]; rfl⟩
        · exact ⟨3, _, _, rfl, by unfold cellv; rw [e1]; rfl⟩
        · exact ⟨4, _, _, rfl, by unfold cellv; rw [e1]; rfl⟩
        · exact ⟨5, _, _, rfl, by unfold cellv; rw [e1]; rfl⟩
      obtain ⟨k, ty, f, htl, hce⟩ := hl6
      exact va_alen (x := ((LAY j).2, f)) hx hb hK.1 a4 j k ((WL_get o1).trans (by rw [hce])) htl rfl hd (h a1 a2 H locs cells slots arr a3 a4 a5 a6 a7 a8)
    | new idx =>
      obtain ⟨ci, hq1, ⟨hN, hL⟩, h⟩ := o_o_s h
      obtain ⟨c1, c2⟩ := hC _ (xlk_mem hq1)
      exact so_new hx hb hown hts hK hbs hd c1 c2 hL a3 a4 a5 (by omega) (by omega) (fun H1 z1 z2 z3 => h (by omega) a2 H1 locs _ _ arr z1 z2 z3 a6 (by omega) (by omega))
    | newarray t =>
      replace h := p_i_s h
      obtain ⟨x, r, rfl, ⟨hN, hx0, hL⟩, h⟩ := h
      exact so_arr hx hb hts hK hbs hd hx0 hL a3 a4 a5 (by omega) (by omega) (fun H1 z1 z2 z3 => h (by omega) a2 H1 locs _ _ arr z1 z2 z3 a6 (by omega) (by omega))
    | anewarray idx =>
      obtain ⟨ci, hq1, h⟩ := o_o_s h
      replace h := p_i_s h
      obtain ⟨x, r, rfl, ⟨hN, hx0, hL⟩, h⟩ := h
      obtain ⟨c1, c2⟩ := hC _ (xlk_mem hq1)
      exact so_anew hx hb hown hts hK hbs hd c1 c2 hx0 hL a3 a4 a5 (by omega) (by omega) (fun H1 z1 z2 z3 => h (by omega) a2 H1 locs _ _ arr z1 z2 z3 a6 (by omega) (by omega))
    | invokevirtual idx =>
      exact call 0 idx pc ls st N lg it rf hd h a1 a2 H locs cells slots arr a3 a4 a5 a6 a7 a8
    | invokestatic idx =>
      exact call 1 idx pc ls st N lg it rf hd h a1 a2 H locs cells slots arr a3 a4 a5 a6 a7 a8
    | invokespecial idx =>
      exact call 2 idx pc ls st N lg it rf hd h a1 a2 H locs cells slots arr a3 a4 a5 a6 a7 a8
    | ireturn =>
      replace h := p_i_s h
      obtain ⟨x, r, rfl, rfl, rfl, h⟩ := h
      rcases ret_i_s h with ⟨hrt, h⟩ | ⟨hrt, hx1, h⟩
      · refine wid a7 a8 ?_
        exact W.iret hx hb (hr.trans hrt) (fun t ht hW => hq _ _ _ _ t h (by rw [ht]; exact a3) (by rw [ht]; exact a4) hW (a5.F ht)) a5.2.2 hd hlocks
      · refine wid a7 a8 ?_
        exact W.zret hx hb (hr.trans hrt) (by show Value.int (x &&& 1) = _; rw [hx1]) (fun t ht hW => hq _ _ _ _ t h (by rw [ht]; exact a3) (by rw [ht]; exact a4) hW (a5.F ht)) a5.2.2 hd hlocks
    | lreturn =>
      replace h := p_l_s h
      obtain ⟨x, r, rfl, rfl, rfl, h⟩ := h
      replace h := ret_l_s h
      obtain ⟨hrt, h⟩ := h
      refine wid a7 a8 ?_
      exact W.lret hx hb (hr.trans hrt) (fun t ht hW => hq _ _ _ _ t h (by rw [ht]; exact a3) (by rw [ht]; exact a4) hW (a5.F ht)) a5.2.2 hd hlocks
    | areturn =>
      replace h := p_r_s h
      obtain ⟨x, r, rfl, rfl, rfl, h⟩ := h
      replace h := ret_a_s h
      obtain ⟨y, hrt, h⟩ := h
      refine wid a7 a8 ?_
      exact W.aret hx hb (hr.trans hrt) (Or.inl ⟨_, rfl⟩) (Or.inr ⟨_, rfl⟩) (fun t ht hW => hq _ _ _ _ t h (by rw [ht]; exact a3) (by rw [ht]; exact a4) hW (a5.F ht)) a5.2.2 hd hlocks
    | return_ =>
      obtain ⟨rfl, rfl, h⟩ := h
      replace h := ret_v_s h
      obtain ⟨hrt, h⟩ := h
      refine wid a7 a8 ?_
      exact W.vret hx hb (hr.trans hrt) (fun t ht hW => hq _ _ _ _ t h (by rw [ht]; exact a3) (by rw [ht]; exact a4) hW (a5.F ht)) a5.2.2 hd hlocks
    | tableswitch d lo hi2 offs => exact tsw 1 pc d lo hi2 offs ls st N lg it rf hd h a1 a2 H locs cells slots arr a3 a4 a5 a6 a7 a8
    | lookupswitch d ps => exact lsw 1 pc d ps ls st N lg it rf hd h a1 a2 H locs cells slots arr a3 a4 a5 a6 a7 a8
    | _ => exact h.elim
  · intro pc n i ls st N lg it rf hd h a1 a2 H locs cells slots arr a3 a4 a5 a6 a7 a8
    obtain ⟨hi, h⟩ := isB_s h
    cases i with
    | tableswitch d lo hi2 offs => exact tsw n pc d lo hi2 offs ls st N lg it rf hd h a1 a2 H locs cells slots arr a3 a4 a5 a6 a7 a8
    | lookupswitch d ps => exact lsw n pc d ps ls st N lg it rf hd h a1 a2 H locs cells slots arr a3 a4 a5 a6 a7 a8
    | _ => cases hi
end
section
/-! CONTRACTS: what a method does, from what its body was shown to do; and the calls of it -/
def WD (E : Ev) (N : Nat) (lg : LGt) (it : ITt) (rf : RFt) (U : State) : Prop := U.heap.size = e_b E + N ∧ va_P (e_D E) vwCl (WL E N lg it rf) U.heap ∧ KW E U
def CQ (E : Ev) (N : Nat) (Q : Post) : Array Value → State → Outcome → State → Prop := fun _ st oc t => (∃ (r : Option Value) (lg : LGt) (it : ITt) (rf : RFt), oc = .returned (r.map (cv E)) ∧ Q r lg it rf ∧ t.heap.size = e_b E + N ∧ va_P (e_D E) vwCl (WL E N lg it rf) t.heap) ∧ va_F (e_A E) st t
def wsY (y : MethodName) (cc : ByteArray) (nL : Nat) (ret : Option FieldType) : List Cond := .code y cc nL ret :: OM
def CT (E : Ev) (l : Launch) (y : MethodName) (ws : List Cond) (rm : Room) (mc : Nat) (sp : Spc) : Prop :=
  rm.cells = mc ∧ rm.slots = 400 * mc ∧ ∀ (as : List Value) (N : Nat) (lg : LGt) (it : ITt) (rf : RFt) (Q : Post), sp as N lg it rf Q → Met l y ws rm (va_Pc (as.map (cv E)) (WD E N lg it rf)) (CQ E (N + mc) Q) mc (400 * mc) (e_A E)
theorem lflat_mem {E : Ev} : ∀ {as : List Value} {i k : Nat} {v : Value}, (lflat as)[k]? = some v → isU v = false → (i + k, cv E v) ∈ lv_args i (as.map (cv E))
  | [], i, k, v, h, _ => by simp [lflat] at h
  | a :: t, i, k, v, h, hu => by
    unfold lflat at h
    show _ ∈ (i, cv E a) :: lv_args (if (cv E a).category = 2 then i + 2 else i + 1) (t.map (cv E))
    cases hb : Nat.beq a.category 2 with
    | true =>
      have hc := Nat.eq_of_beq_eq_true hb
      rw [hb, cond_true] at h
      rw [cv_cat, if_pos hc]
      match k with
      | 0 =>
        simp only [List.getElem?_cons_zero, Option.some.injEq] at h
        subst h
        exact List.mem_cons_self
      | 1 =>
        simp only [List.getElem?_cons_succ, List.getElem?_cons_zero, Option.some.injEq] at h
        subst h
        cases hu
      | k + 2 =>
        simp only [List.getElem?_cons_succ] at h
        have := lflat_mem (E := E) (i := i + 2) h hu
        rw [show i + (k + 2) = i + 2 + k by omega]
        exact List.mem_cons_of_mem _ this
    | false =>
      have hc : ¬ a.category = 2 := fun q => by rw [show Nat.beq a.category 2 = true from by rw [q]; rfl] at hb; cases hb
      rw [hb, cond_false] at h
      rw [cv_cat, if_neg hc]
      match k with
      | 0 =>
        simp only [List.getElem?_cons_zero, Option.some.injEq] at h
        subst h
        exact List.mem_cons_self
      | k + 1 =>
        simp only [List.getElem?_cons_succ] at h
        have := lflat_mem (E := E) (i := i + 1) h hu
        rw [show i + (k + 1) = i + 1 + k by omega]
        exact List.mem_cons_of_mem _ this
theorem lflat_len {E : Ev} : ∀ {as : List Value}, (lg_sl (as.map (cv E))).length = (lflat as).length
  | [] => rfl
  | a :: t => by
    have ih := lflat_len (E := E) (as := t)
    unfold lflat
    rw [List.map_cons]
    unfold lg_sl at ih ⊢
    rw [List.flatMap_cons, cv_cat, List.length_append, ih]
    cases hb : Nat.beq a.category 2 with
    | true => rw [if_pos (Nat.eq_of_beq_eq_true hb), cond_true]; simp only [List.length_cons, List.length_nil]; omega
    | false =>
      rw [if_neg (fun q => by rw [show Nat.beq a.category 2 = true from by rw [q]; rfl] at hb; cases hb), cond_false]
      simp only [List.length_cons, List.length_nil]; omega
theorem lini_len {as : List Value} {nL : Nat} (h : (lflat as).length ≤ nL) : (lini as nL).length = nL := by
  unfold lini
  rw [List.length_append, List.length_replicate]
  omega
theorem lini_has {E : Ev} {as : List Value} {nL : Nat} {arr : Array Slot} (h : lv_has arr nL (lv_args 0 (as.map (cv E)))) : lv_has arr nL (lva E 0 (lini as nL)) := by
  refine ⟨h.1, h.2.1, fun q hq => h.2.2 q ?_⟩
  obtain ⟨k, w⟩ := q
  obtain ⟨d, v, e1, e2, e3, e4⟩ := lva_mem.mp hq
  have e1 : k = d := by omega
  subst e1
  unfold lini at e2
  by_cases hk : k < (lflat as).length
  · rw [List.getElem?_append_left hk] at e2
    have := lflat_mem (E := E) (i := 0) e2 e3
    rw [e4]
    simpa using this
  · rw [List.getElem?_append_right (by omega)] at e2
    have := List.eq_of_mem_replicate (List.mem_of_getElem? e2)
    subst this
    cases e3
theorem ct_of {E : Ev} {l : Launch} {y : MethodName} {own : String} {T : Tab} {cc : ByteArray} {nL mc : Nat} {rm : Room} {sp : Spc} (hy : plainName y.cls = true) (hcls : y.cls = own) (hI : ∀ ci, Nat.beq T.2.2.2.2.1 ci = true → y.name = "<init>" ∧ (clr ci).1 = own) (hrm : rm.cells = mc ∧ rm.slots = 400 * mc) (hT : TOK E l rm own T)
    (hb : ∀ (as : List Value) (N : Nat) (lg : LGt) (it : ITt) (rf : RFt) (Q : Post), sp as N lg it rf Q → Bd T cc nL mc as N lg it rf Q) : CT E l y (wsY y cc nL T.2.2.2.2.2) rm mc sp := by
  refine ⟨hrm.1, hrm.2, fun as N lg it rf Q hs => ?_⟩
  obtain ⟨hlen, hbody⟩ := hb as N lg it rf Q hs
  refine Met.ofW (cc := cc) (maxL := nL) (ret := T.2.2.2.2.2) hy rfl ?_
  intro p e s m args below meth c s₁ B hml hv
  obtain ⟨rfl, hz, hP, hK⟩ := hv
  have hts0 := atoms_spec (ws := wsY y cc nL T.2.2.2.2.2) B.pre
  have hts : ∀ w ∈ OM, w.before (as.map (cv E)).toArray s = true := fun w hw => hts0 w (List.mem_cons_of_mem _ hw)
  have hown : s.vm.findClass own = some m.cls := hcls ▸ findClass_of_methodNamed B.named
  have hname : meth.name = y.name := (name_of_methodNamed B.named B.method).1
  have hbs : e_b E ≤ s.heap.size := by omega
  have hS := sound (E := E) (l := l) (R := rm) (T := T) (Qp := Q) (Qc := CQ E (N + mc) Q) (nL := nL) (Ne := N + mc) (below := below) (e := e) B.exec B.bytes hml hown hts hK hbs B.notSynchronized B.returns (fun ci hc => by rw [hname]; exact hI ci hc) hT
    (fun r lg' it' rf' t hq z1 z2 _ z4 => ⟨⟨r, lg', it', rf', rfl, hq, z1, z2⟩, z4⟩)
  have hw := hbody _ hS.1 hS.2
  rw [lg_entry_eq]
  have hl := lv_entry (as.map (cv E)) (n := nL) (by rw [lflat_len]; exact hlen)
  have := hw (Nat.le_add_right _ _) (lini_len hlen) s.heap [] 0 0 _ hz hP va_S.rf (lini_has hl) (by omega) (by omega)
  rw [hrm.1, hrm.2] at this
  exact this
theorem om_goodIn {y : MethodName} {cc : ByteArray} {nL : Nat} {ret : Option FieldType} {L : List Cond} (hL : ∀ w ∈ L, w ∈ OM) (hc : Cond.code y cc nL ret ∈ OM) : GoodIn OM (L ++ wsY y cc nL ret) := by
  intro w hw
  have h : w ∈ OM := by
    rcases List.mem_append.mp hw with h | h
    · exact hL w h
    · rcases List.mem_cons.mp h with rfl | h
      · exact hc
      · exact h
  exact ⟨h, om_good h⟩
def MOK (y : MethodName) (n : Nat) : Prop := y.cls ≠ "java/lang/invoke/MethodHandle" ∧ y.cls ≠ "java/lang/invoke/VarHandle" ∧ (parseMethodDescriptor y.desc).map (fun d => d.parameters.length) = some n
theorem wd_blind {E : Ev} {N : Nat} {lg : LGt} {it : ITt} {rf : RFt} {av : List Value} : FrameBlind (va_Pc av (WD E N lg it rf)) := fun a U g mk q => by
  obtain ⟨q0, q1, qP, qK⟩ := q
  exact ⟨q0, q1, qP, KW.moved (u := U) (U := U.calling g mk a) (Vm.Alike.refl U.vm) qK⟩
section CK
variable {E : Ev} {l : Launch} {R : Room} {own : String} {idx : Nat} {y : MethodName} {cc : ByteArray} {nL na mc ci : Nat} {ret : Option FieldType} {rm : Room} {sp : Spc}
theorem ck_end {p : Program} {e : Env} {s : State} {m : MethodId} {args : Array Value} {below : List Frame} {meth : Method} {c : Code} {Qm : State → Prop} {H : Heap} {locs : List Loc} {cells slots N : Nat} {pc : Nat} {arr : Array Slot} {rest stk : List Value} {K : Post} {a : Array Value}
    (hr : va_Run p l e R s m args below meth c H locs cells slots mc (400 * mc) (F0 m pc arr stk) (rest.map (cv E)) (CQ E (N + mc) K a) (e_A E)) (hz : H.size = e_b E + N) (hS : va_S (e_A E) s.heap H locs)
    (kk : ∀ (r : Option Value) (lg' : LGt) (it' : ITt) (rf' : RFt) (H' : Heap) (locs' : List Loc), K r lg' it' rf' → H'.size = e_b E + (N + mc) → va_P (e_D E) vwCl (WL E (N + mc) lg' it' rf') H' → va_S (e_A E) s.heap H' locs' →
        W p l e R s m args below meth c H' locs' (cells + mc) (slots + 400 * mc) Qm (F0 m (pc + 3) arr ((r.toList ++ rest).map (cv E)))) : W p l e R s m args below meth c H locs cells slots Qm (F0 m pc arr stk) := by
  intro T hT X
  obtain ⟨v, st₀, t, T', L, h0, X', hL, e1, e2, ⟨⟨r, lg', it', rf', hv, hk, hz', hP'⟩, hF⟩, st⟩ := hr T hT X
  have hv : v = r.map (cv E) := by cases hv; rfl
  subst hv
  have hF1 : H.size ≤ t.heap.size ∧ ∀ q : Nat, q < H.size → ¬ e_A E q → t.heap[q]? = H[q]? := by rw [← h0]; exact hF
  obtain ⟨t2, a1, b1⟩ := kk r lg' it' rf' T'.heap (locs ++ L) hk (by rw [e1]; exact hz') (by rw [e1]; exact hP') ⟨Nat.le_trans hS.1 (by rw [e1]; exact hF1.1), fun q z1 z2 => by rw [e1, hF1.2 q (Nat.lt_of_lt_of_le z1 hS.1) z2]; exact hS.2.1 q z1 z2, fun q hq => by
      rcases List.mem_append.mp hq with h | h
      · exact hS.2.2 q h
      · exact hL q h⟩ T' rfl X'
  refine ⟨t2, st t2 ?_, b1⟩
  have e : (r.toList ++ rest).map (cv E) = (r.map (cv E)).toList ++ rest.map (cv E) := by cases r <;> simp
  rw [e] at a1
  exact a1
theorem ctgs_cv {rest : List Value} (h : ctgs rest ≤ 8) : ((rest.map (cv E)).map fun v => v.category).sum ≤ 8 := by
  rw [List.map_map]
  have : ((fun v => v.category) ∘ cv E) = fun v => v.category := by funext v; exact cv_cat E v
  rw [this]
  exact h
theorem cok_V (ct : CT E l y (wsY y cc nL ret) rm mc sp) (hci : ci < 10) (hyc : y.cls = (clr ci).1) (h1 : Cond.methodLink own idx y ∈ OM) (h2 : Cond.instanceMethod y ∈ OM) (h3 : Cond.selects (clr ci).1 y y ∈ OM) (h4 : Cond.code y cc nL ret ∈ OM) (hd : MOK y na) (hR : rm.frames + 1 ≤ R.frames ∧ 8 + (nL + 11) + rm.locals ≤ R.locals) :
    COK E l R own idx (0, na + 1, ci, mc, sp) := by
  intro p e s m args below meth c cc' nL' Qm hx hb hml hown hts hK hbs pc arr H locs cells slots as rest N lg it rf K hdec harr hlen hrec hz hP hS hct hc1 hc2 hsp kk
  obtain ⟨j, t, rfl, hO⟩ := hrec
  obtain ⟨hrc, hrs, hM⟩ := ct
  have hg : GoodIn OM (wsV own idx (clr ci).1 y (wsY y cc nL ret)) := om_goodIn (L := [.methodLink own idx y, .instanceMethod y, .selects (clr ci).1 y y, .initialized (clr ci).1]) (fun w hw => by
    simp only [List.mem_cons, List.not_mem_nil, or_false] at hw
    rcases hw with rfl | rfl | rfl | rfl
    · exact h1
    · exact h2
    · exact h3
    · exact (cl_ins hci).2) h4
  have e : ((Value.ref j :: t).reverse ++ rest).map (cv E) = (t.map (cv E)).reverse ++ .ref (e_b E + j) :: rest.map (cv E) := by simp [cv]
  rw [e]
  refine ck_end (N := N) (K := K) (va_runV (As := t.map (cv E)) (rest := rest.map (cv E)) (b := e_b E + j) ⟨hx, hb, hml, hown, hts⟩ (hM _ N lg it rf K hsp) (cwV na hts hg rfl hrc hrs ⟨hyc, hd.1, hd.2.1, hd.2.2⟩ hR) ⟨wd_blind, ?_, fun U hU hW => ⟨rfl, by rw [hU]; exact hz, by rw [hU]; exact hP, KW.moved hW.alike hK⟩⟩ rfl (by rw [List.length_map]; simpa using hlen) harr rfl (lv_room (ctgs_cv hct)) hdec ⟨hc1, hc2⟩) hz hS kk
  exact va_recv (q0 := j) hK.1 hP (cl_get hci) ((WL_get hO.1).trans (by rw [cell_obj hO.2 hci]))
theorem cok_S (ct : CT E l y (wsY y cc nL ret) rm mc sp) (h0 : Cond.initialized y.cls ∈ OM) (h1 : Cond.methodLink own idx y ∈ OM) (h2 : Cond.static y ∈ OM) (h4 : Cond.code y cc nL ret ∈ OM) (hd : MOK y na) (hR : rm.frames + 1 ≤ R.frames ∧ 8 + (nL + 11) + rm.locals ≤ R.locals) :
    COK E l R own idx (1, na, ci, mc, sp) := by
  intro p e s m args below meth c cc' nL' Qm hx hb hml hown hts hK hbs pc arr H locs cells slots as rest N lg it rf K hdec harr hlen hrec hz hP hS hct hc1 hc2 hsp kk
  obtain ⟨hrc, hrs, hM⟩ := ct
  have hg : GoodIn OM (va_wsS own idx y (wsY y cc nL ret)) := om_goodIn (L := [.methodLink own idx y, .static y, .initialized y.cls]) (fun w hw => by
    simp only [List.mem_cons, List.not_mem_nil, or_false] at hw
    rcases hw with rfl | rfl | rfl
    · exact h1
    · exact h2
    · exact h0) h4
  have e : (as.reverse ++ rest).map (cv E) = (as.map (cv E)).reverse ++ rest.map (cv E) := by simp
  rw [e]
  exact ck_end (N := N) (K := K) (va_runS (As := as.map (cv E)) (rest := rest.map (cv E)) ⟨hx, hb, hml, hown, hts⟩ (hM _ N lg it rf K hsp) (va_cwS na hts hg rfl hrc hrs ⟨hd.1, hd.2.1, hd.2.2⟩ hR) ⟨wd_blind, fun U hU hW => ⟨rfl, by rw [hU]; exact hz, by rw [hU]; exact hP, KW.moved hW.alike hK⟩⟩ rfl (by rw [List.length_map]; exact hlen) harr rfl (lv_room (ctgs_cv hct)) hdec ⟨hc1, hc2⟩) hz hS kk
theorem cok_I (ct : CT E l y (wsY y cc nL none) rm mc (fun as N lg it rf K => ∃ j t, as = .ref j :: t ∧ sp as N lg it rf K)) (hyn : y.name = "<init>") (h0 : Cond.initialized y.cls ∈ OM) (h1 : Cond.methodLink own idx y ∈ OM) (h2 : Cond.instanceMethod y ∈ OM) (h4 : Cond.code y cc nL none ∈ OM) (hd : MOK y na) (hR : rm.frames + 1 ≤ R.frames ∧ 8 + (nL + 11) + rm.locals ≤ R.locals) :
    COK E l R own idx (2, na + 1, ci, mc, fun as N lg it rf K => ∃ j t, as = .ref j :: t ∧ sp as N lg it rf K) := by
  intro p e s m args below meth c cc' nL' Qm hx hb hml hown hts hK hbs pc arr H locs cells slots as rest N lg it rf K hdec harr hlen hrec hz hP hS hct hc1 hc2 hsp kk
  obtain ⟨j, t, rfl, hsp2⟩ := hsp
  obtain ⟨hrc, hrs, hM⟩ := ct
  have hg : GoodIn OM (wsY y cc nL none) := om_goodIn (L := []) (fun w hw => by cases hw) h4
  have e : ((Value.ref j :: t).reverse ++ rest).map (cv E) = (t.map (cv E)).reverse ++ .ref (e_b E + j) :: rest.map (cv E) := by simp [cv]
  rw [e]
  exact ck_end (N := N) (K := K) (va_runI (As := t.map (cv E)) (rest := rest.map (cv E)) (b := e_b E + j) ⟨hx, hb, hml, hown, hts⟩ (hM _ N lg it rf K ⟨j, t, rfl, hsp2⟩) (cwI na hts hg rfl hrc hrs (hts _ h0) (hts _ h1) (hts _ h2) hyn ⟨hd.1, hd.2.1, hd.2.2⟩ hR) ⟨wd_blind, fun U hU hW => ⟨rfl, by rw [hU]; exact hz, by rw [hU]; exact hP, KW.moved hW.alike hK⟩⟩ rfl (by rw [List.length_map]; simpa using hlen) harr rfl (lv_room (ctgs_cv hct)) hdec ⟨hc1, hc2⟩) hz hS kk
def sp_obj : Spc := fun as _ lg it rf K => match as with | [.ref _] => K none lg it rf | _ => False
def sp_min : Spc := fun as _ lg it rf K => match as with | [.int x, .int y] => K (some (.int (if y < x then y else x))) lg it rf | _ => False
def sp_max : Spc := fun as _ lg it rf K => match as with | [.int x, .int y] => K (some (.int (if x < y then y else x))) lg it rf | _ => False
theorem cok_obj (h1 : Cond.methodLink own idx Lib.objectInit ∈ OM) (h2 : Cond.instanceMethod Lib.objectInit ∈ OM) (h3 : Cond.code Lib.objectInit ⟨#[0xb1]⟩ 1 none ∈ OM) (hR : 1 ≤ R.frames ∧ 20 ≤ R.locals) : COK E l R own idx (2, 1, ci, 0, sp_obj) := by
  intro p e s m args below meth c cc' nL' Qm hx hb hml hown hts hK hbs pc arr H locs cells slots as rest N lg it rf K hdec harr hlen hrec hz hP hS hct hc1 hc2 hsp kk
  change sp_obj as N lg it rf K at hsp
  unfold sp_obj at hsp
  split at hsp
  · rename_i a0
    show W p l e R s m args below meth c H locs cells slots Qm (F0 m pc arr (.ref (e_b E + a0) :: rest.map (cv E)))
    have h8 := ctgs_cv (E := E) hct
    exact W.objInit hx hb hown (hts _ h1) (hts _ h2) (hts _ h3) rfl (by rw [hml]; exact harr) rfl hdec hR.1 (by show 2 * 0 + _ + 12 ≤ _; omega) (kk none lg it rf H locs hsp hz hP hS)
  · exact hsp.elim
theorem cok_min (h1 : Cond.methodLink own idx Lib.Math.min.name ∈ OM) (h2 : Cond.static Lib.Math.min.name ∈ OM) (h3 : Cond.initialized "java/lang/Math" ∈ OM) (h4 : Cond.code Lib.Math.min.name Lib.Math.min.code 2 (some .int) ∈ OM) (hR : 1 ≤ R.frames ∧ 21 ≤ R.locals) : COK E l R own idx (1, 2, ci, 0, sp_min) := by
  intro p e s m args below meth c cc' nL' Qm hx hb hml hown hts hK hbs pc arr H locs cells slots as rest N lg it rf K hdec harr hlen hrec hz hP hS hct hc1 hc2 hsp kk
  change sp_min as N lg it rf K at hsp
  unfold sp_min at hsp
  split at hsp
  · rename_i x0 y0
    show W p l e R s m args below meth c H locs cells slots Qm (F0 m pc arr (.int y0 :: .int x0 :: rest.map (cv E)))
    have h8 := ctgs_cv (E := E) hct
    exact va_mmin hx hb (by rw [hml]; exact harr.symm) hown (hts _ h1) (hts _ h2) (hts _ h3) (hts _ h4) hR.1 (by omega) (by omega) (by omega) hdec (kk _ lg it rf H locs hsp hz hP hS)
  · exact hsp.elim
theorem cok_max (h1 : Cond.methodLink own idx Lib.Math.max.name ∈ OM) (h2 : Cond.static Lib.Math.max.name ∈ OM) (h3 : Cond.initialized "java/lang/Math" ∈ OM) (h4 : Cond.code Lib.Math.max.name Lib.Math.max.code 2 (some .int) ∈ OM) (hR : 1 ≤ R.frames ∧ 21 ≤ R.locals) : COK E l R own idx (1, 2, ci, 0, sp_max) := by
  intro p e s m args below meth c cc' nL' Qm hx hb hml hown hts hK hbs pc arr H locs cells slots as rest N lg it rf K hdec harr hlen hrec hz hP hS hct hc1 hc2 hsp kk
  change sp_max as N lg it rf K at hsp
  unfold sp_max at hsp
  split at hsp
  · rename_i x0 y0
    show W p l e R s m args below meth c H locs cells slots Qm (F0 m pc arr (.int y0 :: .int x0 :: rest.map (cv E)))
    have h8 := ctgs_cv (E := E) hct
    exact va_mmax hx hb (by rw [hml]; exact harr.symm) hown (hts _ h1) (hts _ h2) (hts _ h3) (hts _ h4) hR.1 (by omega) (by omega) (by omega) hdec (kk _ lg it rf H locs hsp hz hP hS)
  · exact hsp.elim
def rcp {α : Type} (f : Nat → Nat → α) (a0 a1 sp dp n : Nat) : Nat → Nat → α := fun a => if a = a1 then va_cpy (f a0) (f a1) sp dp n else f a
theorem rcp_row {α : Type} {f : Nat → Nat → α} {a0 a1 sp dp n i : Nat} (h : i ≠ a1) : rcp f a0 a1 sp dp n i = f i := by simp [rcp, h]
theorem rcp_eq {α : Type} {f : Nat → Nat → α} {a0 a1 sp dp n : Nat} : rcp f a0 a1 sp dp n a1 = va_cpy (f a0) (f a1) sp dp n := by simp [rcp]
def cpc (a0 a1 N k : Nat) (sp dp n : Int32) : Prop := (Ob N a0 k ∧ Ob N a1 k) ∧ (¬ sp < 0 ∧ ¬ dp < 0 ∧ ¬ n < 0) ∧ sp.toNatClampNeg + n.toNatClampNeg ≤ (LAY a0).2 ∧ dp.toNatClampNeg + n.toNatClampNeg ≤ (LAY a1).2
def sp_cpi : Spc := fun as N lg it rf K => match as with | [.ref a0, .int sp, .ref a1, .int dp, .int n] => cpc a0 a1 N 11 sp dp n ∧ K none lg (rcp it a0 a1 sp.toNatClampNeg dp.toNatClampNeg n.toNatClampNeg) rf | _ => False
def sp_cpl : Spc := fun as N lg it rf K => match as with | [.ref a0, .int sp, .ref a1, .int dp, .int n] => cpc a0 a1 N 12 sp dp n ∧ K none (rcp lg a0 a1 sp.toNatClampNeg dp.toNatClampNeg n.toNatClampNeg) it rf | _ => False

theorem cok_cpi (h1 : Cond.methodLink own idx arraycopyName ∈ OM) (h2 : Cond.native arraycopyName ∈ OM) (h3 : Cond.static arraycopyName ∈ OM) (h4 : Cond.initialized "java/lang/System" ∈ OM) (hR : 1 ≤ R.frames ∧ 26 ≤ R.locals) : COK E l R own idx (1, 5, ci, 0, sp_cpi) := by
  intro p e s m args below meth c cc' nL' Qm hx hb hml hown hts hK hbs pc arr H locs cells slots as rest N lg it rf K hdec harr hlen hrec hz hP hS hct hc1 hc2 hsp kk
  change sp_cpi as N lg it rf K at hsp
  unfold sp_cpi at hsp
  split at hsp
  · rename_i a0 sp a1 dp n
    obtain ⟨⟨⟨⟨p1, p2⟩, ⟨p3, p4⟩⟩, ⟨q1, q2, q3⟩, q4, q5⟩, hk⟩ := hsp
    have h8 := ctgs_cv (E := E) hct
    have nn : ∀ z : Int32, ¬ z < 0 → z.toInt = (z.toNatClampNeg : Int) := by
      intro z hz
      have hz0 : (0 : Int) ≤ z.toInt := by simpa using Int32.le_iff_toInt_le.mp (Int32.not_lt.mp hz)
      show z.toInt = ((z.toInt.toNat : Nat) : Int)
      omega
    have hca : H[e_b E + a0]? = some (vp_cell (e_cy E 1) ((LAY a0).2, .inl (it a0))) := by
      have hh := hP a0 _ (WL_get p1)
      unfold cellv at hh
      rw [p2] at hh
      exact hh
    have hcb : H[e_b E + a1]? = some (vp_cell (e_cy E 1) ((LAY a1).2, .inl (it a1))) := by
      have hh := hP a1 _ (WL_get p3)
      unfold cellv at hh
      rw [p4] at hh
      exact hh
    have htl : (tyl E)[1]? = some (e_cy E 1, .int) := rfl
    obtain ⟨-, k0, hk0, cm0, hkk0⟩ := (hK.1.2 1 _ htl).1 (LAY a0).2 (fun j => .int (it a0 j))
    obtain ⟨-, k1, hk1, cm1, hkk1⟩ := (hK.1.2 1 _ htl).1 (LAY a1).2 (fun j => .int (it a1 j))
    intro T hT X
    obtain ⟨vm', X', step⟩ := X.arraycopy hx hown (hts _ h1) (hts _ h2) (hts _ h3) (hts _ h4) (src := e_b E + a0) (dst := e_b E + a1) (cs := vp_cell (e_cy E 1) ((LAY a0).2, .inl (it a0))) (cd := vp_cell (e_cy E 1) ((LAY a1).2, .inl (it a1))) (srcPos := sp) (destPos := dp) (n := n) (by rw [hT]; exact hca) (by rw [hT]; exact hcb)
      (fun _ h => by cases h) (fun _ h => by cases h) (fun h => by cases h) (fun h => by cases h) hk0 hk1 hkk0 hkk1 (by simp [refKind]) q1 q2 q3
      (by rw [nn sp q1, nn n q3]; show ¬ _ > ((arrV _ _ (fun j => .int (it a0 j))).slots.size : Int); rw [arrV_size]; omega)
      (by rw [nn dp q2, nn n q3]; show ¬ _ > ((arrV _ _ (fun j => .int (it a1 j))).slots.size : Int); rw [arrV_size]; omega)
      (fun vm₁ _ i hi => by
        have ev : (vp_cell (e_cy E 1) ((LAY a0).2, .inl (it a0))).slots.getD (sp.toNatClampNeg + i) .null = .int (it a0 (sp.toNatClampNeg + i)) := by
          show (arrV _ _ (fun j => .int (it a0 j))).slots.getD _ _ = _
          rw [Array.getD_eq_getD_getElem?, arrV_read _ _ (by omega)]
          rfl
        refine ⟨?_, ?_⟩
        · rw [ev]
          rfl
        · rw [ev]
          exact trivial)
      (g := F0 m pc arr (.int n :: .int dp :: .ref (e_b E + a1) :: .int sp :: .ref (e_b E + a0) :: rest.map (cv E))) rfl (by rw [hml]; exact harr) (rest := rest.map (cv E)) rfl (by rw [hb]; exact hdec) hR.1 (by
        have hw : nativeFrameWords "java/lang/System" "arraycopy" 5 = 7 := by decide +kernel
        show 2 * 0 + _ + _ ≤ _
        rw [hw]
        omega)
    have e1 : copied (vp_cell (e_cy E 1) ((LAY a0).2, .inl (it a0))) (vp_cell (e_cy E 1) ((LAY a1).2, .inl (it a1))) sp dp n = vp_cell (e_cy E 1) ((LAY a1).2, .inl (va_cpy (it a0) (it a1) sp.toNatClampNeg dp.toNatClampNeg n.toNatClampNeg)) := va_copied (fun z => .int z) _ _ (it a0) (it a1) q4
    rw [e1] at X' step
    have hl : e_b E + a1 < H.size := by have := p3; omega
    have hheap : ((T.setVm vm').setCell (e_b E + a1) (vp_cell (e_cy E 1) ((LAY a1).2, .inl (va_cpy (it a0) (it a1) sp.toNatClampNeg dp.toNatClampNeg n.toNatClampNeg)))).heap = H.setIfInBounds (e_b E + a1) (vp_cell (e_cy E 1) ((LAY a1).2, .inl (va_cpy (it a0) (it a1) sp.toNatClampNeg dp.toNatClampNeg n.toNatClampNeg))) := by rw [← hT]; rfl
    have oq : ∀ q : Nat, q ≠ e_b E + a1 → (H.setIfInBounds (e_b E + a1) (vp_cell (e_cy E 1) ((LAY a1).2, .inl (va_cpy (it a0) (it a1) sp.toNatClampNeg dp.toNatClampNeg n.toNatClampNeg))))[q]? = H[q]? := fun q hq => by simp [Array.getElem?_setIfInBounds, Ne.symm hq]
    have hset := hP.set (p := a1) (e := cellv E lg (rcp it a0 a1 sp.toNatClampNeg dp.toNatClampNeg n.toNatClampNeg) rf a1) (H1 := H.setIfInBounds (e_b E + a1) (vp_cell (e_cy E 1) ((LAY a1).2, .inl (va_cpy (it a0) (it a1) sp.toNatClampNeg dp.toNatClampNeg n.toNatClampNeg)))) WL_D (WL_get p3) ?_ oq
    · rw [WL_set (lg' := lg) (it' := (rcp it a0 a1 sp.toNatClampNeg dp.toNatClampNeg n.toNatClampNeg)) (rf' := rf) p3 rfl (fun q hq => ⟨rfl, rcp_row hq, rfl⟩)] at hset
      obtain ⟨t, a1', b1⟩ := kk none _ _ _ _ _ hk (by rw [Array.size_setIfInBounds]; exact hz) hset ⟨by rw [Array.size_setIfInBounds]; exact hS.1, fun q g1 g2 => by
        rw [oq q (fun ee => g2 (by rw [ee]; exact Nat.le_add_right _ _))]
        exact hS.2.1 q g1 g2, fun q hq => by
        rcases List.mem_append.mp hq with h | h
        · exact hS.2.2 q h
        · obtain ⟨z, -, hz2⟩ := List.mem_map.mp h
          rw [← hz2]
          exact Nat.le_add_right _ _⟩ _ hheap X'
      exact ⟨t, step t a1', b1⟩
    · unfold cellv
      rw [p4]
      show (H.setIfInBounds (e_b E + a1) _)[e_b E + a1]? = some (vp_cell (e_cy E 1) ((LAY a1).2, .inl (rcp it a0 a1 sp.toNatClampNeg dp.toNatClampNeg n.toNatClampNeg a1)))
      rw [rcp_eq]
      simp [Array.getElem?_setIfInBounds, hl]
  · exact hsp.elim

theorem cok_cpl (h1 : Cond.methodLink own idx arraycopyName ∈ OM) (h2 : Cond.native arraycopyName ∈ OM) (h3 : Cond.static arraycopyName ∈ OM) (h4 : Cond.initialized "java/lang/System" ∈ OM) (hR : 1 ≤ R.frames ∧ 26 ≤ R.locals) : COK E l R own idx (1, 5, ci, 0, sp_cpl) := by
  intro p e s m args below meth c cc' nL' Qm hx hb hml hown hts hK hbs pc arr H locs cells slots as rest N lg it rf K hdec harr hlen hrec hz hP hS hct hc1 hc2 hsp kk
  change sp_cpl as N lg it rf K at hsp
  unfold sp_cpl at hsp
  split at hsp
  · rename_i a0 sp a1 dp n
    obtain ⟨⟨⟨⟨p1, p2⟩, ⟨p3, p4⟩⟩, ⟨q1, q2, q3⟩, q4, q5⟩, hk⟩ := hsp
    have h8 := ctgs_cv (E := E) hct
    have nn : ∀ z : Int32, ¬ z < 0 → z.toInt = (z.toNatClampNeg : Int) := by
      intro z hz
      have hz0 : (0 : Int) ≤ z.toInt := by simpa using Int32.le_iff_toInt_le.mp (Int32.not_lt.mp hz)
      show z.toInt = ((z.toInt.toNat : Nat) : Int)
      omega
    have hca : H[e_b E + a0]? = some (vp_cell (e_cy E 2) ((LAY a0).2, .inr (.inl (lg a0)))) := by
      have hh := hP a0 _ (WL_get p1)
      unfold cellv at hh
      rw [p2] at hh
      exact hh
    have hcb : H[e_b E + a1]? = some (vp_cell (e_cy E 2) ((LAY a1).2, .inr (.inl (lg a1)))) := by
      have hh := hP a1 _ (WL_get p3)
      unfold cellv at hh
      rw [p4] at hh
      exact hh
    have htl : (tyl E)[2]? = some (e_cy E 2, .long) := rfl
    obtain ⟨-, k0, hk0, cm0, hkk0⟩ := (hK.1.2 2 _ htl).1 (LAY a0).2 (fun j => .long (lg a0 j))
    obtain ⟨-, k1, hk1, cm1, hkk1⟩ := (hK.1.2 2 _ htl).1 (LAY a1).2 (fun j => .long (lg a1 j))
    intro T hT X
    obtain ⟨vm', X', step⟩ := X.arraycopy hx hown (hts _ h1) (hts _ h2) (hts _ h3) (hts _ h4) (src := e_b E + a0) (dst := e_b E + a1) (cs := vp_cell (e_cy E 2) ((LAY a0).2, .inr (.inl (lg a0)))) (cd := vp_cell (e_cy E 2) ((LAY a1).2, .inr (.inl (lg a1)))) (srcPos := sp) (destPos := dp) (n := n) (by rw [hT]; exact hca) (by rw [hT]; exact hcb)
      (fun _ h => by cases h) (fun _ h => by cases h) (fun h => by cases h) (fun h => by cases h) hk0 hk1 hkk0 hkk1 (by simp [refKind]) q1 q2 q3
      (by rw [nn sp q1, nn n q3]; show ¬ _ > ((arrV _ _ (fun j => .long (lg a0 j))).slots.size : Int); rw [arrV_size]; omega)
      (by rw [nn dp q2, nn n q3]; show ¬ _ > ((arrV _ _ (fun j => .long (lg a1 j))).slots.size : Int); rw [arrV_size]; omega)
      (fun vm₁ _ i hi => by
        have ev : (vp_cell (e_cy E 2) ((LAY a0).2, .inr (.inl (lg a0)))).slots.getD (sp.toNatClampNeg + i) .null = .long (lg a0 (sp.toNatClampNeg + i)) := by
          show (arrV _ _ (fun j => .long (lg a0 j))).slots.getD _ _ = _
          rw [Array.getD_eq_getD_getElem?, arrV_read _ _ (by omega)]
          rfl
        refine ⟨?_, ?_⟩
        · rw [ev]
          rfl
        · rw [ev]
          exact trivial)
      (g := F0 m pc arr (.int n :: .int dp :: .ref (e_b E + a1) :: .int sp :: .ref (e_b E + a0) :: rest.map (cv E))) rfl (by rw [hml]; exact harr) (rest := rest.map (cv E)) rfl (by rw [hb]; exact hdec) hR.1 (by
        have hw : nativeFrameWords "java/lang/System" "arraycopy" 5 = 7 := by decide +kernel
        show 2 * 0 + _ + _ ≤ _
        rw [hw]
        omega)
    have e1 : copied (vp_cell (e_cy E 2) ((LAY a0).2, .inr (.inl (lg a0)))) (vp_cell (e_cy E 2) ((LAY a1).2, .inr (.inl (lg a1)))) sp dp n = vp_cell (e_cy E 2) ((LAY a1).2, .inr (.inl (va_cpy (lg a0) (lg a1) sp.toNatClampNeg dp.toNatClampNeg n.toNatClampNeg))) := va_copied (fun z => .long z) _ _ (lg a0) (lg a1) q4
    rw [e1] at X' step
    have hl : e_b E + a1 < H.size := by have := p3; omega
    have hheap : ((T.setVm vm').setCell (e_b E + a1) (vp_cell (e_cy E 2) ((LAY a1).2, .inr (.inl (va_cpy (lg a0) (lg a1) sp.toNatClampNeg dp.toNatClampNeg n.toNatClampNeg))))).heap = H.setIfInBounds (e_b E + a1) (vp_cell (e_cy E 2) ((LAY a1).2, .inr (.inl (va_cpy (lg a0) (lg a1) sp.toNatClampNeg dp.toNatClampNeg n.toNatClampNeg)))) := by rw [← hT]; rfl
    have oq : ∀ q : Nat, q ≠ e_b E + a1 → (H.setIfInBounds (e_b E + a1) (vp_cell (e_cy E 2) ((LAY a1).2, .inr (.inl (va_cpy (lg a0) (lg a1) sp.toNatClampNeg dp.toNatClampNeg n.toNatClampNeg)))))[q]? = H[q]? := fun q hq => by simp [Array.getElem?_setIfInBounds, Ne.symm hq]
    have hset := hP.set (p := a1) (e := cellv E (rcp lg a0 a1 sp.toNatClampNeg dp.toNatClampNeg n.toNatClampNeg) it rf a1) (H1 := H.setIfInBounds (e_b E + a1) (vp_cell (e_cy E 2) ((LAY a1).2, .inr (.inl (va_cpy (lg a0) (lg a1) sp.toNatClampNeg dp.toNatClampNeg n.toNatClampNeg))))) WL_D (WL_get p3) ?_ oq
    · rw [WL_set (lg' := (rcp lg a0 a1 sp.toNatClampNeg dp.toNatClampNeg n.toNatClampNeg)) (it' := it) (rf' := rf) p3 rfl (fun q hq => ⟨rcp_row hq, rfl, rfl⟩)] at hset
      obtain ⟨t, a1', b1⟩ := kk none _ _ _ _ _ hk (by rw [Array.size_setIfInBounds]; exact hz) hset ⟨by rw [Array.size_setIfInBounds]; exact hS.1, fun q g1 g2 => by
        rw [oq q (fun ee => g2 (by rw [ee]; exact Nat.le_add_right _ _))]
        exact hS.2.1 q g1 g2, fun q hq => by
        rcases List.mem_append.mp hq with h | h
        · exact hS.2.2 q h
        · obtain ⟨z, -, hz2⟩ := List.mem_map.mp h
          rw [← hz2]
          exact Nat.le_add_right _ _⟩ _ hheap X'
      exact ⟨t, step t a1', b1⟩
    · unfold cellv
      rw [p4]
      show (H.setIfInBounds (e_b E + a1) _)[e_b E + a1]? = some (vp_cell (e_cy E 2) ((LAY a1).2, .inr (.inl (rcp lg a0 a1 sp.toNatClampNeg dp.toNatClampNeg n.toNatClampNeg a1))))
      rw [rcp_eq]
      simp [Array.getElem?_setIfInBounds, hl]
  · exact hsp.elim

end CK
end
