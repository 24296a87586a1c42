-- ===== PART A: goes FIRST, ahead of the names: the tables' words, and 'selects' of the private methods out of them =====
/-- a private method of a class that the tables say can be made, by its rows of tables_1 -/
def lw_okq (q : MethodName × Nat) : Prop := (q.1.cls ≠ "java/lang/invoke/MethodHandle" ∧ q.1.cls ≠ "java/lang/invoke/VarHandle") ∧ Cond.instantiable q.1.cls q.2 ∈ tables_1 ∧ Cond.privateMethod q.1 ∈ tables_1 ∧ Cond.instanceMethod q.1 ∈ tables_1
theorem lw_p0 : lw_okq (⟨"LowerBows", "textOf", "(I)LLowerBows$Text;"⟩, 14) := ⟨⟨by decide +kernel, by decide +kernel⟩, List.mem_of_getElem? (i := 18) (by decide +kernel), List.mem_of_getElem? (i := 349) (by decide +kernel), List.mem_of_getElem? (i := 350) (by decide +kernel)⟩
theorem lw_p1 : lw_okq (⟨"LowerBows", "readAgain", "(I)V"⟩, 14) := ⟨⟨by decide +kernel, by decide +kernel⟩, List.mem_of_getElem? (i := 18) (by decide +kernel), List.mem_of_getElem? (i := 357) (by decide +kernel), List.mem_of_getElem? (i := 358) (by decide +kernel)⟩
theorem lw_p2 : lw_okq (⟨"LowerBows", "isPerson", "(I)Z"⟩, 14) := ⟨⟨by decide +kernel, by decide +kernel⟩, List.mem_of_getElem? (i := 18) (by decide +kernel), List.mem_of_getElem? (i := 399) (by decide +kernel), List.mem_of_getElem? (i := 400) (by decide +kernel)⟩
theorem lw_p3 : lw_okq (⟨"LowerBows", "found", "(I)I"⟩, 14) := ⟨⟨by decide +kernel, by decide +kernel⟩, List.mem_of_getElem? (i := 18) (by decide +kernel), List.mem_of_getElem? (i := 436) (by decide +kernel), List.mem_of_getElem? (i := 437) (by decide +kernel)⟩
theorem lw_p4 : lw_okq (⟨"LowerBows$Coast", "expectFirstBows", "()V"⟩, 13) := ⟨⟨by decide +kernel, by decide +kernel⟩, List.mem_of_getElem? (i := 141) (by decide +kernel), List.mem_of_getElem? (i := 456) (by decide +kernel), List.mem_of_getElem? (i := 457) (by decide +kernel)⟩
theorem lw_p5 : lw_okq (⟨"LowerBows$Coast", "expectAnswerTo", "(III)V"⟩, 13) := ⟨⟨by decide +kernel, by decide +kernel⟩, List.mem_of_getElem? (i := 141) (by decide +kernel), List.mem_of_getElem? (i := 460) (by decide +kernel), List.mem_of_getElem? (i := 461) (by decide +kernel)⟩
theorem lw_p6 : lw_okq (⟨"LowerBows$ShadePlan", "findOne", "(I)Z"⟩, 3) := ⟨⟨by decide +kernel, by decide +kernel⟩, List.mem_of_getElem? (i := 204) (by decide +kernel), List.mem_of_getElem? (i := 538) (by decide +kernel), List.mem_of_getElem? (i := 539) (by decide +kernel)⟩
theorem lw_p7 : lw_okq (⟨"LowerBows$ShadePlan", "numberThatHelps", "(II)I"⟩, 3) := ⟨⟨by decide +kernel, by decide +kernel⟩, List.mem_of_getElem? (i := 204) (by decide +kernel), List.mem_of_getElem? (i := 542) (by decide +kernel), List.mem_of_getElem? (i := 543) (by decide +kernel)⟩
theorem lw_p8 : lw_okq (⟨"LowerBows$ShadePlan", "isWorthHiding", "(I)Z"⟩, 3) := ⟨⟨by decide +kernel, by decide +kernel⟩, List.mem_of_getElem? (i := 204) (by decide +kernel), List.mem_of_getElem? (i := 546) (by decide +kernel), List.mem_of_getElem? (i := 547) (by decide +kernel)⟩
theorem lw_p9 : lw_okq (⟨"LowerBows$ShadePlan", "toggle", "(I)V"⟩, 3) := ⟨⟨by decide +kernel, by decide +kernel⟩, List.mem_of_getElem? (i := 204) (by decide +kernel), List.mem_of_getElem? (i := 550) (by decide +kernel), List.mem_of_getElem? (i := 551) (by decide +kernel)⟩
theorem lw_p10 : lw_okq (⟨"LowerBows$ShadePlan", "findTwo", "(I)Z"⟩, 3) := ⟨⟨by decide +kernel, by decide +kernel⟩, List.mem_of_getElem? (i := 204) (by decide +kernel), List.mem_of_getElem? (i := 554) (by decide +kernel), List.mem_of_getElem? (i := 555) (by decide +kernel)⟩
theorem lw_p11 : lw_okq (⟨"LowerBows$StrollPlan", "costFor", "(I)I"⟩, 4) := ⟨⟨by decide +kernel, by decide +kernel⟩, List.mem_of_getElem? (i := 222) (by decide +kernel), List.mem_of_getElem? (i := 567) (by decide +kernel), List.mem_of_getElem? (i := 568) (by decide +kernel)⟩
theorem lw_p12 : lw_okq (⟨"LowerBows$Clues", "comesOutAsSeen", "()Z"⟩, 3) := ⟨⟨by decide +kernel, by decide +kernel⟩, List.mem_of_getElem? (i := 242) (by decide +kernel), List.mem_of_getElem? (i := 602) (by decide +kernel), List.mem_of_getElem? (i := 603) (by decide +kernel)⟩
theorem lw_p13 : lw_okq (⟨"LowerBows$Clues", "isAsSeenBehind", "(I)Z"⟩, 3) := ⟨⟨by decide +kernel, by decide +kernel⟩, List.mem_of_getElem? (i := 242) (by decide +kernel), List.mem_of_getElem? (i := 608) (by decide +kernel), List.mem_of_getElem? (i := 609) (by decide +kernel)⟩
theorem lw_p14 : lw_okq (⟨"LowerBows$Clues", "greatestAlike", "(II)I"⟩, 3) := ⟨⟨by decide +kernel, by decide +kernel⟩, List.mem_of_getElem? (i := 242) (by decide +kernel), List.mem_of_getElem? (i := 626) (by decide +kernel), List.mem_of_getElem? (i := 627) (by decide +kernel)⟩
theorem lw_p15 : lw_okq (⟨"LowerBows$Clues", "lowestOf", "(II)I"⟩, 3) := ⟨⟨by decide +kernel, by decide +kernel⟩, List.mem_of_getElem? (i := 242) (by decide +kernel), List.mem_of_getElem? (i := 630) (by decide +kernel), List.mem_of_getElem? (i := 631) (by decide +kernel)⟩
def lw_privs_1 : List (MethodName × Nat) := [(⟨"LowerBows", "textOf", "(I)LLowerBows$Text;"⟩, 14), (⟨"LowerBows", "readAgain", "(I)V"⟩, 14), (⟨"LowerBows", "isPerson", "(I)Z"⟩, 14), (⟨"LowerBows", "found", "(I)I"⟩, 14), (⟨"LowerBows$Coast", "expectFirstBows", "()V"⟩, 13), (⟨"LowerBows$Coast", "expectAnswerTo", "(III)V"⟩, 13), (⟨"LowerBows$ShadePlan", "findOne", "(I)Z"⟩, 3), (⟨"LowerBows$ShadePlan", "numberThatHelps", "(II)I"⟩, 3), (⟨"LowerBows$ShadePlan", "isWorthHiding", "(I)Z"⟩, 3), (⟨"LowerBows$ShadePlan", "toggle", "(I)V"⟩, 3), (⟨"LowerBows$ShadePlan", "findTwo", "(I)Z"⟩, 3), (⟨"LowerBows$StrollPlan", "costFor", "(I)I"⟩, 4), (⟨"LowerBows$Clues", "comesOutAsSeen", "()Z"⟩, 3), (⟨"LowerBows$Clues", "isAsSeenBehind", "(I)Z"⟩, 3), (⟨"LowerBows$Clues", "greatestAlike", "(II)I"⟩, 3), (⟨"LowerBows$Clues", "lowestOf", "(II)I"⟩, 3)]
theorem lw_r1 : ∀ q ∈ lw_privs_1, lw_okq q := List.forall_mem_cons.mpr ⟨lw_p0, List.forall_mem_cons.mpr ⟨lw_p1, List.forall_mem_cons.mpr ⟨lw_p2, List.forall_mem_cons.mpr ⟨lw_p3, List.forall_mem_cons.mpr ⟨lw_p4, List.forall_mem_cons.mpr ⟨lw_p5, List.forall_mem_cons.mpr ⟨lw_p6, List.forall_mem_cons.mpr ⟨lw_p7, List.forall_mem_cons.mpr ⟨lw_p8, List.forall_mem_cons.mpr ⟨lw_p9, List.forall_mem_cons.mpr ⟨lw_p10, List.forall_mem_cons.mpr ⟨lw_p11, List.forall_mem_cons.mpr ⟨lw_p12, List.forall_mem_cons.mpr ⟨lw_p13, List.forall_mem_cons.mpr ⟨lw_p14, List.forall_mem_cons.mpr ⟨lw_p15, fun _ h => absurd h List.not_mem_nil⟩⟩⟩⟩⟩⟩⟩⟩⟩⟩⟩⟩⟩⟩⟩⟩
theorem lw_p16 : lw_okq (⟨"LowerBows$Chances", "weightOf", "(II)J"⟩, 2) := ⟨⟨by decide +kernel, by decide +kernel⟩, List.mem_of_getElem? (i := 258) (by decide +kernel), List.mem_of_getElem? (i := 647) (by decide +kernel), List.mem_of_getElem? (i := 648) (by decide +kernel)⟩
theorem lw_p17 : lw_okq (⟨"LowerBows$Chances", "addToGone", "(J)V"⟩, 2) := ⟨⟨by decide +kernel, by decide +kernel⟩, List.mem_of_getElem? (i := 258) (by decide +kernel), List.mem_of_getElem? (i := 654) (by decide +kernel), List.mem_of_getElem? (i := 655) (by decide +kernel)⟩
theorem lw_p18 : lw_okq (⟨"LowerBows$Chances", "halvings", "(I)I"⟩, 2) := ⟨⟨by decide +kernel, by decide +kernel⟩, List.mem_of_getElem? (i := 258) (by decide +kernel), List.mem_of_getElem? (i := 663) (by decide +kernel), List.mem_of_getElem? (i := 664) (by decide +kernel)⟩
theorem lw_p19 : lw_okq (⟨"LowerBows$Chances", "bitsOfWhole", "()I"⟩, 2) := ⟨⟨by decide +kernel, by decide +kernel⟩, List.mem_of_getElem? (i := 258) (by decide +kernel), List.mem_of_getElem? (i := 667) (by decide +kernel), List.mem_of_getElem? (i := 668) (by decide +kernel)⟩
theorem lw_p20 : lw_okq (⟨"LowerBows", "digestOfPerson", "(JI)J"⟩, 14) := ⟨⟨by decide +kernel, by decide +kernel⟩, List.mem_of_getElem? (i := 18) (by decide +kernel), List.mem_of_getElem? (i := 747) (by decide +kernel), List.mem_of_getElem? (i := 748) (by decide +kernel)⟩
theorem lw_p21 : lw_okq (⟨"LowerBows", "digestOfHour", "(JI)J"⟩, 14) := ⟨⟨by decide +kernel, by decide +kernel⟩, List.mem_of_getElem? (i := 18) (by decide +kernel), List.mem_of_getElem? (i := 756) (by decide +kernel), List.mem_of_getElem? (i := 757) (by decide +kernel)⟩
theorem lw_p22 : lw_okq (⟨"LowerBows", "digestOfPlans", "(J)J"⟩, 14) := ⟨⟨by decide +kernel, by decide +kernel⟩, List.mem_of_getElem? (i := 18) (by decide +kernel), List.mem_of_getElem? (i := 762) (by decide +kernel), List.mem_of_getElem? (i := 763) (by decide +kernel)⟩
theorem lw_p23 : lw_okq (⟨"LowerBowsModel", "finds", "(I)I"⟩, 31) := ⟨⟨by decide +kernel, by decide +kernel⟩, List.mem_of_getElem? (i := 768) (by decide +kernel), List.mem_of_getElem? (i := 880) (by decide +kernel), List.mem_of_getElem? (i := 881) (by decide +kernel)⟩
theorem lw_p24 : lw_okq (⟨"LowerBowsModel", "lacks", "(III)I"⟩, 31) := ⟨⟨by decide +kernel, by decide +kernel⟩, List.mem_of_getElem? (i := 768) (by decide +kernel), List.mem_of_getElem? (i := 892) (by decide +kernel), List.mem_of_getElem? (i := 893) (by decide +kernel)⟩
theorem lw_p25 : lw_okq (⟨"LowerBowsModel", "readsPeople", "()I"⟩, 31) := ⟨⟨by decide +kernel, by decide +kernel⟩, List.mem_of_getElem? (i := 768) (by decide +kernel), List.mem_of_getElem? (i := 928) (by decide +kernel), List.mem_of_getElem? (i := 929) (by decide +kernel)⟩
theorem lw_p26 : lw_okq (⟨"LowerBowsModel", "tells", "(III)V"⟩, 31) := ⟨⟨by decide +kernel, by decide +kernel⟩, List.mem_of_getElem? (i := 768) (by decide +kernel), List.mem_of_getElem? (i := 938) (by decide +kernel), List.mem_of_getElem? (i := 939) (by decide +kernel)⟩
theorem lw_p27 : lw_okq (⟨"LowerBowsModel", "readsWalks", "()I"⟩, 31) := ⟨⟨by decide +kernel, by decide +kernel⟩, List.mem_of_getElem? (i := 768) (by decide +kernel), List.mem_of_getElem? (i := 942) (by decide +kernel), List.mem_of_getElem? (i := 943) (by decide +kernel)⟩
theorem lw_p28 : lw_okq (⟨"LowerBowsModel", "clears", "()V"⟩, 31) := ⟨⟨by decide +kernel, by decide +kernel⟩, List.mem_of_getElem? (i := 768) (by decide +kernel), List.mem_of_getElem? (i := 946) (by decide +kernel), List.mem_of_getElem? (i := 947) (by decide +kernel)⟩
theorem lw_p29 : lw_okq (⟨"LowerBowsModel", "reads", "()V"⟩, 31) := ⟨⟨by decide +kernel, by decide +kernel⟩, List.mem_of_getElem? (i := 768) (by decide +kernel), List.mem_of_getElem? (i := 956) (by decide +kernel), List.mem_of_getElem? (i := 957) (by decide +kernel)⟩
theorem lw_p30 : lw_okq (⟨"LowerBowsModel", "isPerson", "(I)Z"⟩, 31) := ⟨⟨by decide +kernel, by decide +kernel⟩, List.mem_of_getElem? (i := 768) (by decide +kernel), List.mem_of_getElem? (i := 960) (by decide +kernel), List.mem_of_getElem? (i := 961) (by decide +kernel)⟩
theorem lw_p31 : lw_okq (⟨"LowerBowsModel", "shades", "(II)V"⟩, 31) := ⟨⟨by decide +kernel, by decide +kernel⟩, List.mem_of_getElem? (i := 768) (by decide +kernel), List.mem_of_getElem? (i := 981) (by decide +kernel), List.mem_of_getElem? (i := 982) (by decide +kernel)⟩
def lw_privs_2 : List (MethodName × Nat) := [(⟨"LowerBows$Chances", "weightOf", "(II)J"⟩, 2), (⟨"LowerBows$Chances", "addToGone", "(J)V"⟩, 2), (⟨"LowerBows$Chances", "halvings", "(I)I"⟩, 2), (⟨"LowerBows$Chances", "bitsOfWhole", "()I"⟩, 2), (⟨"LowerBows", "digestOfPerson", "(JI)J"⟩, 14), (⟨"LowerBows", "digestOfHour", "(JI)J"⟩, 14), (⟨"LowerBows", "digestOfPlans", "(J)J"⟩, 14), (⟨"LowerBowsModel", "finds", "(I)I"⟩, 31), (⟨"LowerBowsModel", "lacks", "(III)I"⟩, 31), (⟨"LowerBowsModel", "readsPeople", "()I"⟩, 31), (⟨"LowerBowsModel", "tells", "(III)V"⟩, 31), (⟨"LowerBowsModel", "readsWalks", "()I"⟩, 31), (⟨"LowerBowsModel", "clears", "()V"⟩, 31), (⟨"LowerBowsModel", "reads", "()V"⟩, 31), (⟨"LowerBowsModel", "isPerson", "(I)Z"⟩, 31), (⟨"LowerBowsModel", "shades", "(II)V"⟩, 31)]
theorem lw_r2 : ∀ q ∈ lw_privs_2, lw_okq q := List.forall_mem_cons.mpr ⟨lw_p16, List.forall_mem_cons.mpr ⟨lw_p17, List.forall_mem_cons.mpr ⟨lw_p18, List.forall_mem_cons.mpr ⟨lw_p19, List.forall_mem_cons.mpr ⟨lw_p20, List.forall_mem_cons.mpr ⟨lw_p21, List.forall_mem_cons.mpr ⟨lw_p22, List.forall_mem_cons.mpr ⟨lw_p23, List.forall_mem_cons.mpr ⟨lw_p24, List.forall_mem_cons.mpr ⟨lw_p25, List.forall_mem_cons.mpr ⟨lw_p26, List.forall_mem_cons.mpr ⟨lw_p27, List.forall_mem_cons.mpr ⟨lw_p28, List.forall_mem_cons.mpr ⟨lw_p29, List.forall_mem_cons.mpr ⟨lw_p30, List.forall_mem_cons.mpr ⟨lw_p31, fun _ h => absurd h List.not_mem_nil⟩⟩⟩⟩⟩⟩⟩⟩⟩⟩⟩⟩⟩⟩⟩⟩
theorem lw_p32 : lw_okq (⟨"LowerBowsModel", "streetOf", "(II)I"⟩, 31) := ⟨⟨by decide +kernel, by decide +kernel⟩, List.mem_of_getElem? (i := 768) (by decide +kernel), List.mem_of_getElem? (i := 998) (by decide +kernel), List.mem_of_getElem? (i := 999) (by decide +kernel)⟩
theorem lw_p33 : lw_okq (⟨"LowerBowsModel", "lowOf", "(II)I"⟩, 31) := ⟨⟨by decide +kernel, by decide +kernel⟩, List.mem_of_getElem? (i := 768) (by decide +kernel), List.mem_of_getElem? (i := 1006) (by decide +kernel), List.mem_of_getElem? (i := 1007) (by decide +kernel)⟩
theorem lw_p34 : lw_okq (⟨"LowerBowsModel", "lives", "(I)V"⟩, 31) := ⟨⟨by decide +kernel, by decide +kernel⟩, List.mem_of_getElem? (i := 768) (by decide +kernel), List.mem_of_getElem? (i := 1010) (by decide +kernel), List.mem_of_getElem? (i := 1011) (by decide +kernel)⟩
theorem lw_p35 : lw_okq (⟨"LowerBowsModel", "begins", "()V"⟩, 31) := ⟨⟨by decide +kernel, by decide +kernel⟩, List.mem_of_getElem? (i := 768) (by decide +kernel), List.mem_of_getElem? (i := 1014) (by decide +kernel), List.mem_of_getElem? (i := 1015) (by decide +kernel)⟩
theorem lw_p36 : lw_okq (⟨"LowerBowsModel", "may", "(II)Z"⟩, 31) := ⟨⟨by decide +kernel, by decide +kernel⟩, List.mem_of_getElem? (i := 768) (by decide +kernel), List.mem_of_getElem? (i := 1024) (by decide +kernel), List.mem_of_getElem? (i := 1025) (by decide +kernel)⟩
theorem lw_p37 : lw_okq (⟨"LowerBowsModel", "isClergy", "(I)Z"⟩, 31) := ⟨⟨by decide +kernel, by decide +kernel⟩, List.mem_of_getElem? (i := 768) (by decide +kernel), List.mem_of_getElem? (i := 1028) (by decide +kernel), List.mem_of_getElem? (i := 1029) (by decide +kernel)⟩
theorem lw_p38 : lw_okq (⟨"LowerBowsModel", "isSeenOn", "(II)Z"⟩, 31) := ⟨⟨by decide +kernel, by decide +kernel⟩, List.mem_of_getElem? (i := 768) (by decide +kernel), List.mem_of_getElem? (i := 1035) (by decide +kernel), List.mem_of_getElem? (i := 1036) (by decide +kernel)⟩
theorem lw_p39 : lw_okq (⟨"LowerBowsModel", "meets", "(III)Z"⟩, 31) := ⟨⟨by decide +kernel, by decide +kernel⟩, List.mem_of_getElem? (i := 768) (by decide +kernel), List.mem_of_getElem? (i := 1039) (by decide +kernel), List.mem_of_getElem? (i := 1040) (by decide +kernel)⟩
theorem lw_p40 : lw_okq (⟨"LowerBowsModel", "lessBows", "(II)Z"⟩, 31) := ⟨⟨by decide +kernel, by decide +kernel⟩, List.mem_of_getElem? (i := 768) (by decide +kernel), List.mem_of_getElem? (i := 1043) (by decide +kernel), List.mem_of_getElem? (i := 1044) (by decide +kernel)⟩
theorem lw_p41 : lw_okq (⟨"LowerBowsModel", "howLow", "(III)I"⟩, 31) := ⟨⟨by decide +kernel, by decide +kernel⟩, List.mem_of_getElem? (i := 768) (by decide +kernel), List.mem_of_getElem? (i := 1047) (by decide +kernel), List.mem_of_getElem? (i := 1048) (by decide +kernel)⟩
theorem lw_p42 : lw_okq (⟨"LowerBowsModel", "behindOf", "(II)I"⟩, 31) := ⟨⟨by decide +kernel, by decide +kernel⟩, List.mem_of_getElem? (i := 768) (by decide +kernel), List.mem_of_getElem? (i := 1055) (by decide +kernel), List.mem_of_getElem? (i := 1056) (by decide +kernel)⟩
theorem lw_p43 : lw_okq (⟨"LowerBowsModel", "owesOf", "(III)I"⟩, 31) := ⟨⟨by decide +kernel, by decide +kernel⟩, List.mem_of_getElem? (i := 768) (by decide +kernel), List.mem_of_getElem? (i := 1063) (by decide +kernel), List.mem_of_getElem? (i := 1064) (by decide +kernel)⟩
theorem lw_p44 : lw_okq (⟨"LowerBowsModel", "owesNow", "(II)I"⟩, 31) := ⟨⟨by decide +kernel, by decide +kernel⟩, List.mem_of_getElem? (i := 768) (by decide +kernel), List.mem_of_getElem? (i := 1067) (by decide +kernel), List.mem_of_getElem? (i := 1068) (by decide +kernel)⟩
theorem lw_p45 : lw_okq (⟨"LowerBowsModel", "firstOf", "(I)I"⟩, 31) := ⟨⟨by decide +kernel, by decide +kernel⟩, List.mem_of_getElem? (i := 768) (by decide +kernel), List.mem_of_getElem? (i := 1075) (by decide +kernel), List.mem_of_getElem? (i := 1076) (by decide +kernel)⟩
theorem lw_p46 : lw_okq (⟨"LowerBowsModel", "endsOf", "(III)I"⟩, 31) := ⟨⟨by decide +kernel, by decide +kernel⟩, List.mem_of_getElem? (i := 768) (by decide +kernel), List.mem_of_getElem? (i := 1083) (by decide +kernel), List.mem_of_getElem? (i := 1084) (by decide +kernel)⟩
theorem lw_p47 : lw_okq (⟨"LowerBowsModel", "ringsOf", "(II)I"⟩, 31) := ⟨⟨by decide +kernel, by decide +kernel⟩, List.mem_of_getElem? (i := 768) (by decide +kernel), List.mem_of_getElem? (i := 1091) (by decide +kernel), List.mem_of_getElem? (i := 1092) (by decide +kernel)⟩
def lw_privs_3 : List (MethodName × Nat) := [(⟨"LowerBowsModel", "streetOf", "(II)I"⟩, 31), (⟨"LowerBowsModel", "lowOf", "(II)I"⟩, 31), (⟨"LowerBowsModel", "lives", "(I)V"⟩, 31), (⟨"LowerBowsModel", "begins", "()V"⟩, 31), (⟨"LowerBowsModel", "may", "(II)Z"⟩, 31), (⟨"LowerBowsModel", "isClergy", "(I)Z"⟩, 31), (⟨"LowerBowsModel", "isSeenOn", "(II)Z"⟩, 31), (⟨"LowerBowsModel", "meets", "(III)Z"⟩, 31), (⟨"LowerBowsModel", "lessBows", "(II)Z"⟩, 31), (⟨"LowerBowsModel", "howLow", "(III)I"⟩, 31), (⟨"LowerBowsModel", "behindOf", "(II)I"⟩, 31), (⟨"LowerBowsModel", "owesOf", "(III)I"⟩, 31), (⟨"LowerBowsModel", "owesNow", "(II)I"⟩, 31), (⟨"LowerBowsModel", "firstOf", "(I)I"⟩, 31), (⟨"LowerBowsModel", "endsOf", "(III)I"⟩, 31), (⟨"LowerBowsModel", "ringsOf", "(II)I"⟩, 31)]
theorem lw_r3 : ∀ q ∈ lw_privs_3, lw_okq q := List.forall_mem_cons.mpr ⟨lw_p32, List.forall_mem_cons.mpr ⟨lw_p33, List.forall_mem_cons.mpr ⟨lw_p34, List.forall_mem_cons.mpr ⟨lw_p35, List.forall_mem_cons.mpr ⟨lw_p36, List.forall_mem_cons.mpr ⟨lw_p37, List.forall_mem_cons.mpr ⟨lw_p38, List.forall_mem_cons.mpr ⟨lw_p39, List.forall_mem_cons.mpr ⟨lw_p40, List.forall_mem_cons.mpr ⟨lw_p41, List.forall_mem_cons.mpr ⟨lw_p42, List.forall_mem_cons.mpr ⟨lw_p43, List.forall_mem_cons.mpr ⟨lw_p44, List.forall_mem_cons.mpr ⟨lw_p45, List.forall_mem_cons.mpr ⟨lw_p46, List.forall_mem_cons.mpr ⟨lw_p47, fun _ h => absurd h List.not_mem_nil⟩⟩⟩⟩⟩⟩⟩⟩⟩⟩⟩⟩⟩⟩⟩⟩
theorem lw_p48 : lw_okq (⟨"LowerBowsModel", "isRing", "(III)Z"⟩, 31) := ⟨⟨by decide +kernel, by decide +kernel⟩, List.mem_of_getElem? (i := 768) (by decide +kernel), List.mem_of_getElem? (i := 1095) (by decide +kernel), List.mem_of_getElem? (i := 1096) (by decide +kernel)⟩
theorem lw_p49 : lw_okq (⟨"LowerBowsModel", "shadeOf", "(I)I"⟩, 31) := ⟨⟨by decide +kernel, by decide +kernel⟩, List.mem_of_getElem? (i := 768) (by decide +kernel), List.mem_of_getElem? (i := 1104) (by decide +kernel), List.mem_of_getElem? (i := 1105) (by decide +kernel)⟩
theorem lw_p50 : lw_okq (⟨"LowerBowsModel", "isShaded", "(I)Z"⟩, 31) := ⟨⟨by decide +kernel, by decide +kernel⟩, List.mem_of_getElem? (i := 768) (by decide +kernel), List.mem_of_getElem? (i := 1108) (by decide +kernel), List.mem_of_getElem? (i := 1109) (by decide +kernel)⟩
theorem lw_p51 : lw_okq (⟨"LowerBowsModel", "strollOf", "(III)I"⟩, 31) := ⟨⟨by decide +kernel, by decide +kernel⟩, List.mem_of_getElem? (i := 768) (by decide +kernel), List.mem_of_getElem? (i := 1116) (by decide +kernel), List.mem_of_getElem? (i := 1117) (by decide +kernel)⟩
theorem lw_p52 : lw_okq (⟨"LowerBowsModel", "neverOf", "(I)I"⟩, 31) := ⟨⟨by decide +kernel, by decide +kernel⟩, List.mem_of_getElem? (i := 768) (by decide +kernel), List.mem_of_getElem? (i := 1135) (by decide +kernel), List.mem_of_getElem? (i := 1136) (by decide +kernel)⟩
theorem lw_p53 : lw_okq (⟨"LowerBowsModel", "isSeen", "()Z"⟩, 31) := ⟨⟨by decide +kernel, by decide +kernel⟩, List.mem_of_getElem? (i := 768) (by decide +kernel), List.mem_of_getElem? (i := 1139) (by decide +kernel), List.mem_of_getElem? (i := 1140) (by decide +kernel)⟩
theorem lw_p54 : lw_okq (⟨"LowerBowsModel", "passNow", "()I"⟩, 31) := ⟨⟨by decide +kernel, by decide +kernel⟩, List.mem_of_getElem? (i := 768) (by decide +kernel), List.mem_of_getElem? (i := 1147) (by decide +kernel), List.mem_of_getElem? (i := 1148) (by decide +kernel)⟩
theorem lw_p55 : lw_okq (⟨"LowerBowsModel", "mostAlike", "(II)I"⟩, 31) := ⟨⟨by decide +kernel, by decide +kernel⟩, List.mem_of_getElem? (i := 768) (by decide +kernel), List.mem_of_getElem? (i := 1151) (by decide +kernel), List.mem_of_getElem? (i := 1152) (by decide +kernel)⟩
theorem lw_p56 : lw_okq (⟨"LowerBowsModel", "forgetsOf", "(IIII)J"⟩, 31) := ⟨⟨by decide +kernel, by decide +kernel⟩, List.mem_of_getElem? (i := 768) (by decide +kernel), List.mem_of_getElem? (i := 1160) (by decide +kernel), List.mem_of_getElem? (i := 1161) (by decide +kernel)⟩
theorem lw_p57 : lw_okq (⟨"LowerBowsModel", "seasonOf", "(III)I"⟩, 31) := ⟨⟨by decide +kernel, by decide +kernel⟩, List.mem_of_getElem? (i := 768) (by decide +kernel), List.mem_of_getElem? (i := 1175) (by decide +kernel), List.mem_of_getElem? (i := 1176) (by decide +kernel)⟩
theorem lw_p58 : lw_okq (⟨"LowerBowsModel", "lot", "(I)I"⟩, 31) := ⟨⟨by decide +kernel, by decide +kernel⟩, List.mem_of_getElem? (i := 768) (by decide +kernel), List.mem_of_getElem? (i := 1179) (by decide +kernel), List.mem_of_getElem? (i := 1180) (by decide +kernel)⟩
theorem lw_p59 : lw_okq (⟨"LowerBowsModel", "tellsPerson", "(JI)J"⟩, 31) := ⟨⟨by decide +kernel, by decide +kernel⟩, List.mem_of_getElem? (i := 768) (by decide +kernel), List.mem_of_getElem? (i := 1199) (by decide +kernel), List.mem_of_getElem? (i := 1200) (by decide +kernel)⟩
theorem lw_p60 : lw_okq (⟨"LowerBowsModel", "tellsHour", "(JI)J"⟩, 31) := ⟨⟨by decide +kernel, by decide +kernel⟩, List.mem_of_getElem? (i := 768) (by decide +kernel), List.mem_of_getElem? (i := 1205) (by decide +kernel), List.mem_of_getElem? (i := 1206) (by decide +kernel)⟩
def lw_privs_4 : List (MethodName × Nat) := [(⟨"LowerBowsModel", "isRing", "(III)Z"⟩, 31), (⟨"LowerBowsModel", "shadeOf", "(I)I"⟩, 31), (⟨"LowerBowsModel", "isShaded", "(I)Z"⟩, 31), (⟨"LowerBowsModel", "strollOf", "(III)I"⟩, 31), (⟨"LowerBowsModel", "neverOf", "(I)I"⟩, 31), (⟨"LowerBowsModel", "isSeen", "()Z"⟩, 31), (⟨"LowerBowsModel", "passNow", "()I"⟩, 31), (⟨"LowerBowsModel", "mostAlike", "(II)I"⟩, 31), (⟨"LowerBowsModel", "forgetsOf", "(IIII)J"⟩, 31), (⟨"LowerBowsModel", "seasonOf", "(III)I"⟩, 31), (⟨"LowerBowsModel", "lot", "(I)I"⟩, 31), (⟨"LowerBowsModel", "tellsPerson", "(JI)J"⟩, 31), (⟨"LowerBowsModel", "tellsHour", "(JI)J"⟩, 31)]
theorem lw_r4 : ∀ q ∈ lw_privs_4, lw_okq q := List.forall_mem_cons.mpr ⟨lw_p48, List.forall_mem_cons.mpr ⟨lw_p49, List.forall_mem_cons.mpr ⟨lw_p50, List.forall_mem_cons.mpr ⟨lw_p51, List.forall_mem_cons.mpr ⟨lw_p52, List.forall_mem_cons.mpr ⟨lw_p53, List.forall_mem_cons.mpr ⟨lw_p54, List.forall_mem_cons.mpr ⟨lw_p55, List.forall_mem_cons.mpr ⟨lw_p56, List.forall_mem_cons.mpr ⟨lw_p57, List.forall_mem_cons.mpr ⟨lw_p58, List.forall_mem_cons.mpr ⟨lw_p59, List.forall_mem_cons.mpr ⟨lw_p60, fun _ h => absurd h List.not_mem_nil⟩⟩⟩⟩⟩⟩⟩⟩⟩⟩⟩⟩⟩
def lw_privs : List (MethodName × Nat) := lw_privs_1 ++ (lw_privs_2 ++ (lw_privs_3 ++ (lw_privs_4)))
def lw_tbl : List Cond := k2_sels lw_privs ++ tables_1
theorem lw_privs_ok : ∀ q ∈ lw_privs, lw_okq q := by
  show ∀ q ∈ lw_privs_1 ++ (lw_privs_2 ++ (lw_privs_3 ++ (lw_privs_4))), lw_okq q
  exact List.forall_mem_append.mpr ⟨lw_r1, List.forall_mem_append.mpr ⟨lw_r2, List.forall_mem_append.mpr ⟨lw_r3, lw_r4⟩⟩⟩
-- ===== end of PART A; then your names; then what follows =====
def RX0 : String := "LowerBows$Chances"
def TX0 : u_T := fun k => match k with
  | 0 => ("LowerBows$Chances", "coast", "LLowerBows$Coast;", true)
  | _ => ("LowerBows$Chances", "weights", "[J", true)
def tyX0 : Nat → FieldType := fun k => match k with
  | 0 => .object "LowerBows$Coast"
  | _ => .array .long
abbrev wsX00 : List Cond := u_ws RX0 TX0 2
theorem nmX0 : ∀ a, a < 2 → ∀ b, b < 2 → a ≠ b → (TX0 a).2.1 ≠ (TX0 b).2.1 := by decide +kernel
theorem tyX0_ok : ∀ k, k < 2 → parseFieldDescriptor (TX0 k).2.2.1 = some (tyX0 k) := by decide +kernel
abbrev cX0_init : ByteArray := prog_2_method_1_code
def yX0_init : MethodName := ⟨RX0, "<init>", "(LLowerBows$Coast;)V"⟩
abbrev cX0_weigh : ByteArray := prog_2_method_2_code
def yX0_weigh : MethodName := ⟨RX0, "weigh", "(II)V"⟩
abbrev cX0_above : ByteArray := prog_2_method_3_code
def yX0_above : MethodName := ⟨RX0, "above", "(I)J"⟩
abbrev cX0_below : ByteArray := prog_2_method_4_code
def yX0_below : MethodName := ⟨RX0, "below", "(I)J"⟩
abbrev cX0_weightOf : ByteArray := prog_2_method_5_code
def yX0_weightOf : MethodName := ⟨RX0, "weightOf", "(II)J"⟩
abbrev cX0_addToGone : ByteArray := prog_2_method_6_code
def yX0_addToGone : MethodName := ⟨RX0, "addToGone", "(J)V"⟩
abbrev cX0_bitsOfWhole : ByteArray := prog_2_method_7_code
def yX0_bitsOfWhole : MethodName := ⟨RX0, "bitsOfWhole", "()I"⟩
abbrev cX0_halvings : ByteArray := prog_2_method_8_code
def yX0_halvings : MethodName := ⟨RX0, "halvings", "(I)I"⟩
def RX1 : String := "LowerBows$Clues"
def TX1 : u_T := fun k => match k with
  | 0 => ("LowerBows$Clues", "coast", "LLowerBows$Coast;", true)
  | 1 => ("LowerBows$Clues", "sights", "LLowerBows$Ledger;", true)
  | _ => ("LowerBows$Clues", "lowestWithout", "[I", true)
def tyX1 : Nat → FieldType := fun k => match k with
  | 0 => .object "LowerBows$Coast"
  | 1 => .object "LowerBows$Ledger"
  | _ => .array .int
abbrev wsX10 : List Cond := u_ws RX1 TX1 3
theorem nmX1 : ∀ a, a < 3 → ∀ b, b < 3 → a ≠ b → (TX1 a).2.1 ≠ (TX1 b).2.1 := by decide +kernel
theorem tyX1_ok : ∀ k, k < 3 → parseFieldDescriptor (TX1 k).2.2.1 = some (tyX1 k) := by decide +kernel
abbrev cX1_init : ByteArray := prog_3_method_1_code
def yX1_init : MethodName := ⟨RX1, "<init>", "(LLowerBows$Coast;LLowerBows$Ledger;)V"⟩
abbrev cX1_oldBowsThatNeverWere : ByteArray := prog_3_method_2_code
def yX1_oldBowsThatNeverWere : MethodName := ⟨RX1, "oldBowsThatNeverWere", "()I"⟩
abbrev cX1_umbrellasLeft : ByteArray := prog_3_method_3_code
def yX1_umbrellasLeft : MethodName := ⟨RX1, "umbrellasLeft", "()I"⟩
abbrev cX1_nextToPass : ByteArray := prog_3_method_4_code
def yX1_nextToPass : MethodName := ⟨RX1, "nextToPass", "()I"⟩
abbrev cX1_comesOutAsSeen : ByteArray := prog_3_method_5_code
def yX1_comesOutAsSeen : MethodName := ⟨RX1, "comesOutAsSeen", "()Z"⟩
abbrev cX1_isAsSeenBehind : ByteArray := prog_3_method_6_code
def yX1_isAsSeenBehind : MethodName := ⟨RX1, "isAsSeenBehind", "(I)Z"⟩
abbrev cX1_greatestAlike : ByteArray := prog_3_method_7_code
def yX1_greatestAlike : MethodName := ⟨RX1, "greatestAlike", "(II)I"⟩
abbrev cX1_lowestOf : ByteArray := prog_3_method_8_code
def yX1_lowestOf : MethodName := ⟨RX1, "lowestOf", "(II)I"⟩
def RX2 : String := "LowerBows$Coast"
def TX2 : u_T := fun k => match k with
  | 0 => ("LowerBows$Coast", "people", "LLowerBows$People;", true)
  | 1 => ("LowerBows$Coast", "walks", "LLowerBows$Walks;", true)
  | 2 => ("LowerBows$Coast", "olds", "LLowerBows$Ledger;", true)
  | 3 => ("LowerBows$Coast", "umbrellas", "LLowerBows$Ledger;", true)
  | 4 => ("LowerBows$Coast", "streets", "[I", true)
  | 5 => ("LowerBows$Coast", "hidden", "[I", true)
  | 6 => ("LowerBows$Coast", "dueAtFirst", "[I", true)
  | 7 => ("LowerBows$Coast", "due", "[I", true)
  | 8 => ("LowerBows$Coast", "lowest", "[I", true)
  | 9 => ("LowerBows$Coast", "gone", "I", false)
  | 10 => ("LowerBows$Coast", "bows", "I", false)
  | 11 => ("LowerBows$Coast", "firstHour", "I", false)
  | _ => ("LowerBows$Coast", "firstWho", "I", false)
def tyX2 : Nat → FieldType := fun k => match k with
  | 0 => .object "LowerBows$People"
  | 1 => .object "LowerBows$Walks"
  | 2 => .object "LowerBows$Ledger"
  | 3 => .object "LowerBows$Ledger"
  | 4 => .array .int
  | 5 => .array .int
  | 6 => .array .int
  | 7 => .array .int
  | 8 => .array .int
  | 9 => .int
  | 10 => .int
  | 11 => .int
  | _ => .int
abbrev wsX20 : List Cond := u_ws RX2 TX2 13
theorem nmX2 : ∀ a, a < 13 → ∀ b, b < 13 → a ≠ b → (TX2 a).2.1 ≠ (TX2 b).2.1 := by decide +kernel
theorem tyX2_ok : ∀ k, k < 13 → parseFieldDescriptor (TX2 k).2.2.1 = some (tyX2 k) := by decide +kernel
abbrev cX2_init : ByteArray := prog_4_method_1_code
def yX2_init : MethodName := ⟨RX2, "<init>", "(LLowerBows$People;LLowerBows$Walks;LLowerBows$Ledger;LLowerBows$Ledger;)V"⟩
abbrev cX2_walkAsTold : ByteArray := prog_4_method_2_code
def yX2_walkAsTold : MethodName := ⟨RX2, "walkAsTold", "(I)V"⟩
abbrev cX2_layOut : ByteArray := prog_4_method_3_code
def yX2_layOut : MethodName := ⟨RX2, "layOut", "(II)V"⟩
abbrev cX2_expectFirstBows : ByteArray := prog_4_method_4_code
def yX2_expectFirstBows : MethodName := ⟨RX2, "expectFirstBows", "()V"⟩
abbrev cX2_expectAnswerTo : ByteArray := prog_4_method_5_code
def yX2_expectAnswerTo : MethodName := ⟨RX2, "expectAnswerTo", "(III)V"⟩
abbrev cX2_begin : ByteArray := prog_4_method_6_code
def yX2_begin : MethodName := ⟨RX2, "begin", "()V"⟩
abbrev cX2_walkTo : ByteArray := prog_4_method_7_code
def yX2_walkTo : MethodName := ⟨RX2, "walkTo", "(I)V"⟩
abbrev cX2_walkTillOneIsGone : ByteArray := prog_4_method_8_code
def yX2_walkTillOneIsGone : MethodName := ⟨RX2, "walkTillOneIsGone", "()I"⟩
abbrev cX2_walkThrough : ByteArray := prog_4_method_9_code
def yX2_walkThrough : MethodName := ⟨RX2, "walkThrough", "(I)V"⟩
abbrev cX2_mayMeet : ByteArray := prog_4_method_10_code
def yX2_mayMeet : MethodName := ⟨RX2, "mayMeet", "(II)Z"⟩
abbrev cX2_meet : ByteArray := prog_4_method_11_code
def yX2_meet : MethodName := ⟨RX2, "meet", "(II)V"⟩
abbrev cX2_debt : ByteArray := prog_4_method_12_code
def yX2_debt : MethodName := ⟨RX2, "debt", "(II)I"⟩
abbrev cX2_isRing : ByteArray := prog_4_method_13_code
def yX2_isRing : MethodName := ⟨RX2, "isRing", "(III)Z"⟩
abbrev cX2_isGone : ByteArray := prog_4_method_14_code
def yX2_isGone : MethodName := ⟨RX2, "isGone", "(I)Z"⟩
abbrev cX2_meetByLot : ByteArray := prog_4_method_15_code
def yX2_meetByLot : MethodName := ⟨RX2, "meetByLot", "(II)V"⟩
def RX3 : String := "LowerBows$Ledger"
def TX3 : u_T := fun k => match k with
  | 0 => ("LowerBows$Ledger", "one", "[I", true)
  | 1 => ("LowerBows$Ledger", "two", "[I", true)
  | 2 => ("LowerBows$Ledger", "three", "[I", true)
  | _ => ("LowerBows$Ledger", "size", "I", false)
def tyX3 : Nat → FieldType := fun k => match k with
  | 0 => .array .int
  | 1 => .array .int
  | 2 => .array .int
  | _ => .int
abbrev wsX30 : List Cond := u_ws RX3 TX3 4
theorem nmX3 : ∀ a, a < 4 → ∀ b, b < 4 → a ≠ b → (TX3 a).2.1 ≠ (TX3 b).2.1 := by decide +kernel
theorem tyX3_ok : ∀ k, k < 4 → parseFieldDescriptor (TX3 k).2.2.1 = some (tyX3 k) := by decide +kernel
abbrev cX3_init : ByteArray := prog_5_method_1_code
def yX3_init : MethodName := ⟨RX3, "<init>", "(I)V"⟩
abbrev cX3_enter : ByteArray := prog_5_method_2_code
def yX3_enter : MethodName := ⟨RX3, "enter", "(III)I"⟩
def RX4 : String := "LowerBows$People"
def TX4 : u_T := fun k => match k with
  | 0 => ("LowerBows$People", "kind", "[I", true)
  | 1 => ("LowerBows$People", "can", "[I", true)
  | 2 => ("LowerBows$People", "lower", "[I", true)
  | 3 => ("LowerBows$People", "step", "[I", true)
  | 4 => ("LowerBows$People", "size", "I", false)
  | 5 => ("LowerBows$People", "clergyBits", "I", false)
  | _ => ("LowerBows$People", "faultAt", "I", false)
def tyX4 : Nat → FieldType := fun k => match k with
  | 0 => .array .int
  | 1 => .array .int
  | 2 => .array .int
  | 3 => .array .int
  | 4 => .int
  | 5 => .int
  | _ => .int
abbrev wsX40 : List Cond := u_ws RX4 TX4 7
theorem nmX4 : ∀ a, a < 7 → ∀ b, b < 7 → a ≠ b → (TX4 a).2.1 ≠ (TX4 b).2.1 := by decide +kernel
theorem tyX4_ok : ∀ k, k < 7 → parseFieldDescriptor (TX4 k).2.2.1 = some (tyX4 k) := by decide +kernel
abbrev cX4_init : ByteArray := prog_6_method_1_code
def yX4_init : MethodName := ⟨RX4, "<init>", "()V"⟩
abbrev cX4_take : ByteArray := prog_6_method_2_code
def yX4_take : MethodName := ⟨RX4, "take", "(LLowerBows$Text;)V"⟩
abbrev cX4_faultOf : ByteArray := prog_6_method_3_code
def yX4_faultOf : MethodName := ⟨RX4, "faultOf", "(LLowerBows$Text;)I"⟩
abbrev cX4_goesOn : ByteArray := prog_6_method_4_code
def yX4_goesOn : MethodName := ⟨RX4, "goesOn", "(II)Z"⟩
abbrev cX4_kindOf : ByteArray := prog_6_method_5_code
def yX4_kindOf : MethodName := ⟨RX4, "kindOf", "(I)I"⟩
def RX5 : String := "LowerBows$ShadePlan"
def TX5 : u_T := fun k => match k with
  | 0 => ("LowerBows$ShadePlan", "coast", "LLowerBows$Coast;", true)
  | 1 => ("LowerBows$ShadePlan", "numbers", "[I", true)
  | _ => ("LowerBows$ShadePlan", "size", "I", false)
def tyX5 : Nat → FieldType := fun k => match k with
  | 0 => .object "LowerBows$Coast"
  | 1 => .array .int
  | _ => .int
abbrev wsX50 : List Cond := u_ws RX5 TX5 3
theorem nmX5 : ∀ a, a < 3 → ∀ b, b < 3 → a ≠ b → (TX5 a).2.1 ≠ (TX5 b).2.1 := by decide +kernel
theorem tyX5_ok : ∀ k, k < 3 → parseFieldDescriptor (TX5 k).2.2.1 = some (tyX5 k) := by decide +kernel
abbrev cX5_init : ByteArray := prog_7_method_1_code
def yX5_init : MethodName := ⟨RX5, "<init>", "(LLowerBows$Coast;)V"⟩
abbrev cX5_find : ByteArray := prog_7_method_2_code
def yX5_find : MethodName := ⟨RX5, "find", "()V"⟩
abbrev cX5_findOne : ByteArray := prog_7_method_3_code
def yX5_findOne : MethodName := ⟨RX5, "findOne", "(I)Z"⟩
abbrev cX5_findTwo : ByteArray := prog_7_method_4_code
def yX5_findTwo : MethodName := ⟨RX5, "findTwo", "(I)Z"⟩
abbrev cX5_numberThatHelps : ByteArray := prog_7_method_5_code
def yX5_numberThatHelps : MethodName := ⟨RX5, "numberThatHelps", "(II)I"⟩
abbrev cX5_isWorthHiding : ByteArray := prog_7_method_6_code
def yX5_isWorthHiding : MethodName := ⟨RX5, "isWorthHiding", "(I)Z"⟩
abbrev cX5_toggle : ByteArray := prog_7_method_7_code
def yX5_toggle : MethodName := ⟨RX5, "toggle", "(I)V"⟩
def RX6 : String := "LowerBows$Sheet"
def TX6 : u_T := fun k => match k with
  | 0 => ("LowerBows$Sheet", "items", "[I", true)
  | 1 => ("LowerBows$Sheet", "lost", "Z", false)
  | 2 => ("LowerBows$Sheet", "form", "I", false)
  | _ => ("LowerBows$Sheet", "size", "I", false)
def tyX6 : Nat → FieldType := fun k => match k with
  | 0 => .array .int
  | 1 => .boolean
  | 2 => .int
  | _ => .int
abbrev wsX60 : List Cond := u_ws RX6 TX6 4
theorem nmX6 : ∀ a, a < 4 → ∀ b, b < 4 → a ≠ b → (TX6 a).2.1 ≠ (TX6 b).2.1 := by decide +kernel
theorem tyX6_ok : ∀ k, k < 4 → parseFieldDescriptor (TX6 k).2.2.1 = some (tyX6 k) := by decide +kernel
abbrev cX6_init : ByteArray := prog_8_method_1_code
def yX6_init : MethodName := ⟨RX6, "<init>", "()V"⟩
abbrev cX6_begin : ByteArray := prog_8_method_2_code
def yX6_begin : MethodName := ⟨RX6, "begin", "(II)V"⟩
abbrev cX6_findingAt : ByteArray := prog_8_method_3_code
def yX6_findingAt : MethodName := ⟨RX6, "findingAt", "(II)I"⟩
abbrev cX6_hasItems : ByteArray := prog_8_method_4_code
def yX6_hasItems : MethodName := ⟨RX6, "hasItems", "(II)Z"⟩
abbrev cX6_put : ByteArray := prog_8_method_5_code
def yX6_put : MethodName := ⟨RX6, "put", "(II)V"⟩
def RX7 : String := "LowerBows$StrollPlan"
def TX7 : u_T := fun k => match k with
  | 0 => ("LowerBows$StrollPlan", "coast", "LLowerBows$Coast;", true)
  | 1 => ("LowerBows$StrollPlan", "row", "[I", true)
  | 2 => ("LowerBows$StrollPlan", "best", "[I", true)
  | _ => ("LowerBows$StrollPlan", "gone", "I", false)
def tyX7 : Nat → FieldType := fun k => match k with
  | 0 => .object "LowerBows$Coast"
  | 1 => .array .int
  | 2 => .array .int
  | _ => .int
abbrev wsX70 : List Cond := u_ws RX7 TX7 4
theorem nmX7 : ∀ a, a < 4 → ∀ b, b < 4 → a ≠ b → (TX7 a).2.1 ≠ (TX7 b).2.1 := by decide +kernel
theorem tyX7_ok : ∀ k, k < 4 → parseFieldDescriptor (TX7 k).2.2.1 = some (tyX7 k) := by decide +kernel
abbrev cX7_init : ByteArray := prog_9_method_1_code
def yX7_init : MethodName := ⟨RX7, "<init>", "(LLowerBows$Coast;)V"⟩
abbrev cX7_find : ByteArray := prog_9_method_2_code
def yX7_find : MethodName := ⟨RX7, "find", "(II)V"⟩
abbrev cX7_streetIn : ByteArray := prog_9_method_3_code
def yX7_streetIn : MethodName := ⟨RX7, "streetIn", "(I)I"⟩
abbrev cX7_costFor : ByteArray := prog_9_method_4_code
def yX7_costFor : MethodName := ⟨RX7, "costFor", "(I)I"⟩
def RX8 : String := "LowerBows$Text"
def TX8 : u_T := fun k => match k with
  | 0 => ("LowerBows$Text", "bytes", "[I", true)
  | _ => ("LowerBows$Text", "size", "I", false)
def tyX8 : Nat → FieldType := fun k => match k with
  | 0 => .array .int
  | _ => .int
abbrev wsX80 : List Cond := u_ws RX8 TX8 2
theorem nmX8 : ∀ a, a < 2 → ∀ b, b < 2 → a ≠ b → (TX8 a).2.1 ≠ (TX8 b).2.1 := by decide +kernel
theorem tyX8_ok : ∀ k, k < 2 → parseFieldDescriptor (TX8 k).2.2.1 = some (tyX8 k) := by decide +kernel
abbrev cX8_init : ByteArray := prog_10_method_1_code
def yX8_init : MethodName := ⟨RX8, "<init>", "(I)V"⟩
abbrev cX8_append : ByteArray := prog_10_method_2_code
def yX8_append : MethodName := ⟨RX8, "append", "(I)V"⟩
def RX9 : String := "LowerBows$Walks"
def TX9 : u_T := fun k => match k with
  | 0 => ("LowerBows$Walks", "streets", "[I", true)
  | 1 => ("LowerBows$Walks", "size", "I", false)
  | _ => ("LowerBows$Walks", "faultAt", "I", false)
def tyX9 : Nat → FieldType := fun k => match k with
  | 0 => .array .int
  | 1 => .int
  | _ => .int
abbrev wsX90 : List Cond := u_ws RX9 TX9 3
theorem nmX9 : ∀ a, a < 3 → ∀ b, b < 3 → a ≠ b → (TX9 a).2.1 ≠ (TX9 b).2.1 := by decide +kernel
theorem tyX9_ok : ∀ k, k < 3 → parseFieldDescriptor (TX9 k).2.2.1 = some (tyX9 k) := by decide +kernel
abbrev cX9_init : ByteArray := prog_11_method_1_code
def yX9_init : MethodName := ⟨RX9, "<init>", "()V"⟩
abbrev cX9_take : ByteArray := prog_11_method_2_code
def yX9_take : MethodName := ⟨RX9, "take", "(LLowerBows$Text;)V"⟩
def RX10 : String := "LowerBows"
def TX10 : u_T := fun k => match k with
  | 0 => ("LowerBows", "peopleText", "LLowerBows$Text;", true)
  | 1 => ("LowerBows", "walksText", "LLowerBows$Text;", true)
  | 2 => ("LowerBows", "people", "LLowerBows$People;", true)
  | 3 => ("LowerBows", "walks", "LLowerBows$Walks;", true)
  | 4 => ("LowerBows", "olds", "LLowerBows$Ledger;", true)
  | 5 => ("LowerBows", "umbrellas", "LLowerBows$Ledger;", true)
  | 6 => ("LowerBows", "sights", "LLowerBows$Ledger;", true)
  | 7 => ("LowerBows", "coast", "LLowerBows$Coast;", true)
  | 8 => ("LowerBows", "shadePlan", "LLowerBows$ShadePlan;", true)
  | 9 => ("LowerBows", "strollPlan", "LLowerBows$StrollPlan;", true)
  | 10 => ("LowerBows", "clues", "LLowerBows$Clues;", true)
  | 11 => ("LowerBows", "chances", "LLowerBows$Chances;", true)
  | 12 => ("LowerBows", "sheets", "[LLowerBows$Sheet;", true)
  | _ => ("LowerBows", "latestFinding", "I", false)
def tyX10 : Nat → FieldType := fun k => match k with
  | 0 => .object "LowerBows$Text"
  | 1 => .object "LowerBows$Text"
  | 2 => .object "LowerBows$People"
  | 3 => .object "LowerBows$Walks"
  | 4 => .object "LowerBows$Ledger"
  | 5 => .object "LowerBows$Ledger"
  | 6 => .object "LowerBows$Ledger"
  | 7 => .object "LowerBows$Coast"
  | 8 => .object "LowerBows$ShadePlan"
  | 9 => .object "LowerBows$StrollPlan"
  | 10 => .object "LowerBows$Clues"
  | 11 => .object "LowerBows$Chances"
  | 12 => .array (.object "LowerBows$Sheet")
  | _ => .int
abbrev wsX100 : List Cond := u_ws RX10 TX10 14
theorem nmX10 : ∀ a, a < 14 → ∀ b, b < 14 → a ≠ b → (TX10 a).2.1 ≠ (TX10 b).2.1 := by decide +kernel
theorem tyX10_ok : ∀ k, k < 14 → parseFieldDescriptor (TX10 k).2.2.1 = some (tyX10 k) := by decide +kernel
abbrev cX10_init : ByteArray := prog_1_method_1_code
def yX10_init : MethodName := ⟨RX10, "<init>", "()V"⟩
abbrev cX10_type : ByteArray := prog_1_method_2_code
def yX10_type : MethodName := ⟨RX10, "type", "(II)I"⟩
abbrev cX10_wipe : ByteArray := prog_1_method_3_code
def yX10_wipe : MethodName := ⟨RX10, "wipe", "(I)I"⟩
abbrev cX10_undo : ByteArray := prog_1_method_4_code
def yX10_undo : MethodName := ⟨RX10, "undo", "(I)I"⟩
abbrev cX10_fault : ByteArray := prog_1_method_5_code
def yX10_fault : MethodName := ⟨RX10, "fault", "(I)I"⟩
abbrev cX10_person : ByteArray := prog_1_method_6_code
def yX10_person : MethodName := ⟨RX10, "person", "(II)I"⟩
abbrev cX10_street : ByteArray := prog_1_method_7_code
def yX10_street : MethodName := ⟨RX10, "street", "(II)I"⟩
abbrev cX10_old : ByteArray := prog_1_method_8_code
def yX10_old : MethodName := ⟨RX10, "old", "(III)I"⟩
abbrev cX10_umbrella : ByteArray := prog_1_method_9_code
def yX10_umbrella : MethodName := ⟨RX10, "umbrella", "(II)I"⟩
abbrev cX10_back : ByteArray := prog_1_method_10_code
def yX10_back : MethodName := ⟨RX10, "back", "(I)I"⟩
abbrev cX10_read : ByteArray := prog_1_method_11_code
def yX10_read : MethodName := ⟨RX10, "read", "(I)I"⟩
abbrev cX10_low : ByteArray := prog_1_method_12_code
def yX10_low : MethodName := ⟨RX10, "low", "(II)I"⟩
abbrev cX10_behind : ByteArray := prog_1_method_13_code
def yX10_behind : MethodName := ⟨RX10, "behind", "(II)I"⟩
abbrev cX10_owes : ByteArray := prog_1_method_14_code
def yX10_owes : MethodName := ⟨RX10, "owes", "(III)I"⟩
abbrev cX10_first : ByteArray := prog_1_method_15_code
def yX10_first : MethodName := ⟨RX10, "first", "(I)I"⟩
abbrev cX10_ends : ByteArray := prog_1_method_16_code
def yX10_ends : MethodName := ⟨RX10, "ends", "(III)I"⟩
abbrev cX10_rings : ByteArray := prog_1_method_17_code
def yX10_rings : MethodName := ⟨RX10, "rings", "(II)I"⟩
abbrev cX10_shade : ByteArray := prog_1_method_18_code
def yX10_shade : MethodName := ⟨RX10, "shade", "(I)I"⟩
abbrev cX10_stroll : ByteArray := prog_1_method_19_code
def yX10_stroll : MethodName := ⟨RX10, "stroll", "(III)I"⟩
abbrev cX10_seen : ByteArray := prog_1_method_20_code
def yX10_seen : MethodName := ⟨RX10, "seen", "(III)I"⟩
abbrev cX10_forget : ByteArray := prog_1_method_21_code
def yX10_forget : MethodName := ⟨RX10, "forget", "()I"⟩
abbrev cX10_never : ByteArray := prog_1_method_22_code
def yX10_never : MethodName := ⟨RX10, "never", "(I)I"⟩
abbrev cX10_pass : ByteArray := prog_1_method_23_code
def yX10_pass : MethodName := ⟨RX10, "pass", "()I"⟩
abbrev cX10_forgets : ByteArray := prog_1_method_24_code
def yX10_forgets : MethodName := ⟨RX10, "forgets", "(IIII)J"⟩
abbrev cX10_season : ByteArray := prog_1_method_25_code
def yX10_season : MethodName := ⟨RX10, "season", "(III)I"⟩
abbrev cX10_sheet : ByteArray := prog_1_method_26_code
def yX10_sheet : MethodName := ⟨RX10, "sheet", "(III)I"⟩
abbrev cX10_lose : ByteArray := prog_1_method_27_code
def yX10_lose : MethodName := ⟨RX10, "lose", "(I)I"⟩
abbrev cX10_lay : ByteArray := prog_1_method_28_code
def yX10_lay : MethodName := ⟨RX10, "lay", "(IIII)I"⟩
abbrev cX10_get : ByteArray := prog_1_method_29_code
def yX10_get : MethodName := ⟨RX10, "get", "(III)I"⟩
abbrev cX10_copy : ByteArray := prog_1_method_30_code
def yX10_copy : MethodName := ⟨RX10, "copy", "(IIIII)I"⟩
abbrev cX10_write : ByteArray := prog_1_method_31_code
def yX10_write : MethodName := ⟨RX10, "write", "(II)I"⟩
abbrev cX10_count : ByteArray := prog_1_method_32_code
def yX10_count : MethodName := ⟨RX10, "count", "(I)I"⟩
abbrev cX10_digest : ByteArray := prog_1_method_33_code
def yX10_digest : MethodName := ⟨RX10, "digest", "()J"⟩
abbrev cX10_digestOfPerson : ByteArray := prog_1_method_34_code
def yX10_digestOfPerson : MethodName := ⟨RX10, "digestOfPerson", "(JI)J"⟩
abbrev cX10_digestOfHour : ByteArray := prog_1_method_35_code
def yX10_digestOfHour : MethodName := ⟨RX10, "digestOfHour", "(JI)J"⟩
abbrev cX10_digestOfPlans : ByteArray := prog_1_method_36_code
def yX10_digestOfPlans : MethodName := ⟨RX10, "digestOfPlans", "(J)J"⟩
abbrev cX10_within : ByteArray := prog_1_method_37_code
def yX10_within : MethodName := ⟨RX10, "within", "(III)Z"⟩
abbrev cX10_isText : ByteArray := prog_1_method_38_code
def yX10_isText : MethodName := ⟨RX10, "isText", "(I)Z"⟩
abbrev cX10_isHour : ByteArray := prog_1_method_39_code
def yX10_isHour : MethodName := ⟨RX10, "isHour", "(I)Z"⟩
abbrev cX10_isSheet : ByteArray := prog_1_method_40_code
def yX10_isSheet : MethodName := ⟨RX10, "isSheet", "(I)Z"⟩
abbrev cX10_isForm : ByteArray := prog_1_method_41_code
def yX10_isForm : MethodName := ⟨RX10, "isForm", "(I)Z"⟩
abbrev cX10_mayBeOld : ByteArray := prog_1_method_42_code
def yX10_mayBeOld : MethodName := ⟨RX10, "mayBeOld", "(III)Z"⟩
abbrev cX10_isPerson : ByteArray := prog_1_method_43_code
def yX10_isPerson : MethodName := ⟨RX10, "isPerson", "(I)Z"⟩
abbrev cX10_textOf : ByteArray := prog_1_method_44_code
def yX10_textOf : MethodName := ⟨RX10, "textOf", "(I)LLowerBows$Text;"⟩
abbrev cX10_readAgain : ByteArray := prog_1_method_45_code
def yX10_readAgain : MethodName := ⟨RX10, "readAgain", "(I)V"⟩
abbrev cX10_found : ByteArray := prog_1_method_46_code
def yX10_found : MethodName := ⟨RX10, "found", "(I)I"⟩
def RX11 : String := "LowerBowsModel"
def TX11 : u_T := fun k => match k with
  | 0 => ("LowerBowsModel", "forms", "[I", true)
  | 1 => ("LowerBowsModel", "sizes", "[I", true)
  | 2 => ("LowerBowsModel", "items", "[I", true)
  | 3 => ("LowerBowsModel", "moved", "[I", true)
  | 4 => ("LowerBowsModel", "latest", "I", false)
  | 5 => ("LowerBowsModel", "bytes", "[I", true)
  | 6 => ("LowerBowsModel", "typed", "[I", true)
  | 7 => ("LowerBowsModel", "people", "I", false)
  | 8 => ("LowerBowsModel", "person", "[I", true)
  | 9 => ("LowerBowsModel", "walks", "I", false)
  | 10 => ("LowerBowsModel", "walk", "[I", true)
  | 11 => ("LowerBowsModel", "olds", "I", false)
  | 12 => ("LowerBowsModel", "old", "[I", true)
  | 13 => ("LowerBowsModel", "umbrellas", "I", false)
  | 14 => ("LowerBowsModel", "umbrella", "[I", true)
  | 15 => ("LowerBowsModel", "last", "[I", true)
  | 16 => ("LowerBowsModel", "lessBowed", "[I", true)
  | 17 => ("LowerBowsModel", "most", "[I", true)
  | 18 => ("LowerBowsModel", "gone", "I", false)
  | 19 => ("LowerBowsModel", "bows", "I", false)
  | 20 => ("LowerBowsModel", "firstHour", "I", false)
  | 21 => ("LowerBowsModel", "firstWho", "I", false)
  | 22 => ("LowerBowsModel", "noOld", "I", false)
  | 23 => ("LowerBowsModel", "forgotten", "I", false)
  | 24 => ("LowerBowsModel", "strolls", "I", false)
  | 25 => ("LowerBowsModel", "stroll", "[I", true)
  | 26 => ("LowerBowsModel", "row", "[I", true)
  | 27 => ("LowerBowsModel", "sights", "I", false)
  | 28 => ("LowerBowsModel", "sight", "[I", true)
  | 29 => ("LowerBowsModel", "lows", "[I", true)
  | _ => ("LowerBowsModel", "drawn", "I", false)
def tyX11 : Nat → FieldType := fun k => match k with
  | 0 => .array .int
  | 1 => .array .int
  | 2 => .array .int
  | 3 => .array .int
  | 4 => .int
  | 5 => .array .int
  | 6 => .array .int
  | 7 => .int
  | 8 => .array .int
  | 9 => .int
  | 10 => .array .int
  | 11 => .int
  | 12 => .array .int
  | 13 => .int
  | 14 => .array .int
  | 15 => .array .int
  | 16 => .array .int
  | 17 => .array .int
  | 18 => .int
  | 19 => .int
  | 20 => .int
  | 21 => .int
  | 22 => .int
  | 23 => .int
  | 24 => .int
  | 25 => .array .int
  | 26 => .array .int
  | 27 => .int
  | 28 => .array .int
  | 29 => .array .int
  | _ => .int
abbrev wsX110 : List Cond := u_ws RX11 TX11 31
theorem nmX11 : ∀ a, a < 31 → ∀ b, b < 31 → a ≠ b → (TX11 a).2.1 ≠ (TX11 b).2.1 := by decide +kernel
theorem tyX11_ok : ∀ k, k < 31 → parseFieldDescriptor (TX11 k).2.2.1 = some (tyX11 k) := by decide +kernel
abbrev cX11_init : ByteArray := prog_13_method_1_code
def yX11_init : MethodName := ⟨RX11, "<init>", "()V"⟩
abbrev cX11_in : ByteArray := prog_13_method_3_code
def yX11_in : MethodName := ⟨RX11, "in", "(JJJ)Z"⟩
abbrev cX11_no : ByteArray := prog_13_method_4_code
def yX11_no : MethodName := ⟨RX11, "no", "(I)J"⟩
abbrev cX11_isTwo : ByteArray := prog_13_method_5_code
def yX11_isTwo : MethodName := ⟨RX11, "isTwo", "(I)Z"⟩
abbrev cX11_isIn : ByteArray := prog_13_method_6_code
def yX11_isIn : MethodName := ⟨RX11, "isIn", "(II)Z"⟩
abbrev cX11_ones : ByteArray := prog_13_method_7_code
def yX11_ones : MethodName := ⟨RX11, "ones", "(I)I"⟩
abbrev cX11_lesser : ByteArray := prog_13_method_8_code
def yX11_lesser : MethodName := ⟨RX11, "lesser", "(II)I"⟩
abbrev cX11_greater : ByteArray := prog_13_method_9_code
def yX11_greater : MethodName := ⟨RX11, "greater", "(II)I"⟩
abbrev cX11_part : ByteArray := prog_13_method_10_code
def yX11_part : MethodName := ⟨RX11, "part", "(JJI)J"⟩
abbrev cX11_finds : ByteArray := prog_13_method_11_code
def yX11_finds : MethodName := ⟨RX11, "finds", "(I)I"⟩
abbrev cX11_isSheet : ByteArray := prog_13_method_12_code
def yX11_isSheet : MethodName := ⟨RX11, "isSheet", "(I)Z"⟩
abbrev cX11_sheet : ByteArray := prog_13_method_13_code
def yX11_sheet : MethodName := ⟨RX11, "sheet", "(III)I"⟩
abbrev cX11_lose : ByteArray := prog_13_method_14_code
def yX11_lose : MethodName := ⟨RX11, "lose", "(I)I"⟩
abbrev cX11_lacks : ByteArray := prog_13_method_15_code
def yX11_lacks : MethodName := ⟨RX11, "lacks", "(III)I"⟩
abbrev cX11_cut : ByteArray := prog_13_method_16_code
def yX11_cut : MethodName := ⟨RX11, "cut", "(II)I"⟩
abbrev cX11_lay : ByteArray := prog_13_method_17_code
def yX11_lay : MethodName := ⟨RX11, "lay", "(IIII)I"⟩
abbrev cX11_get : ByteArray := prog_13_method_18_code
def yX11_get : MethodName := ⟨RX11, "get", "(III)I"⟩
abbrev cX11_copy : ByteArray := prog_13_method_19_code
def yX11_copy : MethodName := ⟨RX11, "copy", "(IIIII)I"⟩
abbrev cX11_type : ByteArray := prog_13_method_20_code
def yX11_type : MethodName := ⟨RX11, "type", "(II)I"⟩
abbrev cX11_wipe : ByteArray := prog_13_method_21_code
def yX11_wipe : MethodName := ⟨RX11, "wipe", "(I)I"⟩
abbrev cX11_undo : ByteArray := prog_13_method_22_code
def yX11_undo : MethodName := ⟨RX11, "undo", "(I)I"⟩
abbrev cX11_tellsOf : ByteArray := prog_13_method_23_code
def yX11_tellsOf : MethodName := ⟨RX11, "tellsOf", "(II)I"⟩
abbrev cX11_tells : ByteArray := prog_13_method_24_code
def yX11_tells : MethodName := ⟨RX11, "tells", "(III)V"⟩
abbrev cX11_readsPeople : ByteArray := prog_13_method_25_code
def yX11_readsPeople : MethodName := ⟨RX11, "readsPeople", "()I"⟩
abbrev cX11_clears : ByteArray := prog_13_method_26_code
def yX11_clears : MethodName := ⟨RX11, "clears", "()V"⟩
abbrev cX11_readsWalks : ByteArray := prog_13_method_27_code
def yX11_readsWalks : MethodName := ⟨RX11, "readsWalks", "()I"⟩
abbrev cX11_fault : ByteArray := prog_13_method_28_code
def yX11_fault : MethodName := ⟨RX11, "fault", "(I)I"⟩
abbrev cX11_reads : ByteArray := prog_13_method_29_code
def yX11_reads : MethodName := ⟨RX11, "reads", "()V"⟩
abbrev cX11_isPerson : ByteArray := prog_13_method_30_code
def yX11_isPerson : MethodName := ⟨RX11, "isPerson", "(I)Z"⟩
abbrev cX11_isAnyone : ByteArray := prog_13_method_31_code
def yX11_isAnyone : MethodName := ⟨RX11, "isAnyone", "(I)Z"⟩
abbrev cX11_isHour : ByteArray := prog_13_method_32_code
def yX11_isHour : MethodName := ⟨RX11, "isHour", "(I)Z"⟩
abbrev cX11_person : ByteArray := prog_13_method_33_code
def yX11_person : MethodName := ⟨RX11, "person", "(II)I"⟩
abbrev cX11_old : ByteArray := prog_13_method_34_code
def yX11_old : MethodName := ⟨RX11, "old", "(III)I"⟩
abbrev cX11_shades : ByteArray := prog_13_method_35_code
def yX11_shades : MethodName := ⟨RX11, "shades", "(II)V"⟩
abbrev cX11_umbrella : ByteArray := prog_13_method_36_code
def yX11_umbrella : MethodName := ⟨RX11, "umbrella", "(II)I"⟩
abbrev cX11_back : ByteArray := prog_13_method_37_code
def yX11_back : MethodName := ⟨RX11, "back", "(I)I"⟩
abbrev cX11_read : ByteArray := prog_13_method_38_code
def yX11_read : MethodName := ⟨RX11, "read", "(I)I"⟩
abbrev cX11_streetOf : ByteArray := prog_13_method_39_code
def yX11_streetOf : MethodName := ⟨RX11, "streetOf", "(II)I"⟩
abbrev cX11_street : ByteArray := prog_13_method_40_code
def yX11_street : MethodName := ⟨RX11, "street", "(II)I"⟩
abbrev cX11_isSeenOn : ByteArray := prog_13_method_41_code
def yX11_isSeenOn : MethodName := ⟨RX11, "isSeenOn", "(II)Z"⟩
abbrev cX11_begins : ByteArray := prog_13_method_42_code
def yX11_begins : MethodName := ⟨RX11, "begins", "()V"⟩
abbrev cX11_lessBows : ByteArray := prog_13_method_43_code
def yX11_lessBows : MethodName := ⟨RX11, "lessBows", "(II)Z"⟩
abbrev cX11_howLow : ByteArray := prog_13_method_44_code
def yX11_howLow : MethodName := ⟨RX11, "howLow", "(III)I"⟩
abbrev cX11_isClergy : ByteArray := prog_13_method_45_code
def yX11_isClergy : MethodName := ⟨RX11, "isClergy", "(I)Z"⟩
abbrev cX11_may : ByteArray := prog_13_method_46_code
def yX11_may : MethodName := ⟨RX11, "may", "(II)Z"⟩
abbrev cX11_meets : ByteArray := prog_13_method_47_code
def yX11_meets : MethodName := ⟨RX11, "meets", "(III)Z"⟩
abbrev cX11_lives : ByteArray := prog_13_method_48_code
def yX11_lives : MethodName := ⟨RX11, "lives", "(I)V"⟩
abbrev cX11_lowOf : ByteArray := prog_13_method_49_code
def yX11_lowOf : MethodName := ⟨RX11, "lowOf", "(II)I"⟩
abbrev cX11_low : ByteArray := prog_13_method_50_code
def yX11_low : MethodName := ⟨RX11, "low", "(II)I"⟩
abbrev cX11_behindOf : ByteArray := prog_13_method_51_code
def yX11_behindOf : MethodName := ⟨RX11, "behindOf", "(II)I"⟩
abbrev cX11_behind : ByteArray := prog_13_method_52_code
def yX11_behind : MethodName := ⟨RX11, "behind", "(II)I"⟩
abbrev cX11_owesNow : ByteArray := prog_13_method_53_code
def yX11_owesNow : MethodName := ⟨RX11, "owesNow", "(II)I"⟩
abbrev cX11_owesOf : ByteArray := prog_13_method_54_code
def yX11_owesOf : MethodName := ⟨RX11, "owesOf", "(III)I"⟩
abbrev cX11_owes : ByteArray := prog_13_method_55_code
def yX11_owes : MethodName := ⟨RX11, "owes", "(III)I"⟩
abbrev cX11_firstOf : ByteArray := prog_13_method_56_code
def yX11_firstOf : MethodName := ⟨RX11, "firstOf", "(I)I"⟩
abbrev cX11_first : ByteArray := prog_13_method_57_code
def yX11_first : MethodName := ⟨RX11, "first", "(I)I"⟩
abbrev cX11_endsOf : ByteArray := prog_13_method_58_code
def yX11_endsOf : MethodName := ⟨RX11, "endsOf", "(III)I"⟩
abbrev cX11_ends : ByteArray := prog_13_method_59_code
def yX11_ends : MethodName := ⟨RX11, "ends", "(III)I"⟩
abbrev cX11_isRing : ByteArray := prog_13_method_60_code
def yX11_isRing : MethodName := ⟨RX11, "isRing", "(III)Z"⟩
abbrev cX11_ringsOf : ByteArray := prog_13_method_61_code
def yX11_ringsOf : MethodName := ⟨RX11, "ringsOf", "(II)I"⟩
abbrev cX11_rings : ByteArray := prog_13_method_62_code
def yX11_rings : MethodName := ⟨RX11, "rings", "(II)I"⟩
abbrev cX11_isShaded : ByteArray := prog_13_method_63_code
def yX11_isShaded : MethodName := ⟨RX11, "isShaded", "(I)Z"⟩
abbrev cX11_shadeOf : ByteArray := prog_13_method_64_code
def yX11_shadeOf : MethodName := ⟨RX11, "shadeOf", "(I)I"⟩
abbrev cX11_shade : ByteArray := prog_13_method_65_code
def yX11_shade : MethodName := ⟨RX11, "shade", "(I)I"⟩
abbrev cX11_strollOf : ByteArray := prog_13_method_66_code
def yX11_strollOf : MethodName := ⟨RX11, "strollOf", "(III)I"⟩
abbrev cX11_stroll : ByteArray := prog_13_method_67_code
def yX11_stroll : MethodName := ⟨RX11, "stroll", "(III)I"⟩
abbrev cX11_seen : ByteArray := prog_13_method_68_code
def yX11_seen : MethodName := ⟨RX11, "seen", "(III)I"⟩
abbrev cX11_forget : ByteArray := prog_13_method_69_code
def yX11_forget : MethodName := ⟨RX11, "forget", "()I"⟩
abbrev cX11_isSeen : ByteArray := prog_13_method_70_code
def yX11_isSeen : MethodName := ⟨RX11, "isSeen", "()Z"⟩
abbrev cX11_neverOf : ByteArray := prog_13_method_71_code
def yX11_neverOf : MethodName := ⟨RX11, "neverOf", "(I)I"⟩
abbrev cX11_never : ByteArray := prog_13_method_72_code
def yX11_never : MethodName := ⟨RX11, "never", "(I)I"⟩
abbrev cX11_passNow : ByteArray := prog_13_method_73_code
def yX11_passNow : MethodName := ⟨RX11, "passNow", "()I"⟩
abbrev cX11_mostAlike : ByteArray := prog_13_method_74_code
def yX11_mostAlike : MethodName := ⟨RX11, "mostAlike", "(II)I"⟩
abbrev cX11_pass : ByteArray := prog_13_method_75_code
def yX11_pass : MethodName := ⟨RX11, "pass", "()I"⟩
abbrev cX11_forgetsOf : ByteArray := prog_13_method_76_code
def yX11_forgetsOf : MethodName := ⟨RX11, "forgetsOf", "(IIII)J"⟩
abbrev cX11_forgets : ByteArray := prog_13_method_77_code
def yX11_forgets : MethodName := ⟨RX11, "forgets", "(IIII)J"⟩
abbrev cX11_lot : ByteArray := prog_13_method_78_code
def yX11_lot : MethodName := ⟨RX11, "lot", "(I)I"⟩
abbrev cX11_seasonOf : ByteArray := prog_13_method_79_code
def yX11_seasonOf : MethodName := ⟨RX11, "seasonOf", "(III)I"⟩
abbrev cX11_season : ByteArray := prog_13_method_80_code
def yX11_season : MethodName := ⟨RX11, "season", "(III)I"⟩
abbrev cX11_write : ByteArray := prog_13_method_81_code
def yX11_write : MethodName := ⟨RX11, "write", "(II)I"⟩
abbrev cX11_count : ByteArray := prog_13_method_82_code
def yX11_count : MethodName := ⟨RX11, "count", "(I)I"⟩
abbrev cX11_tellsPerson : ByteArray := prog_13_method_83_code
def yX11_tellsPerson : MethodName := ⟨RX11, "tellsPerson", "(JI)J"⟩
abbrev cX11_tellsHour : ByteArray := prog_13_method_84_code
def yX11_tellsHour : MethodName := ⟨RX11, "tellsHour", "(JI)J"⟩
abbrev cX11_digest : ByteArray := prog_13_method_85_code
def yX11_digest : MethodName := ⟨RX11, "digest", "()J"⟩
def RJ6 : String := "java/lang/Integer"
def TJ6 : u_T := fun k => match k with
  | _ => ("", "", "", false)
def tyJ6 : Nat → FieldType := fun k => match k with
  | _ => .int
abbrev wsJ60 : List Cond := u_ws RJ6 TJ6 0
theorem nmJ6 : ∀ a, a < 0 → ∀ b, b < 0 → a ≠ b → (TJ6 a).2.1 ≠ (TJ6 b).2.1 := by decide +kernel
theorem tyJ6_ok : ∀ k, k < 0 → parseFieldDescriptor (TJ6 k).2.2.1 = some (tyJ6 k) := by decide +kernel
abbrev cJ6_bitCount_0f7a4 : ByteArray := prog_14_method_49_code
def yJ6_bitCount_0f7a4 : MethodName := ⟨RJ6, "bitCount", "(I)I"⟩
def RJ9 : String := "java/lang/Math"
def TJ9 : u_T := fun k => match k with
  | _ => ("", "", "", false)
def tyJ9 : Nat → FieldType := fun k => match k with
  | _ => .int
abbrev wsJ90 : List Cond := u_ws RJ9 TJ9 0
theorem nmJ9 : ∀ a, a < 0 → ∀ b, b < 0 → a ≠ b → (TJ9 a).2.1 ≠ (TJ9 b).2.1 := by decide +kernel
theorem tyJ9_ok : ∀ k, k < 0 → parseFieldDescriptor (TJ9 k).2.2.1 = some (tyJ9 k) := by decide +kernel
abbrev cJ9_abs_0f7a4 : ByteArray := prog_15_method_59_code
def yJ9_abs_0f7a4 : MethodName := ⟨RJ9, "abs", "(I)I"⟩
abbrev cJ9_max_7cf53 : ByteArray := prog_15_method_65_code
def yJ9_max_7cf53 : MethodName := ⟨RJ9, "max", "(II)I"⟩
abbrev cJ9_min_7cf53 : ByteArray := prog_15_method_69_code
def yJ9_min_7cf53 : MethodName := ⟨RJ9, "min", "(II)I"⟩
def RJ10 : String := "java/lang/System"
def TJ10 : u_T := fun k => match k with
  | _ => ("", "", "", false)
def tyJ10 : Nat → FieldType := fun k => match k with
  | _ => .int
abbrev wsJ100 : List Cond := u_ws RJ10 TJ10 0
theorem nmJ10 : ∀ a, a < 0 → ∀ b, b < 0 → a ≠ b → (TJ10 a).2.1 ≠ (TJ10 b).2.1 := by decide +kernel
theorem tyJ10_ok : ∀ k, k < 0 → parseFieldDescriptor (TJ10 k).2.2.1 = some (tyJ10 k) := by decide +kernel
def RJ7 : String := "java/util/Arrays"
def TJ7 : u_T := fun k => match k with
  | _ => ("", "", "", false)
def tyJ7 : Nat → FieldType := fun k => match k with
  | _ => .int
abbrev wsJ70 : List Cond := u_ws RJ7 TJ7 0
theorem nmJ7 : ∀ a, a < 0 → ∀ b, b < 0 → a ≠ b → (TJ7 a).2.1 ≠ (TJ7 b).2.1 := by decide +kernel
theorem tyJ7_ok : ∀ k, k < 0 → parseFieldDescriptor (TJ7 k).2.2.1 = some (tyJ7 k) := by decide +kernel
abbrev cJ7_fill_d0a16 : ByteArray := prog_17_method_101_code
def yJ7_fill_d0a16 : MethodName := ⟨RJ7, "fill", "([JJ)V"⟩
abbrev cJ7_fill_53178 : ByteArray := prog_17_method_103_code
def yJ7_fill_53178 : MethodName := ⟨RJ7, "fill", "([II)V"⟩
def RL : String := "LowerBowsLaw"
abbrev cL_law : ByteArray := code
def yL_law : MethodName := ⟨RL, "law", "([I)Z"⟩
abbrev vwCl : List vw_C := [(RX0, TX0, 2), (RX1, TX1, 3), (RX2, TX2, 13), (RX3, TX3, 4), (RX4, TX4, 7), (RX5, TX5, 3), (RX6, TX6, 4), (RX7, TX7, 4), (RX8, TX8, 2), (RX9, TX9, 3), (RX10, TX10, 14), (RX11, TX11, 31)]
