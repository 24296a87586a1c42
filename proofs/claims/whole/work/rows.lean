section
-- ===== PART A: goes FIRST, ahead of the names: the tables' words, and 'selects' of the private methods out of them =====
/-- a private method of a class that the tables say can be made, by its rows of tables_1 -/
def lw_okq (q : MethodName × Nat) : Prop := (q.1.cls ≠ "java/lang/invoke/MethodHandle" ∧ q.1.cls ≠ "java/lang/invoke/VarHandle") ∧ Cond.instantiable q.1.cls q.2 ∈ tables_1 ∧ Cond.privateMethod q.1 ∈ tables_1 ∧ Cond.instanceMethod q.1 ∈ tables_1
theorem lw_p0 : lw_okq (⟨"LowerBows", "textOf", "(I)LLowerBows$Text;"⟩, 14) := ⟨⟨by decide +kernel, by decide +kernel⟩, List.mem_of_getElem? (i := 18) (by decide +kernel), List.mem_of_getElem? (i := 349) (by decide +kernel), List.mem_of_getElem? (i := 350) (by decide +kernel)⟩
theorem lw_p1 : lw_okq (⟨"LowerBows", "readAgain", "(I)V"⟩, 14) := ⟨⟨by decide +kernel, by decide +kernel⟩, List.mem_of_getElem? (i := 18) (by decide +kernel), List.mem_of_getElem? (i := 357) (by decide +kernel), List.mem_of_getElem? (i := 358) (by decide +kernel)⟩
theorem lw_p2 : lw_okq (⟨"LowerBows", "isPerson", "(I)Z"⟩, 14) := ⟨⟨by decide +kernel, by decide +kernel⟩, List.mem_of_getElem? (i := 18) (by decide +kernel), List.mem_of_getElem? (i := 399) (by decide +kernel), List.mem_of_getElem? (i := 400) (by decide +kernel)⟩
theorem lw_p3 : lw_okq (⟨"LowerBows", "found", "(I)I"⟩, 14) := ⟨⟨by decide +kernel, by decide +kernel⟩, List.mem_of_getElem? (i := 18) (by decide +kernel), List.mem_of_getElem? (i := 436) (by decide +kernel), List.mem_of_getElem? (i := 437) (by decide +kernel)⟩
theorem lw_p4 : lw_okq (⟨"LowerBows$Coast", "expectFirstBows", "()V"⟩, 13) := ⟨⟨by decide +kernel, by decide +kernel⟩, List.mem_of_getElem? (i := 141) (by decide +kernel), List.mem_of_getElem? (i := 456) (by decide +kernel), List.mem_of_getElem? (i := 457) (by decide +kernel)⟩
theorem lw_p5 : lw_okq (⟨"LowerBows$Coast", "expectAnswerTo", "(III)V"⟩, 13) := ⟨⟨by decide +kernel, by decide +kernel⟩, List.mem_of_getElem? (i := 141) (by decide +kernel), List.mem_of_getElem? (i := 460) (by decide +kernel), List.mem_of_getElem? (i := 461) (by decide +kernel)⟩
theorem lw_p6 : lw_okq (⟨"LowerBows$ShadePlan", "findOne", "(I)Z"⟩, 3) := ⟨⟨by decide +kernel, by decide +kernel⟩, List.mem_of_getElem? (i := 204) (by decide +kernel), List.mem_of_getElem? (i := 538) (by decide +kernel), List.mem_of_getElem? (i := 539) (by decide +kernel)⟩
theorem lw_p7 : lw_okq (⟨"LowerBows$ShadePlan", "numberThatHelps", "(II)I"⟩, 3) := ⟨⟨by decide +kernel, by decide +kernel⟩, List.mem_of_getElem? (i := 204) (by decide +kernel), List.mem_of_getElem? (i := 542) (by decide +kernel), List.mem_of_getElem? (i := 543) (by decide +kernel)⟩
theorem lw_p8 : lw_okq (⟨"LowerBows$ShadePlan", "isWorthHiding", "(I)Z"⟩, 3) := ⟨⟨by decide +kernel, by decide +kernel⟩, List.mem_of_getElem? (i := 204) (by decide +kernel), List.mem_of_getElem? (i := 546) (by decide +kernel), List.mem_of_getElem? (i := 547) (by decide +kernel)⟩
theorem lw_p9 : lw_okq (⟨"LowerBows$ShadePlan", "toggle", "(I)V"⟩, 3) := ⟨⟨by decide +kernel, by decide +kernel⟩, List.mem_of_getElem? (i := 204) (by decide +kernel), List.mem_of_getElem? (i := 550) (by decide +kernel), List.mem_of_getElem? (i := 551) (by decide +kernel)⟩
theorem lw_p10 : lw_okq (⟨"LowerBows$ShadePlan", "findTwo", "(I)Z"⟩, 3) := ⟨⟨by decide +kernel, by decide +kernel⟩, List.mem_of_getElem? (i := 204) (by decide +kernel), List.mem_of_getElem? (i := 554) (by decide +kernel), List.mem_of_getElem? (i := 555) (by decide +kernel)⟩
theorem lw_p11 : lw_okq (⟨"LowerBows$StrollPlan", "costFor", "(I)I"⟩, 4) := ⟨⟨by decide +kernel, by decide +kernel⟩, List.mem_of_getElem? (i := 222) (by decide +kernel), List.mem_of_getElem? (i := 567) (by decide +kernel), List.mem_of_getElem? (i := 568) (by decide +kernel)⟩
theorem lw_p12 : lw_okq (⟨"LowerBows$Clues", "comesOutAsSeen", "()Z"⟩, 3) := ⟨⟨by decide +kernel, by decide +kernel⟩, List.mem_of_getElem? (i := 242) (by decide +kernel), List.mem_of_getElem? (i := 602) (by decide +kernel), List.mem_of_getElem? (i := 603) (by decide +kernel)⟩
theorem lw_p13 : lw_okq (⟨"LowerBows$Clues", "isAsSeenBehind", "(I)Z"⟩, 3) := ⟨⟨by decide +kernel, by decide +kernel⟩, List.mem_of_getElem? (i := 242) (by decide +kernel), List.mem_of_getElem? (i := 608) (by decide +kernel), List.mem_of_getElem? (i := 609) (by decide +kernel)⟩
theorem lw_p14 : lw_okq (⟨"LowerBows$Clues", "greatestAlike", "(II)I"⟩, 3) := ⟨⟨by decide +kernel, by decide +kernel⟩, List.mem_of_getElem? (i := 242) (by decide +kernel), List.mem_of_getElem? (i := 626) (by decide +kernel), List.mem_of_getElem? (i := 627) (by decide +kernel)⟩
theorem lw_p15 : lw_okq (⟨"LowerBows$Clues", "lowestOf", "(II)I"⟩, 3) := ⟨⟨by decide +kernel, by decide +kernel⟩, List.mem_of_getElem? (i := 242) (by decide +kernel), List.mem_of_getElem? (i := 630) (by decide +kernel), List.mem_of_getElem? (i := 631) (by decide +kernel)⟩
def lw_privs_1 : List (MethodName × Nat) := [(⟨"LowerBows", "textOf", "(I)LLowerBows$Text;"⟩, 14), (⟨"LowerBows", "readAgain", "(I)V"⟩, 14), (⟨"LowerBows", "isPerson", "(I)Z"⟩, 14), (⟨"LowerBows", "found", "(I)I"⟩, 14), (⟨"LowerBows$Coast", "expectFirstBows", "()V"⟩, 13), (⟨"LowerBows$Coast", "expectAnswerTo", "(III)V"⟩, 13), (⟨"LowerBows$ShadePlan", "findOne", "(I)Z"⟩, 3), (⟨"LowerBows$ShadePlan", "numberThatHelps", "(II)I"⟩, 3), (⟨"LowerBows$ShadePlan", "isWorthHiding", "(I)Z"⟩, 3), (⟨"LowerBows$ShadePlan", "toggle", "(I)V"⟩, 3), (⟨"LowerBows$ShadePlan", "findTwo", "(I)Z"⟩, 3), (⟨"LowerBows$StrollPlan", "costFor", "(I)I"⟩, 4), (⟨"LowerBows$Clues", "comesOutAsSeen", "()Z"⟩, 3), (⟨"LowerBows$Clues", "isAsSeenBehind", "(I)Z"⟩, 3), (⟨"LowerBows$Clues", "greatestAlike", "(II)I"⟩, 3), (⟨"LowerBows$Clues", "lowestOf", "(II)I"⟩, 3)]
theorem lw_r1 : ∀ q ∈ lw_privs_1, lw_okq q := List.forall_mem_cons.mpr ⟨lw_p0, List.forall_mem_cons.mpr ⟨lw_p1, List.forall_mem_cons.mpr ⟨lw_p2, List.forall_mem_cons.mpr ⟨lw_p3, List.forall_mem_cons.mpr ⟨lw_p4, List.forall_mem_cons.mpr ⟨lw_p5, List.forall_mem_cons.mpr ⟨lw_p6, List.forall_mem_cons.mpr ⟨lw_p7, List.forall_mem_cons.mpr ⟨lw_p8, List.forall_mem_cons.mpr ⟨lw_p9, List.forall_mem_cons.mpr ⟨lw_p10, List.forall_mem_cons.mpr ⟨lw_p11, List.forall_mem_cons.mpr ⟨lw_p12, List.forall_mem_cons.mpr ⟨lw_p13, List.forall_mem_cons.mpr ⟨lw_p14, List.forall_mem_cons.mpr ⟨lw_p15, fun _ h => absurd h List.not_mem_nil⟩⟩⟩⟩⟩⟩⟩⟩⟩⟩⟩⟩⟩⟩⟩⟩
theorem lw_p16 : lw_okq (⟨"LowerBows$Chances", "weightOf", "(II)J"⟩, 2) := ⟨⟨by decide +kernel, by decide +kernel⟩, List.mem_of_getElem? (i := 258) (by decide +kernel), List.mem_of_getElem? (i := 647) (by decide +kernel), List.mem_of_getElem? (i := 648) (by decide +kernel)⟩
theorem lw_p17 : lw_okq (⟨"LowerBows$Chances", "addToGone", "(J)V"⟩, 2) := ⟨⟨by decide +kernel, by decide +kernel⟩, List.mem_of_getElem? (i := 258) (by decide +kernel), List.mem_of_getElem? (i := 654) (by decide +kernel), List.mem_of_getElem? (i := 655) (by decide +kernel)⟩
theorem lw_p18 : lw_okq (⟨"LowerBows$Chances", "halvings", "(I)I"⟩, 2) := ⟨⟨by decide +kernel, by decide +kernel⟩, List.mem_of_getElem? (i := 258) (by decide +kernel), List.mem_of_getElem? (i := 663) (by decide +kernel), List.mem_of_getElem? (i := 664) (by decide +kernel)⟩
theorem lw_p19 : lw_okq (⟨"LowerBows$Chances", "bitsOfWhole", "()I"⟩, 2) := ⟨⟨by decide +kernel, by decide +kernel⟩, List.mem_of_getElem? (i := 258) (by decide +kernel), List.mem_of_getElem? (i := 667) (by decide +kernel), List.mem_of_getElem? (i := 668) (by decide +kernel)⟩
theorem lw_p20 : lw_okq (⟨"LowerBows", "digestOfPerson", "(JI)J"⟩, 14) := ⟨⟨by decide +kernel, by decide +kernel⟩, List.mem_of_getElem? (i := 18) (by decide +kernel), List.mem_of_getElem? (i := 747) (by decide +kernel), List.mem_of_getElem? (i := 748) (by decide +kernel)⟩
theorem lw_p21 : lw_okq (⟨"LowerBows", "digestOfHour", "(JI)J"⟩, 14) := ⟨⟨by decide +kernel, by decide +kernel⟩, List.mem_of_getElem? (i := 18) (by decide +kernel), List.mem_of_getElem? (i := 756) (by decide +kernel), List.mem_of_getElem? (i := 757) (by decide +kernel)⟩
theorem lw_p22 : lw_okq (⟨"LowerBows", "digestOfPlans", "(J)J"⟩, 14) := ⟨⟨by decide +kernel, by decide +kernel⟩, List.mem_of_getElem? (i := 18) (by decide +kernel), List.mem_of_getElem? (i := 762) (by decide +kernel), List.mem_of_getElem? (i := 763) (by decide +kernel)⟩
theorem lw_p23 : lw_okq (⟨"LowerBowsModel", "finds", "(I)I"⟩, 31) := ⟨⟨by decide +kernel, by decide +kernel⟩, List.mem_of_getElem? (i := 768) (by decide +kernel), List.mem_of_getElem? (i := 880) (by decide +kernel), List.mem_of_getElem? (i := 881) (by decide +kernel)⟩
theorem lw_p24 : lw_okq (⟨"LowerBowsModel", "lacks", "(III)I"⟩, 31) := ⟨⟨by decide +kernel, by decide +kernel⟩, List.mem_of_getElem? (i := 768) (by decide +kernel), List.mem_of_getElem? (i := 892) (by decide +kernel), List.mem_of_getElem? (i := 893) (by decide +kernel)⟩
theorem lw_p25 : lw_okq (⟨"LowerBowsModel", "readsPeople", "()I"⟩, 31) := ⟨⟨by decide +kernel, by decide +kernel⟩, List.mem_of_getElem? (i := 768) (by decide +kernel), List.mem_of_getElem? (i := 928) (by decide +kernel), List.mem_of_getElem? (i := 929) (by decide +kernel)⟩
theorem lw_p26 : lw_okq (⟨"LowerBowsModel", "tells", "(III)V"⟩, 31) := ⟨⟨by decide +kernel, by decide +kernel⟩, List.mem_of_getElem? (i := 768) (by decide +kernel), List.mem_of_getElem? (i := 938) (by decide +kernel), List.mem_of_getElem? (i := 939) (by decide +kernel)⟩
theorem lw_p27 : lw_okq (⟨"LowerBowsModel", "readsWalks", "()I"⟩, 31) := ⟨⟨by decide +kernel, by decide +kernel⟩, List.mem_of_getElem? (i := 768) (by decide +kernel), List.mem_of_getElem? (i := 942) (by decide +kernel), List.mem_of_getElem? (i := 943) (by decide +kernel)⟩
theorem lw_p28 : lw_okq (⟨"LowerBowsModel", "clears", "()V"⟩, 31) := ⟨⟨by decide +kernel, by decide +kernel⟩, List.mem_of_getElem? (i := 768) (by decide +kernel), List.mem_of_getElem? (i := 946) (by decide +kernel), List.mem_of_getElem? (i := 947) (by decide +kernel)⟩
theorem lw_p29 : lw_okq (⟨"LowerBowsModel", "reads", "()V"⟩, 31) := ⟨⟨by decide +kernel, by decide +kernel⟩, List.mem_of_getElem? (i := 768) (by decide +kernel), List.mem_of_getElem? (i := 956) (by decide +kernel), List.mem_of_getElem? (i := 957) (by decide +kernel)⟩
theorem lw_p30 : lw_okq (⟨"LowerBowsModel", "isPerson", "(I)Z"⟩, 31) := ⟨⟨by decide +kernel, by decide +kernel⟩, List.mem_of_getElem? (i := 768) (by decide +kernel), List.mem_of_getElem? (i := 960) (by decide +kernel), List.mem_of_getElem? (i := 961) (by decide +kernel)⟩
theorem lw_p31 : lw_okq (⟨"LowerBowsModel", "shades", "(II)V"⟩, 31) := ⟨⟨by decide +kernel, by decide +kernel⟩, List.mem_of_getElem? (i := 768) (by decide +kernel), List.mem_of_getElem? (i := 981) (by decide +kernel), List.mem_of_getElem? (i := 982) (by decide +kernel)⟩
def lw_privs_2 : List (MethodName × Nat) := [(⟨"LowerBows$Chances", "weightOf", "(II)J"⟩, 2), (⟨"LowerBows$Chances", "addToGone", "(J)V"⟩, 2), (⟨"LowerBows$Chances", "halvings", "(I)I"⟩, 2), (⟨"LowerBows$Chances", "bitsOfWhole", "()I"⟩, 2), (⟨"LowerBows", "digestOfPerson", "(JI)J"⟩, 14), (⟨"LowerBows", "digestOfHour", "(JI)J"⟩, 14), (⟨"LowerBows", "digestOfPlans", "(J)J"⟩, 14), (⟨"LowerBowsModel", "finds", "(I)I"⟩, 31), (⟨"LowerBowsModel", "lacks", "(III)I"⟩, 31), (⟨"LowerBowsModel", "readsPeople", "()I"⟩, 31), (⟨"LowerBowsModel", "tells", "(III)V"⟩, 31), (⟨"LowerBowsModel", "readsWalks", "()I"⟩, 31), (⟨"LowerBowsModel", "clears", "()V"⟩, 31), (⟨"LowerBowsModel", "reads", "()V"⟩, 31), (⟨"LowerBowsModel", "isPerson", "(I)Z"⟩, 31), (⟨"LowerBowsModel", "shades", "(II)V"⟩, 31)]
theorem lw_r2 : ∀ q ∈ lw_privs_2, lw_okq q := List.forall_mem_cons.mpr ⟨lw_p16, List.forall_mem_cons.mpr ⟨lw_p17, List.forall_mem_cons.mpr ⟨lw_p18, List.forall_mem_cons.mpr ⟨lw_p19, List.forall_mem_cons.mpr ⟨lw_p20, List.forall_mem_cons.mpr ⟨lw_p21, List.forall_mem_cons.mpr ⟨lw_p22, List.forall_mem_cons.mpr ⟨lw_p23, List.forall_mem_cons.mpr ⟨lw_p24, List.forall_mem_cons.mpr ⟨lw_p25, List.forall_mem_cons.mpr ⟨lw_p26, List.forall_mem_cons.mpr ⟨lw_p27, List.forall_mem_cons.mpr ⟨lw_p28, List.forall_mem_cons.mpr ⟨lw_p29, List.forall_mem_cons.mpr ⟨lw_p30, List.forall_mem_cons.mpr ⟨lw_p31, fun _ h => absurd h List.not_mem_nil⟩⟩⟩⟩⟩⟩⟩⟩⟩⟩⟩⟩⟩⟩⟩⟩
theorem lw_p32 : lw_okq (⟨"LowerBowsModel", "streetOf", "(II)I"⟩, 31) := ⟨⟨by decide +kernel, by decide +kernel⟩, List.mem_of_getElem? (i := 768) (by decide +kernel), List.mem_of_getElem? (i := 998) (by decide +kernel), List.mem_of_getElem? (i := 999) (by decide +kernel)⟩
theorem lw_p33 : lw_okq (⟨"LowerBowsModel", "lowOf", "(II)I"⟩, 31) := ⟨⟨by decide +kernel, by decide +kernel⟩, List.mem_of_getElem? (i := 768) (by decide +kernel), List.mem_of_getElem? (i := 1006) (by decide +kernel), List.mem_of_getElem? (i := 1007) (by decide +kernel)⟩
theorem lw_p34 : lw_okq (⟨"LowerBowsModel", "lives", "(I)V"⟩, 31) := ⟨⟨by decide +kernel, by decide +kernel⟩, List.mem_of_getElem? (i := 768) (by decide +kernel), List.mem_of_getElem? (i := 1010) (by decide +kernel), List.mem_of_getElem? (i := 1011) (by decide +kernel)⟩
theorem lw_p35 : lw_okq (⟨"LowerBowsModel", "begins", "()V"⟩, 31) := ⟨⟨by decide +kernel, by decide +kernel⟩, List.mem_of_getElem? (i := 768) (by decide +kernel), List.mem_of_getElem? (i := 1014) (by decide +kernel), List.mem_of_getElem? (i := 1015) (by decide +kernel)⟩
theorem lw_p36 : lw_okq (⟨"LowerBowsModel", "may", "(II)Z"⟩, 31) := ⟨⟨by decide +kernel, by decide +kernel⟩, List.mem_of_getElem? (i := 768) (by decide +kernel), List.mem_of_getElem? (i := 1024) (by decide +kernel), List.mem_of_getElem? (i := 1025) (by decide +kernel)⟩
theorem lw_p37 : lw_okq (⟨"LowerBowsModel", "isClergy", "(I)Z"⟩, 31) := ⟨⟨by decide +kernel, by decide +kernel⟩, List.mem_of_getElem? (i := 768) (by decide +kernel), List.mem_of_getElem? (i := 1028) (by decide +kernel), List.mem_of_getElem? (i := 1029) (by decide +kernel)⟩
theorem lw_p38 : lw_okq (⟨"LowerBowsModel", "isSeenOn", "(II)Z"⟩, 31) := ⟨⟨by decide +kernel, by decide +kernel⟩, List.mem_of_getElem? (i := 768) (by decide +kernel), List.mem_of_getElem? (i := 1035) (by decide +kernel), List.mem_of_getElem? (i := 1036) (by decide +kernel)⟩
theorem lw_p39 : lw_okq (⟨"LowerBowsModel", "meets", "(III)Z"⟩, 31) := ⟨⟨by decide +kernel, by decide +kernel⟩, List.mem_of_getElem? (i := 768) (by decide +kernel), List.mem_of_getElem? (i := 1039) (by decide +kernel), List.mem_of_getElem? (i := 1040) (by decide +kernel)⟩
theorem lw_p40 : lw_okq (⟨"LowerBowsModel", "lessBows", "(II)Z"⟩, 31) := ⟨⟨by decide +kernel, by decide +kernel⟩, List.mem_of_getElem? (i := 768) (by decide +kernel), List.mem_of_getElem? (i := 1043) (by decide +kernel), List.mem_of_getElem? (i := 1044) (by decide +kernel)⟩
theorem lw_p41 : lw_okq (⟨"LowerBowsModel", "howLow", "(III)I"⟩, 31) := ⟨⟨by decide +kernel, by decide +kernel⟩, List.mem_of_getElem? (i := 768) (by decide +kernel), List.mem_of_getElem? (i := 1047) (by decide +kernel), List.mem_of_getElem? (i := 1048) (by decide +kernel)⟩
theorem lw_p42 : lw_okq (⟨"LowerBowsModel", "behindOf", "(II)I"⟩, 31) := ⟨⟨by decide +kernel, by decide +kernel⟩, List.mem_of_getElem? (i := 768) (by decide +kernel), List.mem_of_getElem? (i := 1055) (by decide +kernel), List.mem_of_getElem? (i := 1056) (by decide +kernel)⟩
theorem lw_p43 : lw_okq (⟨"LowerBowsModel", "owesOf", "(III)I"⟩, 31) := ⟨⟨by decide +kernel, by decide +kernel⟩, List.mem_of_getElem? (i := 768) (by decide +kernel), List.mem_of_getElem? (i := 1063) (by decide +kernel), List.mem_of_getElem? (i := 1064) (by decide +kernel)⟩
theorem lw_p44 : lw_okq (⟨"LowerBowsModel", "owesNow", "(II)I"⟩, 31) := ⟨⟨by decide +kernel, by decide +kernel⟩, List.mem_of_getElem? (i := 768) (by decide +kernel), List.mem_of_getElem? (i := 1067) (by decide +kernel), List.mem_of_getElem? (i := 1068) (by decide +kernel)⟩
theorem lw_p45 : lw_okq (⟨"LowerBowsModel", "firstOf", "(I)I"⟩, 31) := ⟨⟨by decide +kernel, by decide +kernel⟩, List.mem_of_getElem? (i := 768) (by decide +kernel), List.mem_of_getElem? (i := 1075) (by decide +kernel), List.mem_of_getElem? (i := 1076) (by decide +kernel)⟩
theorem lw_p46 : lw_okq (⟨"LowerBowsModel", "endsOf", "(III)I"⟩, 31) := ⟨⟨by decide +kernel, by decide +kernel⟩, List.mem_of_getElem? (i := 768) (by decide +kernel), List.mem_of_getElem? (i := 1083) (by decide +kernel), List.mem_of_getElem? (i := 1084) (by decide +kernel)⟩
theorem lw_p47 : lw_okq (⟨"LowerBowsModel", "ringsOf", "(II)I"⟩, 31) := ⟨⟨by decide +kernel, by decide +kernel⟩, List.mem_of_getElem? (i := 768) (by decide +kernel), List.mem_of_getElem? (i := 1091) (by decide +kernel), List.mem_of_getElem? (i := 1092) (by decide +kernel)⟩
def lw_privs_3 : List (MethodName × Nat) := [(⟨"LowerBowsModel", "streetOf", "(II)I"⟩, 31), (⟨"LowerBowsModel", "lowOf", "(II)I"⟩, 31), (⟨"LowerBowsModel", "lives", "(I)V"⟩, 31), (⟨"LowerBowsModel", "begins", "()V"⟩, 31), (⟨"LowerBowsModel", "may", "(II)Z"⟩, 31), (⟨"LowerBowsModel", "isClergy", "(I)Z"⟩, 31), (⟨"LowerBowsModel", "isSeenOn", "(II)Z"⟩, 31), (⟨"LowerBowsModel", "meets", "(III)Z"⟩, 31), (⟨"LowerBowsModel", "lessBows", "(II)Z"⟩, 31), (⟨"LowerBowsModel", "howLow", "(III)I"⟩, 31), (⟨"LowerBowsModel", "behindOf", "(II)I"⟩, 31), (⟨"LowerBowsModel", "owesOf", "(III)I"⟩, 31), (⟨"LowerBowsModel", "owesNow", "(II)I"⟩, 31), (⟨"LowerBowsModel", "firstOf", "(I)I"⟩, 31), (⟨"LowerBowsModel", "endsOf", "(III)I"⟩, 31), (⟨"LowerBowsModel", "ringsOf", "(II)I"⟩, 31)]
theorem lw_r3 : ∀ q ∈ lw_privs_3, lw_okq q := List.forall_mem_cons.mpr ⟨lw_p32, List.forall_mem_cons.mpr ⟨lw_p33, List.forall_mem_cons.mpr ⟨lw_p34, List.forall_mem_cons.mpr ⟨lw_p35, List.forall_mem_cons.mpr ⟨lw_p36, List.forall_mem_cons.mpr ⟨lw_p37, List.forall_mem_cons.mpr ⟨lw_p38, List.forall_mem_cons.mpr ⟨lw_p39, List.forall_mem_cons.mpr ⟨lw_p40, List.forall_mem_cons.mpr ⟨lw_p41, List.forall_mem_cons.mpr ⟨lw_p42, List.forall_mem_cons.mpr ⟨lw_p43, List.forall_mem_cons.mpr ⟨lw_p44, List.forall_mem_cons.mpr ⟨lw_p45, List.forall_mem_cons.mpr ⟨lw_p46, List.forall_mem_cons.mpr ⟨lw_p47, fun _ h => absurd h List.not_mem_nil⟩⟩⟩⟩⟩⟩⟩⟩⟩⟩⟩⟩⟩⟩⟩⟩
theorem lw_p48 : lw_okq (⟨"LowerBowsModel", "isRing", "(III)Z"⟩, 31) := ⟨⟨by decide +kernel, by decide +kernel⟩, List.mem_of_getElem? (i := 768) (by decide +kernel), List.mem_of_getElem? (i := 1095) (by decide +kernel), List.mem_of_getElem? (i := 1096) (by decide +kernel)⟩
theorem lw_p49 : lw_okq (⟨"LowerBowsModel", "shadeOf", "(I)I"⟩, 31) := ⟨⟨by decide +kernel, by decide +kernel⟩, List.mem_of_getElem? (i := 768) (by decide +kernel), List.mem_of_getElem? (i := 1104) (by decide +kernel), List.mem_of_getElem? (i := 1105) (by decide +kernel)⟩
theorem lw_p50 : lw_okq (⟨"LowerBowsModel", "isShaded", "(I)Z"⟩, 31) := ⟨⟨by decide +kernel, by decide +kernel⟩, List.mem_of_getElem? (i := 768) (by decide +kernel), List.mem_of_getElem? (i := 1108) (by decide +kernel), List.mem_of_getElem? (i := 1109) (by decide +kernel)⟩
theorem lw_p51 : lw_okq (⟨"LowerBowsModel", "strollOf", "(III)I"⟩, 31) := ⟨⟨by decide +kernel, by decide +kernel⟩, List.mem_of_getElem? (i := 768) (by decide +kernel), List.mem_of_getElem? (i := 1116) (by decide +kernel), List.mem_of_getElem? (i := 1117) (by decide +kernel)⟩
theorem lw_p52 : lw_okq (⟨"LowerBowsModel", "neverOf", "(I)I"⟩, 31) := ⟨⟨by decide +kernel, by decide +kernel⟩, List.mem_of_getElem? (i := 768) (by decide +kernel), List.mem_of_getElem? (i := 1135) (by decide +kernel), List.mem_of_getElem? (i := 1136) (by decide +kernel)⟩
theorem lw_p53 : lw_okq (⟨"LowerBowsModel", "isSeen", "()Z"⟩, 31) := ⟨⟨by decide +kernel, by decide +kernel⟩, List.mem_of_getElem? (i := 768) (by decide +kernel), List.mem_of_getElem? (i := 1139) (by decide +kernel), List.mem_of_getElem? (i := 1140) (by decide +kernel)⟩
theorem lw_p54 : lw_okq (⟨"LowerBowsModel", "passNow", "()I"⟩, 31) := ⟨⟨by decide +kernel, by decide +kernel⟩, List.mem_of_getElem? (i := 768) (by decide +kernel), List.mem_of_getElem? (i := 1147) (by decide +kernel), List.mem_of_getElem? (i := 1148) (by decide +kernel)⟩
theorem lw_p55 : lw_okq (⟨"LowerBowsModel", "mostAlike", "(II)I"⟩, 31) := ⟨⟨by decide +kernel, by decide +kernel⟩, List.mem_of_getElem? (i := 768) (by decide +kernel), List.mem_of_getElem? (i := 1151) (by decide +kernel), List.mem_of_getElem? (i := 1152) (by decide +kernel)⟩
theorem lw_p56 : lw_okq (⟨"LowerBowsModel", "forgetsOf", "(IIII)J"⟩, 31) := ⟨⟨by decide +kernel, by decide +kernel⟩, List.mem_of_getElem? (i := 768) (by decide +kernel), List.mem_of_getElem? (i := 1160) (by decide +kernel), List.mem_of_getElem? (i := 1161) (by decide +kernel)⟩
theorem lw_p57 : lw_okq (⟨"LowerBowsModel", "seasonOf", "(III)I"⟩, 31) := ⟨⟨by decide +kernel, by decide +kernel⟩, List.mem_of_getElem? (i := 768) (by decide +kernel), List.mem_of_getElem? (i := 1175) (by decide +kernel), List.mem_of_getElem? (i := 1176) (by decide +kernel)⟩
theorem lw_p58 : lw_okq (⟨"LowerBowsModel", "lot", "(I)I"⟩, 31) := ⟨⟨by decide +kernel, by decide +kernel⟩, List.mem_of_getElem? (i := 768) (by decide +kernel), List.mem_of_getElem? (i := 1179) (by decide +kernel), List.mem_of_getElem? (i := 1180) (by decide +kernel)⟩
theorem lw_p59 : lw_okq (⟨"LowerBowsModel", "tellsPerson", "(JI)J"⟩, 31) := ⟨⟨by decide +kernel, by decide +kernel⟩, List.mem_of_getElem? (i := 768) (by decide +kernel), List.mem_of_getElem? (i := 1199) (by decide +kernel), List.mem_of_getElem? (i := 1200) (by decide +kernel)⟩
theorem lw_p60 : lw_okq (⟨"LowerBowsModel", "tellsHour", "(JI)J"⟩, 31) := ⟨⟨by decide +kernel, by decide +kernel⟩, List.mem_of_getElem? (i := 768) (by decide +kernel), List.mem_of_getElem? (i := 1205) (by decide +kernel), List.mem_of_getElem? (i := 1206) (by decide +kernel)⟩
def lw_privs_4 : List (MethodName × Nat) := [(⟨"LowerBowsModel", "isRing", "(III)Z"⟩, 31), (⟨"LowerBowsModel", "shadeOf", "(I)I"⟩, 31), (⟨"LowerBowsModel", "isShaded", "(I)Z"⟩, 31), (⟨"LowerBowsModel", "strollOf", "(III)I"⟩, 31), (⟨"LowerBowsModel", "neverOf", "(I)I"⟩, 31), (⟨"LowerBowsModel", "isSeen", "()Z"⟩, 31), (⟨"LowerBowsModel", "passNow", "()I"⟩, 31), (⟨"LowerBowsModel", "mostAlike", "(II)I"⟩, 31), (⟨"LowerBowsModel", "forgetsOf", "(IIII)J"⟩, 31), (⟨"LowerBowsModel", "seasonOf", "(III)I"⟩, 31), (⟨"LowerBowsModel", "lot", "(I)I"⟩, 31), (⟨"LowerBowsModel", "tellsPerson", "(JI)J"⟩, 31), (⟨"LowerBowsModel", "tellsHour", "(JI)J"⟩, 31)]
theorem lw_r4 : ∀ q ∈ lw_privs_4, lw_okq q := List.forall_mem_cons.mpr ⟨lw_p48, List.forall_mem_cons.mpr ⟨lw_p49, List.forall_mem_cons.mpr ⟨lw_p50, List.forall_mem_cons.mpr ⟨lw_p51, List.forall_mem_cons.mpr ⟨lw_p52, List.forall_mem_cons.mpr ⟨lw_p53, List.forall_mem_cons.mpr ⟨lw_p54, List.forall_mem_cons.mpr ⟨lw_p55, List.forall_mem_cons.mpr ⟨lw_p56, List.forall_mem_cons.mpr ⟨lw_p57, List.forall_mem_cons.mpr ⟨lw_p58, List.forall_mem_cons.mpr ⟨lw_p59, List.forall_mem_cons.mpr ⟨lw_p60, fun _ h => absurd h List.not_mem_nil⟩⟩⟩⟩⟩⟩⟩⟩⟩⟩⟩⟩⟩
def lw_privs : List (MethodName × Nat) := lw_privs_1 ++ (lw_privs_2 ++ (lw_privs_3 ++ (lw_privs_4)))
def lw_tbl : List Cond := k2_sels lw_privs ++ tables_1
theorem lw_privs_ok : ∀ q ∈ lw_privs, lw_okq q := by
  show ∀ q ∈ lw_privs_1 ++ (lw_privs_2 ++ (lw_privs_3 ++ (lw_privs_4))), lw_okq q
  exact List.forall_mem_append.mpr ⟨lw_r1, List.forall_mem_append.mpr ⟨lw_r2, List.forall_mem_append.mpr ⟨lw_r3, lw_r4⟩⟩⟩
-- ===== end of PART A; then your names; then what follows =====
def RX0 : String := "LowerBows$Chances"
def TX0 : u_T := fun k => match k with
  | 0 => ("LowerBows$Chances", "coast", "LLowerBows$Coast;", true)
  | _ => ("LowerBows$Chances", "weights", "[J", true)
def tyX0 : Nat → FieldType := fun k => match k with
  | 0 => .object "LowerBows$Coast"
  | _ => .array .long
abbrev wsX00 : List Cond := u_ws RX0 TX0 2
theorem nmX0 : ∀ a, a < 2 → ∀ b, b < 2 → a ≠ b → (TX0 a).2.1 ≠ (TX0 b).2.1 := by decide +kernel
theorem tyX0_ok : ∀ k, k < 2 → parseFieldDescriptor (TX0 k).2.2.1 = some (tyX0 k) := by decide +kernel
abbrev cX0_init : ByteArray := prog_2_method_1_code
def yX0_init : MethodName := ⟨RX0, "<init>", "(LLowerBows$Coast;)V"⟩
abbrev cX0_weigh : ByteArray := prog_2_method_2_code
def yX0_weigh : MethodName := ⟨RX0, "weigh", "(II)V"⟩
abbrev cX0_above : ByteArray := prog_2_method_3_code
def yX0_above : MethodName := ⟨RX0, "above", "(I)J"⟩
abbrev cX0_below : ByteArray := prog_2_method_4_code
def yX0_below : MethodName := ⟨RX0, "below", "(I)J"⟩
abbrev cX0_weightOf : ByteArray := prog_2_method_5_code
def yX0_weightOf : MethodName := ⟨RX0, "weightOf", "(II)J"⟩
abbrev cX0_addToGone : ByteArray := prog_2_method_6_code
def yX0_addToGone : MethodName := ⟨RX0, "addToGone", "(J)V"⟩
abbrev cX0_bitsOfWhole : ByteArray := prog_2_method_7_code
def yX0_bitsOfWhole : MethodName := ⟨RX0, "bitsOfWhole", "()I"⟩
abbrev cX0_halvings : ByteArray := prog_2_method_8_code
def yX0_halvings : MethodName := ⟨RX0, "halvings", "(I)I"⟩
def RX1 : String := "LowerBows$Clues"
def TX1 : u_T := fun k => match k with
  | 0 => ("LowerBows$Clues", "coast", "LLowerBows$Coast;", true)
  | 1 => ("LowerBows$Clues", "sights", "LLowerBows$Ledger;", true)
  | _ => ("LowerBows$Clues", "lowestWithout", "[I", true)
def tyX1 : Nat → FieldType := fun k => match k with
  | 0 => .object "LowerBows$Coast"
  | 1 => .object "LowerBows$Ledger"
  | _ => .array .int
abbrev wsX10 : List Cond := u_ws RX1 TX1 3
theorem nmX1 : ∀ a, a < 3 → ∀ b, b < 3 → a ≠ b → (TX1 a).2.1 ≠ (TX1 b).2.1 := by decide +kernel
theorem tyX1_ok : ∀ k, k < 3 → parseFieldDescriptor (TX1 k).2.2.1 = some (tyX1 k) := by decide +kernel
abbrev cX1_init : ByteArray := prog_3_method_1_code
def yX1_init : MethodName := ⟨RX1, "<init>", "(LLowerBows$Coast;LLowerBows$Ledger;)V"⟩
abbrev cX1_oldBowsThatNeverWere : ByteArray := prog_3_method_2_code
def yX1_oldBowsThatNeverWere : MethodName := ⟨RX1, "oldBowsThatNeverWere", "()I"⟩
abbrev cX1_umbrellasLeft : ByteArray := prog_3_method_3_code
def yX1_umbrellasLeft : MethodName := ⟨RX1, "umbrellasLeft", "()I"⟩
abbrev cX1_nextToPass : ByteArray := prog_3_method_4_code
def yX1_nextToPass : MethodName := ⟨RX1, "nextToPass", "()I"⟩
abbrev cX1_comesOutAsSeen : ByteArray := prog_3_method_5_code
def yX1_comesOutAsSeen : MethodName := ⟨RX1, "comesOutAsSeen", "()Z"⟩
abbrev cX1_isAsSeenBehind : ByteArray := prog_3_method_6_code
def yX1_isAsSeenBehind : MethodName := ⟨RX1, "isAsSeenBehind", "(I)Z"⟩
abbrev cX1_greatestAlike : ByteArray := prog_3_method_7_code
def yX1_greatestAlike : MethodName := ⟨RX1, "greatestAlike", "(II)I"⟩
abbrev cX1_lowestOf : ByteArray := prog_3_method_8_code
def yX1_lowestOf : MethodName := ⟨RX1, "lowestOf", "(II)I"⟩
def RX2 : String := "LowerBows$Coast"
def TX2 : u_T := fun k => match k with
  | 0 => ("LowerBows$Coast", "people", "LLowerBows$People;", true)
  | 1 => ("LowerBows$Coast", "walks", "LLowerBows$Walks;", true)
  | 2 => ("LowerBows$Coast", "olds", "LLowerBows$Ledger;", true)
  | 3 => ("LowerBows$Coast", "umbrellas", "LLowerBows$Ledger;", true)
  | 4 => ("LowerBows$Coast", "streets", "[I", true)
  | 5 => ("LowerBows$Coast", "hidden", "[I", true)
  | 6 => ("LowerBows$Coast", "dueAtFirst", "[I", true)
  | 7 => ("LowerBows$Coast", "due", "[I", true)
  | 8 => ("LowerBows$Coast", "lowest", "[I", true)
  | 9 => ("LowerBows$Coast", "gone", "I", false)
  | 10 => ("LowerBows$Coast", "bows", "I", false)
  | 11 => ("LowerBows$Coast", "firstHour", "I", false)
  | _ => ("LowerBows$Coast", "firstWho", "I", false)
def tyX2 : Nat → FieldType := fun k => match k with
  | 0 => .object "LowerBows$People"
  | 1 => .object "LowerBows$Walks"
  | 2 => .object "LowerBows$Ledger"
  | 3 => .object "LowerBows$Ledger"
  | 4 => .array .int
  | 5 => .array .int
  | 6 => .array .int
  | 7 => .array .int
  | 8 => .array .int
  | 9 => .int
  | 10 => .int
  | 11 => .int
  | _ => .int
abbrev wsX20 : List Cond := u_ws RX2 TX2 13
theorem nmX2 : ∀ a, a < 13 → ∀ b, b < 13 → a ≠ b → (TX2 a).2.1 ≠ (TX2 b).2.1 := by decide +kernel
theorem tyX2_ok : ∀ k, k < 13 → parseFieldDescriptor (TX2 k).2.2.1 = some (tyX2 k) := by decide +kernel
abbrev cX2_init : ByteArray := prog_4_method_1_code
def yX2_init : MethodName := ⟨RX2, "<init>", "(LLowerBows$People;LLowerBows$Walks;LLowerBows$Ledger;LLowerBows$Ledger;)V"⟩
abbrev cX2_walkAsTold : ByteArray := prog_4_method_2_code
def yX2_walkAsTold : MethodName := ⟨RX2, "walkAsTold", "(I)V"⟩
abbrev cX2_layOut : ByteArray := prog_4_method_3_code
def yX2_layOut : MethodName := ⟨RX2, "layOut", "(II)V"⟩
abbrev cX2_expectFirstBows : ByteArray := prog_4_method_4_code
def yX2_expectFirstBows : MethodName := ⟨RX2, "expectFirstBows", "()V"⟩
abbrev cX2_expectAnswerTo : ByteArray := prog_4_method_5_code
def yX2_expectAnswerTo : MethodName := ⟨RX2, "expectAnswerTo", "(III)V"⟩
abbrev cX2_begin : ByteArray := prog_4_method_6_code
def yX2_begin : MethodName := ⟨RX2, "begin", "()V"⟩
abbrev cX2_walkTo : ByteArray := prog_4_method_7_code
def yX2_walkTo : MethodName := ⟨RX2, "walkTo", "(I)V"⟩
abbrev cX2_walkTillOneIsGone : ByteArray := prog_4_method_8_code
def yX2_walkTillOneIsGone : MethodName := ⟨RX2, "walkTillOneIsGone", "()I"⟩
abbrev cX2_walkThrough : ByteArray := prog_4_method_9_code
def yX2_walkThrough : MethodName := ⟨RX2, "walkThrough", "(I)V"⟩
abbrev cX2_mayMeet : ByteArray := prog_4_method_10_code
def yX2_mayMeet : MethodName := ⟨RX2, "mayMeet", "(II)Z"⟩
abbrev cX2_meet : ByteArray := prog_4_method_11_code
def yX2_meet : MethodName := ⟨RX2, "meet", "(II)V"⟩
abbrev cX2_debt : ByteArray := prog_4_method_12_code
def yX2_debt : MethodName := ⟨RX2, "debt", "(II)I"⟩
abbrev cX2_isRing : ByteArray := prog_4_method_13_code
def yX2_isRing : MethodName := ⟨RX2, "isRing", "(III)Z"⟩
abbrev cX2_isGone : ByteArray := prog_4_method_14_code
def yX2_isGone : MethodName := ⟨RX2, "isGone", "(I)Z"⟩
abbrev cX2_meetByLot : ByteArray := prog_4_method_15_code
def yX2_meetByLot : MethodName := ⟨RX2, "meetByLot", "(II)V"⟩
def RX3 : String := "LowerBows$Ledger"
def TX3 : u_T := fun k => match k with
  | 0 => ("LowerBows$Ledger", "one", "[I", true)
  | 1 => ("LowerBows$Ledger", "two", "[I", true)
  | 2 => ("LowerBows$Ledger", "three", "[I", true)
  | _ => ("LowerBows$Ledger", "size", "I", false)
def tyX3 : Nat → FieldType := fun k => match k with
  | 0 => .array .int
  | 1 => .array .int
  | 2 => .array .int
  | _ => .int
abbrev wsX30 : List Cond := u_ws RX3 TX3 4
theorem nmX3 : ∀ a, a < 4 → ∀ b, b < 4 → a ≠ b → (TX3 a).2.1 ≠ (TX3 b).2.1 := by decide +kernel
theorem tyX3_ok : ∀ k, k < 4 → parseFieldDescriptor (TX3 k).2.2.1 = some (tyX3 k) := by decide +kernel
abbrev cX3_init : ByteArray := prog_5_method_1_code
def yX3_init : MethodName := ⟨RX3, "<init>", "(I)V"⟩
abbrev cX3_enter : ByteArray := prog_5_method_2_code
def yX3_enter : MethodName := ⟨RX3, "enter", "(III)I"⟩
def RX4 : String := "LowerBows$People"
def TX4 : u_T := fun k => match k with
  | 0 => ("LowerBows$People", "kind", "[I", true)
  | 1 => ("LowerBows$People", "can", "[I", true)
  | 2 => ("LowerBows$People", "lower", "[I", true)
  | 3 => ("LowerBows$People", "step", "[I", true)
  | 4 => ("LowerBows$People", "size", "I", false)
  | 5 => ("LowerBows$People", "clergyBits", "I", false)
  | _ => ("LowerBows$People", "faultAt", "I", false)
def tyX4 : Nat → FieldType := fun k => match k with
  | 0 => .array .int
  | 1 => .array .int
  | 2 => .array .int
  | 3 => .array .int
  | 4 => .int
  | 5 => .int
  | _ => .int
abbrev wsX40 : List Cond := u_ws RX4 TX4 7
theorem nmX4 : ∀ a, a < 7 → ∀ b, b < 7 → a ≠ b → (TX4 a).2.1 ≠ (TX4 b).2.1 := by decide +kernel
theorem tyX4_ok : ∀ k, k < 7 → parseFieldDescriptor (TX4 k).2.2.1 = some (tyX4 k) := by decide +kernel
abbrev cX4_init : ByteArray := prog_6_method_1_code
def yX4_init : MethodName := ⟨RX4, "<init>", "()V"⟩
abbrev cX4_take : ByteArray := prog_6_method_2_code
def yX4_take : MethodName := ⟨RX4, "take", "(LLowerBows$Text;)V"⟩
abbrev cX4_faultOf : ByteArray := prog_6_method_3_code
def yX4_faultOf : MethodName := ⟨RX4, "faultOf", "(LLowerBows$Text;)I"⟩
abbrev cX4_goesOn : ByteArray := prog_6_method_4_code
def yX4_goesOn : MethodName := ⟨RX4, "goesOn", "(II)Z"⟩
abbrev cX4_kindOf : ByteArray := prog_6_method_5_code
def yX4_kindOf : MethodName := ⟨RX4, "kindOf", "(I)I"⟩
def RX5 : String := "LowerBows$ShadePlan"
def TX5 : u_T := fun k => match k with
  | 0 => ("LowerBows$ShadePlan", "coast", "LLowerBows$Coast;", true)
  | 1 => ("LowerBows$ShadePlan", "numbers", "[I", true)
  | _ => ("LowerBows$ShadePlan", "size", "I", false)
def tyX5 : Nat → FieldType := fun k => match k with
  | 0 => .object "LowerBows$Coast"
  | 1 => .array .int
  | _ => .int
abbrev wsX50 : List Cond := u_ws RX5 TX5 3
theorem nmX5 : ∀ a, a < 3 → ∀ b, b < 3 → a ≠ b → (TX5 a).2.1 ≠ (TX5 b).2.1 := by decide +kernel
theorem tyX5_ok : ∀ k, k < 3 → parseFieldDescriptor (TX5 k).2.2.1 = some (tyX5 k) := by decide +kernel
abbrev cX5_init : ByteArray := prog_7_method_1_code
def yX5_init : MethodName := ⟨RX5, "<init>", "(LLowerBows$Coast;)V"⟩
abbrev cX5_find : ByteArray := prog_7_method_2_code
def yX5_find : MethodName := ⟨RX5, "find", "()V"⟩
abbrev cX5_findOne : ByteArray := prog_7_method_3_code
def yX5_findOne : MethodName := ⟨RX5, "findOne", "(I)Z"⟩
abbrev cX5_findTwo : ByteArray := prog_7_method_4_code
def yX5_findTwo : MethodName := ⟨RX5, "findTwo", "(I)Z"⟩
abbrev cX5_numberThatHelps : ByteArray := prog_7_method_5_code
def yX5_numberThatHelps : MethodName := ⟨RX5, "numberThatHelps", "(II)I"⟩
abbrev cX5_isWorthHiding : ByteArray := prog_7_method_6_code
def yX5_isWorthHiding : MethodName := ⟨RX5, "isWorthHiding", "(I)Z"⟩
abbrev cX5_toggle : ByteArray := prog_7_method_7_code
def yX5_toggle : MethodName := ⟨RX5, "toggle", "(I)V"⟩
def RX6 : String := "LowerBows$Sheet"
def TX6 : u_T := fun k => match k with
  | 0 => ("LowerBows$Sheet", "items", "[I", true)
  | 1 => ("LowerBows$Sheet", "lost", "Z", false)
  | 2 => ("LowerBows$Sheet", "form", "I", false)
  | _ => ("LowerBows$Sheet", "size", "I", false)
def tyX6 : Nat → FieldType := fun k => match k with
  | 0 => .array .int
  | 1 => .boolean
  | 2 => .int
  | _ => .int
abbrev wsX60 : List Cond := u_ws RX6 TX6 4
theorem nmX6 : ∀ a, a < 4 → ∀ b, b < 4 → a ≠ b → (TX6 a).2.1 ≠ (TX6 b).2.1 := by decide +kernel
theorem tyX6_ok : ∀ k, k < 4 → parseFieldDescriptor (TX6 k).2.2.1 = some (tyX6 k) := by decide +kernel
abbrev cX6_init : ByteArray := prog_8_method_1_code
def yX6_init : MethodName := ⟨RX6, "<init>", "()V"⟩
abbrev cX6_begin : ByteArray := prog_8_method_2_code
def yX6_begin : MethodName := ⟨RX6, "begin", "(II)V"⟩
abbrev cX6_findingAt : ByteArray := prog_8_method_3_code
def yX6_findingAt : MethodName := ⟨RX6, "findingAt", "(II)I"⟩
abbrev cX6_hasItems : ByteArray := prog_8_method_4_code
def yX6_hasItems : MethodName := ⟨RX6, "hasItems", "(II)Z"⟩
abbrev cX6_put : ByteArray := prog_8_method_5_code
def yX6_put : MethodName := ⟨RX6, "put", "(II)V"⟩
def RX7 : String := "LowerBows$StrollPlan"
def TX7 : u_T := fun k => match k with
  | 0 => ("LowerBows$StrollPlan", "coast", "LLowerBows$Coast;", true)
  | 1 => ("LowerBows$StrollPlan", "row", "[I", true)
  | 2 => ("LowerBows$StrollPlan", "best", "[I", true)
  | _ => ("LowerBows$StrollPlan", "gone", "I", false)
def tyX7 : Nat → FieldType := fun k => match k with
  | 0 => .object "LowerBows$Coast"
  | 1 => .array .int
  | 2 => .array .int
  | _ => .int
abbrev wsX70 : List Cond := u_ws RX7 TX7 4
theorem nmX7 : ∀ a, a < 4 → ∀ b, b < 4 → a ≠ b → (TX7 a).2.1 ≠ (TX7 b).2.1 := by decide +kernel
theorem tyX7_ok : ∀ k, k < 4 → parseFieldDescriptor (TX7 k).2.2.1 = some (tyX7 k) := by decide +kernel
abbrev cX7_init : ByteArray := prog_9_method_1_code
def yX7_init : MethodName := ⟨RX7, "<init>", "(LLowerBows$Coast;)V"⟩
abbrev cX7_find : ByteArray := prog_9_method_2_code
def yX7_find : MethodName := ⟨RX7, "find", "(II)V"⟩
abbrev cX7_streetIn : ByteArray := prog_9_method_3_code
def yX7_streetIn : MethodName := ⟨RX7, "streetIn", "(I)I"⟩
abbrev cX7_costFor : ByteArray := prog_9_method_4_code
def yX7_costFor : MethodName := ⟨RX7, "costFor", "(I)I"⟩
def RX8 : String := "LowerBows$Text"
def TX8 : u_T := fun k => match k with
  | 0 => ("LowerBows$Text", "bytes", "[I", true)
  | _ => ("LowerBows$Text", "size", "I", false)
def tyX8 : Nat → FieldType := fun k => match k with
  | 0 => .array .int
  | _ => .int
abbrev wsX80 : List Cond := u_ws RX8 TX8 2
theorem nmX8 : ∀ a, a < 2 → ∀ b, b < 2 → a ≠ b → (TX8 a).2.1 ≠ (TX8 b).2.1 := by decide +kernel
theorem tyX8_ok : ∀ k, k < 2 → parseFieldDescriptor (TX8 k).2.2.1 = some (tyX8 k) := by decide +kernel
abbrev cX8_init : ByteArray := prog_10_method_1_code
def yX8_init : MethodName := ⟨RX8, "<init>", "(I)V"⟩
abbrev cX8_append : ByteArray := prog_10_method_2_code
def yX8_append : MethodName := ⟨RX8, "append", "(I)V"⟩
def RX9 : String := "LowerBows$Walks"
def TX9 : u_T := fun k => match k with
  | 0 => ("LowerBows$Walks", "streets", "[I", true)
  | 1 => ("LowerBows$Walks", "size", "I", false)
  | _ => ("LowerBows$Walks", "faultAt", "I", false)
def tyX9 : Nat → FieldType := fun k => match k with
  | 0 => .array .int
  | 1 => .int
  | _ => .int
abbrev wsX90 : List Cond := u_ws RX9 TX9 3
theorem nmX9 : ∀ a, a < 3 → ∀ b, b < 3 → a ≠ b → (TX9 a).2.1 ≠ (TX9 b).2.1 := by decide +kernel
theorem tyX9_ok : ∀ k, k < 3 → parseFieldDescriptor (TX9 k).2.2.1 = some (tyX9 k) := by decide +kernel
abbrev cX9_init : ByteArray := prog_11_method_1_code
def yX9_init : MethodName := ⟨RX9, "<init>", "()V"⟩
abbrev cX9_take : ByteArray := prog_11_method_2_code
def yX9_take : MethodName := ⟨RX9, "take", "(LLowerBows$Text;)V"⟩
def RX10 : String := "LowerBows"
def TX10 : u_T := fun k => match k with
  | 0 => ("LowerBows", "peopleText", "LLowerBows$Text;", true)
  | 1 => ("LowerBows", "walksText", "LLowerBows$Text;", true)
  | 2 => ("LowerBows", "people", "LLowerBows$People;", true)
  | 3 => ("LowerBows", "walks", "LLowerBows$Walks;", true)
  | 4 => ("LowerBows", "olds", "LLowerBows$Ledger;", true)
  | 5 => ("LowerBows", "umbrellas", "LLowerBows$Ledger;", true)
  | 6 => ("LowerBows", "sights", "LLowerBows$Ledger;", true)
  | 7 => ("LowerBows", "coast", "LLowerBows$Coast;", true)
  | 8 => ("LowerBows", "shadePlan", "LLowerBows$ShadePlan;", true)
  | 9 => ("LowerBows", "strollPlan", "LLowerBows$StrollPlan;", true)
  | 10 => ("LowerBows", "clues", "LLowerBows$Clues;", true)
  | 11 => ("LowerBows", "chances", "LLowerBows$Chances;", true)
  | 12 => ("LowerBows", "sheets", "[LLowerBows$Sheet;", true)
  | _ => ("LowerBows", "latestFinding", "I", false)
def tyX10 : Nat → FieldType := fun k => match k with
  | 0 => .object "LowerBows$Text"
  | 1 => .object "LowerBows$Text"
  | 2 => .object "LowerBows$People"
  | 3 => .object "LowerBows$Walks"
  | 4 => .object "LowerBows$Ledger"
  | 5 => .object "LowerBows$Ledger"
  | 6 => .object "LowerBows$Ledger"
  | 7 => .object "LowerBows$Coast"
  | 8 => .object "LowerBows$ShadePlan"
  | 9 => .object "LowerBows$StrollPlan"
  | 10 => .object "LowerBows$Clues"
  | 11 => .object "LowerBows$Chances"
  | 12 => .array (.object "LowerBows$Sheet")
  | _ => .int
abbrev wsX100 : List Cond := u_ws RX10 TX10 14
theorem nmX10 : ∀ a, a < 14 → ∀ b, b < 14 → a ≠ b → (TX10 a).2.1 ≠ (TX10 b).2.1 := by decide +kernel
theorem tyX10_ok : ∀ k, k < 14 → parseFieldDescriptor (TX10 k).2.2.1 = some (tyX10 k) := by decide +kernel
abbrev cX10_init : ByteArray := prog_1_method_1_code
def yX10_init : MethodName := ⟨RX10, "<init>", "()V"⟩
abbrev cX10_type : ByteArray := prog_1_method_2_code
def yX10_type : MethodName := ⟨RX10, "type", "(II)I"⟩
abbrev cX10_wipe : ByteArray := prog_1_method_3_code
def yX10_wipe : MethodName := ⟨RX10, "wipe", "(I)I"⟩
abbrev cX10_undo : ByteArray := prog_1_method_4_code
def yX10_undo : MethodName := ⟨RX10, "undo", "(I)I"⟩
abbrev cX10_fault : ByteArray := prog_1_method_5_code
def yX10_fault : MethodName := ⟨RX10, "fault", "(I)I"⟩
abbrev cX10_person : ByteArray := prog_1_method_6_code
def yX10_person : MethodName := ⟨RX10, "person", "(II)I"⟩
abbrev cX10_street : ByteArray := prog_1_method_7_code
def yX10_street : MethodName := ⟨RX10, "street", "(II)I"⟩
abbrev cX10_old : ByteArray := prog_1_method_8_code
def yX10_old : MethodName := ⟨RX10, "old", "(III)I"⟩
abbrev cX10_umbrella : ByteArray := prog_1_method_9_code
def yX10_umbrella : MethodName := ⟨RX10, "umbrella", "(II)I"⟩
abbrev cX10_back : ByteArray := prog_1_method_10_code
def yX10_back : MethodName := ⟨RX10, "back", "(I)I"⟩
abbrev cX10_read : ByteArray := prog_1_method_11_code
def yX10_read : MethodName := ⟨RX10, "read", "(I)I"⟩
abbrev cX10_low : ByteArray := prog_1_method_12_code
def yX10_low : MethodName := ⟨RX10, "low", "(II)I"⟩
abbrev cX10_behind : ByteArray := prog_1_method_13_code
def yX10_behind : MethodName := ⟨RX10, "behind", "(II)I"⟩
abbrev cX10_owes : ByteArray := prog_1_method_14_code
def yX10_owes : MethodName := ⟨RX10, "owes", "(III)I"⟩
abbrev cX10_first : ByteArray := prog_1_method_15_code
def yX10_first : MethodName := ⟨RX10, "first", "(I)I"⟩
abbrev cX10_ends : ByteArray := prog_1_method_16_code
def yX10_ends : MethodName := ⟨RX10, "ends", "(III)I"⟩
abbrev cX10_rings : ByteArray := prog_1_method_17_code
def yX10_rings : MethodName := ⟨RX10, "rings", "(II)I"⟩
abbrev cX10_shade : ByteArray := prog_1_method_18_code
def yX10_shade : MethodName := ⟨RX10, "shade", "(I)I"⟩
abbrev cX10_stroll : ByteArray := prog_1_method_19_code
def yX10_stroll : MethodName := ⟨RX10, "stroll", "(III)I"⟩
abbrev cX10_seen : ByteArray := prog_1_method_20_code
def yX10_seen : MethodName := ⟨RX10, "seen", "(III)I"⟩
abbrev cX10_forget : ByteArray := prog_1_method_21_code
def yX10_forget : MethodName := ⟨RX10, "forget", "()I"⟩
abbrev cX10_never : ByteArray := prog_1_method_22_code
def yX10_never : MethodName := ⟨RX10, "never", "(I)I"⟩
abbrev cX10_pass : ByteArray := prog_1_method_23_code
def yX10_pass : MethodName := ⟨RX10, "pass", "()I"⟩
abbrev cX10_forgets : ByteArray := prog_1_method_24_code
def yX10_forgets : MethodName := ⟨RX10, "forgets", "(IIII)J"⟩
abbrev cX10_season : ByteArray := prog_1_method_25_code
def yX10_season : MethodName := ⟨RX10, "season", "(III)I"⟩
abbrev cX10_sheet : ByteArray := prog_1_method_26_code
def yX10_sheet : MethodName := ⟨RX10, "sheet", "(III)I"⟩
abbrev cX10_lose : ByteArray := prog_1_method_27_code
def yX10_lose : MethodName := ⟨RX10, "lose", "(I)I"⟩
abbrev cX10_lay : ByteArray := prog_1_method_28_code
def yX10_lay : MethodName := ⟨RX10, "lay", "(IIII)I"⟩
abbrev cX10_get : ByteArray := prog_1_method_29_code
def yX10_get : MethodName := ⟨RX10, "get", "(III)I"⟩
abbrev cX10_copy : ByteArray := prog_1_method_30_code
def yX10_copy : MethodName := ⟨RX10, "copy", "(IIIII)I"⟩
abbrev cX10_write : ByteArray := prog_1_method_31_code
def yX10_write : MethodName := ⟨RX10, "write", "(II)I"⟩
abbrev cX10_count : ByteArray := prog_1_method_32_code
def yX10_count : MethodName := ⟨RX10, "count", "(I)I"⟩
abbrev cX10_digest : ByteArray := prog_1_method_33_code
def yX10_digest : MethodName := ⟨RX10, "digest", "()J"⟩
abbrev cX10_digestOfPerson : ByteArray := prog_1_method_34_code
def yX10_digestOfPerson : MethodName := ⟨RX10, "digestOfPerson", "(JI)J"⟩
abbrev cX10_digestOfHour : ByteArray := prog_1_method_35_code
def yX10_digestOfHour : MethodName := ⟨RX10, "digestOfHour", "(JI)J"⟩
abbrev cX10_digestOfPlans : ByteArray := prog_1_method_36_code
def yX10_digestOfPlans : MethodName := ⟨RX10, "digestOfPlans", "(J)J"⟩
abbrev cX10_within : ByteArray := prog_1_method_37_code
def yX10_within : MethodName := ⟨RX10, "within", "(III)Z"⟩
abbrev cX10_isText : ByteArray := prog_1_method_38_code
def yX10_isText : MethodName := ⟨RX10, "isText", "(I)Z"⟩
abbrev cX10_isHour : ByteArray := prog_1_method_39_code
def yX10_isHour : MethodName := ⟨RX10, "isHour", "(I)Z"⟩
abbrev cX10_isSheet : ByteArray := prog_1_method_40_code
def yX10_isSheet : MethodName := ⟨RX10, "isSheet", "(I)Z"⟩
abbrev cX10_isForm : ByteArray := prog_1_method_41_code
def yX10_isForm : MethodName := ⟨RX10, "isForm", "(I)Z"⟩
abbrev cX10_mayBeOld : ByteArray := prog_1_method_42_code
def yX10_mayBeOld : MethodName := ⟨RX10, "mayBeOld", "(III)Z"⟩
abbrev cX10_isPerson : ByteArray := prog_1_method_43_code
def yX10_isPerson : MethodName := ⟨RX10, "isPerson", "(I)Z"⟩
abbrev cX10_textOf : ByteArray := prog_1_method_44_code
def yX10_textOf : MethodName := ⟨RX10, "textOf", "(I)LLowerBows$Text;"⟩
abbrev cX10_readAgain : ByteArray := prog_1_method_45_code
def yX10_readAgain : MethodName := ⟨RX10, "readAgain", "(I)V"⟩
abbrev cX10_found : ByteArray := prog_1_method_46_code
def yX10_found : MethodName := ⟨RX10, "found", "(I)I"⟩
def RX11 : String := "LowerBowsModel"
def TX11 : u_T := fun k => match k with
  | 0 => ("LowerBowsModel", "forms", "[I", true)
  | 1 => ("LowerBowsModel", "sizes", "[I", true)
  | 2 => ("LowerBowsModel", "items", "[I", true)
  | 3 => ("LowerBowsModel", "moved", "[I", true)
  | 4 => ("LowerBowsModel", "latest", "I", false)
  | 5 => ("LowerBowsModel", "bytes", "[I", true)
  | 6 => ("LowerBowsModel", "typed", "[I", true)
  | 7 => ("LowerBowsModel", "people", "I", false)
  | 8 => ("LowerBowsModel", "person", "[I", true)
  | 9 => ("LowerBowsModel", "walks", "I", false)
  | 10 => ("LowerBowsModel", "walk", "[I", true)
  | 11 => ("LowerBowsModel", "olds", "I", false)
  | 12 => ("LowerBowsModel", "old", "[I", true)
  | 13 => ("LowerBowsModel", "umbrellas", "I", false)
  | 14 => ("LowerBowsModel", "umbrella", "[I", true)
  | 15 => ("LowerBowsModel", "last", "[I", true)
  | 16 => ("LowerBowsModel", "lessBowed", "[I", true)
  | 17 => ("LowerBowsModel", "most", "[I", true)
  | 18 => ("LowerBowsModel", "gone", "I", false)
  | 19 => ("LowerBowsModel", "bows", "I", false)
  | 20 => ("LowerBowsModel", "firstHour", "I", false)
  | 21 => ("LowerBowsModel", "firstWho", "I", false)
  | 22 => ("LowerBowsModel", "noOld", "I", false)
  | 23 => ("LowerBowsModel", "forgotten", "I", false)
  | 24 => ("LowerBowsModel", "strolls", "I", false)
  | 25 => ("LowerBowsModel", "stroll", "[I", true)
  | 26 => ("LowerBowsModel", "row", "[I", true)
  | 27 => ("LowerBowsModel", "sights", "I", false)
  | 28 => ("LowerBowsModel", "sight", "[I", true)
  | 29 => ("LowerBowsModel", "lows", "[I", true)
  | _ => ("LowerBowsModel", "drawn", "I", false)
def tyX11 : Nat → FieldType := fun k => match k with
  | 0 => .array .int
  | 1 => .array .int
  | 2 => .array .int
  | 3 => .array .int
  | 4 => .int
  | 5 => .array .int
  | 6 => .array .int
  | 7 => .int
  | 8 => .array .int
  | 9 => .int
  | 10 => .array .int
  | 11 => .int
  | 12 => .array .int
  | 13 => .int
  | 14 => .array .int
  | 15 => .array .int
  | 16 => .array .int
  | 17 => .array .int
  | 18 => .int
  | 19 => .int
  | 20 => .int
  | 21 => .int
  | 22 => .int
  | 23 => .int
  | 24 => .int
  | 25 => .array .int
  | 26 => .array .int
  | 27 => .int
  | 28 => .array .int
  | 29 => .array .int
  | _ => .int
abbrev wsX110 : List Cond := u_ws RX11 TX11 31
theorem nmX11 : ∀ a, a < 31 → ∀ b, b < 31 → a ≠ b → (TX11 a).2.1 ≠ (TX11 b).2.1 := by decide +kernel
theorem tyX11_ok : ∀ k, k < 31 → parseFieldDescriptor (TX11 k).2.2.1 = some (tyX11 k) := by decide +kernel
abbrev cX11_init : ByteArray := prog_13_method_1_code
def yX11_init : MethodName := ⟨RX11, "<init>", "()V"⟩
abbrev cX11_in : ByteArray := prog_13_method_3_code
def yX11_in : MethodName := ⟨RX11, "in", "(JJJ)Z"⟩
abbrev cX11_no : ByteArray := prog_13_method_4_code
def yX11_no : MethodName := ⟨RX11, "no", "(I)J"⟩
abbrev cX11_isTwo : ByteArray := prog_13_method_5_code
def yX11_isTwo : MethodName := ⟨RX11, "isTwo", "(I)Z"⟩
abbrev cX11_isIn : ByteArray := prog_13_method_6_code
def yX11_isIn : MethodName := ⟨RX11, "isIn", "(II)Z"⟩
abbrev cX11_ones : ByteArray := prog_13_method_7_code
def yX11_ones : MethodName := ⟨RX11, "ones", "(I)I"⟩
abbrev cX11_lesser : ByteArray := prog_13_method_8_code
def yX11_lesser : MethodName := ⟨RX11, "lesser", "(II)I"⟩
abbrev cX11_greater : ByteArray := prog_13_method_9_code
def yX11_greater : MethodName := ⟨RX11, "greater", "(II)I"⟩
abbrev cX11_part : ByteArray := prog_13_method_10_code
def yX11_part : MethodName := ⟨RX11, "part", "(JJI)J"⟩
abbrev cX11_finds : ByteArray := prog_13_method_11_code
def yX11_finds : MethodName := ⟨RX11, "finds", "(I)I"⟩
abbrev cX11_isSheet : ByteArray := prog_13_method_12_code
def yX11_isSheet : MethodName := ⟨RX11, "isSheet", "(I)Z"⟩
abbrev cX11_sheet : ByteArray := prog_13_method_13_code
def yX11_sheet : MethodName := ⟨RX11, "sheet", "(III)I"⟩
abbrev cX11_lose : ByteArray := prog_13_method_14_code
def yX11_lose : MethodName := ⟨RX11, "lose", "(I)I"⟩
abbrev cX11_lacks : ByteArray := prog_13_method_15_code
def yX11_lacks : MethodName := ⟨RX11, "lacks", "(III)I"⟩
abbrev cX11_cut : ByteArray := prog_13_method_16_code
def yX11_cut : MethodName := ⟨RX11, "cut", "(II)I"⟩
abbrev cX11_lay : ByteArray := prog_13_method_17_code
def yX11_lay : MethodName := ⟨RX11, "lay", "(IIII)I"⟩
abbrev cX11_get : ByteArray := prog_13_method_18_code
def yX11_get : MethodName := ⟨RX11, "get", "(III)I"⟩
abbrev cX11_copy : ByteArray := prog_13_method_19_code
def yX11_copy : MethodName := ⟨RX11, "copy", "(IIIII)I"⟩
abbrev cX11_type : ByteArray := prog_13_method_20_code
def yX11_type : MethodName := ⟨RX11, "type", "(II)I"⟩
abbrev cX11_wipe : ByteArray := prog_13_method_21_code
def yX11_wipe : MethodName := ⟨RX11, "wipe", "(I)I"⟩
abbrev cX11_undo : ByteArray := prog_13_method_22_code
def yX11_undo : MethodName := ⟨RX11, "undo", "(I)I"⟩
abbrev cX11_tellsOf : ByteArray := prog_13_method_23_code
def yX11_tellsOf : MethodName := ⟨RX11, "tellsOf", "(II)I"⟩
abbrev cX11_tells : ByteArray := prog_13_method_24_code
def yX11_tells : MethodName := ⟨RX11, "tells", "(III)V"⟩
abbrev cX11_readsPeople : ByteArray := prog_13_method_25_code
def yX11_readsPeople : MethodName := ⟨RX11, "readsPeople", "()I"⟩
abbrev cX11_clears : ByteArray := prog_13_method_26_code
def yX11_clears : MethodName := ⟨RX11, "clears", "()V"⟩
abbrev cX11_readsWalks : ByteArray := prog_13_method_27_code
def yX11_readsWalks : MethodName := ⟨RX11, "readsWalks", "()I"⟩
abbrev cX11_fault : ByteArray := prog_13_method_28_code
def yX11_fault : MethodName := ⟨RX11, "fault", "(I)I"⟩
abbrev cX11_reads : ByteArray := prog_13_method_29_code
def yX11_reads : MethodName := ⟨RX11, "reads", "()V"⟩
abbrev cX11_isPerson : ByteArray := prog_13_method_30_code
def yX11_isPerson : MethodName := ⟨RX11, "isPerson", "(I)Z"⟩
abbrev cX11_isAnyone : ByteArray := prog_13_method_31_code
def yX11_isAnyone : MethodName := ⟨RX11, "isAnyone", "(I)Z"⟩
abbrev cX11_isHour : ByteArray := prog_13_method_32_code
def yX11_isHour : MethodName := ⟨RX11, "isHour", "(I)Z"⟩
abbrev cX11_person : ByteArray := prog_13_method_33_code
def yX11_person : MethodName := ⟨RX11, "person", "(II)I"⟩
abbrev cX11_old : ByteArray := prog_13_method_34_code
def yX11_old : MethodName := ⟨RX11, "old", "(III)I"⟩
abbrev cX11_shades : ByteArray := prog_13_method_35_code
def yX11_shades : MethodName := ⟨RX11, "shades", "(II)V"⟩
abbrev cX11_umbrella : ByteArray := prog_13_method_36_code
def yX11_umbrella : MethodName := ⟨RX11, "umbrella", "(II)I"⟩
abbrev cX11_back : ByteArray := prog_13_method_37_code
def yX11_back : MethodName := ⟨RX11, "back", "(I)I"⟩
abbrev cX11_read : ByteArray := prog_13_method_38_code
def yX11_read : MethodName := ⟨RX11, "read", "(I)I"⟩
abbrev cX11_streetOf : ByteArray := prog_13_method_39_code
def yX11_streetOf : MethodName := ⟨RX11, "streetOf", "(II)I"⟩
abbrev cX11_street : ByteArray := prog_13_method_40_code
def yX11_street : MethodName := ⟨RX11, "street", "(II)I"⟩
abbrev cX11_isSeenOn : ByteArray := prog_13_method_41_code
def yX11_isSeenOn : MethodName := ⟨RX11, "isSeenOn", "(II)Z"⟩
abbrev cX11_begins : ByteArray := prog_13_method_42_code
def yX11_begins : MethodName := ⟨RX11, "begins", "()V"⟩
abbrev cX11_lessBows : ByteArray := prog_13_method_43_code
def yX11_lessBows : MethodName := ⟨RX11, "lessBows", "(II)Z"⟩
abbrev cX11_howLow : ByteArray := prog_13_method_44_code
def yX11_howLow : MethodName := ⟨RX11, "howLow", "(III)I"⟩
abbrev cX11_isClergy : ByteArray := prog_13_method_45_code
def yX11_isClergy : MethodName := ⟨RX11, "isClergy", "(I)Z"⟩
abbrev cX11_may : ByteArray := prog_13_method_46_code
def yX11_may : MethodName := ⟨RX11, "may", "(II)Z"⟩
abbrev cX11_meets : ByteArray := prog_13_method_47_code
def yX11_meets : MethodName := ⟨RX11, "meets", "(III)Z"⟩
abbrev cX11_lives : ByteArray := prog_13_method_48_code
def yX11_lives : MethodName := ⟨RX11, "lives", "(I)V"⟩
abbrev cX11_lowOf : ByteArray := prog_13_method_49_code
def yX11_lowOf : MethodName := ⟨RX11, "lowOf", "(II)I"⟩
abbrev cX11_low : ByteArray := prog_13_method_50_code
def yX11_low : MethodName := ⟨RX11, "low", "(II)I"⟩
abbrev cX11_behindOf : ByteArray := prog_13_method_51_code
def yX11_behindOf : MethodName := ⟨RX11, "behindOf", "(II)I"⟩
abbrev cX11_behind : ByteArray := prog_13_method_52_code
def yX11_behind : MethodName := ⟨RX11, "behind", "(II)I"⟩
abbrev cX11_owesNow : ByteArray := prog_13_method_53_code
def yX11_owesNow : MethodName := ⟨RX11, "owesNow", "(II)I"⟩
abbrev cX11_owesOf : ByteArray := prog_13_method_54_code
def yX11_owesOf : MethodName := ⟨RX11, "owesOf", "(III)I"⟩
abbrev cX11_owes : ByteArray := prog_13_method_55_code
def yX11_owes : MethodName := ⟨RX11, "owes", "(III)I"⟩
abbrev cX11_firstOf : ByteArray := prog_13_method_56_code
def yX11_firstOf : MethodName := ⟨RX11, "firstOf", "(I)I"⟩
abbrev cX11_first : ByteArray := prog_13_method_57_code
def yX11_first : MethodName := ⟨RX11, "first", "(I)I"⟩
abbrev cX11_endsOf : ByteArray := prog_13_method_58_code
def yX11_endsOf : MethodName := ⟨RX11, "endsOf", "(III)I"⟩
abbrev cX11_ends : ByteArray := prog_13_method_59_code
def yX11_ends : MethodName := ⟨RX11, "ends", "(III)I"⟩
abbrev cX11_isRing : ByteArray := prog_13_method_60_code
def yX11_isRing : MethodName := ⟨RX11, "isRing", "(III)Z"⟩
abbrev cX11_ringsOf : ByteArray := prog_13_method_61_code
def yX11_ringsOf : MethodName := ⟨RX11, "ringsOf", "(II)I"⟩
abbrev cX11_rings : ByteArray := prog_13_method_62_code
def yX11_rings : MethodName := ⟨RX11, "rings", "(II)I"⟩
abbrev cX11_isShaded : ByteArray := prog_13_method_63_code
def yX11_isShaded : MethodName := ⟨RX11, "isShaded", "(I)Z"⟩
abbrev cX11_shadeOf : ByteArray := prog_13_method_64_code
def yX11_shadeOf : MethodName := ⟨RX11, "shadeOf", "(I)I"⟩
abbrev cX11_shade : ByteArray := prog_13_method_65_code
def yX11_shade : MethodName := ⟨RX11, "shade", "(I)I"⟩
abbrev cX11_strollOf : ByteArray := prog_13_method_66_code
def yX11_strollOf : MethodName := ⟨RX11, "strollOf", "(III)I"⟩
abbrev cX11_stroll : ByteArray := prog_13_method_67_code
def yX11_stroll : MethodName := ⟨RX11, "stroll", "(III)I"⟩
abbrev cX11_seen : ByteArray := prog_13_method_68_code
def yX11_seen : MethodName := ⟨RX11, "seen", "(III)I"⟩
abbrev cX11_forget : ByteArray := prog_13_method_69_code
def yX11_forget : MethodName := ⟨RX11, "forget", "()I"⟩
abbrev cX11_isSeen : ByteArray := prog_13_method_70_code
def yX11_isSeen : MethodName := ⟨RX11, "isSeen", "()Z"⟩
abbrev cX11_neverOf : ByteArray := prog_13_method_71_code
def yX11_neverOf : MethodName := ⟨RX11, "neverOf", "(I)I"⟩
abbrev cX11_never : ByteArray := prog_13_method_72_code
def yX11_never : MethodName := ⟨RX11, "never", "(I)I"⟩
abbrev cX11_passNow : ByteArray := prog_13_method_73_code
def yX11_passNow : MethodName := ⟨RX11, "passNow", "()I"⟩
abbrev cX11_mostAlike : ByteArray := prog_13_method_74_code
def yX11_mostAlike : MethodName := ⟨RX11, "mostAlike", "(II)I"⟩
abbrev cX11_pass : ByteArray := prog_13_method_75_code
def yX11_pass : MethodName := ⟨RX11, "pass", "()I"⟩
abbrev cX11_forgetsOf : ByteArray := prog_13_method_76_code
def yX11_forgetsOf : MethodName := ⟨RX11, "forgetsOf", "(IIII)J"⟩
abbrev cX11_forgets : ByteArray := prog_13_method_77_code
def yX11_forgets : MethodName := ⟨RX11, "forgets", "(IIII)J"⟩
abbrev cX11_lot : ByteArray := prog_13_method_78_code
def yX11_lot : MethodName := ⟨RX11, "lot", "(I)I"⟩
abbrev cX11_seasonOf : ByteArray := prog_13_method_79_code
def yX11_seasonOf : MethodName := ⟨RX11, "seasonOf", "(III)I"⟩
abbrev cX11_season : ByteArray := prog_13_method_80_code
def yX11_season : MethodName := ⟨RX11, "season", "(III)I"⟩
abbrev cX11_write : ByteArray := prog_13_method_81_code
def yX11_write : MethodName := ⟨RX11, "write", "(II)I"⟩
abbrev cX11_count : ByteArray := prog_13_method_82_code
def yX11_count : MethodName := ⟨RX11, "count", "(I)I"⟩
abbrev cX11_tellsPerson : ByteArray := prog_13_method_83_code
def yX11_tellsPerson : MethodName := ⟨RX11, "tellsPerson", "(JI)J"⟩
abbrev cX11_tellsHour : ByteArray := prog_13_method_84_code
def yX11_tellsHour : MethodName := ⟨RX11, "tellsHour", "(JI)J"⟩
abbrev cX11_digest : ByteArray := prog_13_method_85_code
def yX11_digest : MethodName := ⟨RX11, "digest", "()J"⟩
def RJ6 : String := "java/lang/Integer"
def TJ6 : u_T := fun k => match k with
  | _ => ("", "", "", false)
def tyJ6 : Nat → FieldType := fun k => match k with
  | _ => .int
abbrev wsJ60 : List Cond := u_ws RJ6 TJ6 0
theorem nmJ6 : ∀ a, a < 0 → ∀ b, b < 0 → a ≠ b → (TJ6 a).2.1 ≠ (TJ6 b).2.1 := by decide +kernel
theorem tyJ6_ok : ∀ k, k < 0 → parseFieldDescriptor (TJ6 k).2.2.1 = some (tyJ6 k) := by decide +kernel
abbrev cJ6_bitCount_0f7a4 : ByteArray := prog_14_method_49_code
def yJ6_bitCount_0f7a4 : MethodName := ⟨RJ6, "bitCount", "(I)I"⟩
def RJ9 : String := "java/lang/Math"
def TJ9 : u_T := fun k => match k with
  | _ => ("", "", "", false)
def tyJ9 : Nat → FieldType := fun k => match k with
  | _ => .int
abbrev wsJ90 : List Cond := u_ws RJ9 TJ9 0
theorem nmJ9 : ∀ a, a < 0 → ∀ b, b < 0 → a ≠ b → (TJ9 a).2.1 ≠ (TJ9 b).2.1 := by decide +kernel
theorem tyJ9_ok : ∀ k, k < 0 → parseFieldDescriptor (TJ9 k).2.2.1 = some (tyJ9 k) := by decide +kernel
abbrev cJ9_abs_0f7a4 : ByteArray := prog_15_method_59_code
def yJ9_abs_0f7a4 : MethodName := ⟨RJ9, "abs", "(I)I"⟩
abbrev cJ9_max_7cf53 : ByteArray := prog_15_method_65_code
def yJ9_max_7cf53 : MethodName := ⟨RJ9, "max", "(II)I"⟩
abbrev cJ9_min_7cf53 : ByteArray := prog_15_method_69_code
def yJ9_min_7cf53 : MethodName := ⟨RJ9, "min", "(II)I"⟩
def RJ10 : String := "java/lang/System"
def TJ10 : u_T := fun k => match k with
  | _ => ("", "", "", false)
def tyJ10 : Nat → FieldType := fun k => match k with
  | _ => .int
abbrev wsJ100 : List Cond := u_ws RJ10 TJ10 0
theorem nmJ10 : ∀ a, a < 0 → ∀ b, b < 0 → a ≠ b → (TJ10 a).2.1 ≠ (TJ10 b).2.1 := by decide +kernel
theorem tyJ10_ok : ∀ k, k < 0 → parseFieldDescriptor (TJ10 k).2.2.1 = some (tyJ10 k) := by decide +kernel
def RJ7 : String := "java/util/Arrays"
def TJ7 : u_T := fun k => match k with
  | _ => ("", "", "", false)
def tyJ7 : Nat → FieldType := fun k => match k with
  | _ => .int
abbrev wsJ70 : List Cond := u_ws RJ7 TJ7 0
theorem nmJ7 : ∀ a, a < 0 → ∀ b, b < 0 → a ≠ b → (TJ7 a).2.1 ≠ (TJ7 b).2.1 := by decide +kernel
theorem tyJ7_ok : ∀ k, k < 0 → parseFieldDescriptor (TJ7 k).2.2.1 = some (tyJ7 k) := by decide +kernel
abbrev cJ7_fill_d0a16 : ByteArray := prog_17_method_101_code
def yJ7_fill_d0a16 : MethodName := ⟨RJ7, "fill", "([JJ)V"⟩
abbrev cJ7_fill_53178 : ByteArray := prog_17_method_103_code
def yJ7_fill_53178 : MethodName := ⟨RJ7, "fill", "([II)V"⟩
def RL : String := "LowerBowsLaw"
abbrev cL_law : ByteArray := code
def yL_law : MethodName := ⟨RL, "law", "([I)Z"⟩
abbrev vwCl : List vw_C := [(RX0, TX0, 2), (RX1, TX1, 3), (RX2, TX2, 13), (RX3, TX3, 4), (RX4, TX4, 7), (RX5, TX5, 3), (RX6, TX6, 4), (RX7, TX7, 4), (RX8, TX8, 2), (RX9, TX9, 3), (RX10, TX10, 14), (RX11, TX11, 31)]
end
section
/-! ===== the abstract machine: ints as Int, cells by number, one world of 66 cells (the class's 0..47, the reference's 48..65) ===== -/
abbrev zVal : Type := Int ⊕ Int ⊕ Nat
abbrev vi (x : Int) : zVal := Sum.inl x
abbrev vl (x : Int) : zVal := Sum.inr (Sum.inl x)
abbrev vr (k : Nat) : zVal := Sum.inr (Sum.inr k)
abbrev zMem : Type := Nat → Int → Int
abbrev zLs : Type := List (Option zVal)
abbrev zRow : Type := Nat × Instr × Nat × Nat
/-- class, name, code, locals, answer, frames, local words, rows -/
abbrev zMth : Type := String × MethodName × ByteArray × Nat × Option FieldType × Nat × Nat × List zRow
abbrev mOwn (M : zMth) : String := M.1
abbrev mY (M : zMth) : MethodName := M.2.1
abbrev mCode (M : zMth) : ByteArray := M.2.2.1
abbrev mL (M : zMth) : Nat := M.2.2.2.1
abbrev mRet (M : zMth) : Option FieldType := M.2.2.2.2.1
abbrev mFr (M : zMth) : Nat := M.2.2.2.2.2.1
abbrev mLo (M : zMth) : Nat := M.2.2.2.2.2.2.1
abbrev mTbl (M : zMth) : List zRow := M.2.2.2.2.2.2.2
def zlook : List zRow → Nat → Option (Instr × Nat × Nat)
  | [], _ => none
  | r :: t, q => bif Nat.beq r.1 q then some r.2 else zlook t q
def zALL : List Cond := lw_tbl.filter goodWord
def zws (M : zMth) : List Cond := Cond.code (mY M) (mCode M) (mL M) (mRet M) :: zALL
def zrm (M : zMth) : Room := { frames := mFr M, cells := 0, slots := 0, locals := mLo M }
def zchk (M : zMth) : Bool := (mTbl M).all (fun r => decide (decode (mCode M) r.1 = .ok (r.2.1, r.2.2.1)) && Nat.beq r.2.2.2 (r.1 + r.2.2.1))
def zOK (M : zMth) : Prop := zchk M = true ∧ plainName (mY M).cls = true ∧ mOwn M = (mY M).cls ∧ Cond.code (mY M) (mCode M) (mL M) (mRet M) ∈ lw_tbl
theorem zlook_mem : ∀ {t : List zRow} {q : Nat} {x : Instr × Nat × Nat}, zlook t q = some x → (q, x) ∈ t
  | [], q, x, h => by cases h
  | r :: t, q, x, h => by
    unfold zlook at h
    cases hb : Nat.beq r.1 q with
    | true =>
      rw [hb] at h
      have e1 : r.1 = q := Nat.eq_of_beq_eq_true hb
      have e2 : r.2 = x := Option.some.inj h
      rw [← e1, ← e2]
      exact List.mem_cons_self
    | false =>
      rw [hb] at h
      exact List.mem_cons_of_mem _ (zlook_mem h)
theorem zdec {M : zMth} {pc len nx : Nat} {ins : Instr} (hM : zOK M) (hd : zlook (mTbl M) pc = some (ins, len, nx)) : decode (mCode M) pc = .ok (ins, len) ∧ nx = pc + len := by
  have h := List.all_eq_true.mp hM.1 _ (zlook_mem hd)
  simp only [Bool.and_eq_true, decide_eq_true_eq] at h
  exact ⟨h.1, Nat.eq_of_beq_eq_true h.2⟩
theorem zALL_mem {w : Cond} (h : w ∈ zALL) : w ∈ lw_tbl ∧ goodWord w = true := List.mem_filter.mp h
theorem zmem_ALL {w : Cond} (h : w ∈ lw_tbl) (g : goodWord w = true) : w ∈ zALL := List.mem_filter.mpr ⟨h, g⟩
theorem zgood_code (M : zMth) : goodWord (Cond.code (mY M) (mCode M) (mL M) (mRet M)) = true := rfl
theorem zGood {M' : zMth} {Ts : List Cond} (hM' : zOK M') (hT : ∀ w ∈ zALL, w ∈ Ts) : GoodIn Ts (zws M') := by
  intro w hw
  rcases List.mem_cons.mp hw with rfl | hw
  · exact ⟨hT _ (zmem_ALL hM'.2.2.2 (zgood_code M')), good_of_word (zgood_code M')⟩
  · exact ⟨hT _ hw, good_of_word (zALL_mem hw).2⟩
/-! the cells: (0, n, _) ints, (1, n, _) longs, (2, n, cells) an array of cells, (3, class, fields) an object -/
abbrev zShp : Type := Nat × Nat × List (Option Nat)
def zCT : List zShp := [
  (3, 10, [some 1, some 3, some 5, some 10, some 12, some 16, some 20, some 24, some 30, some 32, some 35, some 37, some 39, none]),
  (3, 8, [some 2, none]), (0, 39, []),
  (3, 8, [some 4, none]), (0, 71, []),
  (3, 4, [some 6, some 7, some 8, some 9, none, none, none]), (0, 8, []), (0, 8, []), (0, 8, []), (0, 8, []),
  (3, 9, [some 11, none, none]), (0, 96, []),
  (3, 3, [some 13, some 14, some 15, none]), (0, 12, []), (0, 12, []), (0, 12, []),
  (3, 3, [some 17, some 18, some 19, none]), (0, 8, []), (0, 8, []), (0, 8, []),
  (3, 3, [some 21, some 22, some 23, none]), (0, 8, []), (0, 8, []), (0, 8, []),
  (3, 2, [some 5, some 10, some 12, some 16, some 25, some 26, some 27, some 28, some 29, none, none, none, none]), (0, 96, []), (0, 12, []), (0, 64, []), (0, 64, []), (0, 8, []),
  (3, 5, [some 24, some 31, none]), (0, 2, []),
  (3, 7, [some 24, some 33, some 34, none]), (0, 3, []), (0, 3, []),
  (3, 1, [some 24, some 20, some 36]), (0, 96, []),
  (3, 0, [some 24, some 38]), (1, 8, []),
  (2, 4, [some 40, some 42, some 44, some 46]),
  (3, 6, [some 41, none, none, none]), (0, 60, []), (3, 6, [some 43, none, none, none]), (0, 60, []), (3, 6, [some 45, none, none, none]), (0, 60, []), (3, 6, [some 47, none, none, none]), (0, 60, []),
  (3, 11, [some 49, some 50, some 51, some 52, none, some 53, some 54, none, some 55, none, some 56, none, some 57, none, some 58, some 59, some 60, some 61, none, none, none, none, none, none, none, some 62, some 63, none, some 64, some 65, none]),
  (0, 4, []), (0, 4, []), (0, 240, []), (0, 60, []), (0, 144, []), (0, 2, []), (0, 24, []), (0, 96, []), (0, 36, []), (0, 20, []), (0, 64, []), (0, 64, []), (0, 8, []), (0, 3, []), (0, 2, []), (0, 24, []), (0, 96, [])]
def zrow (k : Nat) : zShp := zCT.getD k (9, 9, [])
abbrev zEnv : Type := va_G × (ClassId × ClassId × ClassId) × (Nat → Nat)
def zcv (E : zEnv) : zVal → Value
  | .inl x => .int (Int32.ofInt x)
  | .inr (.inl x) => .long (Int64.ofInt x)
  | .inr (.inr k) => .ref (E.2.2 k)
def zF (ad : Nat → Nat) (f : Int → Int) : Nat → List (Option Nat) → List Value
  | _, [] => []
  | j, none :: t => .int (Int32.ofInt (f j)) :: zF ad f (j + 1) t
  | j, some k :: t => .ref (ad k) :: zF ad f (j + 1) t
def zE (E : zEnv) (r : zShp) (f : Int → Int) : va_E := match r.1 with
  | 0 => .inl (E.2.1.1, r.2.1, .inl (fun j => Int32.ofInt (f j)))
  | 1 => .inl (E.2.1.2.1, r.2.1, .inr (.inl (fun j => Int64.ofInt (f j))))
  | 2 => .inl (E.2.1.2.2, r.2.1, .inr (.inr (.inr (.inr (fun j => (r.2.2.getD j none).map E.2.2)))))
  | _ => .inr (r.2.1, zF E.2.2 f 0 r.2.2)
def zW (E : zEnv) (mem : zMem) : va_W := (List.range 66).map (fun k => (E.2.2 k, zE E (zrow k) (mem k)))
def zupd (f : Int → Int) (i v : Int) : Int → Int := fun j => if j = i then v else f j
def zput (mem : zMem) (k : Nat) (f : Int → Int) : zMem := fun k' => bif Nat.beq k' k then f else mem k'
def zset (mem : zMem) (k : Nat) (i v : Int) : zMem := zput mem k (zupd (mem k) i v)
def zA (E : zEnv) : Nat → Prop := fun q => ∃ k, k < 66 ∧ q = E.2.2 k
def zTys (E : zEnv) : List (ClassId × FieldType) := [(E.2.1.1, .int), (E.2.1.2.1, .long), (E.2.1.2.2, .object "LowerBows$Sheet")]
def zNest : List (String × Nat) := [(RX4, 52), (RX9, 33), (RX7, 42), (RX6, 32)]
def zNw (U : State) : Prop := ∀ q ∈ zNest, va_Nw (.methodLinkNest q.1 q.2 yX10_within "LowerBows") U
theorem zNw.warm {s U : State} (hW : s.WarmedH U.vm) (h : zNw s) : zNw U := fun q hq => va_Nw.warmM hW (h q hq)
theorem zNw.same {u U : State} (hv : u.vm = U.vm) (h : zNw u) : zNw U := fun q hq => va_Nw.same rfl hv (h q hq)
theorem zCT_small : ∀ r ∈ zCT, r.2.1 ≤ 240 := by decide
theorem zCT_len : zCT.length = 66 := by decide
theorem zrow_lt {k a n : Nat} {fs : List (Option Nat)} (h : zrow k = (a, n, fs)) (ha : a < 9) : k < 66 := by
  by_cases hk : k < 66
  · exact hk
  · have e : zrow k = (9, 9, []) := by
      unfold zrow
      rw [List.getD_eq_getElem?_getD, List.getElem?_eq_none (by rw [zCT_len]; omega)]
      rfl
    rw [e] at h
    cases h
    omega
theorem zrow_small {k a n : Nat} {fs : List (Option Nat)} (h : zrow k = (a, n, fs)) (ha : a < 9) : n ≤ 240 := by
  have hk := zrow_lt h ha
  have hm : zrow k ∈ zCT := by
    unfold zrow
    rw [List.getD_eq_getElem?_getD, List.getElem?_eq_getElem (by rw [zCT_len]; exact hk)]
    exact List.getElem_mem _
  have := zCT_small _ hm
  rw [h] at this
  exact this
theorem zW_get {E : zEnv} {mem : zMem} {k : Nat} (hk : k < 66) : (zW E mem)[k]? = some (E.2.2 k, zE E (zrow k) (mem k)) := by
  unfold zW
  rw [List.getElem?_map, List.getElem?_range hk]
  rfl
theorem zW_set {E : zEnv} {mem : zMem} {k : Nat} {f : Int → Int} {e : va_E} (hk : k < 66) (he : e = zE E (zrow k) f) : (zW E mem).set k (E.2.2 k, e) = zW E (zput mem k f) := by
  subst he
  apply List.ext_getElem?
  intro j
  by_cases hj : j < 66
  · rw [zW_get hj]
    by_cases h : j = k
    · subst h
      rw [List.getElem?_set_self (by simp [zW]; exact hj)]
      simp [zput]
    · rw [List.getElem?_set_ne (Ne.symm h), zW_get hj]
      have hb : Nat.beq j k = false := by
        cases hq : Nat.beq j k with
        | false => rfl
        | true => exact absurd (Nat.eq_of_beq_eq_true hq) h
      simp [zput, hb]
  · rw [List.getElem?_eq_none (by simp [zW]; omega), List.getElem?_eq_none (by simp [zW]; omega)]
theorem zF_get (ad : Nat → Nat) (f : Int → Int) : ∀ (fs : List (Option Nat)) (b j : Nat), (zF ad f b fs)[j]? = (fs[j]?).map (fun o => match o with | none => Value.int (Int32.ofInt (f ((b + j : Nat) : Int))) | some k => .ref (ad k))
  | [], b, j => by simp [zF]
  | none :: t, b, 0 => by simp [zF]
  | some k :: t, b, 0 => by simp [zF]
  | none :: t, b, j + 1 => by
    simp only [zF, List.getElem?_cons_succ, zF_get ad f t (b + 1) j]
    have : b + 1 + j = b + (j + 1) := by omega
    rw [this]
  | some k :: t, b, j + 1 => by
    simp only [zF, List.getElem?_cons_succ, zF_get ad f t (b + 1) j]
    have : b + 1 + j = b + (j + 1) := by omega
    rw [this]
theorem zF_set (ad : Nat → Nat) (f : Int → Int) (v : Int) {fs : List (Option Nat)} {j : Nat} (h : fs[j]? = some none) : (zF ad f 0 fs).set j (.int (Int32.ofInt v)) = zF ad (zupd f j v) 0 fs := by
  apply List.ext_getElem?
  intro i
  by_cases hij : i = j
  · subst hij
    have hl : i < (zF ad f 0 fs).length := by
      have := zF_get ad f fs 0 i
      rw [h] at this
      exact (List.getElem?_eq_some_iff.mp this).1
    rw [List.getElem?_set_self hl, zF_get, h]
    simp [zupd]
  · rw [List.getElem?_set_ne (Ne.symm hij), zF_get, zF_get]
    congr 1
    funext o
    cases o with
    | some k => rfl
    | none =>
      have : ¬ ((i : Int) = (j : Int)) := by omega
      simp [zupd, this]
theorem zF_len (ad : Nat → Nat) (f : Int → Int) {fs : List (Option Nat)} {j : Nat} (h : fs[j]? = some none) : j < (zF ad f 0 fs).length := by
  have := zF_get ad f fs 0 j
  rw [h] at this
  exact (List.getElem?_eq_some_iff.mp this).1
/-! locals -/
def zcl (E : zEnv) : Nat → zLs → List (Nat × Value)
  | _, [] => []
  | i, none :: t => zcl E (i + 1) t
  | i, some v :: t => (i, zcv E v) :: zcl E (i + 1) t
theorem zcl_mem {E : zEnv} : ∀ {ls : zLs} {b i : Nat} {v : zVal}, ls[i]? = some (some v) → (b + i, zcv E v) ∈ zcl E b ls
  | [], b, i, v, h => by simp at h
  | none :: t, b, 0, v, h => by simp at h
  | some w :: t, b, 0, v, h => by
    simp at h
    subst h
    simp [zcl]
  | none :: t, b, i + 1, v, h => by
    have := zcl_mem (E := E) (b := b + 1) (i := i) (v := v) (ls := t) (by simpa using h)
    have e : b + 1 + i = b + (i + 1) := by omega
    rw [e] at this
    simpa [zcl] using this
  | some w :: t, b, i + 1, v, h => by
    have := zcl_mem (E := E) (b := b + 1) (i := i) (v := v) (ls := t) (by simpa using h)
    have e : b + 1 + i = b + (i + 1) := by omega
    rw [e] at this
    simp only [zcl]
    exact List.mem_cons_of_mem _ this
theorem zcl_of {E : zEnv} : ∀ {ls : zLs} {b : Nat} {q : Nat × Value}, q ∈ zcl E b ls → ∃ (i : Nat) (v : zVal), q = (b + i, zcv E v) ∧ ls[i]? = some (some v)
  | [], b, q, h => by simp [zcl] at h
  | none :: t, b, q, h => by
    simp only [zcl] at h
    obtain ⟨i, v, h1, h2⟩ := zcl_of h
    exact ⟨i + 1, v, by rw [h1]; congr 1; omega, by simpa using h2⟩
  | some w :: t, b, q, h => by
    simp only [zcl] at h
    rcases List.mem_cons.mp h with rfl | h
    · exact ⟨0, w, rfl, rfl⟩
    · obtain ⟨i, v, h1, h2⟩ := zcl_of h
      exact ⟨i + 1, v, by rw [h1]; congr 1; omega, by simpa using h2⟩
theorem zhas {E : zEnv} {la : Array Slot} {nL : Nat} {ls : zLs} (h : lv_has la nL (zcl E 0 ls)) {i : Nat} {v : zVal} (hi : ls[i]? = some (some v)) : la[i]? = some (.val (zcv E v)) := by
  have := h.2.2 _ (zcl_mem (E := E) (b := 0) hi)
  simpa using this
theorem zhas_mk {E : zEnv} {la : Array Slot} {nL : Nat} {ls : zLs} {l : List (Nat × Value)} (h : lv_has la nL l) (hs : ∀ (i : Nat) (v : zVal), ls[i]? = some (some v) → (i, zcv E v) ∈ l) : lv_has la nL (zcl E 0 ls) := by
  refine ⟨h.1, h.2.1, fun q hq => ?_⟩
  obtain ⟨i, v, h1, h2⟩ := zcl_of hq
  rw [h1]
  simp only [Nat.zero_add]
  exact h.2.2 (i, zcv E v) (hs i v h2)
/-- v at place i; what stood there as the first half of a long is gone -/
def zst1 : zLs → Nat → zVal → Option zLs
  | [], _, _ => none
  | _ :: t, 0, v => some (some v :: t)
  | a :: t, i + 1, v => match i, t, a with
    | 0, _ :: t', some (.inr (.inl _)) => some (none :: some v :: t')
    | 0, _ :: t', a => some (a :: some v :: t')
    | _, t, a => match zst1 t i v with
      | some t' => some (a :: t')
      | none => none
/-- nothing known at place i -/
def zclr : zLs → Nat → Option zLs
  | [], _ => none
  | _ :: t, 0 => some (none :: t)
  | a :: t, i + 1 => match zclr t i with
    | some t' => some (a :: t')
    | none => none
/-- a long v at places i and i + 1 -/
def zst2 (ls : zLs) (i : Nat) (v : zVal) : Option zLs := match zst1 ls i v with
  | some l1 => zclr l1 (i + 1)
  | none => none
def zlk (ls : zLs) (i : Nat) : Option zVal := match ls, i with
  | [], _ => none
  | a :: _, 0 => a
  | _ :: t, i + 1 => zlk t i
theorem zlk_get : ∀ {ls : zLs} {i : Nat} {v : zVal}, zlk ls i = some v → ls[i]? = some (some v)
  | [], _, _, h => by simp [zlk] at h
  | a :: _, 0, v, h => by simp [zlk] at h; simp [h]
  | _ :: t, i + 1, v, h => by
    simp only [zlk] at h
    simpa using zlk_get h
end
section
/-! ===== AW: from this place of the method it returns with Q ===== -/
theorem zst1_spec : ∀ {ls ls' : zLs} {i : Nat} {v : zVal}, zst1 ls i v = some ls' → ∀ (j : Nat) (w : zVal), ls'[j]? = some (some w) → (j = i ∧ w = v) ∨ (j ≠ i ∧ ls[j]? = some (some w) ∧ ¬ (j + 1 = i ∧ ∃ x, w = vl x)) := by
  intro ls
  induction ls with
  | nil => intro ls' i v h; simp [zst1] at h
  | cons a t ih =>
    intro ls' i v h j w hj
    cases i with
    | zero =>
      simp only [zst1, Option.some.injEq] at h
      subst h
      cases j with
      | zero => left; simp at hj; exact ⟨rfl, hj.symm⟩
      | succ j => right; exact ⟨by omega, by simpa using hj, by omega⟩
    | succ i =>
      unfold zst1 at h
      split at h
      · simp only [Option.some.injEq] at h
        subst h
        rcases j with _ | _ | j
        · simp at hj
        · left; simp at hj; exact ⟨rfl, hj.symm⟩
        · right; exact ⟨by omega, by simpa using hj, by omega⟩
      · rename_i hne
        simp only [Option.some.injEq] at h
        subst h
        rcases j with _ | _ | j
        · right
          simp at hj
          refine ⟨by omega, by simp [hj], ?_⟩
          rintro ⟨-, x, rfl⟩
          exact hne x hj
        · left; simp at hj; exact ⟨rfl, hj.symm⟩
        · right; exact ⟨by omega, by simpa using hj, by omega⟩
      · rename_i hne1 hne2
        split at h
        · rename_i t' ht'
          simp only [Option.some.injEq] at h
          subst h
          cases j with
          | zero =>
            right
            simp at hj
            refine ⟨by omega, by simp [hj], ?_⟩
            rintro ⟨hi, x, rfl⟩
            have hi0 : i = 0 := by omega
            subst hi0
            cases t with
            | nil => simp [zst1] at ht'
            | cons b t2 => first | exact hne1 b t2 rfl rfl | exact hne2 b t2 x rfl rfl hj | exact hne1 b t2 rfl rfl hj
          | succ j =>
            have hj' : t'[j]? = some (some w) := by simpa using hj
            rcases ih ht' j w hj' with ⟨rfl, rfl⟩ | ⟨h1, h2, h3⟩
            · exact Or.inl ⟨rfl, rfl⟩
            · exact Or.inr ⟨by omega, by simpa using h2, fun ⟨q1, q2⟩ => h3 ⟨by omega, q2⟩⟩
        · cases h
theorem zclr_spec : ∀ {ls ls' : zLs} {i : Nat}, zclr ls i = some ls' → ∀ (j : Nat) (w : zVal), ls'[j]? = some (some w) → j ≠ i ∧ ls[j]? = some (some w) := by
  intro ls
  induction ls with
  | nil => intro ls' i h; simp [zclr] at h
  | cons a t ih =>
    intro ls' i h j w hj
    cases i with
    | zero =>
      simp only [zclr, Option.some.injEq] at h
      subst h
      cases j with
      | zero => simp at hj
      | succ j => exact ⟨by omega, by simpa using hj⟩
    | succ i =>
      simp only [zclr] at h
      split at h
      · rename_i t' ht'
        simp only [Option.some.injEq] at h
        subst h
        cases j with
        | zero => exact ⟨by omega, by simpa using hj⟩
        | succ j =>
          obtain ⟨h1, h2⟩ := ih ht' j w (by simpa using hj)
          exact ⟨by omega, by simpa using h2⟩
      · cases h
theorem zst2_spec {ls ls' : zLs} {i : Nat} {v : zVal} (h : zst2 ls i v = some ls') (j : Nat) (w : zVal) (hj : ls'[j]? = some (some w)) : (j = i ∧ w = v) ∨ (j ≠ i ∧ j ≠ i + 1 ∧ ls[j]? = some (some w) ∧ ¬ (j + 1 = i ∧ ∃ x, w = vl x)) := by
  unfold zst2 at h
  split at h
  · rename_i l1 h1
    obtain ⟨a1, a2⟩ := zclr_spec h j w hj
    rcases zst1_spec h1 j w a2 with ⟨rfl, rfl⟩ | ⟨b1, b2, b3⟩
    · exact Or.inl ⟨rfl, rfl⟩
    · exact Or.inr ⟨b1, a1, b2, b3⟩
  · cases h
theorem zcv_cat (E : zEnv) (w : zVal) : (zcv E w).category = 2 ↔ ∃ x, w = vl x := by
  rcases w with x | x | k
  · simp [zcv, Value.category]
  · simp [zcv, Value.category]
  · simp [zcv, Value.category]
def zCx (M : zMth) (p : Program) (s : State) (m : MethodId) (args : Array Value) (meth : Method) (c : Code) (E : zEnv) : Prop :=
  p.tables.exec = Jvm.exec ∧ c.code = mCode M ∧ meth.sig.returnType = mRet M ∧ c.maxLocals = mL M ∧ s.vm.findClass (mOwn M) = some m.cls ∧ (∀ w ∈ zws M, w.before args s = true) ∧ meth.locks = false ∧ va_K E.1 vwCl (zTys E) s ∧ zNw s
def zQc (E : zEnv) (Q : Option zVal → zMem → Prop) : Array Value → State → Outcome → State → Prop := fun _ st oc t =>
  (∃ (r : Option zVal) (mem : zMem), oc = .returned (r.map (zcv E)) ∧ Q r mem ∧ va_P E.1 vwCl (zW E mem) t.heap ∧ va_D (zA E) (zW E mem)) ∧ va_F (zA E) st t
def AW (M : zMth) (pc : Nat) (ls : zLs) (st : List zVal) (mem : zMem) (Q : Option zVal → zMem → Prop) : Prop :=
  ∀ (p : Program) (l : Launch) (e : Env) (s : State) (m : MethodId) (args : Array Value) (below : List Frame) (meth : Method) (c : Code) (E : zEnv) (H : Heap) (locs : List Loc) (la : Array Slot),
    zCx M p s m args meth c E → lv_has la (mL M) (zcl E 0 ls) → va_P E.1 vwCl (zW E mem) H → va_D (zA E) (zW E mem) → va_S (zA E) s.heap H locs →
    W p l e (zrm M) s m args below meth c H locs 0 0 (MQ below (zQc E Q) args s 0 0 (zA E)) (F0 m pc la (st.map (zcv E)))
section ZW
variable {M : zMth} {pc nx : Nat} {ls : zLs} {st : List zVal} {mem : zMem} {Q : Option zVal → zMem → Prop}
/-- fewer known locals, at a head -/
theorem zw_weak {ls' : zLs} (h : ∀ (i : Nat) (v : zVal), ls'[i]? = some (some v) → ls[i]? = some (some v)) (kk : AW M pc ls' st mem Q) : AW M pc ls st mem Q := by
  intro p l e s m args below meth c E H locs la C hl hP hD hS
  exact kk p l e s m args below meth c E H locs la C (zhas_mk hl (fun i v hi => by simpa using zcl_mem (E := E) (b := 0) (h i v hi))) hP hD hS
def zsub : zLs → zLs → Bool
  | [], _ => true
  | none :: t, _ :: t' => zsub t t'
  | none :: t, [] => zsub t []
  | some _ :: _, _ => false
theorem zw_eq {mem' : zMem} (h : mem = mem') (kk : AW M pc ls st mem' Q) : AW M pc ls st mem Q := h ▸ kk
theorem zw_post {Q' : Option zVal → zMem → Prop} (h : ∀ r m', Q' r m' → Q r m') (kk : AW M pc ls st mem Q') : AW M pc ls st mem Q := by
  intro p l e s m args below meth c E H locs la C hl hP hD hS T hT X
  obtain ⟨t, a, o, b1, b2, ⟨⟨r, m', h1, h2, h3⟩, h4⟩, b4⟩ := kk p l e s m args below meth c E H locs la C hl hP hD hS T hT X
  exact ⟨t, a, o, b1, b2, ⟨⟨r, m', h1, h _ _ h2, h3⟩, h4⟩, b4⟩
theorem zw_iconst {n : Int} (hM : zOK M) (hd : zlook (mTbl M) pc = some (.iconst n, 1, nx))  (kk : AW M nx ls (vi n :: st) mem Q) : AW M pc ls (st) mem Q := by
  intro p l e s m args below meth c E H locs la C hl hP hD hS
  obtain ⟨hx, hb, hr, hml, hown, hts, hlk, hK, hN⟩ := id C
  obtain ⟨hdg, rfl⟩ := zdec hM hd
  have kk := kk p l e s m args below meth c E H locs la C hl hP hD hS
  exact lv_iconst hx hb hdg rfl kk
theorem zw_bipush {n : Int} (hM : zOK M) (hd : zlook (mTbl M) pc = some (.bipush n, 2, nx)) (hv : (Int8.ofInt n).toInt32 = Int32.ofInt n) (kk : AW M nx ls (vi n :: st) mem Q) : AW M pc ls (st) mem Q := by
  intro p l e s m args below meth c E H locs la C hl hP hD hS
  obtain ⟨hx, hb, hr, hml, hown, hts, hlk, hK, hN⟩ := id C
  obtain ⟨hdg, rfl⟩ := zdec hM hd
  have kk := kk p l e s m args below meth c E H locs la C hl hP hD hS
  exact lv_bipush hx hb hdg hv kk
theorem zw_sipush {n : Int} (hM : zOK M) (hd : zlook (mTbl M) pc = some (.sipush n, 3, nx)) (hv : (Int16.ofInt n).toInt32 = Int32.ofInt n) (kk : AW M nx ls (vi n :: st) mem Q) : AW M pc ls (st) mem Q := by
  intro p l e s m args below meth c E H locs la C hl hP hD hS
  obtain ⟨hx, hb, hr, hml, hown, hts, hlk, hK, hN⟩ := id C
  obtain ⟨hdg, rfl⟩ := zdec hM hd
  have kk := kk p l e s m args below meth c E H locs la C hl hP hD hS
  exact lv_sipush hx hb hdg hv kk
theorem zw_lconst {k : Fin 2} (hM : zOK M) (hd : zlook (mTbl M) pc = some (.lconst k, 1, nx))  (kk : AW M nx ls (vl ((k : Nat) : Int) :: st) mem Q) : AW M pc ls (st) mem Q := by
  intro p l e s m args below meth c E H locs la C hl hP hD hS
  obtain ⟨hx, hb, hr, hml, hown, hts, hlk, hK, hN⟩ := id C
  obtain ⟨hdg, rfl⟩ := zdec hM hd
  have kk := kk p l e s m args below meth c E H locs la C hl hP hD hS
  exact lv_lconst hx hb hdg (by simp [Int64.ofInt_eq_ofNat]) kk
theorem zw_ldc {idx : Nat} {n : Int} (hM : zOK M) (hd : zlook (mTbl M) pc = some (.ldc idx, 2, nx)) (hc : Cond.constant (mOwn M) idx (Int32.ofInt n) ∈ zALL) (kk : AW M nx ls (vi n :: st) mem Q) : AW M pc ls (st) mem Q := by
  intro p l e s m args below meth c E H locs la C hl hP hD hS
  obtain ⟨hx, hb, hr, hml, hown, hts, hlk, hK, hN⟩ := id C
  obtain ⟨hdg, rfl⟩ := zdec hM hd
  have kk := kk p l e s m args below meth c E H locs la C hl hP hD hS
  exact lv_ldc hx hb hown (hts _ (List.mem_cons_of_mem _ hc)) hdg kk
theorem zw_ldcw {idx : Nat} {n : Int} (hM : zOK M) (hd : zlook (mTbl M) pc = some (.ldc_w idx, 3, nx)) (hc : Cond.constant (mOwn M) idx (Int32.ofInt n) ∈ zALL) (kk : AW M nx ls (vi n :: st) mem Q) : AW M pc ls (st) mem Q := by
  intro p l e s m args below meth c E H locs la C hl hP hD hS
  obtain ⟨hx, hb, hr, hml, hown, hts, hlk, hK, hN⟩ := id C
  obtain ⟨hdg, rfl⟩ := zdec hM hd
  have kk := kk p l e s m args below meth c E H locs la C hl hP hD hS
  exact lv_ldcw hx hb hown (hts _ (List.mem_cons_of_mem _ hc)) hdg kk
theorem zw_ldc2 {idx : Nat} {n : Int} (hM : zOK M) (hd : zlook (mTbl M) pc = some (.ldc2_w idx, 3, nx)) (hc : Cond.constantLong (mOwn M) idx (Int64.ofInt n) ∈ zALL) (kk : AW M nx ls (vl n :: st) mem Q) : AW M pc ls (st) mem Q := by
  intro p l e s m args below meth c E H locs la C hl hP hD hS
  obtain ⟨hx, hb, hr, hml, hown, hts, hlk, hK, hN⟩ := id C
  obtain ⟨hdg, rfl⟩ := zdec hM hd
  have kk := kk p l e s m args below meth c E H locs la C hl hP hD hS
  exact lv_ldc2 hx hb hown (hts _ (List.mem_cons_of_mem _ hc)) hdg kk
theorem zw_iload_n {k : Fin 4} {x : Int} (hM : zOK M) (hd : zlook (mTbl M) pc = some (.iload_n k, 1, nx)) (hv : zlk ls k = some (vi x)) (kk : AW M nx ls (vi x :: st) mem Q) : AW M pc ls (st) mem Q := by
  intro p l e s m args below meth c E H locs la C hl hP hD hS
  obtain ⟨hx, hb, hr, hml, hown, hts, hlk, hK, hN⟩ := id C
  obtain ⟨hdg, rfl⟩ := zdec hM hd
  have kk := kk p l e s m args below meth c E H locs la C hl hP hD hS
  exact lv_iload_n hx hb hdg rfl (zhas hl (zlk_get hv)) kk
theorem zw_iload {i : Nat} {x : Int} (hM : zOK M) (hd : zlook (mTbl M) pc = some (.iload i, 2, nx)) (hv : zlk ls i = some (vi x)) (kk : AW M nx ls (vi x :: st) mem Q) : AW M pc ls (st) mem Q := by
  intro p l e s m args below meth c E H locs la C hl hP hD hS
  obtain ⟨hx, hb, hr, hml, hown, hts, hlk, hK, hN⟩ := id C
  obtain ⟨hdg, rfl⟩ := zdec hM hd
  have kk := kk p l e s m args below meth c E H locs la C hl hP hD hS
  exact lv_iload hx hb hdg (zhas hl (zlk_get hv)) kk
theorem zw_lload_n {k : Fin 4} {x : Int} (hM : zOK M) (hd : zlook (mTbl M) pc = some (.lload_n k, 1, nx)) (hv : zlk ls k = some (vl x)) (kk : AW M nx ls (vl x :: st) mem Q) : AW M pc ls (st) mem Q := by
  intro p l e s m args below meth c E H locs la C hl hP hD hS
  obtain ⟨hx, hb, hr, hml, hown, hts, hlk, hK, hN⟩ := id C
  obtain ⟨hdg, rfl⟩ := zdec hM hd
  have kk := kk p l e s m args below meth c E H locs la C hl hP hD hS
  exact lv_lload_n hx hb hdg rfl (zhas hl (zlk_get hv)) kk
theorem zw_lload {i : Nat} {x : Int} (hM : zOK M) (hd : zlook (mTbl M) pc = some (.lload i, 2, nx)) (hv : zlk ls i = some (vl x)) (kk : AW M nx ls (vl x :: st) mem Q) : AW M pc ls (st) mem Q := by
  intro p l e s m args below meth c E H locs la C hl hP hD hS
  obtain ⟨hx, hb, hr, hml, hown, hts, hlk, hK, hN⟩ := id C
  obtain ⟨hdg, rfl⟩ := zdec hM hd
  have kk := kk p l e s m args below meth c E H locs la C hl hP hD hS
  exact lv_lload hx hb hdg (zhas hl (zlk_get hv)) kk
theorem zw_aload_n {k : Fin 4} {x : Nat} (hM : zOK M) (hd : zlook (mTbl M) pc = some (.aload_n k, 1, nx)) (hv : zlk ls k = some (vr x)) (kk : AW M nx ls (vr x :: st) mem Q) : AW M pc ls (st) mem Q := by
  intro p l e s m args below meth c E H locs la C hl hP hD hS
  obtain ⟨hx, hb, hr, hml, hown, hts, hlk, hK, hN⟩ := id C
  obtain ⟨hdg, rfl⟩ := zdec hM hd
  have kk := kk p l e s m args below meth c E H locs la C hl hP hD hS
  exact lv_aload_n hx hb hdg rfl (zhas hl (zlk_get hv)) kk
theorem zw_aload {i : Nat} {x : Nat} (hM : zOK M) (hd : zlook (mTbl M) pc = some (.aload i, 2, nx)) (hv : zlk ls i = some (vr x)) (kk : AW M nx ls (vr x :: st) mem Q) : AW M pc ls (st) mem Q := by
  intro p l e s m args below meth c E H locs la C hl hP hD hS
  obtain ⟨hx, hb, hr, hml, hown, hts, hlk, hK, hN⟩ := id C
  obtain ⟨hdg, rfl⟩ := zdec hM hd
  have kk := kk p l e s m args below meth c E H locs la C hl hP hD hS
  exact lv_aload hx hb hdg (zhas hl (zlk_get hv)) kk
theorem zw_istore_n {k : Fin 4} {x : Int} {ls' : zLs} (hM : zOK M) (hd : zlook (mTbl M) pc = some (.istore_n k, 1, nx)) (hv : zst1 ls (k : Nat) (vi x) = some ls') (hn : (k : Nat) < mL M) (kk : AW M nx ls' st mem Q) : AW M pc ls (vi x :: st) mem Q := by
  intro p l e s m args below meth c E H locs la C hl hP hD hS
  obtain ⟨hx, hb, hr, hml, hown, hts, hlk, hK, hN⟩ := id C
  obtain ⟨hdg, rfl⟩ := zdec hM hd
  refine lv_istore_n hx hb hdg rfl hl hn rfl (fun la' hl' => ?_)
  refine kk p l e s m args below meth c E H locs la' C (zhas_mk hl' (fun j u hj => ?_)) hP hD hS
  rcases zst1_spec hv j u hj with ⟨rfl, rfl⟩ | ⟨h1, h2, h3⟩
  · exact List.mem_cons_self
  · refine List.mem_cons_of_mem _ (List.mem_filter.mpr ⟨by simpa using zcl_mem (E := E) (b := 0) h2, ?_⟩)
    have h4 : ¬ (j + 1 = (k : Nat) ∧ (zcv E u).category = 2) := fun ⟨q1, q2⟩ => h3 ⟨q1, (zcv_cat E u).mp q2⟩
    simp [h1]
    omega
theorem zw_istore {i : Nat} {x : Int} {ls' : zLs} (hM : zOK M) (hd : zlook (mTbl M) pc = some (.istore i, 2, nx)) (hv : zst1 ls i (vi x) = some ls') (hn : i < mL M) (kk : AW M nx ls' st mem Q) : AW M pc ls (vi x :: st) mem Q := by
  intro p l e s m args below meth c E H locs la C hl hP hD hS
  obtain ⟨hx, hb, hr, hml, hown, hts, hlk, hK, hN⟩ := id C
  obtain ⟨hdg, rfl⟩ := zdec hM hd
  refine lv_istore hx hb hdg hl hn rfl (fun la' hl' => ?_)
  refine kk p l e s m args below meth c E H locs la' C (zhas_mk hl' (fun j u hj => ?_)) hP hD hS
  rcases zst1_spec hv j u hj with ⟨rfl, rfl⟩ | ⟨h1, h2, h3⟩
  · exact List.mem_cons_self
  · refine List.mem_cons_of_mem _ (List.mem_filter.mpr ⟨by simpa using zcl_mem (E := E) (b := 0) h2, ?_⟩)
    have h4 : ¬ (j + 1 = i ∧ (zcv E u).category = 2) := fun ⟨q1, q2⟩ => h3 ⟨q1, (zcv_cat E u).mp q2⟩
    simp [h1]
    omega
theorem zw_astore_n {k : Fin 4} {x : Nat} {ls' : zLs} (hM : zOK M) (hd : zlook (mTbl M) pc = some (.astore_n k, 1, nx)) (hv : zst1 ls (k : Nat) (vr x) = some ls') (hn : (k : Nat) < mL M) (kk : AW M nx ls' st mem Q) : AW M pc ls (vr x :: st) mem Q := by
  intro p l e s m args below meth c E H locs la C hl hP hD hS
  obtain ⟨hx, hb, hr, hml, hown, hts, hlk, hK, hN⟩ := id C
  obtain ⟨hdg, rfl⟩ := zdec hM hd
  refine lv_astore_n hx hb hdg rfl hl hn rfl (fun la' hl' => ?_)
  refine kk p l e s m args below meth c E H locs la' C (zhas_mk hl' (fun j u hj => ?_)) hP hD hS
  rcases zst1_spec hv j u hj with ⟨rfl, rfl⟩ | ⟨h1, h2, h3⟩
  · exact List.mem_cons_self
  · refine List.mem_cons_of_mem _ (List.mem_filter.mpr ⟨by simpa using zcl_mem (E := E) (b := 0) h2, ?_⟩)
    have h4 : ¬ (j + 1 = (k : Nat) ∧ (zcv E u).category = 2) := fun ⟨q1, q2⟩ => h3 ⟨q1, (zcv_cat E u).mp q2⟩
    simp [h1]
    omega
theorem zw_astore {i : Nat} {x : Nat} {ls' : zLs} (hM : zOK M) (hd : zlook (mTbl M) pc = some (.astore i, 2, nx)) (hv : zst1 ls i (vr x) = some ls') (hn : i < mL M) (kk : AW M nx ls' st mem Q) : AW M pc ls (vr x :: st) mem Q := by
  intro p l e s m args below meth c E H locs la C hl hP hD hS
  obtain ⟨hx, hb, hr, hml, hown, hts, hlk, hK, hN⟩ := id C
  obtain ⟨hdg, rfl⟩ := zdec hM hd
  refine lv_astore hx hb hdg hl hn rfl (fun la' hl' => ?_)
  refine kk p l e s m args below meth c E H locs la' C (zhas_mk hl' (fun j u hj => ?_)) hP hD hS
  rcases zst1_spec hv j u hj with ⟨rfl, rfl⟩ | ⟨h1, h2, h3⟩
  · exact List.mem_cons_self
  · refine List.mem_cons_of_mem _ (List.mem_filter.mpr ⟨by simpa using zcl_mem (E := E) (b := 0) h2, ?_⟩)
    have h4 : ¬ (j + 1 = i ∧ (zcv E u).category = 2) := fun ⟨q1, q2⟩ => h3 ⟨q1, (zcv_cat E u).mp q2⟩
    simp [h1]
    omega
theorem zw_lstore_n {k : Fin 4} {x : Int} {ls' : zLs} (hM : zOK M) (hd : zlook (mTbl M) pc = some (.lstore_n k, 1, nx)) (hv : zst2 ls (k : Nat) (vl x) = some ls') (hn : (k : Nat) + 1 < mL M) (kk : AW M nx ls' st mem Q) : AW M pc ls (vl x :: st) mem Q := by
  intro p l e s m args below meth c E H locs la C hl hP hD hS
  obtain ⟨hx, hb, hr, hml, hown, hts, hlk, hK, hN⟩ := id C
  obtain ⟨hdg, rfl⟩ := zdec hM hd
  refine lv_lstore_n hx hb hdg rfl hl hn rfl (fun la' hl' => ?_)
  refine kk p l e s m args below meth c E H locs la' C (zhas_mk hl' (fun j u hj => ?_)) hP hD hS
  rcases zst2_spec hv j u hj with ⟨rfl, rfl⟩ | ⟨h1, h1', h2, h3⟩
  · exact List.mem_cons_self
  · refine List.mem_cons_of_mem _ (List.mem_filter.mpr ⟨by simpa using zcl_mem (E := E) (b := 0) h2, ?_⟩)
    have h4 : ¬ (j + 1 = (k : Nat) ∧ (zcv E u).category = 2) := fun ⟨q1, q2⟩ => h3 ⟨q1, (zcv_cat E u).mp q2⟩
    simp [h1, h1']
    omega
theorem zw_lstore {i : Nat} {x : Int} {ls' : zLs} (hM : zOK M) (hd : zlook (mTbl M) pc = some (.lstore i, 2, nx)) (hv : zst2 ls i (vl x) = some ls') (hn : i + 1 < mL M) (kk : AW M nx ls' st mem Q) : AW M pc ls (vl x :: st) mem Q := by
  intro p l e s m args below meth c E H locs la C hl hP hD hS
  obtain ⟨hx, hb, hr, hml, hown, hts, hlk, hK, hN⟩ := id C
  obtain ⟨hdg, rfl⟩ := zdec hM hd
  refine lv_lstore hx hb hdg hl hn rfl (fun la' hl' => ?_)
  refine kk p l e s m args below meth c E H locs la' C (zhas_mk hl' (fun j u hj => ?_)) hP hD hS
  rcases zst2_spec hv j u hj with ⟨rfl, rfl⟩ | ⟨h1, h1', h2, h3⟩
  · exact List.mem_cons_self
  · refine List.mem_cons_of_mem _ (List.mem_filter.mpr ⟨by simpa using zcl_mem (E := E) (b := 0) h2, ?_⟩)
    have h4 : ¬ (j + 1 = i ∧ (zcv E u).category = 2) := fun ⟨q1, q2⟩ => h3 ⟨q1, (zcv_cat E u).mp q2⟩
    simp [h1, h1']
    omega
theorem zw_iinc {i : Nat} {n x : Int} {ls' : zLs} (hM : zOK M) (hd : zlook (mTbl M) pc = some (.iinc i n, 3, nx)) (hg : zlk ls i = some (vi x)) (hv : zst1 ls i (vi (x + n)) = some ls') (hn : i < mL M) (kk : AW M nx ls' st mem Q) : AW M pc ls st mem Q := by
  intro p l e s m args below meth c E H locs la C hl hP hD hS
  obtain ⟨hx, hb, hr, hml, hown, hts, hlk, hK, hN⟩ := id C
  obtain ⟨hdg, rfl⟩ := zdec hM hd
  obtain ⟨k, hk⟩ := List.getElem?_of_mem (zcl_mem (E := E) (b := 0) (zlk_get hg))
  rw [Nat.zero_add] at hk
  refine lv_iinc (k := k) (x := Int32.ofInt x) (v := Int32.ofInt (x + n)) hx hb hdg hl hk (Int32.ofInt_add x n).symm hn rfl (fun la' hl' => ?_)
  refine kk p l e s m args below meth c E H locs la' C (zhas_mk hl' (fun j u hj => ?_)) hP hD hS
  rcases zst1_spec hv j u hj with ⟨rfl, rfl⟩ | ⟨h1, h2, h3⟩
  · exact List.mem_cons_self
  · refine List.mem_cons_of_mem _ (List.mem_filter.mpr ⟨by simpa using zcl_mem (E := E) (b := 0) h2, ?_⟩)
    have h4 : ¬ (j + 1 = i ∧ (zcv E u).category = 2) := fun ⟨q1, q2⟩ => h3 ⟨q1, (zcv_cat E u).mp q2⟩
    simp [h1]
    omega
theorem zw_iadd {x y : Int} (hM : zOK M) (hd : zlook (mTbl M) pc = some (.iadd, 1, nx))  (kk : AW M nx ls (vi (x + y) :: st) mem Q) : AW M pc ls (vi y :: vi x :: st) mem Q := by
  intro p l e s m args below meth c E H locs la C hl hP hD hS
  obtain ⟨hx, hb, hr, hml, hown, hts, hlk, hK, hN⟩ := id C
  obtain ⟨hdg, rfl⟩ := zdec hM hd
  have kk := kk p l e s m args below meth c E H locs la C hl hP hD hS
  have kk2 := kk
  simp only [List.map_cons, zcv, Int32.ofInt_add] at kk2
  exact lv_iadd hx hb hdg kk2
theorem zw_isub {x y : Int} (hM : zOK M) (hd : zlook (mTbl M) pc = some (.isub, 1, nx))  (kk : AW M nx ls (vi (x - y) :: st) mem Q) : AW M pc ls (vi y :: vi x :: st) mem Q := by
  intro p l e s m args below meth c E H locs la C hl hP hD hS
  obtain ⟨hx, hb, hr, hml, hown, hts, hlk, hK, hN⟩ := id C
  obtain ⟨hdg, rfl⟩ := zdec hM hd
  have kk := kk p l e s m args below meth c E H locs la C hl hP hD hS
  have kk2 := kk
  simp only [List.map_cons, zcv, Int32.ofInt_sub] at kk2
  exact lv_isub hx hb hdg kk2
theorem zw_imul {x y : Int} (hM : zOK M) (hd : zlook (mTbl M) pc = some (.imul, 1, nx))  (kk : AW M nx ls (vi (x * y) :: st) mem Q) : AW M pc ls (vi y :: vi x :: st) mem Q := by
  intro p l e s m args below meth c E H locs la C hl hP hD hS
  obtain ⟨hx, hb, hr, hml, hown, hts, hlk, hK, hN⟩ := id C
  obtain ⟨hdg, rfl⟩ := zdec hM hd
  have kk := kk p l e s m args below meth c E H locs la C hl hP hD hS
  have kk2 := kk
  simp only [List.map_cons, zcv, Int32.ofInt_mul] at kk2
  exact lv_imul hx hb hdg kk2
theorem zw_ineg {x : Int} (hM : zOK M) (hd : zlook (mTbl M) pc = some (.ineg, 1, nx))  (kk : AW M nx ls (vi (-x) :: st) mem Q) : AW M pc ls (vi x :: st) mem Q := by
  intro p l e s m args below meth c E H locs la C hl hP hD hS
  obtain ⟨hx, hb, hr, hml, hown, hts, hlk, hK, hN⟩ := id C
  obtain ⟨hdg, rfl⟩ := zdec hM hd
  have kk := kk p l e s m args below meth c E H locs la C hl hP hD hS
  have kk2 := kk
  simp only [List.map_cons, zcv, Int32.ofInt_neg] at kk2
  exact lv_ineg hx hb hdg kk2
theorem zw_ladd {x y : Int} (hM : zOK M) (hd : zlook (mTbl M) pc = some (.ladd, 1, nx))  (kk : AW M nx ls (vl (x + y) :: st) mem Q) : AW M pc ls (vl y :: vl x :: st) mem Q := by
  intro p l e s m args below meth c E H locs la C hl hP hD hS
  obtain ⟨hx, hb, hr, hml, hown, hts, hlk, hK, hN⟩ := id C
  obtain ⟨hdg, rfl⟩ := zdec hM hd
  have kk := kk p l e s m args below meth c E H locs la C hl hP hD hS
  have kk2 := kk
  simp only [List.map_cons, zcv, Int64.ofInt_add] at kk2
  exact lv_ladd hx hb hdg kk2
theorem zw_lsub {x y : Int} (hM : zOK M) (hd : zlook (mTbl M) pc = some (.lsub, 1, nx))  (kk : AW M nx ls (vl (x - y) :: st) mem Q) : AW M pc ls (vl y :: vl x :: st) mem Q := by
  intro p l e s m args below meth c E H locs la C hl hP hD hS
  obtain ⟨hx, hb, hr, hml, hown, hts, hlk, hK, hN⟩ := id C
  obtain ⟨hdg, rfl⟩ := zdec hM hd
  have kk := kk p l e s m args below meth c E H locs la C hl hP hD hS
  have kk2 := kk
  simp only [List.map_cons, zcv, Int64.ofInt_sub] at kk2
  exact lv_lsub hx hb hdg kk2
theorem zw_lmul {x y : Int} (hM : zOK M) (hd : zlook (mTbl M) pc = some (.lmul, 1, nx))  (kk : AW M nx ls (vl (x * y) :: st) mem Q) : AW M pc ls (vl y :: vl x :: st) mem Q := by
  intro p l e s m args below meth c E H locs la C hl hP hD hS
  obtain ⟨hx, hb, hr, hml, hown, hts, hlk, hK, hN⟩ := id C
  obtain ⟨hdg, rfl⟩ := zdec hM hd
  have kk := kk p l e s m args below meth c E H locs la C hl hP hD hS
  have kk2 := kk
  simp only [List.map_cons, zcv, Int64.ofInt_mul] at kk2
  exact lv_lmul hx hb hdg kk2
end ZW
def zand (x y : Int) : Int := (Int32.ofInt x &&& Int32.ofInt y).toInt
def zor (x y : Int) : Int := (Int32.ofInt x ||| Int32.ofInt y).toInt
def zxor (x y : Int) : Int := (Int32.ofInt x ^^^ Int32.ofInt y).toInt
def zshl (x y : Int) : Int := (Int32.ofInt x <<< (Int32.ofInt y &&& 31)).toInt
def zshr (x y : Int) : Int := (Int32.ofInt x >>> (Int32.ofInt y &&& 31)).toInt
def zdiv (x y : Int) : Int := (Int32.ofInt x / Int32.ofInt y).toInt
def zrem (x y : Int) : Int := (Int32.ofInt x - Int32.ofInt x / Int32.ofInt y * Int32.ofInt y).toInt
def zi2b (x : Int) : Int := (Int32.ofInt x).toInt8.toInt32.toInt
def zi2s (x : Int) : Int := (Int32.ofInt x).toInt16.toInt32.toInt
def zland (x y : Int) : Int := (Int64.ofInt x &&& Int64.ofInt y).toInt
def zldiv (x y : Int) : Int := (Int64.ofInt x / Int64.ofInt y).toInt
def zlrem (x y : Int) : Int := (Int64.ofInt x - Int64.ofInt x / Int64.ofInt y * Int64.ofInt y).toInt
theorem zof32 (x : Int32) : Int32.ofInt x.toInt = x := by simp
theorem zof64 (x : Int64) : Int64.ofInt x.toInt = x := by simp
theorem zto32 {x : Int} (h : -2147483648 ≤ x ∧ x < 2147483648) : (Int32.ofInt x).toInt = x := by
  rw [Int32.toInt_ofInt]
  have e : (Int32.size : Int) = 4294967296 := rfl
  exact Int.bmod_eq_of_le (by omega) (by omega)
theorem zto64 {x : Int} (h : -9223372036854775808 ≤ x ∧ x < 9223372036854775808) : (Int64.ofInt x).toInt = x := by
  rw [Int64.toInt_ofInt]
  have e : (Int64.size : Int) = 18446744073709551616 := rfl
  exact Int.bmod_eq_of_le (by omega) (by omega)
theorem zne0 {y : Int} (h : -2147483648 ≤ y ∧ y < 2147483648) (h0 : y ≠ 0) : ¬ Int32.ofInt y = 0 := fun q => by
  have := congrArg Int32.toInt q
  rw [zto32 h] at this
  exact h0 (by simpa using this)
theorem zne0l {y : Int} (h : -9223372036854775808 ≤ y ∧ y < 9223372036854775808) (h0 : y ≠ 0) : ¬ Int64.ofInt y = 0 := fun q => by
  have := congrArg Int64.toInt q
  rw [zto64 h] at this
  exact h0 (by simpa using this)
section ZW2
variable {M : zMth} {pc nx : Nat} {ls : zLs} {st : List zVal} {mem : zMem} {Q : Option zVal → zMem → Prop}
theorem zw_iand {x y : Int} (hM : zOK M) (hd : zlook (mTbl M) pc = some (.iand, 1, nx))  (kk : AW M nx ls (vi (zand x y) :: st) mem Q) : AW M pc ls (vi y :: vi x :: st) mem Q := by
  intro p l e s m args below meth c E H locs la C hl hP hD hS
  obtain ⟨hx, hb, hr, hml, hown, hts, hlk, hK, hN⟩ := id C
  obtain ⟨hdg, rfl⟩ := zdec hM hd
  have kk := kk p l e s m args below meth c E H locs la C hl hP hD hS
  have kk2 := kk
  simp only [List.map_cons, zcv, zand, zof32] at kk2
  exact lv_iand hx hb hdg kk2
theorem zw_ior {x y : Int} (hM : zOK M) (hd : zlook (mTbl M) pc = some (.ior, 1, nx))  (kk : AW M nx ls (vi (zor x y) :: st) mem Q) : AW M pc ls (vi y :: vi x :: st) mem Q := by
  intro p l e s m args below meth c E H locs la C hl hP hD hS
  obtain ⟨hx, hb, hr, hml, hown, hts, hlk, hK, hN⟩ := id C
  obtain ⟨hdg, rfl⟩ := zdec hM hd
  have kk := kk p l e s m args below meth c E H locs la C hl hP hD hS
  have kk2 := kk
  simp only [List.map_cons, zcv, zor, zof32] at kk2
  exact lv_ior hx hb hdg kk2
theorem zw_ixor {x y : Int} (hM : zOK M) (hd : zlook (mTbl M) pc = some (.ixor, 1, nx))  (kk : AW M nx ls (vi (zxor x y) :: st) mem Q) : AW M pc ls (vi y :: vi x :: st) mem Q := by
  intro p l e s m args below meth c E H locs la C hl hP hD hS
  obtain ⟨hx, hb, hr, hml, hown, hts, hlk, hK, hN⟩ := id C
  obtain ⟨hdg, rfl⟩ := zdec hM hd
  have kk := kk p l e s m args below meth c E H locs la C hl hP hD hS
  have kk2 := kk
  simp only [List.map_cons, zcv, zxor, zof32] at kk2
  exact lv_ixor hx hb hdg kk2
theorem zw_ishl {x y : Int} (hM : zOK M) (hd : zlook (mTbl M) pc = some (.ishl, 1, nx))  (kk : AW M nx ls (vi (zshl x y) :: st) mem Q) : AW M pc ls (vi y :: vi x :: st) mem Q := by
  intro p l e s m args below meth c E H locs la C hl hP hD hS
  obtain ⟨hx, hb, hr, hml, hown, hts, hlk, hK, hN⟩ := id C
  obtain ⟨hdg, rfl⟩ := zdec hM hd
  have kk := kk p l e s m args below meth c E H locs la C hl hP hD hS
  have kk2 := kk
  simp only [List.map_cons, zcv, zshl, zof32] at kk2
  exact lv_ishl hx hb hdg kk2
theorem zw_ishr {x y : Int} (hM : zOK M) (hd : zlook (mTbl M) pc = some (.ishr, 1, nx))  (kk : AW M nx ls (vi (zshr x y) :: st) mem Q) : AW M pc ls (vi y :: vi x :: st) mem Q := by
  intro p l e s m args below meth c E H locs la C hl hP hD hS
  obtain ⟨hx, hb, hr, hml, hown, hts, hlk, hK, hN⟩ := id C
  obtain ⟨hdg, rfl⟩ := zdec hM hd
  have kk := kk p l e s m args below meth c E H locs la C hl hP hD hS
  have kk2 := kk
  simp only [List.map_cons, zcv, zshr, zof32] at kk2
  exact lv_ishr hx hb hdg kk2
theorem zw_idiv {x y : Int} (hM : zOK M) (hd : zlook (mTbl M) pc = some (.idiv, 1, nx)) (hy : (-2147483648 ≤ y ∧ y < 2147483648) ∧ y ≠ 0) (kk : AW M nx ls (vi (zdiv x y) :: st) mem Q) : AW M pc ls (vi y :: vi x :: st) mem Q := by
  intro p l e s m args below meth c E H locs la C hl hP hD hS
  obtain ⟨hx, hb, hr, hml, hown, hts, hlk, hK, hN⟩ := id C
  obtain ⟨hdg, rfl⟩ := zdec hM hd
  have kk := kk p l e s m args below meth c E H locs la C hl hP hD hS
  have kk2 := kk
  simp only [List.map_cons, zcv, zdiv, zof32] at kk2
  exact lv_idiv hx hb hdg (zne0 hy.1 hy.2) kk2
theorem zw_irem {x y : Int} (hM : zOK M) (hd : zlook (mTbl M) pc = some (.irem, 1, nx)) (hy : (-2147483648 ≤ y ∧ y < 2147483648) ∧ y ≠ 0) (kk : AW M nx ls (vi (zrem x y) :: st) mem Q) : AW M pc ls (vi y :: vi x :: st) mem Q := by
  intro p l e s m args below meth c E H locs la C hl hP hD hS
  obtain ⟨hx, hb, hr, hml, hown, hts, hlk, hK, hN⟩ := id C
  obtain ⟨hdg, rfl⟩ := zdec hM hd
  have kk := kk p l e s m args below meth c E H locs la C hl hP hD hS
  have kk2 := kk
  simp only [List.map_cons, zcv, zrem, zof32] at kk2
  exact lv_irem hx hb hdg (zne0 hy.1 hy.2) kk2
theorem zw_ldiv {x y : Int} (hM : zOK M) (hd : zlook (mTbl M) pc = some (.ldiv, 1, nx)) (hy : (-9223372036854775808 ≤ y ∧ y < 9223372036854775808) ∧ y ≠ 0) (kk : AW M nx ls (vl (zldiv x y) :: st) mem Q) : AW M pc ls (vl y :: vl x :: st) mem Q := by
  intro p l e s m args below meth c E H locs la C hl hP hD hS
  obtain ⟨hx, hb, hr, hml, hown, hts, hlk, hK, hN⟩ := id C
  obtain ⟨hdg, rfl⟩ := zdec hM hd
  have kk := kk p l e s m args below meth c E H locs la C hl hP hD hS
  have kk2 := kk
  simp only [List.map_cons, zcv, zldiv, zof64] at kk2
  exact lv_ldiv hx hb hdg (zne0l hy.1 hy.2) kk2
theorem zw_lrem {x y : Int} (hM : zOK M) (hd : zlook (mTbl M) pc = some (.lrem, 1, nx)) (hy : (-9223372036854775808 ≤ y ∧ y < 9223372036854775808) ∧ y ≠ 0) (kk : AW M nx ls (vl (zlrem x y) :: st) mem Q) : AW M pc ls (vl y :: vl x :: st) mem Q := by
  intro p l e s m args below meth c E H locs la C hl hP hD hS
  obtain ⟨hx, hb, hr, hml, hown, hts, hlk, hK, hN⟩ := id C
  obtain ⟨hdg, rfl⟩ := zdec hM hd
  have kk := kk p l e s m args below meth c E H locs la C hl hP hD hS
  have kk2 := kk
  simp only [List.map_cons, zcv, zlrem, zof64] at kk2
  exact lv_lrem hx hb hdg (zne0l hy.1 hy.2) kk2
theorem zw_land {x y : Int} (hM : zOK M) (hd : zlook (mTbl M) pc = some (.land, 1, nx))  (kk : AW M nx ls (vl (zland x y) :: st) mem Q) : AW M pc ls (vl y :: vl x :: st) mem Q := by
  intro p l e s m args below meth c E H locs la C hl hP hD hS
  obtain ⟨hx, hb, hr, hml, hown, hts, hlk, hK, hN⟩ := id C
  obtain ⟨hdg, rfl⟩ := zdec hM hd
  have kk := kk p l e s m args below meth c E H locs la C hl hP hD hS
  have kk2 := kk
  simp only [List.map_cons, zcv, zland, zof64] at kk2
  exact lv_land hx hb hdg kk2
theorem zw_i2b {x : Int} (hM : zOK M) (hd : zlook (mTbl M) pc = some (.i2b, 1, nx))  (kk : AW M nx ls (vi (zi2b x) :: st) mem Q) : AW M pc ls (vi x :: st) mem Q := by
  intro p l e s m args below meth c E H locs la C hl hP hD hS
  obtain ⟨hx, hb, hr, hml, hown, hts, hlk, hK, hN⟩ := id C
  obtain ⟨hdg, rfl⟩ := zdec hM hd
  have kk := kk p l e s m args below meth c E H locs la C hl hP hD hS
  have kk2 := kk
  simp only [List.map_cons, zcv, zi2b, zof32] at kk2
  exact lv_i2b hx hb hdg rfl kk2
theorem zw_i2s {x : Int} (hM : zOK M) (hd : zlook (mTbl M) pc = some (.i2s, 1, nx))  (kk : AW M nx ls (vi (zi2s x) :: st) mem Q) : AW M pc ls (vi x :: st) mem Q := by
  intro p l e s m args below meth c E H locs la C hl hP hD hS
  obtain ⟨hx, hb, hr, hml, hown, hts, hlk, hK, hN⟩ := id C
  obtain ⟨hdg, rfl⟩ := zdec hM hd
  have kk := kk p l e s m args below meth c E H locs la C hl hP hD hS
  have kk2 := kk
  simp only [List.map_cons, zcv, zi2s, zof32] at kk2
  exact lv_i2s hx hb hdg rfl kk2
theorem zw_i2l {x : Int} (hM : zOK M) (hd : zlook (mTbl M) pc = some (.i2l, 1, nx)) (hq : -2147483648 ≤ x ∧ x < 2147483648) (kk : AW M nx ls (vl x :: st) mem Q) : AW M pc ls (vi x :: st) mem Q := by
  intro p l e s m args below meth c E H locs la C hl hP hD hS
  obtain ⟨hx, hb, hr, hml, hown, hts, hlk, hK, hN⟩ := id C
  obtain ⟨hdg, rfl⟩ := zdec hM hd
  have kk := kk p l e s m args below meth c E H locs la C hl hP hD hS
  exact lv_i2l hx hb hdg (by apply Int64.toInt_inj.mp; rw [Int32.toInt_toInt64, zto32 hq, zto64 (by omega)]) kk
theorem zw_lcmp {x y : Int} (hM : zOK M) (hd : zlook (mTbl M) pc = some (.lcmp, 1, nx)) (hq : (-9223372036854775808 ≤ x ∧ x < 9223372036854775808) ∧ (-9223372036854775808 ≤ y ∧ y < 9223372036854775808)) (kk : AW M nx ls (vi (if x < y then -1 else if x = y then 0 else 1) :: st) mem Q) : AW M pc ls (vl y :: vl x :: st) mem Q := by
  intro p l e s m args below meth c E H locs la C hl hP hD hS
  obtain ⟨hx, hb, hr, hml, hown, hts, hlk, hK, hN⟩ := id C
  obtain ⟨hdg, rfl⟩ := zdec hM hd
  have kk := kk p l e s m args below meth c E H locs la C hl hP hD hS
  have e1 : Int32.ofInt (if x < y then -1 else if x = y then 0 else 1) = lg_cmp (Int64.ofInt x) (Int64.ofInt y) := by
    have q1 : Int64.ofInt y < Int64.ofInt x ↔ y < x := by rw [Int64.lt_iff_toInt_lt, zto64 hq.1, zto64 hq.2]
    have q2 : Int64.ofInt x = Int64.ofInt y ↔ x = y := by rw [← Int64.toInt_inj, zto64 hq.1, zto64 hq.2]
    unfold lg_cmp
    simp only [q1, q2]
    by_cases h1 : x < y
    · rw [if_pos h1, if_neg (by omega), if_neg (by omega)]; rfl
    · by_cases h2 : x = y
      · rw [if_neg h1, if_pos h2, if_neg (by omega), if_pos h2]; rfl
      · rw [if_neg h1, if_neg h2, if_pos (by omega)]; rfl
  have kk2 := kk
  simp only [List.map_cons, zcv] at kk2
  rw [e1] at kk2
  exact W.lcmp hx hb hdg kk2
theorem zw_dupi {x : Int} (hM : zOK M) (hd : zlook (mTbl M) pc = some (.dup, 1, nx))  (kk : AW M nx ls (vi x :: vi x :: st) mem Q) : AW M pc ls (vi x :: st) mem Q := by
  intro p l e s m args below meth c E H locs la C hl hP hD hS
  obtain ⟨hx, hb, hr, hml, hown, hts, hlk, hK, hN⟩ := id C
  obtain ⟨hdg, rfl⟩ := zdec hM hd
  have kk := kk p l e s m args below meth c E H locs la C hl hP hD hS
  exact lv_dup hx hb hdg rfl kk
theorem zw_dupr {x : Nat} (hM : zOK M) (hd : zlook (mTbl M) pc = some (.dup, 1, nx))  (kk : AW M nx ls (vr x :: vr x :: st) mem Q) : AW M pc ls (vr x :: st) mem Q := by
  intro p l e s m args below meth c E H locs la C hl hP hD hS
  obtain ⟨hx, hb, hr, hml, hown, hts, hlk, hK, hN⟩ := id C
  obtain ⟨hdg, rfl⟩ := zdec hM hd
  have kk := kk p l e s m args below meth c E H locs la C hl hP hD hS
  exact lv_dup hx hb hdg rfl kk
theorem zw_popi {x : Int} (hM : zOK M) (hd : zlook (mTbl M) pc = some (.pop, 1, nx))  (kk : AW M nx ls (st) mem Q) : AW M pc ls (vi x :: st) mem Q := by
  intro p l e s m args below meth c E H locs la C hl hP hD hS
  obtain ⟨hx, hb, hr, hml, hown, hts, hlk, hK, hN⟩ := id C
  obtain ⟨hdg, rfl⟩ := zdec hM hd
  have kk := kk p l e s m args below meth c E H locs la C hl hP hD hS
  exact lv_pop hx hb hdg rfl kk
theorem zw_dup2 {x : Int} {y : Nat} (hM : zOK M) (hd : zlook (mTbl M) pc = some (.dup2, 1, nx))  (kk : AW M nx ls (vi x :: vr y :: vi x :: vr y :: st) mem Q) : AW M pc ls (vi x :: vr y :: st) mem Q := by
  intro p l e s m args below meth c E H locs la C hl hP hD hS
  obtain ⟨hx, hb, hr, hml, hown, hts, hlk, hK, hN⟩ := id C
  obtain ⟨hdg, rfl⟩ := zdec hM hd
  have kk := kk p l e s m args below meth c E H locs la C hl hP hD hS
  exact lv_dup2_11 hx hb hdg rfl rfl kk
theorem zw_goto {off : Int} (tgt : Nat) (hM : zOK M) (hd : zlook (mTbl M) pc = some (.goto off, 3, nx)) (ht : (pc : Int) + off = (tgt : Int)) (kk : AW M tgt ls st mem Q) : AW M pc ls st mem Q := by
  intro p l e s m args below meth c E H locs la C hl hP hD hS
  obtain ⟨hx, hb, hr, hml, hown, hts, hlk, hK, hN⟩ := id C
  exact lv_goto hx hb (zdec hM hd).1 ht (kk p l e s m args below meth c E H locs la C hl hP hD hS)
theorem zw_icmp_eq {x y : Int} {off : Int} (tgt : Nat) (hM : zOK M) (hd : zlook (mTbl M) pc = some (.if_icmp .eq off, 3, nx)) (ht : (pc : Int) + off = (tgt : Int)) (hq : (-2147483648 ≤ x ∧ x < 2147483648) ∧ (-2147483648 ≤ y ∧ y < 2147483648)) (kt : x = y → AW M tgt ls st mem Q) (kf : ¬ (x = y) → AW M nx ls st mem Q) : AW M pc ls (vi y :: vi x :: st) mem Q := by
  intro p l e s m args below meth c E H locs la C hl hP hD hS
  obtain ⟨hx, hb, hr, hml, hown, hts, hlk, hK, hN⟩ := id C
  obtain ⟨hdg, rfl⟩ := zdec hM hd
  have e1 : (Int32.ofInt x = Int32.ofInt y) ↔ (x = y) := by rw [← Int32.toInt_inj, zto32 hq.1, zto32 hq.2]
  exact lv_icmp_eq hx hb hdg ht (fun h => kt (e1.mp h) p l e s m args below meth c E H locs la C hl hP hD hS) (fun h => kf (fun q => h (e1.mpr q)) p l e s m args below meth c E H locs la C hl hP hD hS)
theorem zw_if_eq {x : Int} {off : Int} (tgt : Nat) (hM : zOK M) (hd : zlook (mTbl M) pc = some (.ifCond .eq off, 3, nx)) (ht : (pc : Int) + off = (tgt : Int)) (hq : (-2147483648 ≤ x ∧ x < 2147483648)) (kt : x = 0 → AW M tgt ls st mem Q) (kf : ¬ (x = 0) → AW M nx ls st mem Q) : AW M pc ls (vi x :: st) mem Q := by
  intro p l e s m args below meth c E H locs la C hl hP hD hS
  obtain ⟨hx, hb, hr, hml, hown, hts, hlk, hK, hN⟩ := id C
  obtain ⟨hdg, rfl⟩ := zdec hM hd
  have e1 : (Int32.ofInt x = (0 : Int32)) ↔ (x = 0) := by rw [← Int32.toInt_inj, zto32 hq, Int32.toInt_zero]
  exact lv_if_eq hx hb hdg ht (fun h => kt (e1.mp h) p l e s m args below meth c E H locs la C hl hP hD hS) (fun h => kf (fun q => h (e1.mpr q)) p l e s m args below meth c E H locs la C hl hP hD hS)
theorem zw_icmp_ne {x y : Int} {off : Int} (tgt : Nat) (hM : zOK M) (hd : zlook (mTbl M) pc = some (.if_icmp .ne off, 3, nx)) (ht : (pc : Int) + off = (tgt : Int)) (hq : (-2147483648 ≤ x ∧ x < 2147483648) ∧ (-2147483648 ≤ y ∧ y < 2147483648)) (kt : ¬ x = y → AW M tgt ls st mem Q) (kf : x = y → AW M nx ls st mem Q) : AW M pc ls (vi y :: vi x :: st) mem Q := by
  intro p l e s m args below meth c E H locs la C hl hP hD hS
  obtain ⟨hx, hb, hr, hml, hown, hts, hlk, hK, hN⟩ := id C
  obtain ⟨hdg, rfl⟩ := zdec hM hd
  have e1 : (¬ Int32.ofInt x = Int32.ofInt y) ↔ (¬ x = y) := by rw [← Int32.toInt_inj, zto32 hq.1, zto32 hq.2]
  exact lv_icmp_ne hx hb hdg ht (fun h => kt (e1.mp h) p l e s m args below meth c E H locs la C hl hP hD hS) (fun h => kf (Decidable.of_not_not (fun q => (e1.mpr q) h)) p l e s m args below meth c E H locs la C hl hP hD hS)
theorem zw_if_ne {x : Int} {off : Int} (tgt : Nat) (hM : zOK M) (hd : zlook (mTbl M) pc = some (.ifCond .ne off, 3, nx)) (ht : (pc : Int) + off = (tgt : Int)) (hq : (-2147483648 ≤ x ∧ x < 2147483648)) (kt : ¬ x = 0 → AW M tgt ls st mem Q) (kf : x = 0 → AW M nx ls st mem Q) : AW M pc ls (vi x :: st) mem Q := by
  intro p l e s m args below meth c E H locs la C hl hP hD hS
  obtain ⟨hx, hb, hr, hml, hown, hts, hlk, hK, hN⟩ := id C
  obtain ⟨hdg, rfl⟩ := zdec hM hd
  have e1 : (¬ Int32.ofInt x = (0 : Int32)) ↔ (¬ x = 0) := by rw [← Int32.toInt_inj, zto32 hq, Int32.toInt_zero]
  exact lv_if_ne hx hb hdg ht (fun h => kt (e1.mp h) p l e s m args below meth c E H locs la C hl hP hD hS) (fun h => kf (Decidable.of_not_not (fun q => (e1.mpr q) h)) p l e s m args below meth c E H locs la C hl hP hD hS)
theorem zw_icmp_lt {x y : Int} {off : Int} (tgt : Nat) (hM : zOK M) (hd : zlook (mTbl M) pc = some (.if_icmp .lt off, 3, nx)) (ht : (pc : Int) + off = (tgt : Int)) (hq : (-2147483648 ≤ x ∧ x < 2147483648) ∧ (-2147483648 ≤ y ∧ y < 2147483648)) (kt : x < y → AW M tgt ls st mem Q) (kf : ¬ (x < y) → AW M nx ls st mem Q) : AW M pc ls (vi y :: vi x :: st) mem Q := by
  intro p l e s m args below meth c E H locs la C hl hP hD hS
  obtain ⟨hx, hb, hr, hml, hown, hts, hlk, hK, hN⟩ := id C
  obtain ⟨hdg, rfl⟩ := zdec hM hd
  have e1 : (Int32.ofInt x < Int32.ofInt y) ↔ (x < y) := by rw [Int32.lt_iff_toInt_lt, zto32 hq.1, zto32 hq.2]
  exact lv_icmp_lt hx hb hdg ht (fun h => kt (e1.mp h) p l e s m args below meth c E H locs la C hl hP hD hS) (fun h => kf (fun q => h (e1.mpr q)) p l e s m args below meth c E H locs la C hl hP hD hS)
theorem zw_if_lt {x : Int} {off : Int} (tgt : Nat) (hM : zOK M) (hd : zlook (mTbl M) pc = some (.ifCond .lt off, 3, nx)) (ht : (pc : Int) + off = (tgt : Int)) (hq : (-2147483648 ≤ x ∧ x < 2147483648)) (kt : x < 0 → AW M tgt ls st mem Q) (kf : ¬ (x < 0) → AW M nx ls st mem Q) : AW M pc ls (vi x :: st) mem Q := by
  intro p l e s m args below meth c E H locs la C hl hP hD hS
  obtain ⟨hx, hb, hr, hml, hown, hts, hlk, hK, hN⟩ := id C
  obtain ⟨hdg, rfl⟩ := zdec hM hd
  have e1 : (Int32.ofInt x < (0 : Int32)) ↔ (x < 0) := by rw [Int32.lt_iff_toInt_lt, zto32 hq, Int32.toInt_zero]
  exact lv_if_lt hx hb hdg ht (fun h => kt (e1.mp h) p l e s m args below meth c E H locs la C hl hP hD hS) (fun h => kf (fun q => h (e1.mpr q)) p l e s m args below meth c E H locs la C hl hP hD hS)
theorem zw_icmp_ge {x y : Int} {off : Int} (tgt : Nat) (hM : zOK M) (hd : zlook (mTbl M) pc = some (.if_icmp .ge off, 3, nx)) (ht : (pc : Int) + off = (tgt : Int)) (hq : (-2147483648 ≤ x ∧ x < 2147483648) ∧ (-2147483648 ≤ y ∧ y < 2147483648)) (kt : y ≤ x → AW M tgt ls st mem Q) (kf : ¬ (y ≤ x) → AW M nx ls st mem Q) : AW M pc ls (vi y :: vi x :: st) mem Q := by
  intro p l e s m args below meth c E H locs la C hl hP hD hS
  obtain ⟨hx, hb, hr, hml, hown, hts, hlk, hK, hN⟩ := id C
  obtain ⟨hdg, rfl⟩ := zdec hM hd
  have e1 : (Int32.ofInt y ≤ Int32.ofInt x) ↔ (y ≤ x) := by rw [Int32.le_iff_toInt_le, zto32 hq.1, zto32 hq.2]
  exact lv_icmp_ge hx hb hdg ht (fun h => kt (e1.mp h) p l e s m args below meth c E H locs la C hl hP hD hS) (fun h => kf (fun q => h (e1.mpr q)) p l e s m args below meth c E H locs la C hl hP hD hS)
theorem zw_if_ge {x : Int} {off : Int} (tgt : Nat) (hM : zOK M) (hd : zlook (mTbl M) pc = some (.ifCond .ge off, 3, nx)) (ht : (pc : Int) + off = (tgt : Int)) (hq : (-2147483648 ≤ x ∧ x < 2147483648)) (kt : 0 ≤ x → AW M tgt ls st mem Q) (kf : ¬ (0 ≤ x) → AW M nx ls st mem Q) : AW M pc ls (vi x :: st) mem Q := by
  intro p l e s m args below meth c E H locs la C hl hP hD hS
  obtain ⟨hx, hb, hr, hml, hown, hts, hlk, hK, hN⟩ := id C
  obtain ⟨hdg, rfl⟩ := zdec hM hd
  have e1 : ((0 : Int32) ≤ Int32.ofInt x) ↔ (0 ≤ x) := by rw [Int32.le_iff_toInt_le, zto32 hq, Int32.toInt_zero]
  exact lv_if_ge hx hb hdg ht (fun h => kt (e1.mp h) p l e s m args below meth c E H locs la C hl hP hD hS) (fun h => kf (fun q => h (e1.mpr q)) p l e s m args below meth c E H locs la C hl hP hD hS)
theorem zw_icmp_gt {x y : Int} {off : Int} (tgt : Nat) (hM : zOK M) (hd : zlook (mTbl M) pc = some (.if_icmp .gt off, 3, nx)) (ht : (pc : Int) + off = (tgt : Int)) (hq : (-2147483648 ≤ x ∧ x < 2147483648) ∧ (-2147483648 ≤ y ∧ y < 2147483648)) (kt : y < x → AW M tgt ls st mem Q) (kf : ¬ (y < x) → AW M nx ls st mem Q) : AW M pc ls (vi y :: vi x :: st) mem Q := by
  intro p l e s m args below meth c E H locs la C hl hP hD hS
  obtain ⟨hx, hb, hr, hml, hown, hts, hlk, hK, hN⟩ := id C
  obtain ⟨hdg, rfl⟩ := zdec hM hd
  have e1 : (Int32.ofInt y < Int32.ofInt x) ↔ (y < x) := by rw [Int32.lt_iff_toInt_lt, zto32 hq.1, zto32 hq.2]
  exact lv_icmp_gt hx hb hdg ht (fun h => kt (e1.mp h) p l e s m args below meth c E H locs la C hl hP hD hS) (fun h => kf (fun q => h (e1.mpr q)) p l e s m args below meth c E H locs la C hl hP hD hS)
theorem zw_if_gt {x : Int} {off : Int} (tgt : Nat) (hM : zOK M) (hd : zlook (mTbl M) pc = some (.ifCond .gt off, 3, nx)) (ht : (pc : Int) + off = (tgt : Int)) (hq : (-2147483648 ≤ x ∧ x < 2147483648)) (kt : 0 < x → AW M tgt ls st mem Q) (kf : ¬ (0 < x) → AW M nx ls st mem Q) : AW M pc ls (vi x :: st) mem Q := by
  intro p l e s m args below meth c E H locs la C hl hP hD hS
  obtain ⟨hx, hb, hr, hml, hown, hts, hlk, hK, hN⟩ := id C
  obtain ⟨hdg, rfl⟩ := zdec hM hd
  have e1 : ((0 : Int32) < Int32.ofInt x) ↔ (0 < x) := by rw [Int32.lt_iff_toInt_lt, zto32 hq, Int32.toInt_zero]
  exact lv_if_gt hx hb hdg ht (fun h => kt (e1.mp h) p l e s m args below meth c E H locs la C hl hP hD hS) (fun h => kf (fun q => h (e1.mpr q)) p l e s m args below meth c E H locs la C hl hP hD hS)
theorem zw_icmp_le {x y : Int} {off : Int} (tgt : Nat) (hM : zOK M) (hd : zlook (mTbl M) pc = some (.if_icmp .le off, 3, nx)) (ht : (pc : Int) + off = (tgt : Int)) (hq : (-2147483648 ≤ x ∧ x < 2147483648) ∧ (-2147483648 ≤ y ∧ y < 2147483648)) (kt : x ≤ y → AW M tgt ls st mem Q) (kf : ¬ (x ≤ y) → AW M nx ls st mem Q) : AW M pc ls (vi y :: vi x :: st) mem Q := by
  intro p l e s m args below meth c E H locs la C hl hP hD hS
  obtain ⟨hx, hb, hr, hml, hown, hts, hlk, hK, hN⟩ := id C
  obtain ⟨hdg, rfl⟩ := zdec hM hd
  have e1 : (Int32.ofInt x ≤ Int32.ofInt y) ↔ (x ≤ y) := by rw [Int32.le_iff_toInt_le, zto32 hq.1, zto32 hq.2]
  exact lv_icmp_le hx hb hdg ht (fun h => kt (e1.mp h) p l e s m args below meth c E H locs la C hl hP hD hS) (fun h => kf (fun q => h (e1.mpr q)) p l e s m args below meth c E H locs la C hl hP hD hS)
theorem zw_if_le {x : Int} {off : Int} (tgt : Nat) (hM : zOK M) (hd : zlook (mTbl M) pc = some (.ifCond .le off, 3, nx)) (ht : (pc : Int) + off = (tgt : Int)) (hq : (-2147483648 ≤ x ∧ x < 2147483648)) (kt : x ≤ 0 → AW M tgt ls st mem Q) (kf : ¬ (x ≤ 0) → AW M nx ls st mem Q) : AW M pc ls (vi x :: st) mem Q := by
  intro p l e s m args below meth c E H locs la C hl hP hD hS
  obtain ⟨hx, hb, hr, hml, hown, hts, hlk, hK, hN⟩ := id C
  obtain ⟨hdg, rfl⟩ := zdec hM hd
  have e1 : (Int32.ofInt x ≤ (0 : Int32)) ↔ (x ≤ 0) := by rw [Int32.le_iff_toInt_le, zto32 hq, Int32.toInt_zero]
  exact lv_if_le hx hb hdg ht (fun h => kt (e1.mp h) p l e s m args below meth c E H locs la C hl hP hD hS) (fun h => kf (fun q => h (e1.mpr q)) p l e s m args below meth c E H locs la C hl hP hD hS)
end ZW2
end
section
/-! ===== cells, answers, calls over the abstract machine ===== -/
theorem zIn_all : ∀ q ∈ vwCl, ∀ w ∈ u_ws q.1 q.2.1 q.2.2, w ∈ lw_tbl ∧ goodWord w = true := by decide +kernel
theorem zIn {ci : Nat} {C : String} {T : u_T} {N : Nat} (hc : vwCl[ci]? = some (C, T, N)) : ∀ w ∈ u_ws C T N, w ∈ zALL := fun w hw => by
  have h := zIn_all _ (List.mem_of_getElem? hc) w hw
  exact zmem_ALL h.1 h.2
def zTyp (q : vw_C) : Prop := ∃ ty : Nat → FieldType, (∀ k, k < q.2.2 → parseFieldDescriptor (q.2.1 k).2.2.1 = some (ty k)) ∧ ∀ a, a < q.2.2 → ∀ b, b < q.2.2 → a ≠ b → (q.2.1 a).2.1 ≠ (q.2.1 b).2.1
theorem zTyp_all : ∀ q ∈ vwCl, zTyp q := by
  intro q hq
  simp only [vwCl, List.mem_cons, List.not_mem_nil, or_false] at hq
  rcases hq with rfl | rfl | rfl | rfl | rfl | rfl | rfl | rfl | rfl | rfl | rfl | rfl
  · exact ⟨_, tyX0_ok, nmX0⟩
  · exact ⟨_, tyX1_ok, nmX1⟩
  · exact ⟨_, tyX2_ok, nmX2⟩
  · exact ⟨_, tyX3_ok, nmX3⟩
  · exact ⟨_, tyX4_ok, nmX4⟩
  · exact ⟨_, tyX5_ok, nmX5⟩
  · exact ⟨_, tyX6_ok, nmX6⟩
  · exact ⟨_, tyX7_ok, nmX7⟩
  · exact ⟨_, tyX8_ok, nmX8⟩
  · exact ⟨_, tyX9_ok, nmX9⟩
  · exact ⟨_, tyX10_ok, nmX10⟩
  · exact ⟨_, tyX11_ok, nmX11⟩
/-- a field by its pool entry: class ci, place j -/
def zFL (own : String) (idx ci j : Nat) (ji : Int) : Prop := ji = (j : Int) ∧ ∃ (C : String) (T : u_T) (N : Nat), vwCl[ci]? = some (C, T, N) ∧ j < N ∧ Cond.fieldLink own idx (T j).1 (T j).2.1 (T j).2.2.1 ∈ zALL
def zFP (own : String) (idx ci j : Nat) (ji : Int) (ty : FieldType) : Prop := ji = (j : Int) ∧ ∃ (C : String) (T : u_T) (N : Nat), vwCl[ci]? = some (C, T, N) ∧ j < N ∧ Cond.fieldLink own idx (T j).1 (T j).2.1 (T j).2.2.1 ∈ zALL ∧ (T j).2.2.2 = false ∧ parseFieldDescriptor (T j).2.2.1 = some ty
theorem zidx {i : Int} {n : Nat} (h : 0 ≤ i ∧ i < (n : Int)) (hn : n ≤ 1000) : vp_in (Int32.ofInt i) n ∧ (Int32.ofInt i).toNatClampNeg = i.toNat := by
  have e : (Int32.ofInt i).toInt = i := zto32 (by omega)
  refine ⟨vp_in_iff.mpr (by rw [e]; exact h), ?_⟩
  show (Int32.ofInt i).toInt.toNat = i.toNat
  rw [e]
theorem zE0 {E : zEnv} {k n : Nat} {fs : List (Option Nat)} {f : Int → Int} (h : zrow k = (0, n, fs)) : zE E (zrow k) f = .inl (E.2.1.1, n, .inl (fun j => Int32.ofInt (f j))) := by rw [h]; rfl
theorem zE1 {E : zEnv} {k n : Nat} {fs : List (Option Nat)} {f : Int → Int} (h : zrow k = (1, n, fs)) : zE E (zrow k) f = .inl (E.2.1.2.1, n, .inr (.inl (fun j => Int64.ofInt (f j)))) := by rw [h]; rfl
theorem zE2 {E : zEnv} {k n : Nat} {fs : List (Option Nat)} {f : Int → Int} (h : zrow k = (2, n, fs)) : zE E (zrow k) f = .inl (E.2.1.2.2, n, .inr (.inr (.inr (.inr (fun j => (fs.getD j none).map E.2.2))))) := by rw [h]; rfl
theorem zE3 {E : zEnv} {k n : Nat} {fs : List (Option Nat)} {f : Int → Int} (h : zrow k = (3, n, fs)) : zE E (zrow k) f = .inr (n, zF E.2.2 f 0 fs) := by rw [h]; rfl
def zcat : List zVal → Nat
  | [] => 0
  | .inl _ :: t => zcat t + 1
  | .inr (.inl _) :: t => zcat t + 2
  | .inr (.inr _) :: t => zcat t + 1
theorem zcat_eq (E : zEnv) : ∀ st : List zVal, ((st.map (zcv E)).map fun v => v.category).sum = zcat st
  | [] => rfl
  | .inl _ :: t => by simp [zcv, Value.category, zcat, ← zcat_eq E t, Nat.add_comm]
  | .inr (.inl _) :: t => by simp [zcv, Value.category, zcat, ← zcat_eq E t, Nat.add_comm]
  | .inr (.inr _) :: t => by simp [zcv, Value.category, zcat, ← zcat_eq E t, Nat.add_comm]
def zushr (x y : Int) : Int := ((Int32.ofInt x).toUInt32 >>> ((Int32.ofInt y).toUInt32 &&& Int32.toUInt32 31)).toInt32.toInt
def zlshl (x y : Int) : Int := (Int64.ofInt x <<< ((Int32.ofInt y).toInt64 &&& 63)).toInt
def zlshr (x y : Int) : Int := (Int64.ofInt x >>> ((Int32.ofInt y).toInt64 &&& 63)).toInt
def zcpy (f g : Int → Int) (sp dp n : Int) : Int → Int := fun j => if dp ≤ j ∧ j < dp + n then f (sp + (j - dp)) else g j
section ZC
variable {M : zMth} {pc nx : Nat} {ls : zLs} {st : List zVal} {mem : zMem} {Q : Option zVal → zMem → Prop}
theorem zw_iushr {x y : Int} (hM : zOK M) (hd : zlook (mTbl M) pc = some (.iushr, 1, nx)) (kk : AW M nx ls (vi (zushr x y) :: st) mem Q) : AW M pc ls (vi y :: vi x :: st) mem Q := by
  intro p l e s m args below meth c E H locs la C hl hP hD hS
  obtain ⟨hx, hb, hr, hml, hown, hts, hlk, hK, hN⟩ := id C
  obtain ⟨hdg, rfl⟩ := zdec hM hd
  exact lv_iushr hx hb hdg (zof32 _).symm (kk p l e s m args below meth c E H locs la C hl hP hD hS)
theorem zw_lshl {x y : Int} (hM : zOK M) (hd : zlook (mTbl M) pc = some (.lshl, 1, nx)) (kk : AW M nx ls (vl (zlshl x y) :: st) mem Q) : AW M pc ls (vi y :: vl x :: st) mem Q := by
  intro p l e s m args below meth c E H locs la C hl hP hD hS
  obtain ⟨hx, hb, hr, hml, hown, hts, hlk, hK, hN⟩ := id C
  obtain ⟨hdg, rfl⟩ := zdec hM hd
  exact lv_lshl hx hb hdg (zof64 _).symm (kk p l e s m args below meth c E H locs la C hl hP hD hS)
theorem zw_lshr {x y : Int} (hM : zOK M) (hd : zlook (mTbl M) pc = some (.lshr, 1, nx)) (kk : AW M nx ls (vl (zlshr x y) :: st) mem Q) : AW M pc ls (vi y :: vl x :: st) mem Q := by
  intro p l e s m args below meth c E H locs la C hl hP hD hS
  obtain ⟨hx, hb, hr, hml, hown, hts, hlk, hK, hN⟩ := id C
  obtain ⟨hdg, rfl⟩ := zdec hM hd
  exact lv_lshr hx hb hdg (zof64 _).symm (kk p l e s m args below meth c E H locs la C hl hP hD hS)
theorem zw_geti {idx ci j k : Nat} {ji : Int} {fs : List (Option Nat)} (hM : zOK M) (hd : zlook (mTbl M) pc = some (.getfield idx, 3, nx)) (hL : zFL (mOwn M) idx ci j ji) (hc : zrow k = (3, ci, fs)) (hj : fs[j]? = some none) (kk : AW M nx ls (vi (mem k ji) :: st) mem Q) : AW M pc ls (vr k :: st) mem Q := by
  intro p l e s m args below meth c E H locs la C hl hP hD hS
  obtain ⟨hx, hb, hr, hml, hown, hts, hlk, hK, hN⟩ := id C
  obtain ⟨hdg, rfl⟩ := zdec hM hd
  obtain ⟨rfl, Cn, T, N, h1, h2, h3⟩ := hL
  have hk := zrow_lt hc (by omega)
  have he := zW_get (E := E) (mem := mem) hk
  rw [zE3 hc] at he
  have hts' : ∀ w ∈ zALL, w.before args s = true := fun w hw => hts w (List.mem_cons_of_mem _ hw)
  refine va_get (v := .int (Int32.ofInt (mem k j))) hx hb hts' (zIn h1) hown hK hP k he h1 j h2 (hts' _ h3) (fun _ h => h) ?_ hdg (kk p l e s m args below meth c E H locs la C hl hP hD hS)
  rw [zF_get, hj]
  simp
theorem zw_getr {idx ci j k k2 : Nat} {ji : Int} {fs : List (Option Nat)} (hM : zOK M) (hd : zlook (mTbl M) pc = some (.getfield idx, 3, nx)) (hL : zFL (mOwn M) idx ci j ji) (hc : zrow k = (3, ci, fs)) (hj : fs[j]? = some (some k2)) (kk : AW M nx ls (vr k2 :: st) mem Q) : AW M pc ls (vr k :: st) mem Q := by
  intro p l e s m args below meth c E H locs la C hl hP hD hS
  obtain ⟨hx, hb, hr, hml, hown, hts, hlk, hK, hN⟩ := id C
  obtain ⟨hdg, rfl⟩ := zdec hM hd
  obtain ⟨rfl, Cn, T, N, h1, h2, h3⟩ := hL
  have hk := zrow_lt hc (by omega)
  have he := zW_get (E := E) (mem := mem) hk
  rw [zE3 hc] at he
  have hts' : ∀ w ∈ zALL, w.before args s = true := fun w hw => hts w (List.mem_cons_of_mem _ hw)
  refine va_get (v := .ref (E.2.2 k2)) hx hb hts' (zIn h1) hown hK hP k he h1 j h2 (hts' _ h3) (fun _ h => h) ?_ hdg (kk p l e s m args below meth c E H locs la C hl hP hD hS)
  rw [zF_get, hj]
  simp
theorem zw_putg {idx ci j k : Nat} {ji x : Int} {fs : List (Option Nat)} {ty : FieldType} (hM : zOK M) (hd : zlook (mTbl M) pc = some (.putfield idx, 3, nx)) (hL : zFP (mOwn M) idx ci j ji ty) (hc : zrow k = (3, ci, fs)) (hj : fs[j]? = some none) (hn : narrow ty (.int (Int32.ofInt x)) = .int (Int32.ofInt x)) (hf : fits ty (.int (Int32.ofInt x)) = true) (kk : AW M nx ls st (zset mem k ji x) Q) : AW M pc ls (vi x :: vr k :: st) mem Q := by
  intro p l e s m args below meth c E H locs la C hl hP hD hS
  obtain ⟨hx, hb, hr, hml, hown, hts, hlk, hK, hN⟩ := id C
  obtain ⟨hdg, rfl⟩ := zdec hM hd
  obtain ⟨rfl, Cn, T, N, h1, h2, h3, h4, h5⟩ := hL
  have hk := zrow_lt hc (by omega)
  have he := zW_get (E := E) (mem := mem) hk
  rw [zE3 hc] at he
  have hts' : ∀ w ∈ zALL, w.before args s = true := fun w hw => hts w (List.mem_cons_of_mem _ hw)
  obtain ⟨ty0, q1, q2⟩ := zTyp_all _ (List.mem_of_getElem? h1)
  refine va_put hx hb hts' (zIn h1) ty0 q1 q2 hown hK hP hD hS k he h1 j h2 (hts' _ h3) (fun _ h => h) h4 h5 hn hf (zF_len _ _ hj) hdg (fun H1 locs1 hP1 hD1 hS1 => ?_)
  have e2 : (zW E mem).set k (E.2.2 k, .inr (ci, (zF E.2.2 (mem k) 0 fs).set j (zcv E (vi x)))) = zW E (zset mem k j x) := zW_set hk (by rw [zE3 hc, ← zF_set _ _ _ hj]; rfl)
  rw [e2] at hP1 hD1
  exact kk p l e s m args below meth c E H1 locs1 la C hl hP1 hD1 hS1
theorem zw_puti {idx ci j k : Nat} {ji x : Int} {fs : List (Option Nat)} (hM : zOK M) (hd : zlook (mTbl M) pc = some (.putfield idx, 3, nx)) (hL : zFP (mOwn M) idx ci j ji .int) (hc : zrow k = (3, ci, fs)) (hj : fs[j]? = some none) (kk : AW M nx ls st (zset mem k ji x) Q) : AW M pc ls (vi x :: vr k :: st) mem Q := zw_putg hM hd hL hc hj rfl rfl kk
theorem zw_putz {idx ci j k : Nat} {ji x : Int} {fs : List (Option Nat)} (hM : zOK M) (hd : zlook (mTbl M) pc = some (.putfield idx, 3, nx)) (hL : zFP (mOwn M) idx ci j ji .boolean) (hc : zrow k = (3, ci, fs)) (hj : fs[j]? = some none) (hz : x = 0 ∨ x = 1) (kk : AW M nx ls st (zset mem k ji x) Q) : AW M pc ls (vi x :: vr k :: st) mem Q := by
  rcases hz with rfl | rfl
  · exact zw_putg hM hd hL hc hj (by decide) (by decide) kk
  · exact zw_putg hM hd hL hc hj (by decide) (by decide) kk
theorem zw_iald {k n : Nat} {i : Int} {fs : List (Option Nat)} (hM : zOK M) (hd : zlook (mTbl M) pc = some (.iaload, 1, nx)) (hc : zrow k = (0, n, fs)) (hi : 0 ≤ i ∧ i < (n : Int)) (kk : AW M nx ls (vi (mem k i) :: st) mem Q) : AW M pc ls (vi i :: vr k :: st) mem Q := by
  intro p l e s m args below meth c E H locs la C hl hP hD hS
  obtain ⟨hx, hb, hr, hml, hown, hts, hlk, hK, hN⟩ := id C
  obtain ⟨hdg, rfl⟩ := zdec hM hd
  have hk := zrow_lt hc (by omega)
  have he := zW_get (E := E) (mem := mem) hk
  rw [zE0 hc] at he
  obtain ⟨g1, g2⟩ := zidx hi (by have := zrow_small hc (by omega); omega)
  have kk := kk p l e s m args below meth c E H locs la C hl hP hD hS
  refine va_iald hx hb hK hP k 0 he rfl g1 hdg ?_
  have e2 : ((i.toNat : Nat) : Int) = i := by omega
  rw [g2, e2]
  exact kk
theorem zw_lald {k n : Nat} {i : Int} {fs : List (Option Nat)} (hM : zOK M) (hd : zlook (mTbl M) pc = some (.laload, 1, nx)) (hc : zrow k = (1, n, fs)) (hi : 0 ≤ i ∧ i < (n : Int)) (kk : AW M nx ls (vl (mem k i) :: st) mem Q) : AW M pc ls (vi i :: vr k :: st) mem Q := by
  intro p l e s m args below meth c E H locs la C hl hP hD hS
  obtain ⟨hx, hb, hr, hml, hown, hts, hlk, hK, hN⟩ := id C
  obtain ⟨hdg, rfl⟩ := zdec hM hd
  have hk := zrow_lt hc (by omega)
  have he := zW_get (E := E) (mem := mem) hk
  rw [zE1 hc] at he
  obtain ⟨g1, g2⟩ := zidx hi (by have := zrow_small hc (by omega); omega)
  have kk := kk p l e s m args below meth c E H locs la C hl hP hD hS
  refine va_lald hx hb hK hP k 1 he rfl g1 hdg ?_
  have e2 : ((i.toNat : Nat) : Int) = i := by omega
  rw [g2, e2]
  exact kk
theorem zw_aald {k n k2 : Nat} {i : Int} {fs : List (Option Nat)} (hM : zOK M) (hd : zlook (mTbl M) pc = some (.aaload, 1, nx)) (hc : zrow k = (2, n, fs)) (hi : 0 ≤ i ∧ i < (n : Int)) (hf : fs.getD i.toNat none = some k2) (kk : AW M nx ls (vr k2 :: st) mem Q) : AW M pc ls (vi i :: vr k :: st) mem Q := by
  intro p l e s m args below meth c E H locs la C hl hP hD hS
  obtain ⟨hx, hb, hr, hml, hown, hts, hlk, hK, hN⟩ := id C
  obtain ⟨hdg, rfl⟩ := zdec hM hd
  have hk := zrow_lt hc (by omega)
  have he := zW_get (E := E) (mem := mem) hk
  rw [zE2 hc] at he
  obtain ⟨g1, g2⟩ := zidx hi (by have := zrow_small hc (by omega); omega)
  have kk := kk p l e s m args below meth c E H locs la C hl hP hD hS
  refine va_aldq hx hb hK hP k 2 he rfl g1 hdg ?_
  rw [g2, hf]
  exact kk
theorem zw_iast {k n : Nat} {i x : Int} {fs : List (Option Nat)} (hM : zOK M) (hd : zlook (mTbl M) pc = some (.iastore, 1, nx)) (hc : zrow k = (0, n, fs)) (hi : 0 ≤ i ∧ i < (n : Int)) (kk : AW M nx ls st (zset mem k i x) Q) : AW M pc ls (vi x :: vi i :: vr k :: st) mem Q := by
  intro p l e s m args below meth c E H locs la C hl hP hD hS
  obtain ⟨hx, hb, hr, hml, hown, hts, hlk, hK, hN⟩ := id C
  obtain ⟨hdg, rfl⟩ := zdec hM hd
  have hk := zrow_lt hc (by omega)
  have he := zW_get (E := E) (mem := mem) hk
  rw [zE0 hc] at he
  obtain ⟨g1, g2⟩ := zidx hi (by have := zrow_small hc (by omega); omega)
  refine va_iast hx hb hK hP hD hS k 0 he rfl g1 hdg (fun H1 locs1 hP1 hD1 hS1 => ?_)
  have e2 : (zW E mem).set k (E.2.2 k, .inl (E.2.1.1, n, .inl (upd (fun j => Int32.ofInt (mem k j)) (Int32.ofInt i).toNatClampNeg (Int32.ofInt x)))) = zW E (zset mem k i x) := by
    refine zW_set hk ?_
    rw [zE0 hc, g2]
    congr 4
    funext j
    by_cases hj : j = i.toNat
    · have : (j : Int) = i := by omega
      simp [upd, zupd, ← hj, this]
    · have : ¬ (j : Int) = i := by omega
      simp [upd, zupd, hj, this]
  rw [e2] at hP1 hD1
  exact kk p l e s m args below meth c E H1 locs1 la C hl hP1 hD1 hS1
theorem zw_last {k n : Nat} {i x : Int} {fs : List (Option Nat)} (hM : zOK M) (hd : zlook (mTbl M) pc = some (.lastore, 1, nx)) (hc : zrow k = (1, n, fs)) (hi : 0 ≤ i ∧ i < (n : Int)) (kk : AW M nx ls st (zset mem k i x) Q) : AW M pc ls (vl x :: vi i :: vr k :: st) mem Q := by
  intro p l e s m args below meth c E H locs la C hl hP hD hS
  obtain ⟨hx, hb, hr, hml, hown, hts, hlk, hK, hN⟩ := id C
  obtain ⟨hdg, rfl⟩ := zdec hM hd
  have hk := zrow_lt hc (by omega)
  have he := zW_get (E := E) (mem := mem) hk
  rw [zE1 hc] at he
  obtain ⟨g1, g2⟩ := zidx hi (by have := zrow_small hc (by omega); omega)
  refine va_last hx hb hK hP hD hS k 1 he rfl g1 hdg (fun H1 locs1 hP1 hD1 hS1 => ?_)
  have e2 : (zW E mem).set k (E.2.2 k, .inl (E.2.1.2.1, n, .inr (.inl (vp_updL (fun j => Int64.ofInt (mem k j)) (Int32.ofInt i).toNatClampNeg (Int64.ofInt x))))) = zW E (zset mem k i x) := by
    refine zW_set hk ?_
    rw [zE1 hc, g2]
    congr 5
    funext j
    by_cases hj : j = i.toNat
    · have : (j : Int) = i := by omega
      simp [vp_updL, zupd, ← hj, this]
    · have : ¬ (j : Int) = i := by omega
      simp [vp_updL, zupd, hj, this]
  rw [e2] at hP1 hD1
  exact kk p l e s m args below meth c E H1 locs1 la C hl hP1 hD1 hS1
theorem zw_alen {k a n : Nat} {fs : List (Option Nat)} (hM : zOK M) (hd : zlook (mTbl M) pc = some (.arraylength, 1, nx)) (hc : zrow k = (a, n, fs)) (ha : a = 0 ∨ a = 1) (kk : AW M nx ls (vi (n : Int) :: st) mem Q) : AW M pc ls (vr k :: st) mem Q := by
  intro p l e s m args below meth c E H locs la C hl hP hD hS
  obtain ⟨hx, hb, hr, hml, hown, hts, hlk, hK, hN⟩ := id C
  obtain ⟨hdg, rfl⟩ := zdec hM hd
  have hk := zrow_lt hc (by omega)
  have he := zW_get (E := E) (mem := mem) hk
  rcases ha with rfl | rfl
  · rw [zE0 hc] at he
    exact va_alen (ty := .int) (v := Int32.ofInt n) hx hb hK hP k 0 he rfl (by simp [Int32.ofInt_eq_ofNat]) hdg (kk p l e s m args below meth c E H locs la C hl hP hD hS)
  · rw [zE1 hc] at he
    exact va_alen (ty := .long) (v := Int32.ofInt n) hx hb hK hP k 1 he rfl (by simp [Int32.ofInt_eq_ofNat]) hdg (kk p l e s m args below meth c E H locs la C hl hP hD hS)
/-! answers -/
theorem zend {M : zMth} {E : zEnv} {mem : zMem} {Q : Option zVal → zMem → Prop} {s : State} {args : Array Value} {H : Heap} {locs : List Loc} {r : Option zVal} (hP : va_P E.1 vwCl (zW E mem) H) (hD : va_D (zA E) (zW E mem)) (hS : va_S (zA E) s.heap H locs) (hq : Q r mem) : ∀ t : State, t.heap = H → s.WarmedH t.vm → zQc E Q args s (.returned (r.map (zcv E))) t :=
  fun t ht _ => ⟨⟨r, mem, rfl, hq, by rw [ht]; exact hP, hD⟩, hS.F ht⟩
theorem zw_iret {x : Int} (hM : zOK M) (hd : zlook (mTbl M) pc = some (.ireturn, 1, nx)) (hret : mRet M = some .int) (hq : Q (some (vi x)) mem) : AW M pc ls [vi x] mem Q := by
  intro p l e s m args below meth c E H locs la C hl hP hD hS
  obtain ⟨hx, hb, hr, hml, hown, hts, hlk, hK, hN⟩ := id C
  obtain ⟨hdg, rfl⟩ := zdec hM hd
  exact W.iret (free := zA E) hx hb (hr.trans hret) (zend (M := M) (r := some (vi x)) hP hD hS hq) hS.2.2 hdg hlk
theorem zw_zret {x : Int} (hM : zOK M) (hd : zlook (mTbl M) pc = some (.ireturn, 1, nx)) (hret : mRet M = some .boolean) (hz : x = 0 ∨ x = 1) (hq : Q (some (vi x)) mem) : AW M pc ls [vi x] mem Q := by
  intro p l e s m args below meth c E H locs la C hl hP hD hS
  obtain ⟨hx, hb, hr, hml, hown, hts, hlk, hK, hN⟩ := id C
  obtain ⟨hdg, rfl⟩ := zdec hM hd
  refine W.zret (ty := .boolean) (free := zA E) hx hb (hr.trans hret) ?_ (zend (M := M) (r := some (vi x)) hP hD hS hq) hS.2.2 hdg hlk
  rcases hz with rfl | rfl <;> decide
theorem zw_lret {x : Int} (hM : zOK M) (hd : zlook (mTbl M) pc = some (.lreturn, 1, nx)) (hret : mRet M = some .long) (hq : Q (some (vl x)) mem) : AW M pc ls [vl x] mem Q := by
  intro p l e s m args below meth c E H locs la C hl hP hD hS
  obtain ⟨hx, hb, hr, hml, hown, hts, hlk, hK, hN⟩ := id C
  obtain ⟨hdg, rfl⟩ := zdec hM hd
  exact W.lret (free := zA E) hx hb (hr.trans hret) (zend (M := M) (r := some (vl x)) hP hD hS hq) hS.2.2 hdg hlk
theorem zw_vret (hM : zOK M) (hd : zlook (mTbl M) pc = some (.return_, 1, nx)) (hret : mRet M = none) (hq : Q none mem) : AW M pc ls [] mem Q := by
  intro p l e s m args below meth c E H locs la C hl hP hD hS
  obtain ⟨hx, hb, hr, hml, hown, hts, hlk, hK, hN⟩ := id C
  obtain ⟨hdg, rfl⟩ := zdec hM hd
  exact W.vret (free := zA E) hx hb (hr.trans hret) (zend (M := M) (r := none) hP hD hS hq) hS.2.2 hdg hlk
theorem zw_aret {k : Nat} {C0 : String} (hM : zOK M) (hd : zlook (mTbl M) pc = some (.areturn, 1, nx)) (hret : mRet M = some (.object C0)) (hq : Q (some (vr k)) mem) : AW M pc ls [vr k] mem Q := by
  intro p l e s m args below meth c E H locs la C hl hP hD hS
  obtain ⟨hx, hb, hr, hml, hown, hts, hlk, hK, hN⟩ := id C
  obtain ⟨hdg, rfl⟩ := zdec hM hd
  exact W.aret (free := zA E) hx hb (hr.trans hret) (Or.inl ⟨_, rfl⟩) (Or.inr ⟨_, rfl⟩) (zend (M := M) (r := some (vr k)) hP hD hS hq) hS.2.2 hdg hlk
/-! switches -/
theorem zw_tin {x dflt lo hi off : Int} {offs : Array Int} {len : Nat} (tgt : Nat) (hM : zOK M) (hd : zlook (mTbl M) pc = some (.tableswitch dflt lo hi offs, len, nx)) (hq : -2147483648 ≤ x ∧ x < 2147483648) (h1 : lo ≤ x ∧ x ≤ hi) (ho : offs[(x - lo).toNat]? = some off) (ht : (pc : Int) + off = (tgt : Int)) (kk : AW M tgt ls st mem Q) : AW M pc ls (vi x :: st) mem Q := by
  intro p l e s m args below meth c E H locs la C hl hP hD hS
  obtain ⟨hx, hb, hr, hml, hown, hts, hlk, hK, hN⟩ := id C
  obtain ⟨hdg, rfl⟩ := zdec hM hd
  have e1 := zto32 hq
  exact lv_tableIn hx hb hdg (by rw [e1]; omega) (by rw [e1]; omega) (by rw [e1]; exact ho) ht (kk p l e s m args below meth c E H locs la C hl hP hD hS)
theorem zw_tout {x dflt lo hi : Int} {offs : Array Int} {len : Nat} (tgt : Nat) (hM : zOK M) (hd : zlook (mTbl M) pc = some (.tableswitch dflt lo hi offs, len, nx)) (hq : -2147483648 ≤ x ∧ x < 2147483648) (h1 : x < lo ∨ hi < x) (ht : (pc : Int) + dflt = (tgt : Int)) (kk : AW M tgt ls st mem Q) : AW M pc ls (vi x :: st) mem Q := by
  intro p l e s m args below meth c E H locs la C hl hP hD hS
  obtain ⟨hx, hb, hr, hml, hown, hts, hlk, hK, hN⟩ := id C
  obtain ⟨hdg, rfl⟩ := zdec hM hd
  have e1 := zto32 hq
  exact lv_tableOut hx hb hdg (by rw [e1]; exact h1) ht (kk p l e s m args below meth c E H locs la C hl hP hD hS)
theorem zw_lsw {x dflt off : Int} {ps : Array (Int × Int)} {len : Nat} (tgt : Nat) (hM : zOK M) (hd : zlook (mTbl M) pc = some (.lookupswitch dflt ps, len, nx)) (hq : -2147483648 ≤ x ∧ x < 2147483648) (hp : (ps.toList.zip (ps.toList.drop 1)).all (fun (a, next) => a.1 < next.1) = true) (ho : Op.lookupswitch.offset ps.toList dflt x = off) (ht : (pc : Int) + off = (tgt : Int)) (kk : AW M tgt ls st mem Q) : AW M pc ls (vi x :: st) mem Q := by
  intro p l e s m args below meth c E H locs la C hl hP hD hS
  obtain ⟨hx, hb, hr, hml, hown, hts, hlk, hK, hN⟩ := id C
  obtain ⟨hdg, rfl⟩ := zdec hM hd
  have e1 := zto32 hq
  exact lv_lookup hx hb hdg hp (by rw [e1]; exact ho) ht (kk p l e s m args below meth c E H locs la C hl hP hD hS)
end ZC
end
section
/-! ===== calls over the abstract machine; contracts ===== -/
def zK (E : zEnv) (mem : zMem) (U : State) : Prop := va_P E.1 vwCl (zW E mem) U.heap ∧ va_D (zA E) (zW E mem) ∧ va_K E.1 vwCl (zTys E) U ∧ zNw U
/-- the method, called with these arguments in this memory, returns with Q -/
def zCt (M : zMth) (av : List zVal) (mem : zMem) (Q : Option zVal → zMem → Prop) : Prop :=
  ∀ (l : Launch) (E : zEnv), Met l (mY M) (zws M) (zrm M) (va_Pc (av.map (zcv E)) (zK E mem)) (zQc E Q) 0 0 (zA E)
def zent : List zVal → zLs
  | [] => []
  | .inl x :: t => some (.inl x) :: zent t
  | .inr (.inl x) :: t => some (.inr (.inl x)) :: none :: zent t
  | .inr (.inr x) :: t => some (.inr (.inr x)) :: zent t
theorem zent_len (E : zEnv) : ∀ av : List zVal, (lg_sl (av.map (zcv E))).length = (zent av).length
  | [] => rfl
  | .inl x :: t => by
    have := zent_len E t
    simp only [List.map_cons, zcv, zent]
    simp [lg_sl, Value.category] at this ⊢
    exact this
  | .inr (.inl x) :: t => by
    have := zent_len E t
    simp only [List.map_cons, zcv, zent]
    simp [lg_sl, Value.category] at this ⊢
    omega
  | .inr (.inr x) :: t => by
    have := zent_len E t
    simp only [List.map_cons, zcv, zent]
    simp [lg_sl, Value.category] at this ⊢
    exact this
theorem zent_args (E : zEnv) : ∀ (av : List zVal) (b : Nat), zcl E b (zent av) = lv_args b (av.map (zcv E))
  | [], b => rfl
  | .inl x :: t, b => by
    have := zent_args E t (b + 1)
    simp [zent, zcl, lv_args, zcv, Value.category, this]
  | .inr (.inl x) :: t, b => by
    have := zent_args E t (b + 2)
    simp [zent, zcl, lv_args, zcv, Value.category, this]
  | .inr (.inr x) :: t, b => by
    have := zent_args E t (b + 1)
    simp [zent, zcl, lv_args, zcv, Value.category, this]
def zpad (ls : zLs) (n : Nat) : zLs := match n with
  | 0 => ls
  | n + 1 => zpad (ls ++ [none]) n
theorem zpad_get : ∀ (n : Nat) (ls : zLs) (i : Nat) (v : zVal), (zpad ls n)[i]? = some (some v) → ls[i]? = some (some v)
  | 0, ls, i, v, h => h
  | n + 1, ls, i, v, h => by
    have h1 := zpad_get n (ls ++ [none]) i v h
    by_cases hi : i < ls.length
    · rwa [List.getElem?_append_left hi] at h1
    · rw [List.getElem?_append_right (by omega)] at h1
      by_cases h0 : i - ls.length = 0
      · rw [h0] at h1; simp at h1
      · rw [List.getElem?_eq_none (by simp; omega)] at h1
        cases h1
theorem zCt.of {M : zMth} {av : List zVal} {mem : zMem} {Q : Option zVal → zMem → Prop} (ls : zLs) (hM : zOK M) (hn : (zent av).length ≤ mL M) (hls : zpad (zent av) (mL M - (zent av).length) = ls) (h : AW M 0 ls [] mem Q) : zCt M av mem Q := by
  intro l E
  subst hls
  refine Met.ofW (cc := mCode M) (maxL := mL M) (ret := mRet M) hM.2.1 rfl ?_
  intro p e s m args below meth c s₁ B hml hv
  obtain ⟨rfl, hP, hD, hK, hN⟩ := hv
  have hl := lv_entry (av.map (zcv E)) (n := mL M) (by rw [zent_len]; exact hn)
  rw [lg_entry_eq]
  generalize (lg_sl (av.map (zcv E)) ++ List.replicate (mL M - (lg_sl (av.map (zcv E))).length) Slot.unset).toArray = la at hl ⊢
  have C : zCx M p s m (av.map (zcv E)).toArray meth c E := ⟨B.exec, B.bytes, B.returns, hml, by rw [hM.2.2.1]; exact findClass_of_methodNamed B.named, atoms_spec (ws := zws M) B.pre, B.notSynchronized, hK, hN⟩
  refine h p l e s m _ below meth c E s.heap [] la C (zhas_mk hl (fun i v hi => ?_)) hP hD va_S.rf
  have h1 := zpad_get _ _ _ _ hi
  rw [← zent_args E av 0]
  simpa using zcl_mem (E := E) (b := 0) h1
def zsplit : Nat → List zVal → List zVal → Option (List zVal × List zVal)
  | 0, st, acc => some (acc, st)
  | n + 1, v :: st, acc => zsplit n st (v :: acc)
  | _ + 1, [], _ => none
theorem zsplit_eq : ∀ {n : Nat} {st acc a r : List zVal}, zsplit n st acc = some (a, r) → ∃ b, a = b ++ acc ∧ st = b.reverse ++ r ∧ b.length = n
  | 0, st, acc, a, r, h => by
    simp only [zsplit, Option.some.injEq, Prod.mk.injEq] at h
    exact ⟨[], by simp [h.1], by simp [h.2], rfl⟩
  | n + 1, [], acc, a, r, h => by simp [zsplit] at h
  | n + 1, v :: st, acc, a, r, h => by
    obtain ⟨b, h1, h2, h3⟩ := zsplit_eq (n := n) h
    exact ⟨b ++ [v], by simp [h1], by simp [h2], by simp [h3]⟩
def zplain (y : MethodName) (n : Nat) : Prop := y.cls ≠ "java/lang/invoke/MethodHandle" ∧ y.cls ≠ "java/lang/invoke/VarHandle" ∧ (parseMethodDescriptor y.desc).map (fun d => d.parameters.length) = some n
/-- a static method by its pool entry -/
def zLS (own : String) (idx : Nat) (M' : zMth) (n : Nat) : Prop := Cond.methodLink own idx (mY M') ∈ zALL ∧ Cond.static (mY M') ∈ zALL ∧ Cond.initialized (mY M').cls ∈ zALL ∧ zplain (mY M') n
/-- a private static method of the host -/
def zLN (own : String) (idx : Nat) (M' : zMth) (n : Nat) : Prop := (own, idx) ∈ zNest ∧ mY M' = yX10_within ∧ Cond.static (mY M') ∈ zALL ∧ Cond.initialized (mY M').cls ∈ zALL ∧ zplain (mY M') n
/-- a method of an object of class ci -/
def zLV (own : String) (idx : Nat) (M' : zMth) (ci n : Nat) : Prop := Cond.methodLink own idx (mY M') ∈ zALL ∧ Cond.instanceMethod (mY M') ∈ zALL ∧ Cond.selects (mY M').cls (mY M') (mY M') ∈ zALL ∧ Cond.initialized (mY M').cls ∈ zALL ∧ (vwCl[ci]?).map (fun q => q.1) = some (mY M').cls ∧ zplain (mY M') n
theorem zblind {E : zEnv} {mem : zMem} {av : List Value} : FrameBlind (va_Pc av (zK E mem)) := fun a U g mk q => by
  obtain ⟨q0, q1, q2, q3, q4⟩ := q
  exact ⟨q0, q1, q2, va_K.moved (u := U) (U := U.calling g mk a) (Vm.Alike.refl U.vm) q3, zNw.same rfl q4⟩
section ZCALL
variable {M M' : zMth} {pc nx : Nat} {ls : zLs} {st : List zVal} {mem : zMem} {Q Q' : Option zVal → zMem → Prop} {av rest : List zVal} {n idx : Nat}
theorem zafter {p : Program} {l : Launch} {e : Env} {s : State} {m : MethodId} {args : Array Value} {below : List Frame} {meth : Method} {c : Code} {E : zEnv} {H : Heap} {locs : List Loc} {la : Array Slot} {st0 : List Value} {a : Array Value}
    (C : zCx M p s m args meth c E) (hl : lv_has la (mL M) (zcl E 0 ls)) (hS : va_S (zA E) s.heap H locs)
    (hr : va_Run p l e (zrm M) s m args below meth c H locs 0 0 0 0 (F0 m pc la st0) (rest.map (zcv E)) (zQc E Q' a) (zA E))
    (kk : ∀ r mem', Q' r mem' → AW M (pc + 3) ls (r.toList ++ rest) mem' Q) :
    W p l e (zrm M) s m args below meth c H locs 0 0 (MQ below (zQc E Q) args s 0 0 (zA E)) (F0 m pc la st0) := by
  intro T hT X
  obtain ⟨v, st₀, t, T', L, h0, X', hL, e1, e2, ⟨⟨r, mem', hv, hQ, hP', hD'⟩, hz, hk⟩, stp⟩ := hr T hT X
  have hv' : v = r.map (zcv E) := by injection hv
  subst hv'
  rw [h0] at hz hk
  have hS' : va_S (zA E) s.heap T'.heap (locs ++ L) := ⟨Nat.le_trans hS.1 (by rw [e1]; exact hz), fun q h1 h2 => by rw [e1, hk q (Nat.lt_of_lt_of_le h1 hS.1) h2]; exact hS.2.1 q h1 h2, fun q hq => by
      rcases List.mem_append.mp hq with h | h
      · exact hS.2.2 q h
      · exact hL q h⟩
  obtain ⟨t2, a1, b1⟩ := kk r mem' hQ p l e s m args below meth c E T'.heap (locs ++ L) la C hl (by rw [e1]; exact hP') hD' hS' T' rfl X'
  refine ⟨t2, stp t2 ?_, b1⟩
  have e3 : (r.map (zcv E)).toList ++ rest.map (zcv E) = (r.toList ++ rest).map (zcv E) := by cases r <;> simp
  show Steps p.tables e below (T'.setTop (F0 m (pc + 3) la ((r.map (zcv E)).toList ++ rest.map (zcv E)))) t2
  rw [e3]
  exact a1
theorem zw_callS (hM : zOK M) (hd : zlook (mTbl M) pc = some (.invokestatic idx, 3, nx)) (hM' : zOK M') (hL : zLS (mOwn M) idx M' n) (hR : mFr M' + 1 ≤ mFr M ∧ 8 + (mL M' + 11) + mLo M' ≤ mLo M) (hst : zsplit n st [] = some (av, rest)) (hw : zcat rest ≤ 8) (hC : zCt M' av mem Q') (kk : ∀ r mem', Q' r mem' → AW M nx ls (r.toList ++ rest) mem' Q) : AW M pc ls st mem Q := by
  intro p l e s m args below meth c E H locs la C hl hP hD hS
  obtain ⟨hx, hb, hr, hml, hown, hts, hlk, hK, hN⟩ := id C
  obtain ⟨hdg, rfl⟩ := zdec hM hd
  obtain ⟨b, rfl, rfl, hbn⟩ := zsplit_eq hst
  rw [List.append_nil] at hC
  have hts' : ∀ w ∈ zALL, w.before args s = true := fun w hw => hts w (List.mem_cons_of_mem _ hw)
  obtain ⟨l1, l2, l3, l4⟩ := hL
  refine zafter C hl hS (va_runS (As := b.map (zcv E)) (n := n) ⟨hx, hb, hml, hown, hts⟩ (hC l E) ⟨callB_of n hts (zGood hM' (fun w hw => List.mem_cons_of_mem _ hw)) rfl rfl rfl (hts' _ l3) (hts' _ l1) l4 hR, hts' _ l2⟩ ⟨zblind, fun U hU hW => ⟨rfl, by rw [hU]; exact hP, hD, va_K.moved hW.alike hK, hN.warm hW⟩⟩ rfl (by simpa using hbn) hl.1 (by simp) ?_ hdg ⟨Nat.le_refl 0, Nat.le_refl 0⟩) kk
  exact lv_room (by rw [zcat_eq]; exact hw)
theorem zw_callN (hM : zOK M) (hd : zlook (mTbl M) pc = some (.invokestatic idx, 3, nx)) (hM' : zOK M') (hL : zLN (mOwn M) idx M' n) (hR : mFr M' + 1 ≤ mFr M ∧ 8 + (mL M' + 11) + mLo M' ≤ mLo M) (hst : zsplit n st [] = some (av, rest)) (hw : zcat rest ≤ 8) (hC : zCt M' av mem Q') (kk : ∀ r mem', Q' r mem' → AW M nx ls (r.toList ++ rest) mem' Q) : AW M pc ls st mem Q := by
  intro p l e s m args below meth c E H locs la C hl hP hD hS
  obtain ⟨hx, hb, hr, hml, hown, hts, hlk, hK, hN⟩ := id C
  obtain ⟨hdg, rfl⟩ := zdec hM hd
  obtain ⟨b, rfl, rfl, hbn⟩ := zsplit_eq hst
  rw [List.append_nil] at hC
  have hts' : ∀ w ∈ zALL, w.before args s = true := fun w hw => hts w (List.mem_cons_of_mem _ hw)
  obtain ⟨l1, l1', l2, l3, l4⟩ := hL
  have hnw : va_Nw (.methodLinkNest (mOwn M) idx (mY M') "LowerBows") s := by rw [l1']; exact hN _ l1
  refine zafter C hl hS (va_runSN (As := b.map (zcv E)) (n := n) ⟨hx, hb, hml, hown, hts⟩ (hC l E) ⟨va_cnB n hts (zGood hM' (fun w hw => List.mem_cons_of_mem _ hw)) rfl rfl rfl hnw (hts' _ l3) l4 hR, hts' _ l2, trivial⟩ ⟨zblind, fun U hU hW => ⟨rfl, by rw [hU]; exact hP, hD, va_K.moved hW.alike hK, hN.warm hW⟩⟩ rfl (by simpa using hbn) hl.1 (by simp) ?_ hdg ⟨Nat.le_refl 0, Nat.le_refl 0⟩) kk
  exact lv_room (by rw [zcat_eq]; exact hw)
theorem zw_callV {ci k : Nat} {fs : List (Option Nat)} (hM : zOK M) (hd : zlook (mTbl M) pc = some (.invokevirtual idx, 3, nx)) (hM' : zOK M') (hL : zLV (mOwn M) idx M' ci n) (hR : mFr M' + 1 ≤ mFr M ∧ 8 + (mL M' + 11) + mLo M' ≤ mLo M) (hst : zsplit n st [] = some (av, vr k :: rest)) (hc : zrow k = (3, ci, fs)) (hw : zcat rest ≤ 8) (hC : zCt M' (vr k :: av) mem Q') (kk : ∀ r mem', Q' r mem' → AW M nx ls (r.toList ++ rest) mem' Q) : AW M pc ls st mem Q := by
  intro p l e s m args below meth c E H locs la C hl hP hD hS
  obtain ⟨hx, hb, hr, hml, hown, hts, hlk, hK, hN⟩ := id C
  obtain ⟨hdg, rfl⟩ := zdec hM hd
  obtain ⟨b, rfl, rfl, hbn⟩ := zsplit_eq hst
  rw [List.append_nil] at hC
  have hts' : ∀ w ∈ zALL, w.before args s = true := fun w hw => hts w (List.mem_cons_of_mem _ hw)
  obtain ⟨l1, l2, l3, l4, l5, l6⟩ := hL
  have hk := zrow_lt hc (by omega)
  have he := zW_get (E := E) (mem := mem) hk
  rw [zE3 hc] at he
  obtain ⟨q, hq1, hq2⟩ := Option.map_eq_some_iff.mp l5
  have hrecv := va_recv hK hP hq1 he
  rw [hq2] at hrecv
  refine zafter C hl hS (va_runV (As := b.map (zcv E)) (n := n) (C := (mY M').cls) (b := E.2.2 k) ⟨hx, hb, hml, hown, hts⟩ (hC l E) ⟨callB_of n hts (zGood hM' (fun w hw => List.mem_cons_of_mem _ hw)) rfl rfl rfl (hts' _ l4) (hts' _ l1) l6 hR, hts' _ l2, hts' _ l3⟩ ⟨zblind, hrecv, fun U hU hW => ⟨rfl, by rw [hU]; exact hP, hD, va_K.moved hW.alike hK, hN.warm hW⟩⟩ rfl (by simpa using hbn) hl.1 (by simp [zcv]) ?_ hdg ⟨Nat.le_refl 0, Nat.le_refl 0⟩) kk
  exact lv_room (by rw [zcat_eq]; exact hw)
end ZCALL
end
section
/-! ===== Math, arraycopy; contracts by their answers; branches on booleans ===== -/
def bi (b : Bool) : Int := cond b 1 0
theorem bi01 (b : Bool) : bi b = 0 ∨ bi b = 1 := by cases b <;> simp [bi]
theorem bi_t {p : Prop} {i : Decidable p} (h : p) : bi (@decide p i) = 1 := by simp [bi, h]
theorem bi_f {p : Prop} {i : Decidable p} (h : ¬ p) : bi (@decide p i) = 0 := by simp [bi, h]
def zLM (own : String) (idx : Nat) (y : MethodName) (code : ByteArray) (k : Nat) : Prop := Cond.methodLink own idx y ∈ zALL ∧ Cond.static y ∈ zALL ∧ Cond.initialized "java/lang/Math" ∈ zALL ∧ Cond.code y code k (some .int) ∈ zALL
def zLA (own : String) (idx : Nat) : Prop := Cond.methodLink own idx arraycopyName ∈ zALL ∧ Cond.native arraycopyName ∈ zALL ∧ Cond.static arraycopyName ∈ zALL ∧ Cond.initialized "java/lang/System" ∈ zALL
section ZX
variable {M : zMth} {pc nx idx : Nat} {ls : zLs} {st : List zVal} {mem : zMem} {Q : Option zVal → zMem → Prop}
theorem zw_mmax {x y : Int} (hM : zOK M) (hd : zlook (mTbl M) pc = some (.invokestatic idx, 3, nx)) (hL : zLM (mOwn M) idx Lib.Math.max.name Lib.Math.max.code 2) (hR : 1 ≤ mFr M ∧ zcat st + 13 ≤ mLo M) (hq : (-2147483648 ≤ x ∧ x < 2147483648) ∧ (-2147483648 ≤ y ∧ y < 2147483648)) (kk : AW M nx ls (vi (max x y) :: st) mem Q) : AW M pc ls (vi y :: vi x :: st) mem Q := by
  intro p l e s m args below meth c E H locs la C hl hP hD hS
  obtain ⟨hx, hb, hr, hml, hown, hts, hlk, hK, hN⟩ := id C
  obtain ⟨hdg, rfl⟩ := zdec hM hd
  have hts' : ∀ w ∈ zALL, w.before args s = true := fun w hw => hts w (List.mem_cons_of_mem _ hw)
  have kk := kk p l e s m args below meth c E H locs la C hl hP hD hS
  have e1 : Int32.ofInt (max x y) = if Int32.ofInt x < Int32.ofInt y then Int32.ofInt y else Int32.ofInt x := by
    have q : Int32.ofInt x < Int32.ofInt y ↔ x < y := by rw [Int32.lt_iff_toInt_lt, zto32 hq.1, zto32 hq.2]
    by_cases h : x < y
    · rw [if_pos (q.mpr h), show max x y = y by omega]
    · rw [if_neg (fun z => h (q.mp z)), show max x y = x by omega]
  simp only [List.map_cons, zcv] at kk
  rw [e1] at kk
  exact va_mmax hx hb (hml.trans hl.1.symm) hown (hts' _ hL.1) (hts' _ hL.2.1) (hts' _ hL.2.2.1) (hts' _ hL.2.2.2) hR.1 (by rw [zcat_eq]; exact hR.2) (Nat.zero_le _) (Nat.zero_le _) hdg kk
theorem zw_mmin {x y : Int} (hM : zOK M) (hd : zlook (mTbl M) pc = some (.invokestatic idx, 3, nx)) (hL : zLM (mOwn M) idx Lib.Math.min.name Lib.Math.min.code 2) (hR : 1 ≤ mFr M ∧ zcat st + 13 ≤ mLo M) (hq : (-2147483648 ≤ x ∧ x < 2147483648) ∧ (-2147483648 ≤ y ∧ y < 2147483648)) (kk : AW M nx ls (vi (min x y) :: st) mem Q) : AW M pc ls (vi y :: vi x :: st) mem Q := by
  intro p l e s m args below meth c E H locs la C hl hP hD hS
  obtain ⟨hx, hb, hr, hml, hown, hts, hlk, hK, hN⟩ := id C
  obtain ⟨hdg, rfl⟩ := zdec hM hd
  have hts' : ∀ w ∈ zALL, w.before args s = true := fun w hw => hts w (List.mem_cons_of_mem _ hw)
  have kk := kk p l e s m args below meth c E H locs la C hl hP hD hS
  have e1 : Int32.ofInt (min x y) = if Int32.ofInt y < Int32.ofInt x then Int32.ofInt y else Int32.ofInt x := by
    have q : Int32.ofInt y < Int32.ofInt x ↔ y < x := by rw [Int32.lt_iff_toInt_lt, zto32 hq.1, zto32 hq.2]
    by_cases h : y < x
    · rw [if_pos (q.mpr h), show min x y = y by omega]
    · rw [if_neg (fun z => h (q.mp z)), show min x y = x by omega]
  simp only [List.map_cons, zcv] at kk
  rw [e1] at kk
  exact va_mmin hx hb (hml.trans hl.1.symm) hown (hts' _ hL.1) (hts' _ hL.2.1) (hts' _ hL.2.2.1) (hts' _ hL.2.2.2) hR.1 (by rw [zcat_eq]; exact hR.2) (Nat.zero_le _) (Nat.zero_le _) hdg kk
def zabs (x : Int) : Int := if 0 ≤ x then x else -x
theorem zw_mabs {x : Int} (hM : zOK M) (hd : zlook (mTbl M) pc = some (.invokestatic idx, 3, nx)) (hL : zLM (mOwn M) idx Lib.Math.abs.name Lib.Math.abs.code 1) (hR : 1 ≤ mFr M ∧ zcat st + 13 ≤ mLo M) (hq : -2147483648 ≤ x ∧ x < 2147483648) (kk : AW M nx ls (vi (zabs x) :: st) mem Q) : AW M pc ls (vi x :: st) mem Q := by
  intro p l e s m args below meth c E H locs la C hl hP hD hS
  obtain ⟨hx, hb, hr, hml, hown, hts, hlk, hK, hN⟩ := id C
  obtain ⟨hdg, rfl⟩ := zdec hM hd
  have hts' : ∀ w ∈ zALL, w.before args s = true := fun w hw => hts w (List.mem_cons_of_mem _ hw)
  have kk := kk p l e s m args below meth c E H locs la C hl hP hD hS
  have e1 : Int32.ofInt (zabs x) = if 0 ≤ Int32.ofInt x then Int32.ofInt x else 0 - Int32.ofInt x := by
    have q : 0 ≤ Int32.ofInt x ↔ 0 ≤ x := by rw [Int32.le_iff_toInt_le, zto32 hq, Int32.toInt_zero]
    unfold zabs
    by_cases h : 0 ≤ x
    · rw [if_pos (q.mpr h), if_pos h]
    · rw [if_neg (fun z => h (q.mp z)), if_neg h, Int32.ofInt_neg]; simp
  simp only [List.map_cons, zcv] at kk
  rw [e1] at kk
  exact va_mabs hx hb (hml.trans hl.1.symm) hown (hts' _ hL.1) (hts' _ hL.2.1) (hts' _ hL.2.2.1) (hts' _ hL.2.2.2) hR.1 (by rw [zcat_eq]; exact hR.2) (Nat.zero_le _) (Nat.zero_le _) hdg kk
theorem zw_copy {k0 k1 n0 n1 : Nat} {f0 f1 : List (Option Nat)} {sp dp n : Int} (hM : zOK M) (hd : zlook (mTbl M) pc = some (.invokestatic idx, 3, nx)) (hL : zLA (mOwn M) idx) (hc0 : zrow k0 = (0, n0, f0)) (hc1 : zrow k1 = (0, n1, f1)) (hi : (0 ≤ sp ∧ 0 ≤ dp ∧ 0 ≤ n) ∧ sp + n ≤ (n0 : Int) ∧ dp + n ≤ (n1 : Int)) (hR : 1 ≤ mFr M ∧ zcat st + (nativeFrameWords "java/lang/System" "arraycopy" 5 + 11) ≤ mLo M) (kk : AW M nx ls st (zput mem k1 (zcpy (mem k0) (mem k1) sp dp n)) Q) : AW M pc ls (vi n :: vi dp :: vr k1 :: vi sp :: vr k0 :: st) mem Q := by
  intro p l e s m args below meth c E H locs la C hl hP hD hS
  obtain ⟨hx, hb, hr, hml, hown, hts, hlk, hK, hN⟩ := id C
  obtain ⟨hdg, rfl⟩ := zdec hM hd
  have hts' : ∀ w ∈ zALL, w.before args s = true := fun w hw => hts w (List.mem_cons_of_mem _ hw)
  have hk0 := zrow_lt hc0 (by omega)
  have hk1 := zrow_lt hc1 (by omega)
  have s0 := zrow_small hc0 (by omega)
  have s1 := zrow_small hc1 (by omega)
  have he0 := zW_get (E := E) (mem := mem) hk0
  rw [zE0 hc0] at he0
  have he1 := zW_get (E := E) (mem := mem) hk1
  rw [zE0 hc1] at he1
  have cl : ∀ x : Int, 0 ≤ x → x ≤ 1000 → (Int32.ofInt x).toNatClampNeg = x.toNat ∧ ¬ Int32.ofInt x < 0 := by
    intro x h1 h2
    have e := zto32 (x := x) (by omega)
    refine ⟨?_, ?_⟩
    · show (Int32.ofInt x).toInt.toNat = x.toNat
      rw [e]
    · rw [Int32.lt_iff_toInt_lt, e, Int32.toInt_zero]
      omega
  obtain ⟨a1, a2⟩ := cl sp (by omega) (by omega)
  obtain ⟨b1, b2⟩ := cl dp (by omega) (by omega)
  obtain ⟨c1, c2⟩ := cl n (by omega) (by omega)
  refine va_copyi (ty := .int) hx hb (hml.trans hl.1.symm) hown (hts' _ hL.1) (hts' _ hL.2.1) (hts' _ hL.2.2.1) (hts' _ hL.2.2.2) hK hP hD hS k0 k1 0 0 he0 he1 rfl rfl rfl a2 b2 c2 (by rw [a1, c1]; omega) (by rw [b1, c1]; omega) (fun _ _ => rfl) hR.1 (by rw [zcat_eq]; exact hR.2) hdg (fun H1 locs1 hP1 hD1 hS1 => ?_)
  have e2 : (zW E mem).set k1 (E.2.2 k1, .inl (E.2.1.1, n1, .inl (va_cpy (fun j => Int32.ofInt (mem k0 j)) (fun j => Int32.ofInt (mem k1 j)) (Int32.ofInt sp).toNatClampNeg (Int32.ofInt dp).toNatClampNeg (Int32.ofInt n).toNatClampNeg))) = zW E (zput mem k1 (zcpy (mem k0) (mem k1) sp dp n)) := by
    refine zW_set hk1 ?_
    rw [zE0 hc1, a1, b1, c1]
    congr 4
    funext j
    simp only [va_cpy, zcpy]
    by_cases h : dp ≤ (j : Int) ∧ (j : Int) < dp + n
    · rw [if_pos h, if_pos (by omega)]
      have : ((sp.toNat + (j - dp.toNat) : Nat) : Int) = sp + (j - dp) := by omega
      rw [this]
    · rw [if_neg h, if_neg (by omega)]
  rw [e2] at hP1 hD1
  exact kk p l e s m args below meth c E H1 locs1 la C hl hP1 hD1 hS1
theorem zw_ifeq_b {b : Bool} {off : Int} (tgt : Nat) (hM : zOK M) (hd : zlook (mTbl M) pc = some (.ifCond .eq off, 3, nx)) (ht : (pc : Int) + off = (tgt : Int)) (kt : b = false → AW M tgt ls st mem Q) (kf : b = true → AW M nx ls st mem Q) : AW M pc ls (vi (bi b) :: st) mem Q := by
  refine zw_if_eq tgt hM hd ht (by rcases bi01 b with h | h <;> omega) (fun h => kt ?_) (fun h => kf ?_)
  · cases b <;> simp [bi] at h ⊢
  · cases b <;> simp [bi] at h ⊢
theorem zw_ifeq_d {p : Prop} {i : Decidable p} {off : Int} (tgt : Nat) (hM : zOK M) (hd : zlook (mTbl M) pc = some (.ifCond .eq off, 3, nx)) (ht : (pc : Int) + off = (tgt : Int)) (kt : ¬ p → AW M tgt ls st mem Q) (kf : p → AW M nx ls st mem Q) : AW M pc ls (vi (bi (@decide p i)) :: st) mem Q := by
  refine zw_ifeq_b tgt hM hd ht (fun h => kt ?_) (fun h => kf ?_)
  · simpa using h
  · simpa using h
theorem zw_ifne_b {b : Bool} {off : Int} (tgt : Nat) (hM : zOK M) (hd : zlook (mTbl M) pc = some (.ifCond .ne off, 3, nx)) (ht : (pc : Int) + off = (tgt : Int)) (kt : b = true → AW M tgt ls st mem Q) (kf : b = false → AW M nx ls st mem Q) : AW M pc ls (vi (bi b) :: st) mem Q := by
  refine zw_if_ne tgt hM hd ht (by rcases bi01 b with h | h <;> omega) (fun h => kt ?_) (fun h => kf ?_)
  · cases b <;> simp [bi] at h ⊢
  · cases b <;> simp [bi] at h ⊢
theorem zw_ifne_d {p : Prop} {i : Decidable p} {off : Int} (tgt : Nat) (hM : zOK M) (hd : zlook (mTbl M) pc = some (.ifCond .ne off, 3, nx)) (ht : (pc : Int) + off = (tgt : Int)) (kt : p → AW M tgt ls st mem Q) (kf : ¬ p → AW M nx ls st mem Q) : AW M pc ls (vi (bi (@decide p i)) :: st) mem Q := by
  refine zw_ifne_b tgt hM hd ht (fun h => kt ?_) (fun h => kf ?_)
  · simpa using h
  · simpa using h
end ZX
def zCi (M : zMth) (av : List zVal) (mem : zMem) (X : Int) (P : zMem → Prop) : Prop := zCt M av mem (fun r m2 => r = some (vi X) ∧ P m2)
def zCip (M : zMth) (av : List zVal) (mem : zMem) (X : Int) : Prop := zCt M av mem (fun r m2 => r = some (vi X) ∧ m2 = mem)
def zCbp (M : zMth) (av : List zVal) (mem : zMem) (b : Bool) : Prop := zCt M av mem (fun r m2 => r = some (vi (bi b)) ∧ m2 = mem)
def zCb (M : zMth) (av : List zVal) (mem : zMem) (b : Bool) (P : zMem → Prop) : Prop := zCt M av mem (fun r m2 => r = some (vi (bi b)) ∧ P m2)
def zCv (M : zMth) (av : List zVal) (mem : zMem) (P : zMem → Prop) : Prop := zCt M av mem (fun r m2 => r = none ∧ P m2)
def zCvp (M : zMth) (av : List zVal) (mem : zMem) (m3 : zMem) : Prop := zCt M av mem (fun r m2 => r = none ∧ m2 = m3)
def zCl (M : zMth) (av : List zVal) (mem : zMem) (X : Int) (P : zMem → Prop) : Prop := zCt M av mem (fun r m2 => r = some (vl X) ∧ P m2)
def zClp (M : zMth) (av : List zVal) (mem : zMem) (X : Int) : Prop := zCt M av mem (fun r m2 => r = some (vl X) ∧ m2 = mem)
def zCrp (M : zMth) (av : List zVal) (mem : zMem) (k : Nat) : Prop := zCt M av mem (fun r m2 => r = some (vr k) ∧ m2 = mem)
section ZCW
variable {M M' : zMth} {pc nx : Nat} {ls : zLs} {st : List zVal} {mem : zMem} {Q : Option zVal → zMem → Prop} {av rest : List zVal} {n idx : Nat}
theorem zw_Si  {X : Int} {P : zMem → Prop} (hM : zOK M) (hd : zlook (mTbl M) pc = some (.invokestatic idx, 3, nx)) (hM' : zOK M') (hL : zLS (mOwn M) idx M' n) (hR : mFr M' + 1 ≤ mFr M ∧ 8 + (mL M' + 11) + mLo M' ≤ mLo M) (hst : zsplit n st [] = some (av, rest)) (hw : zcat rest ≤ 8) (hC : zCi M' av mem X P) (kk : ∀ m2, P m2 → AW M nx ls (vi X :: rest) m2 Q) : AW M pc ls st mem Q := zw_callS hM hd hM' hL hR hst hw hC (fun r m2 h => by obtain ⟨rfl, h⟩ := h; exact kk _ h)
theorem zw_Sip  {X : Int} (hM : zOK M) (hd : zlook (mTbl M) pc = some (.invokestatic idx, 3, nx)) (hM' : zOK M') (hL : zLS (mOwn M) idx M' n) (hR : mFr M' + 1 ≤ mFr M ∧ 8 + (mL M' + 11) + mLo M' ≤ mLo M) (hst : zsplit n st [] = some (av, rest)) (hw : zcat rest ≤ 8) (hC : zCip M' av mem X) (kk : AW M nx ls (vi X :: rest) mem Q) : AW M pc ls st mem Q := zw_callS hM hd hM' hL hR hst hw hC (fun r m2 h => by obtain ⟨rfl, rfl⟩ := h; exact kk)
theorem zw_Sbp  {b : Bool} (hM : zOK M) (hd : zlook (mTbl M) pc = some (.invokestatic idx, 3, nx)) (hM' : zOK M') (hL : zLS (mOwn M) idx M' n) (hR : mFr M' + 1 ≤ mFr M ∧ 8 + (mL M' + 11) + mLo M' ≤ mLo M) (hst : zsplit n st [] = some (av, rest)) (hw : zcat rest ≤ 8) (hC : zCbp M' av mem b) (kk : AW M nx ls (vi (bi b) :: rest) mem Q) : AW M pc ls st mem Q := zw_callS hM hd hM' hL hR hst hw hC (fun r m2 h => by obtain ⟨rfl, rfl⟩ := h; exact kk)
theorem zw_Sb  {b : Bool} {P : zMem → Prop} (hM : zOK M) (hd : zlook (mTbl M) pc = some (.invokestatic idx, 3, nx)) (hM' : zOK M') (hL : zLS (mOwn M) idx M' n) (hR : mFr M' + 1 ≤ mFr M ∧ 8 + (mL M' + 11) + mLo M' ≤ mLo M) (hst : zsplit n st [] = some (av, rest)) (hw : zcat rest ≤ 8) (hC : zCb M' av mem b P) (kk : ∀ m2, P m2 → AW M nx ls (vi (bi b) :: rest) m2 Q) : AW M pc ls st mem Q := zw_callS hM hd hM' hL hR hst hw hC (fun r m2 h => by obtain ⟨rfl, h⟩ := h; exact kk _ h)
theorem zw_Sv  {P : zMem → Prop} (hM : zOK M) (hd : zlook (mTbl M) pc = some (.invokestatic idx, 3, nx)) (hM' : zOK M') (hL : zLS (mOwn M) idx M' n) (hR : mFr M' + 1 ≤ mFr M ∧ 8 + (mL M' + 11) + mLo M' ≤ mLo M) (hst : zsplit n st [] = some (av, rest)) (hw : zcat rest ≤ 8) (hC : zCv M' av mem P) (kk : ∀ m2, P m2 → AW M nx ls rest m2 Q) : AW M pc ls st mem Q := zw_callS hM hd hM' hL hR hst hw hC (fun r m2 h => by obtain ⟨rfl, h⟩ := h; exact kk _ h)
theorem zw_Svp  {m3 : zMem} (hM : zOK M) (hd : zlook (mTbl M) pc = some (.invokestatic idx, 3, nx)) (hM' : zOK M') (hL : zLS (mOwn M) idx M' n) (hR : mFr M' + 1 ≤ mFr M ∧ 8 + (mL M' + 11) + mLo M' ≤ mLo M) (hst : zsplit n st [] = some (av, rest)) (hw : zcat rest ≤ 8) (hC : zCvp M' av mem m3) (kk : AW M nx ls rest m3 Q) : AW M pc ls st mem Q := zw_callS hM hd hM' hL hR hst hw hC (fun r m2 h => by obtain ⟨rfl, rfl⟩ := h; exact kk)
theorem zw_Sl  {X : Int} {P : zMem → Prop} (hM : zOK M) (hd : zlook (mTbl M) pc = some (.invokestatic idx, 3, nx)) (hM' : zOK M') (hL : zLS (mOwn M) idx M' n) (hR : mFr M' + 1 ≤ mFr M ∧ 8 + (mL M' + 11) + mLo M' ≤ mLo M) (hst : zsplit n st [] = some (av, rest)) (hw : zcat rest ≤ 8) (hC : zCl M' av mem X P) (kk : ∀ m2, P m2 → AW M nx ls (vl X :: rest) m2 Q) : AW M pc ls st mem Q := zw_callS hM hd hM' hL hR hst hw hC (fun r m2 h => by obtain ⟨rfl, h⟩ := h; exact kk _ h)
theorem zw_Slp  {X : Int} (hM : zOK M) (hd : zlook (mTbl M) pc = some (.invokestatic idx, 3, nx)) (hM' : zOK M') (hL : zLS (mOwn M) idx M' n) (hR : mFr M' + 1 ≤ mFr M ∧ 8 + (mL M' + 11) + mLo M' ≤ mLo M) (hst : zsplit n st [] = some (av, rest)) (hw : zcat rest ≤ 8) (hC : zClp M' av mem X) (kk : AW M nx ls (vl X :: rest) mem Q) : AW M pc ls st mem Q := zw_callS hM hd hM' hL hR hst hw hC (fun r m2 h => by obtain ⟨rfl, rfl⟩ := h; exact kk)
theorem zw_Srp  {k2 : Nat} (hM : zOK M) (hd : zlook (mTbl M) pc = some (.invokestatic idx, 3, nx)) (hM' : zOK M') (hL : zLS (mOwn M) idx M' n) (hR : mFr M' + 1 ≤ mFr M ∧ 8 + (mL M' + 11) + mLo M' ≤ mLo M) (hst : zsplit n st [] = some (av, rest)) (hw : zcat rest ≤ 8) (hC : zCrp M' av mem k2) (kk : AW M nx ls (vr k2 :: rest) mem Q) : AW M pc ls st mem Q := zw_callS hM hd hM' hL hR hst hw hC (fun r m2 h => by obtain ⟨rfl, rfl⟩ := h; exact kk)
theorem zw_Ni  {X : Int} {P : zMem → Prop} (hM : zOK M) (hd : zlook (mTbl M) pc = some (.invokestatic idx, 3, nx)) (hM' : zOK M') (hL : zLN (mOwn M) idx M' n) (hR : mFr M' + 1 ≤ mFr M ∧ 8 + (mL M' + 11) + mLo M' ≤ mLo M) (hst : zsplit n st [] = some (av, rest)) (hw : zcat rest ≤ 8) (hC : zCi M' av mem X P) (kk : ∀ m2, P m2 → AW M nx ls (vi X :: rest) m2 Q) : AW M pc ls st mem Q := zw_callN hM hd hM' hL hR hst hw hC (fun r m2 h => by obtain ⟨rfl, h⟩ := h; exact kk _ h)
theorem zw_Nip  {X : Int} (hM : zOK M) (hd : zlook (mTbl M) pc = some (.invokestatic idx, 3, nx)) (hM' : zOK M') (hL : zLN (mOwn M) idx M' n) (hR : mFr M' + 1 ≤ mFr M ∧ 8 + (mL M' + 11) + mLo M' ≤ mLo M) (hst : zsplit n st [] = some (av, rest)) (hw : zcat rest ≤ 8) (hC : zCip M' av mem X) (kk : AW M nx ls (vi X :: rest) mem Q) : AW M pc ls st mem Q := zw_callN hM hd hM' hL hR hst hw hC (fun r m2 h => by obtain ⟨rfl, rfl⟩ := h; exact kk)
theorem zw_Nbp  {b : Bool} (hM : zOK M) (hd : zlook (mTbl M) pc = some (.invokestatic idx, 3, nx)) (hM' : zOK M') (hL : zLN (mOwn M) idx M' n) (hR : mFr M' + 1 ≤ mFr M ∧ 8 + (mL M' + 11) + mLo M' ≤ mLo M) (hst : zsplit n st [] = some (av, rest)) (hw : zcat rest ≤ 8) (hC : zCbp M' av mem b) (kk : AW M nx ls (vi (bi b) :: rest) mem Q) : AW M pc ls st mem Q := zw_callN hM hd hM' hL hR hst hw hC (fun r m2 h => by obtain ⟨rfl, rfl⟩ := h; exact kk)
theorem zw_Nb  {b : Bool} {P : zMem → Prop} (hM : zOK M) (hd : zlook (mTbl M) pc = some (.invokestatic idx, 3, nx)) (hM' : zOK M') (hL : zLN (mOwn M) idx M' n) (hR : mFr M' + 1 ≤ mFr M ∧ 8 + (mL M' + 11) + mLo M' ≤ mLo M) (hst : zsplit n st [] = some (av, rest)) (hw : zcat rest ≤ 8) (hC : zCb M' av mem b P) (kk : ∀ m2, P m2 → AW M nx ls (vi (bi b) :: rest) m2 Q) : AW M pc ls st mem Q := zw_callN hM hd hM' hL hR hst hw hC (fun r m2 h => by obtain ⟨rfl, h⟩ := h; exact kk _ h)
theorem zw_Nv  {P : zMem → Prop} (hM : zOK M) (hd : zlook (mTbl M) pc = some (.invokestatic idx, 3, nx)) (hM' : zOK M') (hL : zLN (mOwn M) idx M' n) (hR : mFr M' + 1 ≤ mFr M ∧ 8 + (mL M' + 11) + mLo M' ≤ mLo M) (hst : zsplit n st [] = some (av, rest)) (hw : zcat rest ≤ 8) (hC : zCv M' av mem P) (kk : ∀ m2, P m2 → AW M nx ls rest m2 Q) : AW M pc ls st mem Q := zw_callN hM hd hM' hL hR hst hw hC (fun r m2 h => by obtain ⟨rfl, h⟩ := h; exact kk _ h)
theorem zw_Nvp  {m3 : zMem} (hM : zOK M) (hd : zlook (mTbl M) pc = some (.invokestatic idx, 3, nx)) (hM' : zOK M') (hL : zLN (mOwn M) idx M' n) (hR : mFr M' + 1 ≤ mFr M ∧ 8 + (mL M' + 11) + mLo M' ≤ mLo M) (hst : zsplit n st [] = some (av, rest)) (hw : zcat rest ≤ 8) (hC : zCvp M' av mem m3) (kk : AW M nx ls rest m3 Q) : AW M pc ls st mem Q := zw_callN hM hd hM' hL hR hst hw hC (fun r m2 h => by obtain ⟨rfl, rfl⟩ := h; exact kk)
theorem zw_Nl  {X : Int} {P : zMem → Prop} (hM : zOK M) (hd : zlook (mTbl M) pc = some (.invokestatic idx, 3, nx)) (hM' : zOK M') (hL : zLN (mOwn M) idx M' n) (hR : mFr M' + 1 ≤ mFr M ∧ 8 + (mL M' + 11) + mLo M' ≤ mLo M) (hst : zsplit n st [] = some (av, rest)) (hw : zcat rest ≤ 8) (hC : zCl M' av mem X P) (kk : ∀ m2, P m2 → AW M nx ls (vl X :: rest) m2 Q) : AW M pc ls st mem Q := zw_callN hM hd hM' hL hR hst hw hC (fun r m2 h => by obtain ⟨rfl, h⟩ := h; exact kk _ h)
theorem zw_Nlp  {X : Int} (hM : zOK M) (hd : zlook (mTbl M) pc = some (.invokestatic idx, 3, nx)) (hM' : zOK M') (hL : zLN (mOwn M) idx M' n) (hR : mFr M' + 1 ≤ mFr M ∧ 8 + (mL M' + 11) + mLo M' ≤ mLo M) (hst : zsplit n st [] = some (av, rest)) (hw : zcat rest ≤ 8) (hC : zClp M' av mem X) (kk : AW M nx ls (vl X :: rest) mem Q) : AW M pc ls st mem Q := zw_callN hM hd hM' hL hR hst hw hC (fun r m2 h => by obtain ⟨rfl, rfl⟩ := h; exact kk)
theorem zw_Nrp  {k2 : Nat} (hM : zOK M) (hd : zlook (mTbl M) pc = some (.invokestatic idx, 3, nx)) (hM' : zOK M') (hL : zLN (mOwn M) idx M' n) (hR : mFr M' + 1 ≤ mFr M ∧ 8 + (mL M' + 11) + mLo M' ≤ mLo M) (hst : zsplit n st [] = some (av, rest)) (hw : zcat rest ≤ 8) (hC : zCrp M' av mem k2) (kk : AW M nx ls (vr k2 :: rest) mem Q) : AW M pc ls st mem Q := zw_callN hM hd hM' hL hR hst hw hC (fun r m2 h => by obtain ⟨rfl, rfl⟩ := h; exact kk)
theorem zw_Vi {ci k : Nat} {fs : List (Option Nat)} {X : Int} {P : zMem → Prop} (hM : zOK M) (hd : zlook (mTbl M) pc = some (.invokevirtual idx, 3, nx)) (hM' : zOK M') (hL : zLV (mOwn M) idx M' ci n) (hR : mFr M' + 1 ≤ mFr M ∧ 8 + (mL M' + 11) + mLo M' ≤ mLo M) (hst : zsplit n st [] = some (av, vr k :: rest)) (hc : zrow k = (3, ci, fs)) (hw : zcat rest ≤ 8) (hC : zCi M' (vr k :: av) mem X P) (kk : ∀ m2, P m2 → AW M nx ls (vi X :: rest) m2 Q) : AW M pc ls st mem Q := zw_callV hM hd hM' hL hR hst hc hw hC (fun r m2 h => by obtain ⟨rfl, h⟩ := h; exact kk _ h)
theorem zw_Vip {ci k : Nat} {fs : List (Option Nat)} {X : Int} (hM : zOK M) (hd : zlook (mTbl M) pc = some (.invokevirtual idx, 3, nx)) (hM' : zOK M') (hL : zLV (mOwn M) idx M' ci n) (hR : mFr M' + 1 ≤ mFr M ∧ 8 + (mL M' + 11) + mLo M' ≤ mLo M) (hst : zsplit n st [] = some (av, vr k :: rest)) (hc : zrow k = (3, ci, fs)) (hw : zcat rest ≤ 8) (hC : zCip M' (vr k :: av) mem X) (kk : AW M nx ls (vi X :: rest) mem Q) : AW M pc ls st mem Q := zw_callV hM hd hM' hL hR hst hc hw hC (fun r m2 h => by obtain ⟨rfl, rfl⟩ := h; exact kk)
theorem zw_Vbp {ci k : Nat} {fs : List (Option Nat)} {b : Bool} (hM : zOK M) (hd : zlook (mTbl M) pc = some (.invokevirtual idx, 3, nx)) (hM' : zOK M') (hL : zLV (mOwn M) idx M' ci n) (hR : mFr M' + 1 ≤ mFr M ∧ 8 + (mL M' + 11) + mLo M' ≤ mLo M) (hst : zsplit n st [] = some (av, vr k :: rest)) (hc : zrow k = (3, ci, fs)) (hw : zcat rest ≤ 8) (hC : zCbp M' (vr k :: av) mem b) (kk : AW M nx ls (vi (bi b) :: rest) mem Q) : AW M pc ls st mem Q := zw_callV hM hd hM' hL hR hst hc hw hC (fun r m2 h => by obtain ⟨rfl, rfl⟩ := h; exact kk)
theorem zw_Vb {ci k : Nat} {fs : List (Option Nat)} {b : Bool} {P : zMem → Prop} (hM : zOK M) (hd : zlook (mTbl M) pc = some (.invokevirtual idx, 3, nx)) (hM' : zOK M') (hL : zLV (mOwn M) idx M' ci n) (hR : mFr M' + 1 ≤ mFr M ∧ 8 + (mL M' + 11) + mLo M' ≤ mLo M) (hst : zsplit n st [] = some (av, vr k :: rest)) (hc : zrow k = (3, ci, fs)) (hw : zcat rest ≤ 8) (hC : zCb M' (vr k :: av) mem b P) (kk : ∀ m2, P m2 → AW M nx ls (vi (bi b) :: rest) m2 Q) : AW M pc ls st mem Q := zw_callV hM hd hM' hL hR hst hc hw hC (fun r m2 h => by obtain ⟨rfl, h⟩ := h; exact kk _ h)
theorem zw_Vv {ci k : Nat} {fs : List (Option Nat)} {P : zMem → Prop} (hM : zOK M) (hd : zlook (mTbl M) pc = some (.invokevirtual idx, 3, nx)) (hM' : zOK M') (hL : zLV (mOwn M) idx M' ci n) (hR : mFr M' + 1 ≤ mFr M ∧ 8 + (mL M' + 11) + mLo M' ≤ mLo M) (hst : zsplit n st [] = some (av, vr k :: rest)) (hc : zrow k = (3, ci, fs)) (hw : zcat rest ≤ 8) (hC : zCv M' (vr k :: av) mem P) (kk : ∀ m2, P m2 → AW M nx ls rest m2 Q) : AW M pc ls st mem Q := zw_callV hM hd hM' hL hR hst hc hw hC (fun r m2 h => by obtain ⟨rfl, h⟩ := h; exact kk _ h)
theorem zw_Vvp {ci k : Nat} {fs : List (Option Nat)} {m3 : zMem} (hM : zOK M) (hd : zlook (mTbl M) pc = some (.invokevirtual idx, 3, nx)) (hM' : zOK M') (hL : zLV (mOwn M) idx M' ci n) (hR : mFr M' + 1 ≤ mFr M ∧ 8 + (mL M' + 11) + mLo M' ≤ mLo M) (hst : zsplit n st [] = some (av, vr k :: rest)) (hc : zrow k = (3, ci, fs)) (hw : zcat rest ≤ 8) (hC : zCvp M' (vr k :: av) mem m3) (kk : AW M nx ls rest m3 Q) : AW M pc ls st mem Q := zw_callV hM hd hM' hL hR hst hc hw hC (fun r m2 h => by obtain ⟨rfl, rfl⟩ := h; exact kk)
theorem zw_Vl {ci k : Nat} {fs : List (Option Nat)} {X : Int} {P : zMem → Prop} (hM : zOK M) (hd : zlook (mTbl M) pc = some (.invokevirtual idx, 3, nx)) (hM' : zOK M') (hL : zLV (mOwn M) idx M' ci n) (hR : mFr M' + 1 ≤ mFr M ∧ 8 + (mL M' + 11) + mLo M' ≤ mLo M) (hst : zsplit n st [] = some (av, vr k :: rest)) (hc : zrow k = (3, ci, fs)) (hw : zcat rest ≤ 8) (hC : zCl M' (vr k :: av) mem X P) (kk : ∀ m2, P m2 → AW M nx ls (vl X :: rest) m2 Q) : AW M pc ls st mem Q := zw_callV hM hd hM' hL hR hst hc hw hC (fun r m2 h => by obtain ⟨rfl, h⟩ := h; exact kk _ h)
theorem zw_Vlp {ci k : Nat} {fs : List (Option Nat)} {X : Int} (hM : zOK M) (hd : zlook (mTbl M) pc = some (.invokevirtual idx, 3, nx)) (hM' : zOK M') (hL : zLV (mOwn M) idx M' ci n) (hR : mFr M' + 1 ≤ mFr M ∧ 8 + (mL M' + 11) + mLo M' ≤ mLo M) (hst : zsplit n st [] = some (av, vr k :: rest)) (hc : zrow k = (3, ci, fs)) (hw : zcat rest ≤ 8) (hC : zClp M' (vr k :: av) mem X) (kk : AW M nx ls (vl X :: rest) mem Q) : AW M pc ls st mem Q := zw_callV hM hd hM' hL hR hst hc hw hC (fun r m2 h => by obtain ⟨rfl, rfl⟩ := h; exact kk)
theorem zw_Vrp {ci k : Nat} {fs : List (Option Nat)} {k2 : Nat} (hM : zOK M) (hd : zlook (mTbl M) pc = some (.invokevirtual idx, 3, nx)) (hM' : zOK M') (hL : zLV (mOwn M) idx M' ci n) (hR : mFr M' + 1 ≤ mFr M ∧ 8 + (mL M' + 11) + mLo M' ≤ mLo M) (hst : zsplit n st [] = some (av, vr k :: rest)) (hc : zrow k = (3, ci, fs)) (hw : zcat rest ≤ 8) (hC : zCrp M' (vr k :: av) mem k2) (kk : AW M nx ls (vr k2 :: rest) mem Q) : AW M pc ls st mem Q := zw_callV hM hd hM' hL hR hst hc hw hC (fun r m2 h => by obtain ⟨rfl, rfl⟩ := h; exact kk)
end ZCW
end
